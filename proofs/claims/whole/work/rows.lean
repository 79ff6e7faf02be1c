section
-- ===== PART A: goes FIRST, ahead of the names: the tables' words, and 'selects' of the private methods out of them =====
/-- a private method of a class that the tables say can be made, by its rows of tables_1 -/
def lw_okq (q : MethodName × Nat) : Prop := (q.1.cls ≠ "java/lang/invoke/MethodHandle" ∧ q.1.cls ≠ "java/lang/invoke/VarHandle") ∧ Cond.instantiable q.1.cls q.2 ∈ tables_1 ∧ Cond.privateMethod q.1 ∈ tables_1 ∧ Cond.instanceMethod q.1 ∈ tables_1
theorem lw_p0 : lw_okq (⟨"IcePads", "fluidAt", "(I)LIcePads$Fluid;"⟩, 14) := ⟨⟨by decide +kernel, by decide +kernel⟩, List.mem_of_getElem? (i := 9) (by decide +kernel), List.mem_of_getElem? (i := 192) (by decide +kernel), List.mem_of_getElem? (i := 193) (by decide +kernel)⟩
theorem lw_p1 : lw_okq (⟨"IcePads", "holdIn", "(LIcePads$Fluid;I)I"⟩, 14) := ⟨⟨by decide +kernel, by decide +kernel⟩, List.mem_of_getElem? (i := 9) (by decide +kernel), List.mem_of_getElem? (i := 200) (by decide +kernel), List.mem_of_getElem? (i := 201) (by decide +kernel)⟩
theorem lw_p2 : lw_okq (⟨"IcePads$Fluid", "thinHold", "(II)I"⟩, 5) := ⟨⟨by decide +kernel, by decide +kernel⟩, List.mem_of_getElem? (i := 165) (by decide +kernel), List.mem_of_getElem? (i := 208) (by decide +kernel), List.mem_of_getElem? (i := 209) (by decide +kernel)⟩
theorem lw_p3 : lw_okq (⟨"IcePads", "changePads", "(I)I"⟩, 14) := ⟨⟨by decide +kernel, by decide +kernel⟩, List.mem_of_getElem? (i := 9) (by decide +kernel), List.mem_of_getElem? (i := 220) (by decide +kernel), List.mem_of_getElem? (i := 221) (by decide +kernel)⟩
theorem lw_p4 : lw_okq (⟨"IcePads", "jetsIn", "(I)I"⟩, 14) := ⟨⟨by decide +kernel, by decide +kernel⟩, List.mem_of_getElem? (i := 9) (by decide +kernel), List.mem_of_getElem? (i := 224) (by decide +kernel), List.mem_of_getElem? (i := 225) (by decide +kernel)⟩
theorem lw_p5 : lw_okq (⟨"IcePads", "changeLimit", "(I)I"⟩, 14) := ⟨⟨by decide +kernel, by decide +kernel⟩, List.mem_of_getElem? (i := 9) (by decide +kernel), List.mem_of_getElem? (i := 236) (by decide +kernel), List.mem_of_getElem? (i := 237) (by decide +kernel)⟩
theorem lw_p6 : lw_okq (⟨"IcePads", "changeRate", "(I)I"⟩, 14) := ⟨⟨by decide +kernel, by decide +kernel⟩, List.mem_of_getElem? (i := 9) (by decide +kernel), List.mem_of_getElem? (i := 240) (by decide +kernel), List.mem_of_getElem? (i := 241) (by decide +kernel)⟩
theorem lw_p7 : lw_okq (⟨"IcePads", "passMinute", "()V"⟩, 14) := ⟨⟨by decide +kernel, by decide +kernel⟩, List.mem_of_getElem? (i := 9) (by decide +kernel), List.mem_of_getElem? (i := 301) (by decide +kernel), List.mem_of_getElem? (i := 302) (by decide +kernel)⟩
theorem lw_p8 : lw_okq (⟨"IcePads", "endOn", "(I)V"⟩, 14) := ⟨⟨by decide +kernel, by decide +kernel⟩, List.mem_of_getElem? (i := 9) (by decide +kernel), List.mem_of_getElem? (i := 306) (by decide +kernel), List.mem_of_getElem? (i := 307) (by decide +kernel)⟩
theorem lw_p9 : lw_okq (⟨"IcePads", "beginOn", "(I)V"⟩, 14) := ⟨⟨by decide +kernel, by decide +kernel⟩, List.mem_of_getElem? (i := 9) (by decide +kernel), List.mem_of_getElem? (i := 318) (by decide +kernel), List.mem_of_getElem? (i := 319) (by decide +kernel)⟩
theorem lw_p10 : lw_okq (⟨"IcePads", "nextToBegin", "()LIcePads$Jet;"⟩, 14) := ⟨⟨by decide +kernel, by decide +kernel⟩, List.mem_of_getElem? (i := 9) (by decide +kernel), List.mem_of_getElem? (i := 322) (by decide +kernel), List.mem_of_getElem? (i := 323) (by decide +kernel)⟩
theorem lw_p11 : lw_okq (⟨"IcePads", "mayBegin", "(LIcePads$Jet;)Z"⟩, 14) := ⟨⟨by decide +kernel, by decide +kernel⟩, List.mem_of_getElem? (i := 9) (by decide +kernel), List.mem_of_getElem? (i := 326) (by decide +kernel), List.mem_of_getElem? (i := 327) (by decide +kernel)⟩
theorem lw_p12 : lw_okq (⟨"IcePads", "jetAt", "(I)LIcePads$Jet;"⟩, 14) := ⟨⟨by decide +kernel, by decide +kernel⟩, List.mem_of_getElem? (i := 9) (by decide +kernel), List.mem_of_getElem? (i := 346) (by decide +kernel), List.mem_of_getElem? (i := 347) (by decide +kernel)⟩
theorem lw_p13 : lw_okq (⟨"IcePads$Planner", "place", "(III)V"⟩, 6) := ⟨⟨by decide +kernel, by decide +kernel⟩, List.mem_of_getElem? (i := 39) (by decide +kernel), List.mem_of_getElem? (i := 378) (by decide +kernel), List.mem_of_getElem? (i := 379) (by decide +kernel)⟩
theorem lw_p14 : lw_okq (⟨"IcePads$Planner", "keep", "(I)V"⟩, 6) := ⟨⟨by decide +kernel, by decide +kernel⟩, List.mem_of_getElem? (i := 39) (by decide +kernel), List.mem_of_getElem? (i := 382) (by decide +kernel), List.mem_of_getElem? (i := 383) (by decide +kernel)⟩
theorem lw_p15 : lw_okq (⟨"IcePads", "allTurnsBack", "()I"⟩, 14) := ⟨⟨by decide +kernel, by decide +kernel⟩, List.mem_of_getElem? (i := 9) (by decide +kernel), List.mem_of_getElem? (i := 397) (by decide +kernel), List.mem_of_getElem? (i := 398) (by decide +kernel)⟩
def lw_privs_1 : List (MethodName × Nat) := [(⟨"IcePads", "fluidAt", "(I)LIcePads$Fluid;"⟩, 14), (⟨"IcePads", "holdIn", "(LIcePads$Fluid;I)I"⟩, 14), (⟨"IcePads$Fluid", "thinHold", "(II)I"⟩, 5), (⟨"IcePads", "changePads", "(I)I"⟩, 14), (⟨"IcePads", "jetsIn", "(I)I"⟩, 14), (⟨"IcePads", "changeLimit", "(I)I"⟩, 14), (⟨"IcePads", "changeRate", "(I)I"⟩, 14), (⟨"IcePads", "passMinute", "()V"⟩, 14), (⟨"IcePads", "endOn", "(I)V"⟩, 14), (⟨"IcePads", "beginOn", "(I)V"⟩, 14), (⟨"IcePads", "nextToBegin", "()LIcePads$Jet;"⟩, 14), (⟨"IcePads", "mayBegin", "(LIcePads$Jet;)Z"⟩, 14), (⟨"IcePads", "jetAt", "(I)LIcePads$Jet;"⟩, 14), (⟨"IcePads$Planner", "place", "(III)V"⟩, 6), (⟨"IcePads$Planner", "keep", "(I)V"⟩, 6), (⟨"IcePads", "allTurnsBack", "()I"⟩, 14)]
theorem lw_r1 : ∀ q ∈ lw_privs_1, lw_okq q := List.forall_mem_cons.mpr ⟨lw_p0, List.forall_mem_cons.mpr ⟨lw_p1, List.forall_mem_cons.mpr ⟨lw_p2, List.forall_mem_cons.mpr ⟨lw_p3, List.forall_mem_cons.mpr ⟨lw_p4, List.forall_mem_cons.mpr ⟨lw_p5, List.forall_mem_cons.mpr ⟨lw_p6, List.forall_mem_cons.mpr ⟨lw_p7, List.forall_mem_cons.mpr ⟨lw_p8, List.forall_mem_cons.mpr ⟨lw_p9, List.forall_mem_cons.mpr ⟨lw_p10, List.forall_mem_cons.mpr ⟨lw_p11, List.forall_mem_cons.mpr ⟨lw_p12, List.forall_mem_cons.mpr ⟨lw_p13, List.forall_mem_cons.mpr ⟨lw_p14, List.forall_mem_cons.mpr ⟨lw_p15, fun _ h => absurd h List.not_mem_nil⟩⟩⟩⟩⟩⟩⟩⟩⟩⟩⟩⟩⟩⟩⟩⟩
theorem lw_p16 : lw_okq (⟨"IcePads", "allLate", "()I"⟩, 14) := ⟨⟨by decide +kernel, by decide +kernel⟩, List.mem_of_getElem? (i := 9) (by decide +kernel), List.mem_of_getElem? (i := 401) (by decide +kernel), List.mem_of_getElem? (i := 402) (by decide +kernel)⟩
theorem lw_p17 : lw_okq (⟨"IcePadsModel", "coldOf", "(I)I"⟩, 32) := ⟨⟨by decide +kernel, by decide +kernel⟩, List.mem_of_getElem? (i := 409) (by decide +kernel), List.mem_of_getElem? (i := 527) (by decide +kernel), List.mem_of_getElem? (i := 528) (by decide +kernel)⟩
theorem lw_p18 : lw_okq (⟨"IcePadsModel", "fallOf", "(I)I"⟩, 32) := ⟨⟨by decide +kernel, by decide +kernel⟩, List.mem_of_getElem? (i := 409) (by decide +kernel), List.mem_of_getElem? (i := 531) (by decide +kernel), List.mem_of_getElem? (i := 532) (by decide +kernel)⟩
theorem lw_p19 : lw_okq (⟨"IcePadsModel", "isFluid", "(I)Z"⟩, 32) := ⟨⟨by decide +kernel, by decide +kernel⟩, List.mem_of_getElem? (i := 409) (by decide +kernel), List.mem_of_getElem? (i := 543) (by decide +kernel), List.mem_of_getElem? (i := 544) (by decide +kernel)⟩
theorem lw_p20 : lw_okq (⟨"IcePadsModel", "holdOf", "(II)I"⟩, 32) := ⟨⟨by decide +kernel, by decide +kernel⟩, List.mem_of_getElem? (i := 409) (by decide +kernel), List.mem_of_getElem? (i := 549) (by decide +kernel), List.mem_of_getElem? (i := 550) (by decide +kernel)⟩
theorem lw_p21 : lw_okq (⟨"IcePadsModel", "oneMinute", "()V"⟩, 32) := ⟨⟨by decide +kernel, by decide +kernel⟩, List.mem_of_getElem? (i := 409) (by decide +kernel), List.mem_of_getElem? (i := 573) (by decide +kernel), List.mem_of_getElem? (i := 574) (by decide +kernel)⟩
theorem lw_p22 : lw_okq (⟨"IcePadsModel", "leaves", "(I)V"⟩, 32) := ⟨⟨by decide +kernel, by decide +kernel⟩, List.mem_of_getElem? (i := 409) (by decide +kernel), List.mem_of_getElem? (i := 577) (by decide +kernel), List.mem_of_getElem? (i := 578) (by decide +kernel)⟩
theorem lw_p23 : lw_okq (⟨"IcePadsModel", "begins", "(I)V"⟩, 32) := ⟨⟨by decide +kernel, by decide +kernel⟩, List.mem_of_getElem? (i := 409) (by decide +kernel), List.mem_of_getElem? (i := 581) (by decide +kernel), List.mem_of_getElem? (i := 582) (by decide +kernel)⟩
theorem lw_p24 : lw_okq (⟨"IcePadsModel", "mayBegin", "(I)Z"⟩, 32) := ⟨⟨by decide +kernel, by decide +kernel⟩, List.mem_of_getElem? (i := 409) (by decide +kernel), List.mem_of_getElem? (i := 585) (by decide +kernel), List.mem_of_getElem? (i := 586) (by decide +kernel)⟩
theorem lw_p25 : lw_okq (⟨"IcePadsModel", "lateOf", "(I)I"⟩, 32) := ⟨⟨by decide +kernel, by decide +kernel⟩, List.mem_of_getElem? (i := 409) (by decide +kernel), List.mem_of_getElem? (i := 593) (by decide +kernel), List.mem_of_getElem? (i := 594) (by decide +kernel)⟩
theorem lw_p26 : lw_okq (⟨"IcePadsModel", "findPlan", "()I"⟩, 32) := ⟨⟨by decide +kernel, by decide +kernel⟩, List.mem_of_getElem? (i := 409) (by decide +kernel), List.mem_of_getElem? (i := 605) (by decide +kernel), List.mem_of_getElem? (i := 606) (by decide +kernel)⟩
theorem lw_p27 : lw_okq (⟨"IcePadsModel", "take", "(I)V"⟩, 32) := ⟨⟨by decide +kernel, by decide +kernel⟩, List.mem_of_getElem? (i := 409) (by decide +kernel), List.mem_of_getElem? (i := 609) (by decide +kernel), List.mem_of_getElem? (i := 610) (by decide +kernel)⟩
theorem lw_p28 : lw_okq (⟨"IcePadsModel", "lates", "()I"⟩, 32) := ⟨⟨by decide +kernel, by decide +kernel⟩, List.mem_of_getElem? (i := 409) (by decide +kernel), List.mem_of_getElem? (i := 613) (by decide +kernel), List.mem_of_getElem? (i := 614) (by decide +kernel)⟩
theorem lw_p29 : lw_okq (⟨"IcePadsModel", "ofState", "(I)I"⟩, 32) := ⟨⟨by decide +kernel, by decide +kernel⟩, List.mem_of_getElem? (i := 409) (by decide +kernel), List.mem_of_getElem? (i := 621) (by decide +kernel), List.mem_of_getElem? (i := 622) (by decide +kernel)⟩
def lw_privs_2 : List (MethodName × Nat) := [(⟨"IcePads", "allLate", "()I"⟩, 14), (⟨"IcePadsModel", "coldOf", "(I)I"⟩, 32), (⟨"IcePadsModel", "fallOf", "(I)I"⟩, 32), (⟨"IcePadsModel", "isFluid", "(I)Z"⟩, 32), (⟨"IcePadsModel", "holdOf", "(II)I"⟩, 32), (⟨"IcePadsModel", "oneMinute", "()V"⟩, 32), (⟨"IcePadsModel", "leaves", "(I)V"⟩, 32), (⟨"IcePadsModel", "begins", "(I)V"⟩, 32), (⟨"IcePadsModel", "mayBegin", "(I)Z"⟩, 32), (⟨"IcePadsModel", "lateOf", "(I)I"⟩, 32), (⟨"IcePadsModel", "findPlan", "()I"⟩, 32), (⟨"IcePadsModel", "take", "(I)V"⟩, 32), (⟨"IcePadsModel", "lates", "()I"⟩, 32), (⟨"IcePadsModel", "ofState", "(I)I"⟩, 32)]
theorem lw_r2 : ∀ q ∈ lw_privs_2, lw_okq q := List.forall_mem_cons.mpr ⟨lw_p16, List.forall_mem_cons.mpr ⟨lw_p17, List.forall_mem_cons.mpr ⟨lw_p18, List.forall_mem_cons.mpr ⟨lw_p19, List.forall_mem_cons.mpr ⟨lw_p20, List.forall_mem_cons.mpr ⟨lw_p21, List.forall_mem_cons.mpr ⟨lw_p22, List.forall_mem_cons.mpr ⟨lw_p23, List.forall_mem_cons.mpr ⟨lw_p24, List.forall_mem_cons.mpr ⟨lw_p25, List.forall_mem_cons.mpr ⟨lw_p26, List.forall_mem_cons.mpr ⟨lw_p27, List.forall_mem_cons.mpr ⟨lw_p28, List.forall_mem_cons.mpr ⟨lw_p29, fun _ h => absurd h List.not_mem_nil⟩⟩⟩⟩⟩⟩⟩⟩⟩⟩⟩⟩⟩⟩
def lw_privs : List (MethodName × Nat) := lw_privs_1 ++ (lw_privs_2)
def lw_tbl : List Cond := k2_sels lw_privs ++ tables_1
theorem lw_privs_ok : ∀ q ∈ lw_privs, lw_okq q := by
  show ∀ q ∈ lw_privs_1 ++ (lw_privs_2), lw_okq q
  exact List.forall_mem_append.mpr ⟨lw_r1, lw_r2⟩
end
section
/-! ===== BEGIN words of one list among another's, by their places ===== -/
theorem goodIn_r {big : List Cond} (ws : List Cond) (ps : List Nat) (hp : ws = ps.filterMap (fun i => big[i]?)) (h : ws.all goodWord = true) : GoodIn big ws := by
  intro w hw
  have h1 := List.all_eq_true.mp h w hw
  rw [hp] at hw
  obtain ⟨i, -, hi⟩ := List.mem_filterMap.mp hw
  have hm : w ∈ big := by first | exact List.mem_of_getElem? hi | exact List.getElem?_mem hi
  exact ⟨hm, good_of_word h1⟩
theorem goodIn_app {big a b : List Cond} (ha : GoodIn big a) (hb : GoodIn big b) : GoodIn big (a ++ b) := fun w h => (List.mem_append.mp h).elim (ha w) (hb w)
theorem goodIn_ca {big a b : List Cond} {c : Cond} (ha : GoodIn big (c :: a)) (hb : GoodIn big b) : GoodIn big (c :: (a ++ b)) := fun w h => (List.mem_cons.mp h).elim (fun e => ha w (List.mem_cons.mpr (Or.inl e))) (fun h => (List.mem_append.mp h).elim (fun h => ha w (List.mem_cons.mpr (Or.inr h))) (hb w))
theorem goodIn_sub {big ws : List Cond} (hm : ∀ w ∈ ws, w ∈ big) (h : ws.all goodWord = true) : GoodIn big ws := fun w hw => ⟨hm w hw, good_of_word (List.all_eq_true.mp h w hw)⟩
/-! ===== END ===== -/

/-! ===== BEGIN printed: names, fields, word lists, decode rows ===== -/
def RX0 : String := "IcePads$Fluid"
def TX0 : u_T := fun k => match k with
  | 0 => ("IcePads$Fluid", "kind", "I", true)
  | 1 => ("IcePads$Fluid", "spans", "[I", true)
  | 2 => ("IcePads$Fluid", "times", "I", true)
  | 3 => ("IcePads$Fluid", "parts", "I", true)
  | _ => ("IcePads$Fluid", "litresLeft", "I", false)
def tyX0 : Nat → FieldType := fun k => match k with
  | 0 => .int
  | 1 => .array .int
  | 2 => .int
  | 3 => .int
  | _ => .int
abbrev wsX00 : List Cond := u_ws RX0 TX0 5
theorem nmX0 : ∀ a, a < 5 → ∀ b, b < 5 → a ≠ b → (TX0 a).2.1 ≠ (TX0 b).2.1 := by decide +kernel
theorem tyX0_ok : ∀ k, k < 5 → parseFieldDescriptor (TX0 k).2.2.1 = some (tyX0 k) := by decide +kernel
abbrev cX0_init : ByteArray := prog_2_method_1_code
def yX0_init : MethodName := ⟨RX0, "<init>", "(I[IIII)V"⟩
abbrev cX0_holds : ByteArray := prog_2_method_2_code
def yX0_holds : MethodName := ⟨RX0, "holds", "(II)I"⟩
abbrev cX0_traceOfBodies : ByteArray := prog_2_method_3_code
def yX0_traceOfBodies : MethodName := ⟨RX0, "traceOfBodies", "()I"⟩
abbrev cX0_thinHold : ByteArray := prog_2_method_4_code
def yX0_thinHold : MethodName := ⟨RX0, "thinHold", "(II)I"⟩
def RX1 : String := "IcePads$Jet"
def TX1 : u_T := fun k => match k with
  | 0 => ("IcePads$Jet", "number", "I", true)
  | 1 => ("IcePads$Jet", "firstReady", "I", true)
  | 2 => ("IcePads$Jet", "fluid", "LIcePads$Fluid;", true)
  | 3 => ("IcePads$Jet", "size", "I", true)
  | 4 => ("IcePads$Jet", "roll", "I", true)
  | 5 => ("IcePads$Jet", "ready", "I", false)
  | 6 => ("IcePads$Jet", "pad", "I", false)
  | 7 => ("IcePads$Jet", "start", "I", false)
  | 8 => ("IcePads$Jet", "flew", "I", false)
  | 9 => ("IcePads$Jet", "turnsBack", "I", false)
  | _ => ("IcePads$Jet", "holdsTill", "I", false)
def tyX1 : Nat → FieldType := fun k => match k with
  | 0 => .int
  | 1 => .int
  | 2 => .object "IcePads$Fluid"
  | 3 => .int
  | 4 => .int
  | 5 => .int
  | 6 => .int
  | 7 => .int
  | 8 => .int
  | 9 => .int
  | _ => .int
abbrev wsX10 : List Cond := u_ws RX1 TX1 11
theorem nmX1 : ∀ a, a < 11 → ∀ b, b < 11 → a ≠ b → (TX1 a).2.1 ≠ (TX1 b).2.1 := by decide +kernel
theorem tyX1_ok : ∀ k, k < 11 → parseFieldDescriptor (TX1 k).2.2.1 = some (tyX1 k) := by decide +kernel
abbrev cX1_init : ByteArray := prog_3_method_1_code
def yX1_init : MethodName := ⟨RX1, "<init>", "(IIIILIcePads$Fluid;)V"⟩
abbrev cX1_state : ByteArray := prog_3_method_2_code
def yX1_state : MethodName := ⟨RX1, "state", "()I"⟩
abbrev cX1_isGone : ByteArray := prog_3_method_3_code
def yX1_isGone : MethodName := ⟨RX1, "isGone", "()Z"⟩
abbrev cX1_treatment : ByteArray := prog_3_method_4_code
def yX1_treatment : MethodName := ⟨RX1, "treatment", "()I"⟩
abbrev cX1_litresNeeded : ByteArray := prog_3_method_5_code
def yX1_litresNeeded : MethodName := ⟨RX1, "litresNeeded", "()I"⟩
abbrev cX1_drainNeeded : ByteArray := prog_3_method_6_code
def yX1_drainNeeded : MethodName := ⟨RX1, "drainNeeded", "()I"⟩
abbrev cX1_begin : ByteArray := prog_3_method_7_code
def yX1_begin : MethodName := ⟨RX1, "begin", "(III)V"⟩
abbrev cX1_leave : ByteArray := prog_3_method_8_code
def yX1_leave : MethodName := ⟨RX1, "leave", "(I)V"⟩
abbrev cX1_late : ByteArray := prog_3_method_9_code
def yX1_late : MethodName := ⟨RX1, "late", "()I"⟩
def RX2 : String := "IcePads$Planner"
def TX2 : u_T := fun k => match k with
  | 0 => ("IcePads$Planner", "waiting", "[LIcePads$Jet;", true)
  | 1 => ("IcePads$Planner", "placed", "[Z", true)
  | 2 => ("IcePads$Planner", "order", "[I", true)
  | 3 => ("IcePads$Planner", "best", "[I", true)
  | 4 => ("IcePads$Planner", "size", "I", false)
  | _ => ("IcePads$Planner", "least", "I", false)
def tyX2 : Nat → FieldType := fun k => match k with
  | 0 => .array (.object "IcePads$Jet")
  | 1 => .array .boolean
  | 2 => .array .int
  | 3 => .array .int
  | 4 => .int
  | _ => .int
abbrev wsX20 : List Cond := u_ws RX2 TX2 6
theorem nmX2 : ∀ a, a < 6 → ∀ b, b < 6 → a ≠ b → (TX2 a).2.1 ≠ (TX2 b).2.1 := by decide +kernel
theorem tyX2_ok : ∀ k, k < 6 → parseFieldDescriptor (TX2 k).2.2.1 = some (tyX2 k) := by decide +kernel
abbrev cX2_init : ByteArray := prog_4_method_1_code
def yX2_init : MethodName := ⟨RX2, "<init>", "()V"⟩
abbrev cX2_gather : ByteArray := prog_4_method_2_code
def yX2_gather : MethodName := ⟨RX2, "gather", "([LIcePads$Jet;)V"⟩
abbrev cX2_search : ByteArray := prog_4_method_3_code
def yX2_search : MethodName := ⟨RX2, "search", "(I)V"⟩
abbrev cX2_numberAt : ByteArray := prog_4_method_4_code
def yX2_numberAt : MethodName := ⟨RX2, "numberAt", "(I)I"⟩
abbrev cX2_place : ByteArray := prog_4_method_5_code
def yX2_place : MethodName := ⟨RX2, "place", "(III)V"⟩
abbrev cX2_keep : ByteArray := prog_4_method_6_code
def yX2_keep : MethodName := ⟨RX2, "keep", "(I)V"⟩
def RX3 : String := "IcePads$Sky"
def TX3 : u_T := fun k => match k with
  | 0 => ("IcePads$Sky", "cold", "[I", true)
  | 1 => ("IcePads$Sky", "fall", "[I", true)
  | _ => ("IcePads$Sky", "told", "[Z", true)
def tyX3 : Nat → FieldType := fun k => match k with
  | 0 => .array .int
  | 1 => .array .int
  | _ => .array .boolean
abbrev wsX30 : List Cond := u_ws RX3 TX3 3
theorem nmX3 : ∀ a, a < 3 → ∀ b, b < 3 → a ≠ b → (TX3 a).2.1 ≠ (TX3 b).2.1 := by decide +kernel
theorem tyX3_ok : ∀ k, k < 3 → parseFieldDescriptor (TX3 k).2.2.1 = some (tyX3 k) := by decide +kernel
abbrev cX3_init : ByteArray := prog_5_method_1_code
def yX3_init : MethodName := ⟨RX3, "<init>", "()V"⟩
abbrev cX3_isTold : ByteArray := prog_5_method_2_code
def yX3_isTold : MethodName := ⟨RX3, "isTold", "(I)Z"⟩
abbrev cX3_tell : ByteArray := prog_5_method_3_code
def yX3_tell : MethodName := ⟨RX3, "tell", "(III)V"⟩
abbrev cX3_lose : ByteArray := prog_5_method_4_code
def yX3_lose : MethodName := ⟨RX3, "lose", "(I)V"⟩
abbrev cX3_coldIn : ByteArray := prog_5_method_5_code
def yX3_coldIn : MethodName := ⟨RX3, "coldIn", "(I)I"⟩
abbrev cX3_fallIn : ByteArray := prog_5_method_6_code
def yX3_fallIn : MethodName := ⟨RX3, "fallIn", "(I)I"⟩
def RX4 : String := "IcePads"
def TX4 : u_T := fun k => match k with
  | 0 => ("IcePads", "sky", "LIcePads$Sky;", true)
  | 1 => ("IcePads", "fluids", "[LIcePads$Fluid;", true)
  | 2 => ("IcePads", "fluidCount", "I", false)
  | 3 => ("IcePads", "jets", "[LIcePads$Jet;", true)
  | 4 => ("IcePads", "jetCount", "I", false)
  | 5 => ("IcePads", "pads", "[LIcePads$Jet;", true)
  | 6 => ("IcePads", "padCount", "I", false)
  | 7 => ("IcePads", "planner", "LIcePads$Planner;", true)
  | 8 => ("IcePads", "now", "I", false)
  | 9 => ("IcePads", "limit", "I", false)
  | 10 => ("IcePads", "rate", "I", false)
  | 11 => ("IcePads", "drain", "I", false)
  | 12 => ("IcePads", "begun", "I", false)
  | _ => ("IcePads", "traced", "J", false)
def tyX4 : Nat → FieldType := fun k => match k with
  | 0 => .object "IcePads$Sky"
  | 1 => .array (.object "IcePads$Fluid")
  | 2 => .int
  | 3 => .array (.object "IcePads$Jet")
  | 4 => .int
  | 5 => .array (.object "IcePads$Jet")
  | 6 => .int
  | 7 => .object "IcePads$Planner"
  | 8 => .int
  | 9 => .int
  | 10 => .int
  | 11 => .int
  | 12 => .int
  | _ => .long
abbrev wsX40 : List Cond := u_ws RX4 TX4 14
theorem nmX4 : ∀ a, a < 14 → ∀ b, b < 14 → a ≠ b → (TX4 a).2.1 ≠ (TX4 b).2.1 := by decide +kernel
theorem tyX4_ok : ∀ k, k < 14 → parseFieldDescriptor (TX4 k).2.2.1 = some (tyX4 k) := by decide +kernel
abbrev cX4_init : ByteArray := prog_1_method_1_code
def yX4_init : MethodName := ⟨RX4, "<init>", "()V"⟩
abbrev cX4_weather : ByteArray := prog_1_method_2_code
def yX4_weather : MethodName := ⟨RX4, "weather", "(III)I"⟩
abbrev cX4_loses : ByteArray := prog_1_method_3_code
def yX4_loses : MethodName := ⟨RX4, "loses", "(I)I"⟩
abbrev cX4_known : ByteArray := prog_1_method_4_code
def yX4_known : MethodName := ⟨RX4, "known", "(II)I"⟩
abbrev cX4_fluid : ByteArray := prog_1_method_5_code
def yX4_fluid : MethodName := ⟨RX4, "fluid", "(IIIIIIII)I"⟩
abbrev cX4_hold : ByteArray := prog_1_method_6_code
def yX4_hold : MethodName := ⟨RX4, "hold", "(II)I"⟩
abbrev cX4_fill : ByteArray := prog_1_method_7_code
def yX4_fill : MethodName := ⟨RX4, "fill", "(II)I"⟩
abbrev cX4_set : ByteArray := prog_1_method_8_code
def yX4_set : MethodName := ⟨RX4, "set", "(II)I"⟩
abbrev cX4_jet : ByteArray := prog_1_method_9_code
def yX4_jet : MethodName := ⟨RX4, "jet", "(IIII)I"⟩
abbrev cX4_minutes : ByteArray := prog_1_method_10_code
def yX4_minutes : MethodName := ⟨RX4, "minutes", "(I)I"⟩
abbrev cX4_about : ByteArray := prog_1_method_11_code
def yX4_about : MethodName := ⟨RX4, "about", "(II)I"⟩
abbrev cX4_on : ByteArray := prog_1_method_12_code
def yX4_on : MethodName := ⟨RX4, "on", "(I)I"⟩
abbrev cX4_litres : ByteArray := prog_1_method_13_code
def yX4_litres : MethodName := ⟨RX4, "litres", "(I)I"⟩
abbrev cX4_plan : ByteArray := prog_1_method_14_code
def yX4_plan : MethodName := ⟨RX4, "plan", "(II)I"⟩
abbrev cX4_count : ByteArray := prog_1_method_15_code
def yX4_count : MethodName := ⟨RX4, "count", "(I)I"⟩
abbrev cX4_trace : ByteArray := prog_1_method_16_code
def yX4_trace : MethodName := ⟨RX4, "trace", "()J"⟩
abbrev cX4_within : ByteArray := prog_1_method_17_code
def yX4_within : MethodName := ⟨RX4, "within", "(III)Z"⟩
abbrev cX4_isMinute : ByteArray := prog_1_method_18_code
def yX4_isMinute : MethodName := ⟨RX4, "isMinute", "(I)Z"⟩
abbrev cX4_areSpans : ByteArray := prog_1_method_19_code
def yX4_areSpans : MethodName := ⟨RX4, "areSpans", "(IIII)Z"⟩
abbrev cX4_oneIf : ByteArray := prog_1_method_20_code
def yX4_oneIf : MethodName := ⟨RX4, "oneIf", "(Z)I"⟩
abbrev cX4_fluidAt : ByteArray := prog_1_method_21_code
def yX4_fluidAt : MethodName := ⟨RX4, "fluidAt", "(I)LIcePads$Fluid;"⟩
abbrev cX4_jetAt : ByteArray := prog_1_method_22_code
def yX4_jetAt : MethodName := ⟨RX4, "jetAt", "(I)LIcePads$Jet;"⟩
abbrev cX4_holdIn : ByteArray := prog_1_method_23_code
def yX4_holdIn : MethodName := ⟨RX4, "holdIn", "(LIcePads$Fluid;I)I"⟩
abbrev cX4_changePads : ByteArray := prog_1_method_24_code
def yX4_changePads : MethodName := ⟨RX4, "changePads", "(I)I"⟩
abbrev cX4_changeLimit : ByteArray := prog_1_method_25_code
def yX4_changeLimit : MethodName := ⟨RX4, "changeLimit", "(I)I"⟩
abbrev cX4_changeRate : ByteArray := prog_1_method_26_code
def yX4_changeRate : MethodName := ⟨RX4, "changeRate", "(I)I"⟩
abbrev cX4_passMinute : ByteArray := prog_1_method_27_code
def yX4_passMinute : MethodName := ⟨RX4, "passMinute", "()V"⟩
abbrev cX4_endOn : ByteArray := prog_1_method_28_code
def yX4_endOn : MethodName := ⟨RX4, "endOn", "(I)V"⟩
abbrev cX4_beginOn : ByteArray := prog_1_method_29_code
def yX4_beginOn : MethodName := ⟨RX4, "beginOn", "(I)V"⟩
abbrev cX4_nextToBegin : ByteArray := prog_1_method_30_code
def yX4_nextToBegin : MethodName := ⟨RX4, "nextToBegin", "()LIcePads$Jet;"⟩
abbrev cX4_mayBegin : ByteArray := prog_1_method_31_code
def yX4_mayBegin : MethodName := ⟨RX4, "mayBegin", "(LIcePads$Jet;)Z"⟩
abbrev cX4_jetsIn : ByteArray := prog_1_method_32_code
def yX4_jetsIn : MethodName := ⟨RX4, "jetsIn", "(I)I"⟩
abbrev cX4_allTurnsBack : ByteArray := prog_1_method_33_code
def yX4_allTurnsBack : MethodName := ⟨RX4, "allTurnsBack", "()I"⟩
abbrev cX4_allLate : ByteArray := prog_1_method_34_code
def yX4_allLate : MethodName := ⟨RX4, "allLate", "()I"⟩
def RX5 : String := "IcePadsModel"
def TX5 : u_T := fun k => match k with
  | 0 => ("IcePadsModel", "now", "I", false)
  | 1 => ("IcePadsModel", "isTold", "[Z", true)
  | 2 => ("IcePadsModel", "cold", "[I", true)
  | 3 => ("IcePadsModel", "fall", "[I", true)
  | 4 => ("IcePadsModel", "fluids", "I", false)
  | 5 => ("IcePadsModel", "kind", "[I", true)
  | 6 => ("IcePadsModel", "span", "[I", true)
  | 7 => ("IcePadsModel", "times", "[I", true)
  | 8 => ("IcePadsModel", "parts", "[I", true)
  | 9 => ("IcePadsModel", "litres", "[I", true)
  | 10 => ("IcePadsModel", "pads", "I", false)
  | 11 => ("IcePadsModel", "limit", "I", false)
  | 12 => ("IcePadsModel", "rate", "I", false)
  | 13 => ("IcePadsModel", "drain", "I", false)
  | 14 => ("IcePadsModel", "onPad", "[I", true)
  | 15 => ("IcePadsModel", "jets", "I", false)
  | 16 => ("IcePadsModel", "size", "[I", true)
  | 17 => ("IcePadsModel", "first", "[I", true)
  | 18 => ("IcePadsModel", "ready", "[I", true)
  | 19 => ("IcePadsModel", "roll", "[I", true)
  | 20 => ("IcePadsModel", "fluid", "[I", true)
  | 21 => ("IcePadsModel", "state", "[I", true)
  | 22 => ("IcePadsModel", "start", "[I", true)
  | 23 => ("IcePadsModel", "holds", "[I", true)
  | 24 => ("IcePadsModel", "backs", "[I", true)
  | 25 => ("IcePadsModel", "flew", "[I", true)
  | 26 => ("IcePadsModel", "begun", "I", false)
  | 27 => ("IcePadsModel", "trace", "J", false)
  | 28 => ("IcePadsModel", "many", "I", false)
  | 29 => ("IcePadsModel", "waiting", "[I", true)
  | 30 => ("IcePadsModel", "row", "[I", true)
  | _ => ("IcePadsModel", "bestRow", "[I", true)
def tyX5 : Nat → FieldType := fun k => match k with
  | 0 => .int
  | 1 => .array .boolean
  | 2 => .array .int
  | 3 => .array .int
  | 4 => .int
  | 5 => .array .int
  | 6 => .array .int
  | 7 => .array .int
  | 8 => .array .int
  | 9 => .array .int
  | 10 => .int
  | 11 => .int
  | 12 => .int
  | 13 => .int
  | 14 => .array .int
  | 15 => .int
  | 16 => .array .int
  | 17 => .array .int
  | 18 => .array .int
  | 19 => .array .int
  | 20 => .array .int
  | 21 => .array .int
  | 22 => .array .int
  | 23 => .array .int
  | 24 => .array .int
  | 25 => .array .int
  | 26 => .int
  | 27 => .long
  | 28 => .int
  | 29 => .array .int
  | 30 => .array .int
  | _ => .array .int
abbrev wsX50 : List Cond := u_ws RX5 TX5 32
theorem nmX5 : ∀ a, a < 32 → ∀ b, b < 32 → a ≠ b → (TX5 a).2.1 ≠ (TX5 b).2.1 := by decide +kernel
theorem tyX5_ok : ∀ k, k < 32 → parseFieldDescriptor (TX5 k).2.2.1 = some (tyX5 k) := by decide +kernel
abbrev cX5_init : ByteArray := prog_7_method_1_code
def yX5_init : MethodName := ⟨RX5, "<init>", "()V"⟩
abbrev cX5_in : ByteArray := prog_7_method_3_code
def yX5_in : MethodName := ⟨RX5, "in", "(III)Z"⟩
abbrev cX5_weather : ByteArray := prog_7_method_4_code
def yX5_weather : MethodName := ⟨RX5, "weather", "(III)I"⟩
abbrev cX5_loses : ByteArray := prog_7_method_5_code
def yX5_loses : MethodName := ⟨RX5, "loses", "(I)I"⟩
abbrev cX5_coldOf : ByteArray := prog_7_method_6_code
def yX5_coldOf : MethodName := ⟨RX5, "coldOf", "(I)I"⟩
abbrev cX5_fallOf : ByteArray := prog_7_method_7_code
def yX5_fallOf : MethodName := ⟨RX5, "fallOf", "(I)I"⟩
abbrev cX5_known : ByteArray := prog_7_method_8_code
def yX5_known : MethodName := ⟨RX5, "known", "(II)I"⟩
abbrev cX5_fluid : ByteArray := prog_7_method_9_code
def yX5_fluid : MethodName := ⟨RX5, "fluid", "(IIIIIIII)I"⟩
abbrev cX5_holdOf : ByteArray := prog_7_method_10_code
def yX5_holdOf : MethodName := ⟨RX5, "holdOf", "(II)I"⟩
abbrev cX5_isFluid : ByteArray := prog_7_method_11_code
def yX5_isFluid : MethodName := ⟨RX5, "isFluid", "(I)Z"⟩
abbrev cX5_hold : ByteArray := prog_7_method_12_code
def yX5_hold : MethodName := ⟨RX5, "hold", "(II)I"⟩
abbrev cX5_fill : ByteArray := prog_7_method_13_code
def yX5_fill : MethodName := ⟨RX5, "fill", "(II)I"⟩
abbrev cX5_litres : ByteArray := prog_7_method_14_code
def yX5_litres : MethodName := ⟨RX5, "litres", "(I)I"⟩
abbrev cX5_set : ByteArray := prog_7_method_15_code
def yX5_set : MethodName := ⟨RX5, "set", "(II)I"⟩
abbrev cX5_jet : ByteArray := prog_7_method_16_code
def yX5_jet : MethodName := ⟨RX5, "jet", "(IIII)I"⟩
abbrev cX5_leaves : ByteArray := prog_7_method_17_code
def yX5_leaves : MethodName := ⟨RX5, "leaves", "(I)V"⟩
abbrev cX5_mayBegin : ByteArray := prog_7_method_18_code
def yX5_mayBegin : MethodName := ⟨RX5, "mayBegin", "(I)Z"⟩
abbrev cX5_begins : ByteArray := prog_7_method_19_code
def yX5_begins : MethodName := ⟨RX5, "begins", "(I)V"⟩
abbrev cX5_oneMinute : ByteArray := prog_7_method_20_code
def yX5_oneMinute : MethodName := ⟨RX5, "oneMinute", "()V"⟩
abbrev cX5_minutes : ByteArray := prog_7_method_21_code
def yX5_minutes : MethodName := ⟨RX5, "minutes", "(I)I"⟩
abbrev cX5_lateOf : ByteArray := prog_7_method_22_code
def yX5_lateOf : MethodName := ⟨RX5, "lateOf", "(I)I"⟩
abbrev cX5_about : ByteArray := prog_7_method_23_code
def yX5_about : MethodName := ⟨RX5, "about", "(II)I"⟩
abbrev cX5_on : ByteArray := prog_7_method_24_code
def yX5_on : MethodName := ⟨RX5, "on", "(I)I"⟩
abbrev cX5_lates : ByteArray := prog_7_method_25_code
def yX5_lates : MethodName := ⟨RX5, "lates", "()I"⟩
abbrev cX5_take : ByteArray := prog_7_method_26_code
def yX5_take : MethodName := ⟨RX5, "take", "(I)V"⟩
abbrev cX5_findPlan : ByteArray := prog_7_method_27_code
def yX5_findPlan : MethodName := ⟨RX5, "findPlan", "()I"⟩
abbrev cX5_plan : ByteArray := prog_7_method_28_code
def yX5_plan : MethodName := ⟨RX5, "plan", "(II)I"⟩
abbrev cX5_ofState : ByteArray := prog_7_method_29_code
def yX5_ofState : MethodName := ⟨RX5, "ofState", "(I)I"⟩
abbrev cX5_count : ByteArray := prog_7_method_30_code
def yX5_count : MethodName := ⟨RX5, "count", "(I)I"⟩
abbrev cX5_trace : ByteArray := prog_7_method_31_code
def yX5_trace : MethodName := ⟨RX5, "trace", "()J"⟩
def RJ9 : String := "java/lang/Math"
def TJ9 : u_T := fun k => match k with
  | _ => ("", "", "", false)
def tyJ9 : Nat → FieldType := fun k => match k with
  | _ => .int
abbrev wsJ90 : List Cond := u_ws RJ9 TJ9 0
theorem nmJ9 : ∀ a, a < 0 → ∀ b, b < 0 → a ≠ b → (TJ9 a).2.1 ≠ (TJ9 b).2.1 := by decide +kernel
theorem tyJ9_ok : ∀ k, k < 0 → parseFieldDescriptor (TJ9 k).2.2.1 = some (tyJ9 k) := by decide +kernel
abbrev cJ9_max_7cf53 : ByteArray := prog_8_method_65_code
def yJ9_max_7cf53 : MethodName := ⟨RJ9, "max", "(II)I"⟩
abbrev cJ9_min_7cf53 : ByteArray := prog_8_method_69_code
def yJ9_min_7cf53 : MethodName := ⟨RJ9, "min", "(II)I"⟩
def RL : String := "IcePadsLaw"
abbrev cL_law : ByteArray := code
def yL_law : MethodName := ⟨RL, "law", "([I)Z"⟩
def wsX0_init : List Cond := .code yX0_init cX0_init 6 none :: ([.methodLink RX0 1 objectInit, .instanceMethod objectInit, .code objectInit ⟨#[0xb1]⟩ 1 none, .fieldLink RX0 7 "IcePads$Fluid" "kind" "I", .fieldLink RX0 13 "IcePads$Fluid" "spans" "[I", .fieldLink RX0 17 "IcePads$Fluid" "times" "I", .fieldLink RX0 20 "IcePads$Fluid" "parts" "I", .fieldLink RX0 23 "IcePads$Fluid" "litresLeft" "I"] ++ wsX00)
def wsX0_thinHold : List Cond := .code yX0_thinHold cX0_thinHold 3 (some .int) :: ([.fieldLink RX0 13 "IcePads$Fluid" "spans" "[I"] ++ wsX00)
def wsX0_holds : List Cond := .code yX0_holds cX0_holds 5 (some .int) :: ([.fieldLink RX0 7 "IcePads$Fluid" "kind" "I", .fieldLink RX0 17 "IcePads$Fluid" "times" "I", .fieldLink RX0 20 "IcePads$Fluid" "parts" "I", .methodLink RX0 26 yX0_thinHold, .instanceMethod yX0_thinHold, .selects RX0 yX0_thinHold yX0_thinHold, .initialized RX0, .code yX0_thinHold cX0_thinHold 3 (some .int), .fieldLink RX0 13 "IcePads$Fluid" "spans" "[I"] ++ wsX00)
def wsX0_traceOfBodies : List Cond := .code yX0_traceOfBodies cX0_traceOfBodies 1 (some .int) :: ([.fieldLink RX0 7 "IcePads$Fluid" "kind" "I"] ++ wsX00)
def wsX1_init : List Cond := .code yX1_init cX1_init 6 none :: ([.methodLink RX1 3 objectInit, .instanceMethod objectInit, .code objectInit ⟨#[0xb1]⟩ 1 none, .fieldLink RX1 9 "IcePads$Jet" "pad" "I", .fieldLink RX1 15 "IcePads$Jet" "start" "I", .fieldLink RX1 18 "IcePads$Jet" "flew" "I", .fieldLink RX1 21 "IcePads$Jet" "number" "I", .fieldLink RX1 24 "IcePads$Jet" "size" "I", .fieldLink RX1 27 "IcePads$Jet" "firstReady" "I", .fieldLink RX1 30 "IcePads$Jet" "ready" "I", .fieldLink RX1 33 "IcePads$Jet" "roll" "I", .fieldLink RX1 36 "IcePads$Jet" "fluid" "LIcePads$Fluid;"] ++ wsX10)
def wsX1_isGone : List Cond := .code yX1_isGone cX1_isGone 1 (some .boolean) :: ([.fieldLink RX1 18 "IcePads$Jet" "flew" "I"] ++ wsX10)
def wsX1_state : List Cond := .code yX1_state cX1_state 1 (some .int) :: ([.fieldLink RX1 9 "IcePads$Jet" "pad" "I", .methodLink RX1 40 yX1_isGone, .instanceMethod yX1_isGone, .selects RX1 yX1_isGone yX1_isGone, .initialized RX1, .code yX1_isGone cX1_isGone 1 (some .boolean), .fieldLink RX1 18 "IcePads$Jet" "flew" "I"] ++ wsX10)
def wsX1_treatment : List Cond := .code yX1_treatment cX1_treatment 1 (some .int) :: ([.fieldLink RX1 24 "IcePads$Jet" "size" "I"] ++ wsX10)
def wsX1_litresNeeded : List Cond := .code yX1_litresNeeded cX1_litresNeeded 1 (some .int) :: ([.fieldLink RX1 24 "IcePads$Jet" "size" "I"] ++ wsX10)
def wsX1_drainNeeded : List Cond := .code yX1_drainNeeded cX1_drainNeeded 1 (some .int) :: ([.fieldLink RX1 24 "IcePads$Jet" "size" "I"] ++ wsX10)
def wsX1_begin : List Cond := .code yX1_begin cX1_begin 4 none :: ([.fieldLink RX1 9 "IcePads$Jet" "pad" "I", .fieldLink RX1 15 "IcePads$Jet" "start" "I", .fieldLink RX1 44 "IcePads$Jet" "holdsTill" "I"] ++ wsX10)
def wsX1_leave : List Cond := .code yX1_leave cX1_leave 3 none :: ([.fieldLink RX1 33 "IcePads$Jet" "roll" "I", .fieldLink RX1 9 "IcePads$Jet" "pad" "I", .fieldLink RX1 44 "IcePads$Jet" "holdsTill" "I", .fieldLink RX1 18 "IcePads$Jet" "flew" "I", .fieldLink RX1 30 "IcePads$Jet" "ready" "I", .fieldLink RX1 47 "IcePads$Jet" "turnsBack" "I"] ++ wsX10)
def wsX1_late : List Cond := .code yX1_late cX1_late 1 (some .int) :: ([.fieldLink RX1 18 "IcePads$Jet" "flew" "I", .fieldLink RX1 27 "IcePads$Jet" "firstReady" "I", .fieldLink RX1 33 "IcePads$Jet" "roll" "I", .methodLink RX1 50 yX1_treatment, .instanceMethod yX1_treatment, .selects RX1 yX1_treatment yX1_treatment, .initialized RX1, .code yX1_treatment cX1_treatment 1 (some .int), .fieldLink RX1 24 "IcePads$Jet" "size" "I"] ++ wsX10)
def wsX2_init : List Cond := .code yX2_init cX2_init 1 none :: ([.methodLink RX2 3 objectInit, .instanceMethod objectInit, .code objectInit ⟨#[0xb1]⟩ 1 none, .classLink RX2 9 RX1, .fieldLink RX2 11 "IcePads$Planner" "waiting" "[LIcePads$Jet;", .arrayClass .boolean, .fieldLink RX2 17 "IcePads$Planner" "placed" "[Z", .arrayClass .int, .fieldLink RX2 21 "IcePads$Planner" "order" "[I", .fieldLink RX2 25 "IcePads$Planner" "best" "[I"] ++ wsX20)
def wsX2_gather : List Cond := .code yX2_gather cX2_gather 4 none :: ([.fieldLink RX2 28 "IcePads$Planner" "size" "I", .fieldLink RX2 11 "IcePads$Planner" "waiting" "[LIcePads$Jet;", .methodLink RX2 32 yX1_state, .instanceMethod yX1_state, .selects RX1 yX1_state yX1_state, .initialized RX1, .code yX1_state cX1_state 1 (some .int), .fieldLink RX1 9 "IcePads$Jet" "pad" "I", .methodLink RX1 40 yX1_isGone, .instanceMethod yX1_isGone, .selects RX1 yX1_isGone yX1_isGone, .code yX1_isGone cX1_isGone 1 (some .boolean), .fieldLink RX1 18 "IcePads$Jet" "flew" "I"] ++ wsX20 ++ wsX10)
def wsX2_keep : List Cond := .code yX2_keep cX2_keep 3 none :: ([.fieldLink RX2 39 "IcePads$Planner" "least" "I", .fieldLink RX2 28 "IcePads$Planner" "size" "I", .fieldLink RX2 25 "IcePads$Planner" "best" "[I", .fieldLink RX2 21 "IcePads$Planner" "order" "[I"] ++ wsX20)
def wsX2_place_r1 : List Cond := [Cond.fieldLink RX2 39 "IcePads$Planner" "least" "I", Cond.fieldLink RX2 28 "IcePads$Planner" "size" "I", Cond.fieldLink RX2 11 "IcePads$Planner" "waiting" "[LIcePads$Jet;", Cond.fieldLink RX2 17 "IcePads$Planner" "placed" "[Z", Cond.fieldLink RX2 54 "IcePads$Jet" "ready" "I", Cond.methodLink RX2 57 Lib.Math.max.name, Cond.static Lib.Math.max.name, Cond.initialized "java/lang/Math", Cond.code Lib.Math.max.name Lib.Math.max.code 2 (some .int), Cond.fieldLink RX2 21 "IcePads$Planner" "order" "[I", Cond.fieldLink RX2 63 "IcePads$Jet" "number" "I", Cond.fieldLink RX2 69 "IcePads$Jet" "firstReady" "I", Cond.methodLink RX2 50 yX2_keep, Cond.instanceMethod yX2_keep, Cond.selects RX2 yX2_keep yX2_keep, Cond.initialized RX2, Cond.code yX2_keep cX2_keep 3 none, Cond.fieldLink RX2 25 "IcePads$Planner" "best" "[I", Cond.methodLink RX2 66 yX1_treatment, Cond.instanceMethod yX1_treatment, Cond.selects RX1 yX1_treatment yX1_treatment, Cond.initialized RX1, Cond.code yX1_treatment cX1_treatment 1 (some .int), Cond.fieldLink RX1 24 "IcePads$Jet" "size" "I"]
def wsX2_place_r2 : List Cond := [Cond.methodLink RX2 42 yX2_place, Cond.instanceMethod yX2_place, Cond.selects RX2 yX2_place yX2_place]
def wsX2_place : List Cond := .code yX2_place cX2_place 7 none :: ((wsX2_place_r1 ++ wsX2_place_r2) ++ wsX20 ++ wsX10)
def wsX2_search_r1 : List Cond := [Cond.constant RX2 38 (2147483647), Cond.fieldLink RX2 39 "IcePads$Planner" "least" "I", Cond.methodLink RX2 42 yX2_place, Cond.instanceMethod yX2_place, Cond.selects RX2 yX2_place yX2_place, Cond.initialized RX2, Cond.code yX2_place cX2_place 7 none, Cond.fieldLink RX2 28 "IcePads$Planner" "size" "I", Cond.fieldLink RX2 11 "IcePads$Planner" "waiting" "[LIcePads$Jet;", Cond.fieldLink RX2 17 "IcePads$Planner" "placed" "[Z", Cond.fieldLink RX2 54 "IcePads$Jet" "ready" "I", Cond.methodLink RX2 57 Lib.Math.max.name, Cond.static Lib.Math.max.name, Cond.initialized "java/lang/Math", Cond.code Lib.Math.max.name Lib.Math.max.code 2 (some .int), Cond.fieldLink RX2 21 "IcePads$Planner" "order" "[I", Cond.fieldLink RX2 63 "IcePads$Jet" "number" "I", Cond.fieldLink RX2 69 "IcePads$Jet" "firstReady" "I", Cond.methodLink RX2 50 yX2_keep, Cond.instanceMethod yX2_keep, Cond.selects RX2 yX2_keep yX2_keep, Cond.code yX2_keep cX2_keep 3 none, Cond.fieldLink RX2 25 "IcePads$Planner" "best" "[I", Cond.methodLink RX2 66 yX1_treatment]
def wsX2_search_r2 : List Cond := [Cond.instanceMethod yX1_treatment, Cond.selects RX1 yX1_treatment yX1_treatment, Cond.initialized RX1, Cond.code yX1_treatment cX1_treatment 1 (some .int), Cond.fieldLink RX1 24 "IcePads$Jet" "size" "I"]
def wsX2_search : List Cond := .code yX2_search cX2_search 2 none :: ((wsX2_search_r1 ++ wsX2_search_r2) ++ wsX20 ++ wsX10)
def wsX4_within : List Cond := .code yX4_within cX4_within 3 (some .boolean) :: ([])
def wsX2_numberAt : List Cond := .code yX2_numberAt cX2_numberAt 2 (some .int) :: ([.fieldLink RX2 28 "IcePads$Planner" "size" "I", .fieldLink RX2 25 "IcePads$Planner" "best" "[I", .static yX4_within, .initialized RX4, .code yX4_within cX4_within 3 (some .boolean)] ++ wsX20)
def wsX3_init : List Cond := .code yX3_init cX3_init 1 none :: ([.methodLink RX3 3 objectInit, .instanceMethod objectInit, .code objectInit ⟨#[0xb1]⟩ 1 none, .arrayClass .int, .fieldLink RX3 9 "IcePads$Sky" "cold" "[I", .fieldLink RX3 15 "IcePads$Sky" "fall" "[I", .arrayClass .boolean, .fieldLink RX3 18 "IcePads$Sky" "told" "[Z"] ++ wsX30)
def wsX3_isTold : List Cond := .code yX3_isTold cX3_isTold 2 (some .boolean) :: ([.fieldLink RX3 18 "IcePads$Sky" "told" "[Z"] ++ wsX30)
def wsX4_isMinute : List Cond := .code yX4_isMinute cX4_isMinute 1 (some .boolean) :: ([.methodLink RX4 52 yX4_within, .static yX4_within, .initialized RX4, .code yX4_within cX4_within 3 (some .boolean)])
def wsX3_tell : List Cond := .code yX3_tell cX3_tell 4 none :: ([.fieldLink RX3 9 "IcePads$Sky" "cold" "[I", .fieldLink RX3 15 "IcePads$Sky" "fall" "[I", .fieldLink RX3 18 "IcePads$Sky" "told" "[Z", .static yX4_isMinute, .initialized RX4, .code yX4_isMinute cX4_isMinute 1 (some .boolean), .methodLink RX4 52 yX4_within, .static yX4_within, .code yX4_within cX4_within 3 (some .boolean)] ++ wsX30)
def wsX3_lose : List Cond := .code yX3_lose cX3_lose 2 none :: ([.fieldLink RX3 18 "IcePads$Sky" "told" "[Z", .static yX4_isMinute, .initialized RX4, .code yX4_isMinute cX4_isMinute 1 (some .boolean), .methodLink RX4 52 yX4_within, .static yX4_within, .code yX4_within cX4_within 3 (some .boolean)] ++ wsX30)
def wsX3_coldIn : List Cond := .code yX3_coldIn cX3_coldIn 6 (some .int) :: ([.fieldLink RX3 9 "IcePads$Sky" "cold" "[I", .methodLink RX3 29 Lib.Math.min.name, .static Lib.Math.min.name, .initialized "java/lang/Math", .code Lib.Math.min.name Lib.Math.min.code 2 (some .int), .methodLink RX3 26 yX3_isTold, .instanceMethod yX3_isTold, .selects RX3 yX3_isTold yX3_isTold, .initialized RX3, .code yX3_isTold cX3_isTold 2 (some .boolean), .fieldLink RX3 18 "IcePads$Sky" "told" "[Z"] ++ wsX30)
def wsX3_fallIn : List Cond := .code yX3_fallIn cX3_fallIn 5 (some .int) :: ([.fieldLink RX3 15 "IcePads$Sky" "fall" "[I", .methodLink RX3 35 Lib.Math.max.name, .static Lib.Math.max.name, .initialized "java/lang/Math", .code Lib.Math.max.name Lib.Math.max.code 2 (some .int), .methodLink RX3 26 yX3_isTold, .instanceMethod yX3_isTold, .selects RX3 yX3_isTold yX3_isTold, .initialized RX3, .code yX3_isTold cX3_isTold 2 (some .boolean), .fieldLink RX3 18 "IcePads$Sky" "told" "[Z"] ++ wsX30)
def wsX4_init_r1 : List Cond := [Cond.methodLink RX4 1 objectInit, Cond.instanceMethod objectInit, Cond.code objectInit ⟨#[0xb1]⟩ 1 none, Cond.classLink RX4 7 RX3, Cond.instantiable RX3 3, Cond.initialized RX3, Cond.fieldLink RX4 10 "IcePads" "sky" "LIcePads$Sky;", Cond.classLink RX4 16 RX0, Cond.fieldLink RX4 18 "IcePads" "fluids" "[LIcePads$Fluid;", Cond.classLink RX4 22 RX1, Cond.fieldLink RX4 24 "IcePads" "jets" "[LIcePads$Jet;", Cond.fieldLink RX4 28 "IcePads" "pads" "[LIcePads$Jet;", Cond.classLink RX4 31 RX2, Cond.instantiable RX2 6, Cond.initialized RX2, Cond.fieldLink RX4 34 "IcePads" "planner" "LIcePads$Planner;", Cond.fieldLink RX4 38 "IcePads" "padCount" "I", Cond.fieldLink RX4 42 "IcePads" "limit" "I", Cond.fieldLink RX4 45 "IcePads" "rate" "I", Cond.instanceMethod yX3_init, Cond.code yX3_init cX3_init 1 none, Cond.methodLink RX3 3 objectInit, Cond.arrayClass .int, Cond.fieldLink RX3 9 "IcePads$Sky" "cold" "[I"]
def wsX4_init_r2 : List Cond := [Cond.fieldLink RX3 15 "IcePads$Sky" "fall" "[I", Cond.arrayClass .boolean, Cond.fieldLink RX3 18 "IcePads$Sky" "told" "[Z", Cond.instanceMethod yX2_init, Cond.code yX2_init cX2_init 1 none, Cond.methodLink RX2 3 objectInit, Cond.classLink RX2 9 RX1, Cond.fieldLink RX2 11 "IcePads$Planner" "waiting" "[LIcePads$Jet;", Cond.fieldLink RX2 17 "IcePads$Planner" "placed" "[Z", Cond.fieldLink RX2 21 "IcePads$Planner" "order" "[I", Cond.fieldLink RX2 25 "IcePads$Planner" "best" "[I"]
def wsX4_init : List Cond := .code yX4_init cX4_init 1 none :: ((wsX4_init_r1 ++ wsX4_init_r2) ++ wsX30 ++ wsX40 ++ wsX20)
def wsX4_weather : List Cond := .code yX4_weather cX4_weather 4 (some .int) :: ([.fieldLink RX4 56 "IcePads" "now" "I", .fieldLink RX4 10 "IcePads" "sky" "LIcePads$Sky;", .methodLink RX4 48 yX4_isMinute, .static yX4_isMinute, .initialized RX4, .code yX4_isMinute cX4_isMinute 1 (some .boolean), .methodLink RX4 52 yX4_within, .static yX4_within, .code yX4_within cX4_within 3 (some .boolean), .methodLink RX4 59 yX3_tell, .instanceMethod yX3_tell, .selects RX3 yX3_tell yX3_tell, .initialized RX3, .code yX3_tell cX3_tell 4 none, .fieldLink RX3 9 "IcePads$Sky" "cold" "[I", .fieldLink RX3 15 "IcePads$Sky" "fall" "[I", .fieldLink RX3 18 "IcePads$Sky" "told" "[Z"] ++ wsX40 ++ wsX30)
def wsX4_oneIf : List Cond := .code yX4_oneIf cX4_oneIf 1 (some .int) :: ([])
def wsX4_loses : List Cond := .code yX4_loses cX4_loses 3 (some .int) :: ([.fieldLink RX4 56 "IcePads" "now" "I", .fieldLink RX4 10 "IcePads" "sky" "LIcePads$Sky;", .methodLink RX4 48 yX4_isMinute, .static yX4_isMinute, .initialized RX4, .code yX4_isMinute cX4_isMinute 1 (some .boolean), .methodLink RX4 52 yX4_within, .static yX4_within, .code yX4_within cX4_within 3 (some .boolean), .methodLink RX4 63 yX3_isTold, .instanceMethod yX3_isTold, .selects RX3 yX3_isTold yX3_isTold, .initialized RX3, .code yX3_isTold cX3_isTold 2 (some .boolean), .fieldLink RX3 18 "IcePads$Sky" "told" "[Z", .methodLink RX4 66 yX4_oneIf, .static yX4_oneIf, .code yX4_oneIf cX4_oneIf 1 (some .int), .methodLink RX4 70 yX3_lose, .instanceMethod yX3_lose, .selects RX3 yX3_lose yX3_lose, .code yX3_lose cX3_lose 2 none] ++ wsX40 ++ wsX30)
def wsX4_known_r1 : List Cond := [Cond.fieldLink RX4 10 "IcePads" "sky" "LIcePads$Sky;", Cond.methodLink RX4 48 yX4_isMinute, Cond.static yX4_isMinute, Cond.initialized RX4, Cond.code yX4_isMinute cX4_isMinute 1 (some .boolean), Cond.methodLink RX4 52 yX4_within, Cond.static yX4_within, Cond.code yX4_within cX4_within 3 (some .boolean), Cond.methodLink RX4 74 yX3_coldIn, Cond.instanceMethod yX3_coldIn, Cond.selects RX3 yX3_coldIn yX3_coldIn, Cond.initialized RX3, Cond.code yX3_coldIn cX3_coldIn 6 (some .int), Cond.fieldLink RX3 9 "IcePads$Sky" "cold" "[I", Cond.methodLink RX3 29 Lib.Math.min.name, Cond.static Lib.Math.min.name, Cond.initialized "java/lang/Math", Cond.code Lib.Math.min.name Lib.Math.min.code 2 (some .int), Cond.methodLink RX3 26 yX3_isTold, Cond.instanceMethod yX3_isTold, Cond.selects RX3 yX3_isTold yX3_isTold, Cond.code yX3_isTold cX3_isTold 2 (some .boolean), Cond.fieldLink RX3 18 "IcePads$Sky" "told" "[Z", Cond.methodLink RX4 78 yX3_fallIn]
def wsX4_known_r2 : List Cond := [Cond.instanceMethod yX3_fallIn, Cond.selects RX3 yX3_fallIn yX3_fallIn, Cond.code yX3_fallIn cX3_fallIn 5 (some .int), Cond.fieldLink RX3 15 "IcePads$Sky" "fall" "[I", Cond.methodLink RX3 35 Lib.Math.max.name, Cond.static Lib.Math.max.name, Cond.code Lib.Math.max.name Lib.Math.max.code 2 (some .int), Cond.methodLink RX4 63 yX3_isTold, Cond.methodLink RX4 66 yX4_oneIf, Cond.static yX4_oneIf, Cond.code yX4_oneIf cX4_oneIf 1 (some .int)]
def wsX4_known : List Cond := .code yX4_known cX4_known 3 (some .int) :: ((wsX4_known_r1 ++ wsX4_known_r2) ++ wsX40 ++ wsX30)
def wsX4_areSpans : List Cond := .code yX4_areSpans cX4_areSpans 4 (some .boolean) :: ([])
def wsX4_fluid : List Cond := .code yX4_fluid cX4_fluid 11 (some .int) :: ([.fieldLink RX4 85 "IcePads" "fluidCount" "I", .fieldLink RX4 18 "IcePads" "fluids" "[LIcePads$Fluid;", .arrayClass .int, .classLink RX4 16 RX0, .instantiable RX0 5, .initialized RX0, .methodLink RX4 52 yX4_within, .static yX4_within, .initialized RX4, .code yX4_within cX4_within 3 (some .boolean), .methodLink RX4 81 yX4_areSpans, .static yX4_areSpans, .code yX4_areSpans cX4_areSpans 4 (some .boolean), .methodLink RX4 88 yX0_init, .instanceMethod yX0_init, .code yX0_init cX0_init 6 none, .methodLink RX0 1 objectInit, .instanceMethod objectInit, .code objectInit ⟨#[0xb1]⟩ 1 none, .fieldLink RX0 7 "IcePads$Fluid" "kind" "I", .fieldLink RX0 13 "IcePads$Fluid" "spans" "[I", .fieldLink RX0 17 "IcePads$Fluid" "times" "I", .fieldLink RX0 20 "IcePads$Fluid" "parts" "I", .fieldLink RX0 23 "IcePads$Fluid" "litresLeft" "I"] ++ wsX40 ++ wsX00)
def wsX4_fluidAt : List Cond := .code yX4_fluidAt cX4_fluidAt 2 (some (.object "IcePads$Fluid")) :: ([.fieldLink RX4 18 "IcePads" "fluids" "[LIcePads$Fluid;", .methodLink RX4 52 yX4_within, .static yX4_within, .initialized RX4, .code yX4_within cX4_within 3 (some .boolean)] ++ wsX40)
def wsX4_holdIn_r1 : List Cond := [Cond.fieldLink RX4 10 "IcePads" "sky" "LIcePads$Sky;", Cond.methodLink RX4 74 yX3_coldIn, Cond.instanceMethod yX3_coldIn, Cond.selects RX3 yX3_coldIn yX3_coldIn, Cond.initialized RX3, Cond.code yX3_coldIn cX3_coldIn 6 (some .int), Cond.fieldLink RX3 9 "IcePads$Sky" "cold" "[I", Cond.methodLink RX3 29 Lib.Math.min.name, Cond.static Lib.Math.min.name, Cond.initialized "java/lang/Math", Cond.code Lib.Math.min.name Lib.Math.min.code 2 (some .int), Cond.methodLink RX3 26 yX3_isTold, Cond.instanceMethod yX3_isTold, Cond.selects RX3 yX3_isTold yX3_isTold, Cond.code yX3_isTold cX3_isTold 2 (some .boolean), Cond.fieldLink RX3 18 "IcePads$Sky" "told" "[Z", Cond.methodLink RX4 78 yX3_fallIn, Cond.instanceMethod yX3_fallIn, Cond.selects RX3 yX3_fallIn yX3_fallIn, Cond.code yX3_fallIn cX3_fallIn 5 (some .int), Cond.fieldLink RX3 15 "IcePads$Sky" "fall" "[I", Cond.methodLink RX3 35 Lib.Math.max.name, Cond.static Lib.Math.max.name, Cond.code Lib.Math.max.name Lib.Math.max.code 2 (some .int)]
def wsX4_holdIn_r2 : List Cond := [Cond.methodLink RX4 191 yX0_holds, Cond.instanceMethod yX0_holds, Cond.selects RX0 yX0_holds yX0_holds, Cond.initialized RX0, Cond.code yX0_holds cX0_holds 5 (some .int), Cond.fieldLink RX0 7 "IcePads$Fluid" "kind" "I", Cond.fieldLink RX0 17 "IcePads$Fluid" "times" "I", Cond.fieldLink RX0 20 "IcePads$Fluid" "parts" "I", Cond.methodLink RX0 26 yX0_thinHold, Cond.instanceMethod yX0_thinHold, Cond.selects RX0 yX0_thinHold yX0_thinHold, Cond.code yX0_thinHold cX0_thinHold 3 (some .int), Cond.fieldLink RX0 13 "IcePads$Fluid" "spans" "[I"]
def wsX4_holdIn : List Cond := .code yX4_holdIn cX4_holdIn 3 (some .int) :: ((wsX4_holdIn_r1 ++ wsX4_holdIn_r2) ++ wsX40 ++ wsX30 ++ wsX00)
def wsX4_hold_r1 : List Cond := [Cond.fieldLink RX4 95 "IcePads" "traced" "J", Cond.methodLink RX4 91 yX4_fluidAt, Cond.instanceMethod yX4_fluidAt, Cond.selects RX4 yX4_fluidAt yX4_fluidAt, Cond.initialized RX4, Cond.code yX4_fluidAt cX4_fluidAt 2 (some (.object "IcePads$Fluid")), Cond.fieldLink RX4 18 "IcePads" "fluids" "[LIcePads$Fluid;", Cond.methodLink RX4 52 yX4_within, Cond.static yX4_within, Cond.code yX4_within cX4_within 3 (some .boolean), Cond.methodLink RX4 48 yX4_isMinute, Cond.static yX4_isMinute, Cond.code yX4_isMinute cX4_isMinute 1 (some .boolean), Cond.methodLink RX4 99 yX0_traceOfBodies, Cond.instanceMethod yX0_traceOfBodies, Cond.selects RX0 yX0_traceOfBodies yX0_traceOfBodies, Cond.initialized RX0, Cond.code yX0_traceOfBodies cX0_traceOfBodies 1 (some .int), Cond.fieldLink RX0 7 "IcePads$Fluid" "kind" "I", Cond.methodLink RX4 103 yX4_holdIn, Cond.instanceMethod yX4_holdIn, Cond.selects RX4 yX4_holdIn yX4_holdIn, Cond.code yX4_holdIn cX4_holdIn 3 (some .int), Cond.fieldLink RX4 10 "IcePads" "sky" "LIcePads$Sky;"]
def wsX4_hold_r2 : List Cond := [Cond.methodLink RX4 74 yX3_coldIn, Cond.instanceMethod yX3_coldIn, Cond.selects RX3 yX3_coldIn yX3_coldIn, Cond.initialized RX3, Cond.code yX3_coldIn cX3_coldIn 6 (some .int), Cond.fieldLink RX3 9 "IcePads$Sky" "cold" "[I", Cond.methodLink RX3 29 Lib.Math.min.name, Cond.static Lib.Math.min.name, Cond.initialized "java/lang/Math", Cond.code Lib.Math.min.name Lib.Math.min.code 2 (some .int), Cond.methodLink RX3 26 yX3_isTold, Cond.instanceMethod yX3_isTold, Cond.selects RX3 yX3_isTold yX3_isTold, Cond.code yX3_isTold cX3_isTold 2 (some .boolean), Cond.fieldLink RX3 18 "IcePads$Sky" "told" "[Z", Cond.methodLink RX4 78 yX3_fallIn, Cond.instanceMethod yX3_fallIn, Cond.selects RX3 yX3_fallIn yX3_fallIn, Cond.code yX3_fallIn cX3_fallIn 5 (some .int), Cond.fieldLink RX3 15 "IcePads$Sky" "fall" "[I", Cond.methodLink RX3 35 Lib.Math.max.name, Cond.static Lib.Math.max.name, Cond.code Lib.Math.max.name Lib.Math.max.code 2 (some .int), Cond.methodLink RX4 191 yX0_holds]
def wsX4_hold_r3 : List Cond := [Cond.instanceMethod yX0_holds, Cond.selects RX0 yX0_holds yX0_holds, Cond.code yX0_holds cX0_holds 5 (some .int), Cond.fieldLink RX0 17 "IcePads$Fluid" "times" "I", Cond.fieldLink RX0 20 "IcePads$Fluid" "parts" "I", Cond.methodLink RX0 26 yX0_thinHold, Cond.instanceMethod yX0_thinHold, Cond.selects RX0 yX0_thinHold yX0_thinHold, Cond.code yX0_thinHold cX0_thinHold 3 (some .int), Cond.fieldLink RX0 13 "IcePads$Fluid" "spans" "[I"]
def wsX4_hold : List Cond := .code yX4_hold cX4_hold 4 (some .int) :: ((wsX4_hold_r1 ++ (wsX4_hold_r2 ++ wsX4_hold_r3)) ++ wsX40 ++ wsX00 ++ wsX30)
def wsX4_fill : List Cond := .code yX4_fill cX4_fill 5 (some .int) :: ([.fieldLink RX4 107 "IcePads$Fluid" "litresLeft" "I", .methodLink RX4 91 yX4_fluidAt, .instanceMethod yX4_fluidAt, .selects RX4 yX4_fluidAt yX4_fluidAt, .initialized RX4, .code yX4_fluidAt cX4_fluidAt 2 (some (.object "IcePads$Fluid")), .fieldLink RX4 18 "IcePads" "fluids" "[LIcePads$Fluid;", .methodLink RX4 52 yX4_within, .static yX4_within, .code yX4_within cX4_within 3 (some .boolean)] ++ wsX00 ++ wsX40)
def wsX4_jetsIn : List Cond := .code yX4_jetsIn cX4_jetsIn 5 (some .int) :: ([.fieldLink RX4 119 "IcePads" "jetCount" "I", .fieldLink RX4 24 "IcePads" "jets" "[LIcePads$Jet;", .methodLink RX4 132 yX1_state, .instanceMethod yX1_state, .selects RX1 yX1_state yX1_state, .initialized RX1, .code yX1_state cX1_state 1 (some .int), .fieldLink RX1 9 "IcePads$Jet" "pad" "I", .methodLink RX1 40 yX1_isGone, .instanceMethod yX1_isGone, .selects RX1 yX1_isGone yX1_isGone, .code yX1_isGone cX1_isGone 1 (some .boolean), .fieldLink RX1 18 "IcePads$Jet" "flew" "I"] ++ wsX40 ++ wsX10)
def wsX4_changePads : List Cond := .code yX4_changePads cX4_changePads 3 (some .int) :: ([.fieldLink RX4 38 "IcePads" "padCount" "I", .methodLink RX4 52 yX4_within, .static yX4_within, .initialized RX4, .code yX4_within cX4_within 3 (some .boolean), .methodLink RX4 176 yX4_jetsIn, .instanceMethod yX4_jetsIn, .selects RX4 yX4_jetsIn yX4_jetsIn, .code yX4_jetsIn cX4_jetsIn 5 (some .int), .fieldLink RX4 119 "IcePads" "jetCount" "I", .fieldLink RX4 24 "IcePads" "jets" "[LIcePads$Jet;", .methodLink RX4 132 yX1_state, .instanceMethod yX1_state, .selects RX1 yX1_state yX1_state, .initialized RX1, .code yX1_state cX1_state 1 (some .int), .fieldLink RX1 9 "IcePads$Jet" "pad" "I", .methodLink RX1 40 yX1_isGone, .instanceMethod yX1_isGone, .selects RX1 yX1_isGone yX1_isGone, .code yX1_isGone cX1_isGone 1 (some .boolean), .fieldLink RX1 18 "IcePads$Jet" "flew" "I"] ++ wsX40 ++ wsX10)
def wsX4_changeLimit : List Cond := .code yX4_changeLimit cX4_changeLimit 3 (some .int) :: ([.fieldLink RX4 42 "IcePads" "limit" "I", .methodLink RX4 52 yX4_within, .static yX4_within, .initialized RX4, .code yX4_within cX4_within 3 (some .boolean)] ++ wsX40)
def wsX4_changeRate : List Cond := .code yX4_changeRate cX4_changeRate 3 (some .int) :: ([.fieldLink RX4 45 "IcePads" "rate" "I", .methodLink RX4 52 yX4_within, .static yX4_within, .initialized RX4, .code yX4_within cX4_within 3 (some .boolean)] ++ wsX40)
def wsX4_set_r1 : List Cond := [Cond.methodLink RX4 110 yX4_changePads, Cond.instanceMethod yX4_changePads, Cond.selects RX4 yX4_changePads yX4_changePads, Cond.initialized RX4, Cond.code yX4_changePads cX4_changePads 3 (some .int), Cond.fieldLink RX4 38 "IcePads" "padCount" "I", Cond.methodLink RX4 52 yX4_within, Cond.static yX4_within, Cond.code yX4_within cX4_within 3 (some .boolean), Cond.methodLink RX4 176 yX4_jetsIn, Cond.instanceMethod yX4_jetsIn, Cond.selects RX4 yX4_jetsIn yX4_jetsIn, Cond.code yX4_jetsIn cX4_jetsIn 5 (some .int), Cond.fieldLink RX4 119 "IcePads" "jetCount" "I", Cond.fieldLink RX4 24 "IcePads" "jets" "[LIcePads$Jet;", Cond.methodLink RX4 132 yX1_state, Cond.instanceMethod yX1_state, Cond.selects RX1 yX1_state yX1_state, Cond.initialized RX1, Cond.code yX1_state cX1_state 1 (some .int), Cond.fieldLink RX1 9 "IcePads$Jet" "pad" "I", Cond.methodLink RX1 40 yX1_isGone, Cond.instanceMethod yX1_isGone, Cond.selects RX1 yX1_isGone yX1_isGone]
def wsX4_set_r2 : List Cond := [Cond.code yX1_isGone cX1_isGone 1 (some .boolean), Cond.fieldLink RX1 18 "IcePads$Jet" "flew" "I", Cond.methodLink RX4 113 yX4_changeLimit, Cond.instanceMethod yX4_changeLimit, Cond.selects RX4 yX4_changeLimit yX4_changeLimit, Cond.code yX4_changeLimit cX4_changeLimit 3 (some .int), Cond.fieldLink RX4 42 "IcePads" "limit" "I", Cond.methodLink RX4 116 yX4_changeRate, Cond.instanceMethod yX4_changeRate, Cond.selects RX4 yX4_changeRate yX4_changeRate, Cond.code yX4_changeRate cX4_changeRate 3 (some .int), Cond.fieldLink RX4 45 "IcePads" "rate" "I"]
def wsX4_set : List Cond := .code yX4_set cX4_set 3 (some .int) :: ((wsX4_set_r1 ++ wsX4_set_r2) ++ wsX40 ++ wsX10)
def wsX4_jet_r1 : List Cond := [Cond.fieldLink RX4 56 "IcePads" "now" "I", Cond.fieldLink RX4 119 "IcePads" "jetCount" "I", Cond.fieldLink RX4 24 "IcePads" "jets" "[LIcePads$Jet;", Cond.classLink RX4 22 RX1, Cond.instantiable RX1 11, Cond.initialized RX1, Cond.methodLink RX4 91 yX4_fluidAt, Cond.instanceMethod yX4_fluidAt, Cond.selects RX4 yX4_fluidAt yX4_fluidAt, Cond.initialized RX4, Cond.code yX4_fluidAt cX4_fluidAt 2 (some (.object "IcePads$Fluid")), Cond.fieldLink RX4 18 "IcePads" "fluids" "[LIcePads$Fluid;", Cond.methodLink RX4 52 yX4_within, Cond.static yX4_within, Cond.code yX4_within cX4_within 3 (some .boolean), Cond.methodLink RX4 48 yX4_isMinute, Cond.static yX4_isMinute, Cond.code yX4_isMinute cX4_isMinute 1 (some .boolean), Cond.methodLink RX4 122 yX1_init, Cond.instanceMethod yX1_init, Cond.code yX1_init cX1_init 6 none, Cond.methodLink RX1 3 objectInit, Cond.instanceMethod objectInit, Cond.code objectInit ⟨#[0xb1]⟩ 1 none]
def wsX4_jet_r2 : List Cond := [Cond.fieldLink RX1 9 "IcePads$Jet" "pad" "I", Cond.fieldLink RX1 15 "IcePads$Jet" "start" "I", Cond.fieldLink RX1 18 "IcePads$Jet" "flew" "I", Cond.fieldLink RX1 21 "IcePads$Jet" "number" "I", Cond.fieldLink RX1 24 "IcePads$Jet" "size" "I", Cond.fieldLink RX1 27 "IcePads$Jet" "firstReady" "I", Cond.fieldLink RX1 30 "IcePads$Jet" "ready" "I", Cond.fieldLink RX1 33 "IcePads$Jet" "roll" "I", Cond.fieldLink RX1 36 "IcePads$Jet" "fluid" "LIcePads$Fluid;"]
def wsX4_jet : List Cond := .code yX4_jet cX4_jet 7 (some .int) :: ((wsX4_jet_r1 ++ wsX4_jet_r2) ++ wsX40 ++ wsX10)
def wsX4_endOn : List Cond := .code yX4_endOn cX4_endOn 3 none :: ([.fieldLink RX4 28 "IcePads" "pads" "[LIcePads$Jet;", .fieldLink RX4 56 "IcePads" "now" "I", .fieldLink RX4 138 "IcePads$Jet" "start" "I", .methodLink RX4 206 yX1_treatment, .instanceMethod yX1_treatment, .selects RX1 yX1_treatment yX1_treatment, .initialized RX1, .code yX1_treatment cX1_treatment 1 (some .int), .fieldLink RX1 24 "IcePads$Jet" "size" "I", .methodLink RX4 209 yX1_leave, .instanceMethod yX1_leave, .selects RX1 yX1_leave yX1_leave, .code yX1_leave cX1_leave 3 none, .fieldLink RX1 33 "IcePads$Jet" "roll" "I", .fieldLink RX1 9 "IcePads$Jet" "pad" "I", .fieldLink RX1 44 "IcePads$Jet" "holdsTill" "I", .fieldLink RX1 18 "IcePads$Jet" "flew" "I", .fieldLink RX1 30 "IcePads$Jet" "ready" "I", .fieldLink RX1 47 "IcePads$Jet" "turnsBack" "I"] ++ wsX40 ++ wsX10)
def wsX4_mayBegin_r1 : List Cond := [Cond.fieldLink RX4 141 "IcePads$Jet" "ready" "I", Cond.fieldLink RX4 56 "IcePads" "now" "I", Cond.fieldLink RX4 216 "IcePads$Jet" "fluid" "LIcePads$Fluid;", Cond.fieldLink RX4 107 "IcePads$Fluid" "litresLeft" "I", Cond.fieldLink RX4 179 "IcePads" "drain" "I", Cond.fieldLink RX4 42 "IcePads" "limit" "I", Cond.methodLink RX4 132 yX1_state, Cond.instanceMethod yX1_state, Cond.selects RX1 yX1_state yX1_state, Cond.initialized RX1, Cond.code yX1_state cX1_state 1 (some .int), Cond.fieldLink RX1 9 "IcePads$Jet" "pad" "I", Cond.methodLink RX1 40 yX1_isGone, Cond.instanceMethod yX1_isGone, Cond.selects RX1 yX1_isGone yX1_isGone, Cond.code yX1_isGone cX1_isGone 1 (some .boolean), Cond.fieldLink RX1 18 "IcePads$Jet" "flew" "I", Cond.methodLink RX4 220 yX1_litresNeeded, Cond.instanceMethod yX1_litresNeeded, Cond.selects RX1 yX1_litresNeeded yX1_litresNeeded, Cond.code yX1_litresNeeded cX1_litresNeeded 1 (some .int), Cond.fieldLink RX1 24 "IcePads$Jet" "size" "I", Cond.methodLink RX4 223 yX1_drainNeeded, Cond.instanceMethod yX1_drainNeeded]
def wsX4_mayBegin_r2 : List Cond := [Cond.selects RX1 yX1_drainNeeded yX1_drainNeeded, Cond.code yX1_drainNeeded cX1_drainNeeded 1 (some .int)]
def wsX4_mayBegin : List Cond := .code yX4_mayBegin cX4_mayBegin 2 (some .boolean) :: ((wsX4_mayBegin_r1 ++ wsX4_mayBegin_r2) ++ wsX10 ++ wsX40 ++ wsX00)
def wsX4_nextToBegin_r1 : List Cond := [Cond.fieldLink RX4 119 "IcePads" "jetCount" "I", Cond.fieldLink RX4 24 "IcePads" "jets" "[LIcePads$Jet;", Cond.fieldLink RX4 141 "IcePads$Jet" "ready" "I", Cond.methodLink RX4 229 yX4_mayBegin, Cond.instanceMethod yX4_mayBegin, Cond.selects RX4 yX4_mayBegin yX4_mayBegin, Cond.initialized RX4, Cond.code yX4_mayBegin cX4_mayBegin 2 (some .boolean), Cond.fieldLink RX4 56 "IcePads" "now" "I", Cond.fieldLink RX4 216 "IcePads$Jet" "fluid" "LIcePads$Fluid;", Cond.fieldLink RX4 107 "IcePads$Fluid" "litresLeft" "I", Cond.fieldLink RX4 179 "IcePads" "drain" "I", Cond.fieldLink RX4 42 "IcePads" "limit" "I", Cond.methodLink RX4 132 yX1_state, Cond.instanceMethod yX1_state, Cond.selects RX1 yX1_state yX1_state, Cond.initialized RX1, Cond.code yX1_state cX1_state 1 (some .int), Cond.fieldLink RX1 9 "IcePads$Jet" "pad" "I", Cond.methodLink RX1 40 yX1_isGone, Cond.instanceMethod yX1_isGone, Cond.selects RX1 yX1_isGone yX1_isGone, Cond.code yX1_isGone cX1_isGone 1 (some .boolean), Cond.fieldLink RX1 18 "IcePads$Jet" "flew" "I"]
def wsX4_nextToBegin_r2 : List Cond := [Cond.methodLink RX4 220 yX1_litresNeeded, Cond.instanceMethod yX1_litresNeeded, Cond.selects RX1 yX1_litresNeeded yX1_litresNeeded, Cond.code yX1_litresNeeded cX1_litresNeeded 1 (some .int), Cond.fieldLink RX1 24 "IcePads$Jet" "size" "I", Cond.methodLink RX4 223 yX1_drainNeeded, Cond.instanceMethod yX1_drainNeeded, Cond.selects RX1 yX1_drainNeeded yX1_drainNeeded, Cond.code yX1_drainNeeded cX1_drainNeeded 1 (some .int)]
def wsX4_nextToBegin : List Cond := .code yX4_nextToBegin cX4_nextToBegin 4 (some (.object "IcePads$Jet")) :: ((wsX4_nextToBegin_r1 ++ wsX4_nextToBegin_r2) ++ wsX40 ++ wsX10 ++ wsX00)
def wsX4_beginOn_r1 : List Cond := [Cond.fieldLink RX4 28 "IcePads" "pads" "[LIcePads$Jet;", Cond.fieldLink RX4 216 "IcePads$Jet" "fluid" "LIcePads$Fluid;", Cond.fieldLink RX4 107 "IcePads$Fluid" "litresLeft" "I", Cond.fieldLink RX4 179 "IcePads" "drain" "I", Cond.fieldLink RX4 182 "IcePads" "begun" "I", Cond.fieldLink RX4 56 "IcePads" "now" "I", Cond.methodLink RX4 212 yX4_nextToBegin, Cond.instanceMethod yX4_nextToBegin, Cond.selects RX4 yX4_nextToBegin yX4_nextToBegin, Cond.initialized RX4, Cond.code yX4_nextToBegin cX4_nextToBegin 4 (some (.object "IcePads$Jet")), Cond.fieldLink RX4 119 "IcePads" "jetCount" "I", Cond.fieldLink RX4 24 "IcePads" "jets" "[LIcePads$Jet;", Cond.fieldLink RX4 141 "IcePads$Jet" "ready" "I", Cond.methodLink RX4 229 yX4_mayBegin, Cond.instanceMethod yX4_mayBegin, Cond.selects RX4 yX4_mayBegin yX4_mayBegin, Cond.code yX4_mayBegin cX4_mayBegin 2 (some .boolean), Cond.fieldLink RX4 42 "IcePads" "limit" "I", Cond.methodLink RX4 132 yX1_state, Cond.instanceMethod yX1_state, Cond.selects RX1 yX1_state yX1_state, Cond.initialized RX1, Cond.code yX1_state cX1_state 1 (some .int)]
def wsX4_beginOn_r2 : List Cond := [Cond.fieldLink RX1 9 "IcePads$Jet" "pad" "I", Cond.methodLink RX1 40 yX1_isGone, Cond.instanceMethod yX1_isGone, Cond.selects RX1 yX1_isGone yX1_isGone, Cond.code yX1_isGone cX1_isGone 1 (some .boolean), Cond.fieldLink RX1 18 "IcePads$Jet" "flew" "I", Cond.methodLink RX4 220 yX1_litresNeeded, Cond.instanceMethod yX1_litresNeeded, Cond.selects RX1 yX1_litresNeeded yX1_litresNeeded, Cond.code yX1_litresNeeded cX1_litresNeeded 1 (some .int), Cond.fieldLink RX1 24 "IcePads$Jet" "size" "I", Cond.methodLink RX4 223 yX1_drainNeeded, Cond.instanceMethod yX1_drainNeeded, Cond.selects RX1 yX1_drainNeeded yX1_drainNeeded, Cond.code yX1_drainNeeded cX1_drainNeeded 1 (some .int), Cond.methodLink RX4 103 yX4_holdIn, Cond.instanceMethod yX4_holdIn, Cond.selects RX4 yX4_holdIn yX4_holdIn, Cond.code yX4_holdIn cX4_holdIn 3 (some .int), Cond.fieldLink RX4 10 "IcePads" "sky" "LIcePads$Sky;", Cond.methodLink RX4 74 yX3_coldIn, Cond.instanceMethod yX3_coldIn, Cond.selects RX3 yX3_coldIn yX3_coldIn, Cond.initialized RX3]
def wsX4_beginOn_r3 : List Cond := [Cond.code yX3_coldIn cX3_coldIn 6 (some .int), Cond.fieldLink RX3 9 "IcePads$Sky" "cold" "[I", Cond.methodLink RX3 29 Lib.Math.min.name, Cond.static Lib.Math.min.name, Cond.initialized "java/lang/Math", Cond.code Lib.Math.min.name Lib.Math.min.code 2 (some .int), Cond.methodLink RX3 26 yX3_isTold, Cond.instanceMethod yX3_isTold, Cond.selects RX3 yX3_isTold yX3_isTold, Cond.code yX3_isTold cX3_isTold 2 (some .boolean), Cond.fieldLink RX3 18 "IcePads$Sky" "told" "[Z", Cond.methodLink RX4 78 yX3_fallIn, Cond.instanceMethod yX3_fallIn, Cond.selects RX3 yX3_fallIn yX3_fallIn, Cond.code yX3_fallIn cX3_fallIn 5 (some .int), Cond.fieldLink RX3 15 "IcePads$Sky" "fall" "[I", Cond.methodLink RX3 35 Lib.Math.max.name, Cond.static Lib.Math.max.name, Cond.code Lib.Math.max.name Lib.Math.max.code 2 (some .int), Cond.methodLink RX4 191 yX0_holds, Cond.instanceMethod yX0_holds, Cond.selects RX0 yX0_holds yX0_holds, Cond.initialized RX0, Cond.code yX0_holds cX0_holds 5 (some .int)]
def wsX4_beginOn_r4 : List Cond := [Cond.fieldLink RX0 7 "IcePads$Fluid" "kind" "I", Cond.fieldLink RX0 17 "IcePads$Fluid" "times" "I", Cond.fieldLink RX0 20 "IcePads$Fluid" "parts" "I", Cond.methodLink RX0 26 yX0_thinHold, Cond.instanceMethod yX0_thinHold, Cond.selects RX0 yX0_thinHold yX0_thinHold, Cond.code yX0_thinHold cX0_thinHold 3 (some .int), Cond.fieldLink RX0 13 "IcePads$Fluid" "spans" "[I", Cond.methodLink RX4 226 yX1_begin, Cond.instanceMethod yX1_begin, Cond.selects RX1 yX1_begin yX1_begin, Cond.code yX1_begin cX1_begin 4 none, Cond.fieldLink RX1 15 "IcePads$Jet" "start" "I", Cond.fieldLink RX1 44 "IcePads$Jet" "holdsTill" "I"]
def wsX4_beginOn : List Cond := .code yX4_beginOn cX4_beginOn 3 none :: ((wsX4_beginOn_r1 ++ (wsX4_beginOn_r2 ++ (wsX4_beginOn_r3 ++ wsX4_beginOn_r4))) ++ wsX40 ++ wsX10 ++ wsX00 ++ wsX30)
def wsX4_passMinute_r1 : List Cond := [Cond.fieldLink RX4 179 "IcePads" "drain" "I", Cond.fieldLink RX4 45 "IcePads" "rate" "I", Cond.methodLink RX4 195 Lib.Math.max.name, Cond.static Lib.Math.max.name, Cond.initialized "java/lang/Math", Cond.code Lib.Math.max.name Lib.Math.max.code 2 (some .int), Cond.fieldLink RX4 38 "IcePads" "padCount" "I", Cond.fieldLink RX4 56 "IcePads" "now" "I", Cond.methodLink RX4 200 yX4_endOn, Cond.instanceMethod yX4_endOn, Cond.selects RX4 yX4_endOn yX4_endOn, Cond.initialized RX4, Cond.code yX4_endOn cX4_endOn 3 none, Cond.fieldLink RX4 28 "IcePads" "pads" "[LIcePads$Jet;", Cond.fieldLink RX4 138 "IcePads$Jet" "start" "I", Cond.methodLink RX4 206 yX1_treatment, Cond.instanceMethod yX1_treatment, Cond.selects RX1 yX1_treatment yX1_treatment, Cond.initialized RX1, Cond.code yX1_treatment cX1_treatment 1 (some .int), Cond.fieldLink RX1 24 "IcePads$Jet" "size" "I", Cond.methodLink RX4 209 yX1_leave, Cond.instanceMethod yX1_leave, Cond.selects RX1 yX1_leave yX1_leave]
def wsX4_passMinute_r2 : List Cond := [Cond.code yX1_leave cX1_leave 3 none, Cond.fieldLink RX1 33 "IcePads$Jet" "roll" "I", Cond.fieldLink RX1 9 "IcePads$Jet" "pad" "I", Cond.fieldLink RX1 44 "IcePads$Jet" "holdsTill" "I", Cond.fieldLink RX1 18 "IcePads$Jet" "flew" "I", Cond.fieldLink RX1 30 "IcePads$Jet" "ready" "I", Cond.fieldLink RX1 47 "IcePads$Jet" "turnsBack" "I", Cond.methodLink RX4 203 yX4_beginOn, Cond.instanceMethod yX4_beginOn, Cond.selects RX4 yX4_beginOn yX4_beginOn, Cond.code yX4_beginOn cX4_beginOn 3 none, Cond.fieldLink RX4 216 "IcePads$Jet" "fluid" "LIcePads$Fluid;", Cond.fieldLink RX4 107 "IcePads$Fluid" "litresLeft" "I", Cond.fieldLink RX4 182 "IcePads" "begun" "I", Cond.methodLink RX4 212 yX4_nextToBegin, Cond.instanceMethod yX4_nextToBegin, Cond.selects RX4 yX4_nextToBegin yX4_nextToBegin, Cond.code yX4_nextToBegin cX4_nextToBegin 4 (some (.object "IcePads$Jet")), Cond.fieldLink RX4 119 "IcePads" "jetCount" "I", Cond.fieldLink RX4 24 "IcePads" "jets" "[LIcePads$Jet;", Cond.fieldLink RX4 141 "IcePads$Jet" "ready" "I", Cond.methodLink RX4 229 yX4_mayBegin, Cond.instanceMethod yX4_mayBegin, Cond.selects RX4 yX4_mayBegin yX4_mayBegin]
def wsX4_passMinute_r3 : List Cond := [Cond.code yX4_mayBegin cX4_mayBegin 2 (some .boolean), Cond.fieldLink RX4 42 "IcePads" "limit" "I", Cond.methodLink RX4 132 yX1_state, Cond.instanceMethod yX1_state, Cond.selects RX1 yX1_state yX1_state, Cond.code yX1_state cX1_state 1 (some .int), Cond.methodLink RX1 40 yX1_isGone, Cond.instanceMethod yX1_isGone, Cond.selects RX1 yX1_isGone yX1_isGone, Cond.code yX1_isGone cX1_isGone 1 (some .boolean), Cond.methodLink RX4 220 yX1_litresNeeded, Cond.instanceMethod yX1_litresNeeded, Cond.selects RX1 yX1_litresNeeded yX1_litresNeeded, Cond.code yX1_litresNeeded cX1_litresNeeded 1 (some .int), Cond.methodLink RX4 223 yX1_drainNeeded, Cond.instanceMethod yX1_drainNeeded, Cond.selects RX1 yX1_drainNeeded yX1_drainNeeded, Cond.code yX1_drainNeeded cX1_drainNeeded 1 (some .int), Cond.methodLink RX4 103 yX4_holdIn, Cond.instanceMethod yX4_holdIn, Cond.selects RX4 yX4_holdIn yX4_holdIn, Cond.code yX4_holdIn cX4_holdIn 3 (some .int), Cond.fieldLink RX4 10 "IcePads" "sky" "LIcePads$Sky;", Cond.methodLink RX4 74 yX3_coldIn]
def wsX4_passMinute_r4 : List Cond := [Cond.instanceMethod yX3_coldIn, Cond.selects RX3 yX3_coldIn yX3_coldIn, Cond.initialized RX3, Cond.code yX3_coldIn cX3_coldIn 6 (some .int), Cond.fieldLink RX3 9 "IcePads$Sky" "cold" "[I", Cond.methodLink RX3 29 Lib.Math.min.name, Cond.static Lib.Math.min.name, Cond.code Lib.Math.min.name Lib.Math.min.code 2 (some .int), Cond.methodLink RX3 26 yX3_isTold, Cond.instanceMethod yX3_isTold, Cond.selects RX3 yX3_isTold yX3_isTold, Cond.code yX3_isTold cX3_isTold 2 (some .boolean), Cond.fieldLink RX3 18 "IcePads$Sky" "told" "[Z", Cond.methodLink RX4 78 yX3_fallIn, Cond.instanceMethod yX3_fallIn, Cond.selects RX3 yX3_fallIn yX3_fallIn, Cond.code yX3_fallIn cX3_fallIn 5 (some .int), Cond.fieldLink RX3 15 "IcePads$Sky" "fall" "[I", Cond.methodLink RX3 35 Lib.Math.max.name, Cond.methodLink RX4 191 yX0_holds, Cond.instanceMethod yX0_holds, Cond.selects RX0 yX0_holds yX0_holds, Cond.initialized RX0, Cond.code yX0_holds cX0_holds 5 (some .int)]
def wsX4_passMinute_r5 : List Cond := [Cond.fieldLink RX0 7 "IcePads$Fluid" "kind" "I", Cond.fieldLink RX0 17 "IcePads$Fluid" "times" "I", Cond.fieldLink RX0 20 "IcePads$Fluid" "parts" "I", Cond.methodLink RX0 26 yX0_thinHold, Cond.instanceMethod yX0_thinHold, Cond.selects RX0 yX0_thinHold yX0_thinHold, Cond.code yX0_thinHold cX0_thinHold 3 (some .int), Cond.fieldLink RX0 13 "IcePads$Fluid" "spans" "[I", Cond.methodLink RX4 226 yX1_begin, Cond.instanceMethod yX1_begin, Cond.selects RX1 yX1_begin yX1_begin, Cond.code yX1_begin cX1_begin 4 none, Cond.fieldLink RX1 15 "IcePads$Jet" "start" "I"]
def wsX4_passMinute : List Cond := .code yX4_passMinute cX4_passMinute 2 none :: ((wsX4_passMinute_r1 ++ (wsX4_passMinute_r2 ++ (wsX4_passMinute_r3 ++ (wsX4_passMinute_r4 ++ wsX4_passMinute_r5)))) ++ wsX40 ++ wsX10 ++ wsX00 ++ wsX30)
def wsX4_minutes_r1 : List Cond := [Cond.fieldLink RX4 56 "IcePads" "now" "I", Cond.methodLink RX4 52 yX4_within, Cond.static yX4_within, Cond.initialized RX4, Cond.code yX4_within cX4_within 3 (some .boolean), Cond.methodLink RX4 125 yX4_passMinute, Cond.instanceMethod yX4_passMinute, Cond.selects RX4 yX4_passMinute yX4_passMinute, Cond.code yX4_passMinute cX4_passMinute 2 none, Cond.fieldLink RX4 179 "IcePads" "drain" "I", Cond.fieldLink RX4 45 "IcePads" "rate" "I", Cond.methodLink RX4 195 Lib.Math.max.name, Cond.static Lib.Math.max.name, Cond.initialized "java/lang/Math", Cond.code Lib.Math.max.name Lib.Math.max.code 2 (some .int), Cond.fieldLink RX4 38 "IcePads" "padCount" "I", Cond.methodLink RX4 200 yX4_endOn, Cond.instanceMethod yX4_endOn, Cond.selects RX4 yX4_endOn yX4_endOn, Cond.code yX4_endOn cX4_endOn 3 none, Cond.fieldLink RX4 28 "IcePads" "pads" "[LIcePads$Jet;", Cond.fieldLink RX4 138 "IcePads$Jet" "start" "I", Cond.methodLink RX4 206 yX1_treatment, Cond.instanceMethod yX1_treatment]
def wsX4_minutes_r2 : List Cond := [Cond.selects RX1 yX1_treatment yX1_treatment, Cond.initialized RX1, Cond.code yX1_treatment cX1_treatment 1 (some .int), Cond.fieldLink RX1 24 "IcePads$Jet" "size" "I", Cond.methodLink RX4 209 yX1_leave, Cond.instanceMethod yX1_leave, Cond.selects RX1 yX1_leave yX1_leave, Cond.code yX1_leave cX1_leave 3 none, Cond.fieldLink RX1 33 "IcePads$Jet" "roll" "I", Cond.fieldLink RX1 9 "IcePads$Jet" "pad" "I", Cond.fieldLink RX1 44 "IcePads$Jet" "holdsTill" "I", Cond.fieldLink RX1 18 "IcePads$Jet" "flew" "I", Cond.fieldLink RX1 30 "IcePads$Jet" "ready" "I", Cond.fieldLink RX1 47 "IcePads$Jet" "turnsBack" "I", Cond.methodLink RX4 203 yX4_beginOn, Cond.instanceMethod yX4_beginOn, Cond.selects RX4 yX4_beginOn yX4_beginOn, Cond.code yX4_beginOn cX4_beginOn 3 none, Cond.fieldLink RX4 216 "IcePads$Jet" "fluid" "LIcePads$Fluid;", Cond.fieldLink RX4 107 "IcePads$Fluid" "litresLeft" "I", Cond.fieldLink RX4 182 "IcePads" "begun" "I", Cond.methodLink RX4 212 yX4_nextToBegin, Cond.instanceMethod yX4_nextToBegin, Cond.selects RX4 yX4_nextToBegin yX4_nextToBegin]
def wsX4_minutes_r3 : List Cond := [Cond.code yX4_nextToBegin cX4_nextToBegin 4 (some (.object "IcePads$Jet")), Cond.fieldLink RX4 119 "IcePads" "jetCount" "I", Cond.fieldLink RX4 24 "IcePads" "jets" "[LIcePads$Jet;", Cond.fieldLink RX4 141 "IcePads$Jet" "ready" "I", Cond.methodLink RX4 229 yX4_mayBegin, Cond.instanceMethod yX4_mayBegin, Cond.selects RX4 yX4_mayBegin yX4_mayBegin, Cond.code yX4_mayBegin cX4_mayBegin 2 (some .boolean), Cond.fieldLink RX4 42 "IcePads" "limit" "I", Cond.methodLink RX4 132 yX1_state, Cond.instanceMethod yX1_state, Cond.selects RX1 yX1_state yX1_state, Cond.code yX1_state cX1_state 1 (some .int), Cond.methodLink RX1 40 yX1_isGone, Cond.instanceMethod yX1_isGone, Cond.selects RX1 yX1_isGone yX1_isGone, Cond.code yX1_isGone cX1_isGone 1 (some .boolean), Cond.methodLink RX4 220 yX1_litresNeeded, Cond.instanceMethod yX1_litresNeeded, Cond.selects RX1 yX1_litresNeeded yX1_litresNeeded, Cond.code yX1_litresNeeded cX1_litresNeeded 1 (some .int), Cond.methodLink RX4 223 yX1_drainNeeded, Cond.instanceMethod yX1_drainNeeded, Cond.selects RX1 yX1_drainNeeded yX1_drainNeeded]
def wsX4_minutes_r4 : List Cond := [Cond.code yX1_drainNeeded cX1_drainNeeded 1 (some .int), Cond.methodLink RX4 103 yX4_holdIn, Cond.instanceMethod yX4_holdIn, Cond.selects RX4 yX4_holdIn yX4_holdIn, Cond.code yX4_holdIn cX4_holdIn 3 (some .int), Cond.fieldLink RX4 10 "IcePads" "sky" "LIcePads$Sky;", Cond.methodLink RX4 74 yX3_coldIn, Cond.instanceMethod yX3_coldIn, Cond.selects RX3 yX3_coldIn yX3_coldIn, Cond.initialized RX3, Cond.code yX3_coldIn cX3_coldIn 6 (some .int), Cond.fieldLink RX3 9 "IcePads$Sky" "cold" "[I", Cond.methodLink RX3 29 Lib.Math.min.name, Cond.static Lib.Math.min.name, Cond.code Lib.Math.min.name Lib.Math.min.code 2 (some .int), Cond.methodLink RX3 26 yX3_isTold, Cond.instanceMethod yX3_isTold, Cond.selects RX3 yX3_isTold yX3_isTold, Cond.code yX3_isTold cX3_isTold 2 (some .boolean), Cond.fieldLink RX3 18 "IcePads$Sky" "told" "[Z", Cond.methodLink RX4 78 yX3_fallIn, Cond.instanceMethod yX3_fallIn, Cond.selects RX3 yX3_fallIn yX3_fallIn, Cond.code yX3_fallIn cX3_fallIn 5 (some .int)]
def wsX4_minutes_r5 : List Cond := [Cond.fieldLink RX3 15 "IcePads$Sky" "fall" "[I", Cond.methodLink RX3 35 Lib.Math.max.name, Cond.methodLink RX4 191 yX0_holds, Cond.instanceMethod yX0_holds, Cond.selects RX0 yX0_holds yX0_holds, Cond.initialized RX0, Cond.code yX0_holds cX0_holds 5 (some .int), Cond.fieldLink RX0 7 "IcePads$Fluid" "kind" "I", Cond.fieldLink RX0 17 "IcePads$Fluid" "times" "I", Cond.fieldLink RX0 20 "IcePads$Fluid" "parts" "I", Cond.methodLink RX0 26 yX0_thinHold, Cond.instanceMethod yX0_thinHold, Cond.selects RX0 yX0_thinHold yX0_thinHold, Cond.code yX0_thinHold cX0_thinHold 3 (some .int), Cond.fieldLink RX0 13 "IcePads$Fluid" "spans" "[I", Cond.methodLink RX4 226 yX1_begin, Cond.instanceMethod yX1_begin, Cond.selects RX1 yX1_begin yX1_begin, Cond.code yX1_begin cX1_begin 4 none, Cond.fieldLink RX1 15 "IcePads$Jet" "start" "I"]
def wsX4_minutes : List Cond := .code yX4_minutes cX4_minutes 3 (some .int) :: ((wsX4_minutes_r1 ++ (wsX4_minutes_r2 ++ (wsX4_minutes_r3 ++ (wsX4_minutes_r4 ++ wsX4_minutes_r5)))) ++ wsX40 ++ wsX10 ++ wsX00 ++ wsX30)
def wsX4_jetAt : List Cond := .code yX4_jetAt cX4_jetAt 2 (some (.object "IcePads$Jet")) :: ([.fieldLink RX4 24 "IcePads" "jets" "[LIcePads$Jet;", .methodLink RX4 52 yX4_within, .static yX4_within, .initialized RX4, .code yX4_within cX4_within 3 (some .boolean)] ++ wsX40)
def wsX4_about_r1 : List Cond := [Cond.fieldLink RX4 135 "IcePads$Jet" "pad" "I", Cond.fieldLink RX4 138 "IcePads$Jet" "start" "I", Cond.fieldLink RX4 141 "IcePads$Jet" "ready" "I", Cond.fieldLink RX4 144 "IcePads$Jet" "turnsBack" "I", Cond.fieldLink RX4 147 "IcePads$Jet" "flew" "I", Cond.methodLink RX4 128 yX4_jetAt, Cond.instanceMethod yX4_jetAt, Cond.selects RX4 yX4_jetAt yX4_jetAt, Cond.initialized RX4, Cond.code yX4_jetAt cX4_jetAt 2 (some (.object "IcePads$Jet")), Cond.fieldLink RX4 24 "IcePads" "jets" "[LIcePads$Jet;", Cond.methodLink RX4 52 yX4_within, Cond.static yX4_within, Cond.code yX4_within cX4_within 3 (some .boolean), Cond.methodLink RX4 132 yX1_state, Cond.instanceMethod yX1_state, Cond.selects RX1 yX1_state yX1_state, Cond.initialized RX1, Cond.code yX1_state cX1_state 1 (some .int), Cond.fieldLink RX1 9 "IcePads$Jet" "pad" "I", Cond.methodLink RX1 40 yX1_isGone, Cond.instanceMethod yX1_isGone, Cond.selects RX1 yX1_isGone yX1_isGone, Cond.code yX1_isGone cX1_isGone 1 (some .boolean)]
def wsX4_about_r2 : List Cond := [Cond.fieldLink RX1 18 "IcePads$Jet" "flew" "I", Cond.methodLink RX4 150 yX1_isGone, Cond.methodLink RX4 154 yX1_late, Cond.instanceMethod yX1_late, Cond.selects RX1 yX1_late yX1_late, Cond.code yX1_late cX1_late 1 (some .int), Cond.fieldLink RX1 27 "IcePads$Jet" "firstReady" "I", Cond.fieldLink RX1 33 "IcePads$Jet" "roll" "I", Cond.methodLink RX1 50 yX1_treatment, Cond.instanceMethod yX1_treatment, Cond.selects RX1 yX1_treatment yX1_treatment, Cond.code yX1_treatment cX1_treatment 1 (some .int), Cond.fieldLink RX1 24 "IcePads$Jet" "size" "I"]
def wsX4_about : List Cond := .code yX4_about cX4_about 4 (some .int) :: ((wsX4_about_r1 ++ wsX4_about_r2) ++ wsX10 ++ wsX40)
def wsX4_on : List Cond := .code yX4_on cX4_on 3 (some .int) :: ([.fieldLink RX4 38 "IcePads" "padCount" "I", .fieldLink RX4 28 "IcePads" "pads" "[LIcePads$Jet;", .fieldLink RX4 157 "IcePads$Jet" "number" "I", .methodLink RX4 52 yX4_within, .static yX4_within, .initialized RX4, .code yX4_within cX4_within 3 (some .boolean)] ++ wsX40 ++ wsX10)
def wsX4_litres : List Cond := .code yX4_litres cX4_litres 3 (some .int) :: ([.fieldLink RX4 107 "IcePads$Fluid" "litresLeft" "I", .methodLink RX4 91 yX4_fluidAt, .instanceMethod yX4_fluidAt, .selects RX4 yX4_fluidAt yX4_fluidAt, .initialized RX4, .code yX4_fluidAt cX4_fluidAt 2 (some (.object "IcePads$Fluid")), .fieldLink RX4 18 "IcePads" "fluids" "[LIcePads$Fluid;", .methodLink RX4 52 yX4_within, .static yX4_within, .code yX4_within cX4_within 3 (some .boolean)] ++ wsX00 ++ wsX40)
def wsX4_plan_r1 : List Cond := [Cond.fieldLink RX4 34 "IcePads" "planner" "LIcePads$Planner;", Cond.fieldLink RX4 24 "IcePads" "jets" "[LIcePads$Jet;", Cond.fieldLink RX4 164 "IcePads$Planner" "size" "I", Cond.fieldLink RX4 56 "IcePads" "now" "I", Cond.fieldLink RX4 173 "IcePads$Planner" "least" "I", Cond.methodLink RX4 52 yX4_within, Cond.static yX4_within, Cond.initialized RX4, Cond.code yX4_within cX4_within 3 (some .boolean), Cond.methodLink RX4 160 yX2_gather, Cond.instanceMethod yX2_gather, Cond.selects RX2 yX2_gather yX2_gather, Cond.initialized RX2, Cond.code yX2_gather cX2_gather 4 none, Cond.fieldLink RX2 28 "IcePads$Planner" "size" "I", Cond.fieldLink RX2 11 "IcePads$Planner" "waiting" "[LIcePads$Jet;", Cond.methodLink RX2 32 yX1_state, Cond.instanceMethod yX1_state, Cond.selects RX1 yX1_state yX1_state, Cond.initialized RX1, Cond.code yX1_state cX1_state 1 (some .int), Cond.fieldLink RX1 9 "IcePads$Jet" "pad" "I", Cond.methodLink RX1 40 yX1_isGone, Cond.instanceMethod yX1_isGone]
def wsX4_plan_r2 : List Cond := [Cond.selects RX1 yX1_isGone yX1_isGone, Cond.code yX1_isGone cX1_isGone 1 (some .boolean), Cond.fieldLink RX1 18 "IcePads$Jet" "flew" "I", Cond.methodLink RX4 167 yX2_search, Cond.instanceMethod yX2_search, Cond.selects RX2 yX2_search yX2_search, Cond.code yX2_search cX2_search 2 none, Cond.constant RX2 38 (2147483647), Cond.fieldLink RX2 39 "IcePads$Planner" "least" "I", Cond.methodLink RX2 42 yX2_place, Cond.instanceMethod yX2_place, Cond.selects RX2 yX2_place yX2_place, Cond.code yX2_place cX2_place 7 none, Cond.fieldLink RX2 17 "IcePads$Planner" "placed" "[Z", Cond.fieldLink RX2 54 "IcePads$Jet" "ready" "I", Cond.methodLink RX2 57 Lib.Math.max.name, Cond.static Lib.Math.max.name, Cond.initialized "java/lang/Math", Cond.code Lib.Math.max.name Lib.Math.max.code 2 (some .int), Cond.fieldLink RX2 21 "IcePads$Planner" "order" "[I", Cond.fieldLink RX2 63 "IcePads$Jet" "number" "I", Cond.fieldLink RX2 69 "IcePads$Jet" "firstReady" "I", Cond.methodLink RX2 50 yX2_keep, Cond.instanceMethod yX2_keep]
def wsX4_plan_r3 : List Cond := [Cond.selects RX2 yX2_keep yX2_keep, Cond.code yX2_keep cX2_keep 3 none, Cond.fieldLink RX2 25 "IcePads$Planner" "best" "[I", Cond.methodLink RX2 66 yX1_treatment, Cond.instanceMethod yX1_treatment, Cond.selects RX1 yX1_treatment yX1_treatment, Cond.code yX1_treatment cX1_treatment 1 (some .int), Cond.fieldLink RX1 24 "IcePads$Jet" "size" "I", Cond.methodLink RX4 170 yX2_numberAt, Cond.instanceMethod yX2_numberAt, Cond.selects RX2 yX2_numberAt yX2_numberAt, Cond.code yX2_numberAt cX2_numberAt 2 (some .int)]
def wsX4_plan : List Cond := .code yX4_plan cX4_plan 3 (some .int) :: ((wsX4_plan_r1 ++ (wsX4_plan_r2 ++ wsX4_plan_r3)) ++ wsX40 ++ wsX20 ++ wsX10)
def wsX4_allTurnsBack : List Cond := .code yX4_allTurnsBack cX4_allTurnsBack 4 (some .int) :: ([.fieldLink RX4 119 "IcePads" "jetCount" "I", .fieldLink RX4 24 "IcePads" "jets" "[LIcePads$Jet;", .fieldLink RX4 144 "IcePads$Jet" "turnsBack" "I"] ++ wsX40 ++ wsX10)
def wsX4_allLate : List Cond := .code yX4_allLate cX4_allLate 4 (some .int) :: ([.fieldLink RX4 119 "IcePads" "jetCount" "I", .fieldLink RX4 24 "IcePads" "jets" "[LIcePads$Jet;", .methodLink RX4 150 yX1_isGone, .instanceMethod yX1_isGone, .selects RX1 yX1_isGone yX1_isGone, .initialized RX1, .code yX1_isGone cX1_isGone 1 (some .boolean), .fieldLink RX1 18 "IcePads$Jet" "flew" "I", .methodLink RX4 154 yX1_late, .instanceMethod yX1_late, .selects RX1 yX1_late yX1_late, .code yX1_late cX1_late 1 (some .int), .fieldLink RX1 27 "IcePads$Jet" "firstReady" "I", .fieldLink RX1 33 "IcePads$Jet" "roll" "I", .methodLink RX1 50 yX1_treatment, .instanceMethod yX1_treatment, .selects RX1 yX1_treatment yX1_treatment, .code yX1_treatment cX1_treatment 1 (some .int), .fieldLink RX1 24 "IcePads$Jet" "size" "I"] ++ wsX40 ++ wsX10)
def wsX4_count_r1 : List Cond := [Cond.fieldLink RX4 56 "IcePads" "now" "I", Cond.fieldLink RX4 85 "IcePads" "fluidCount" "I", Cond.fieldLink RX4 38 "IcePads" "padCount" "I", Cond.fieldLink RX4 119 "IcePads" "jetCount" "I", Cond.fieldLink RX4 179 "IcePads" "drain" "I", Cond.fieldLink RX4 182 "IcePads" "begun" "I", Cond.methodLink RX4 176 yX4_jetsIn, Cond.instanceMethod yX4_jetsIn, Cond.selects RX4 yX4_jetsIn yX4_jetsIn, Cond.initialized RX4, Cond.code yX4_jetsIn cX4_jetsIn 5 (some .int), Cond.fieldLink RX4 24 "IcePads" "jets" "[LIcePads$Jet;", Cond.methodLink RX4 132 yX1_state, Cond.instanceMethod yX1_state, Cond.selects RX1 yX1_state yX1_state, Cond.initialized RX1, Cond.code yX1_state cX1_state 1 (some .int), Cond.fieldLink RX1 9 "IcePads$Jet" "pad" "I", Cond.methodLink RX1 40 yX1_isGone, Cond.instanceMethod yX1_isGone, Cond.selects RX1 yX1_isGone yX1_isGone, Cond.code yX1_isGone cX1_isGone 1 (some .boolean), Cond.fieldLink RX1 18 "IcePads$Jet" "flew" "I", Cond.methodLink RX4 185 yX4_allTurnsBack]
def wsX4_count_r2 : List Cond := [Cond.instanceMethod yX4_allTurnsBack, Cond.selects RX4 yX4_allTurnsBack yX4_allTurnsBack, Cond.code yX4_allTurnsBack cX4_allTurnsBack 4 (some .int), Cond.fieldLink RX4 144 "IcePads$Jet" "turnsBack" "I", Cond.methodLink RX4 188 yX4_allLate, Cond.instanceMethod yX4_allLate, Cond.selects RX4 yX4_allLate yX4_allLate, Cond.code yX4_allLate cX4_allLate 4 (some .int), Cond.methodLink RX4 150 yX1_isGone, Cond.methodLink RX4 154 yX1_late, Cond.instanceMethod yX1_late, Cond.selects RX1 yX1_late yX1_late, Cond.code yX1_late cX1_late 1 (some .int), Cond.fieldLink RX1 27 "IcePads$Jet" "firstReady" "I", Cond.fieldLink RX1 33 "IcePads$Jet" "roll" "I", Cond.methodLink RX1 50 yX1_treatment, Cond.instanceMethod yX1_treatment, Cond.selects RX1 yX1_treatment yX1_treatment, Cond.code yX1_treatment cX1_treatment 1 (some .int), Cond.fieldLink RX1 24 "IcePads$Jet" "size" "I"]
def wsX4_count : List Cond := .code yX4_count cX4_count 2 (some .int) :: ((wsX4_count_r1 ++ wsX4_count_r2) ++ wsX40 ++ wsX10)
def wsX4_trace : List Cond := .code yX4_trace cX4_trace 1 (some .long) :: ([.fieldLink RX4 95 "IcePads" "traced" "J"] ++ wsX40)
def wsX5_init_r1 : List Cond := [Cond.methodLink RX5 1 objectInit, Cond.instanceMethod objectInit, Cond.code objectInit ⟨#[0xb1]⟩ 1 none, Cond.arrayClass .boolean, Cond.fieldLink RX5 7 "IcePadsModel" "isTold" "[Z", Cond.arrayClass .int, Cond.fieldLink RX5 13 "IcePadsModel" "cold" "[I", Cond.fieldLink RX5 17 "IcePadsModel" "fall" "[I", Cond.fieldLink RX5 20 "IcePadsModel" "kind" "[I", Cond.fieldLink RX5 23 "IcePadsModel" "span" "[I", Cond.fieldLink RX5 26 "IcePadsModel" "times" "[I", Cond.fieldLink RX5 29 "IcePadsModel" "parts" "[I", Cond.fieldLink RX5 32 "IcePadsModel" "litres" "[I", Cond.fieldLink RX5 35 "IcePadsModel" "pads" "I", Cond.fieldLink RX5 39 "IcePadsModel" "limit" "I", Cond.fieldLink RX5 42 "IcePadsModel" "rate" "I", Cond.fieldLink RX5 45 "IcePadsModel" "onPad" "[I", Cond.fieldLink RX5 48 "IcePadsModel" "size" "[I", Cond.fieldLink RX5 51 "IcePadsModel" "first" "[I", Cond.fieldLink RX5 54 "IcePadsModel" "ready" "[I", Cond.fieldLink RX5 57 "IcePadsModel" "roll" "[I", Cond.fieldLink RX5 60 "IcePadsModel" "fluid" "[I", Cond.fieldLink RX5 63 "IcePadsModel" "state" "[I", Cond.fieldLink RX5 66 "IcePadsModel" "start" "[I"]
def wsX5_init_r2 : List Cond := [Cond.fieldLink RX5 69 "IcePadsModel" "holds" "[I", Cond.fieldLink RX5 72 "IcePadsModel" "backs" "[I", Cond.fieldLink RX5 75 "IcePadsModel" "flew" "[I", Cond.fieldLink RX5 78 "IcePadsModel" "waiting" "[I", Cond.fieldLink RX5 81 "IcePadsModel" "row" "[I", Cond.fieldLink RX5 84 "IcePadsModel" "bestRow" "[I", Cond.fieldLink RX5 87 "IcePadsModel" "now" "I"]
def wsX5_init : List Cond := .code yX5_init cX5_init 1 none :: ((wsX5_init_r1 ++ wsX5_init_r2) ++ wsX50)
def wsX5_in : List Cond := .code yX5_in cX5_in 3 (some .boolean) :: ([])
def wsX5_weather : List Cond := .code yX5_weather cX5_weather 4 (some .int) :: ([.fieldLink RX5 87 "IcePadsModel" "now" "I", .fieldLink RX5 7 "IcePadsModel" "isTold" "[Z", .fieldLink RX5 13 "IcePadsModel" "cold" "[I", .fieldLink RX5 17 "IcePadsModel" "fall" "[I", .methodLink RX5 90 yX5_in, .static yX5_in, .initialized RX5, .code yX5_in cX5_in 3 (some .boolean)] ++ wsX50)
def wsX5_loses : List Cond := .code yX5_loses cX5_loses 3 (some .int) :: ([.fieldLink RX5 87 "IcePadsModel" "now" "I", .fieldLink RX5 7 "IcePadsModel" "isTold" "[Z", .methodLink RX5 90 yX5_in, .static yX5_in, .initialized RX5, .code yX5_in cX5_in 3 (some .boolean)] ++ wsX50)
def wsX5_coldOf : List Cond := .code yX5_coldOf cX5_coldOf 4 (some .int) :: ([.fieldLink RX5 7 "IcePadsModel" "isTold" "[Z", .fieldLink RX5 13 "IcePadsModel" "cold" "[I"] ++ wsX50)
def wsX5_fallOf : List Cond := .code yX5_fallOf cX5_fallOf 4 (some .int) :: ([.fieldLink RX5 7 "IcePadsModel" "isTold" "[Z", .fieldLink RX5 17 "IcePadsModel" "fall" "[I"] ++ wsX50)
def wsX5_known : List Cond := .code yX5_known cX5_known 3 (some .int) :: ([.fieldLink RX5 7 "IcePadsModel" "isTold" "[Z", .methodLink RX5 90 yX5_in, .static yX5_in, .initialized RX5, .code yX5_in cX5_in 3 (some .boolean), .methodLink RX5 94 yX5_coldOf, .instanceMethod yX5_coldOf, .selects RX5 yX5_coldOf yX5_coldOf, .code yX5_coldOf cX5_coldOf 4 (some .int), .fieldLink RX5 13 "IcePadsModel" "cold" "[I", .methodLink RX5 98 yX5_fallOf, .instanceMethod yX5_fallOf, .selects RX5 yX5_fallOf yX5_fallOf, .code yX5_fallOf cX5_fallOf 4 (some .int), .fieldLink RX5 17 "IcePadsModel" "fall" "[I"] ++ wsX50)
def wsX5_fluid : List Cond := .code yX5_fluid cX5_fluid 10 (some .int) :: ([.fieldLink RX5 101 "IcePadsModel" "fluids" "I", .fieldLink RX5 20 "IcePadsModel" "kind" "[I", .fieldLink RX5 23 "IcePadsModel" "span" "[I", .fieldLink RX5 26 "IcePadsModel" "times" "[I", .fieldLink RX5 29 "IcePadsModel" "parts" "[I", .fieldLink RX5 32 "IcePadsModel" "litres" "[I", .methodLink RX5 90 yX5_in, .static yX5_in, .initialized RX5, .code yX5_in cX5_in 3 (some .boolean)] ++ wsX50)
def wsX5_holdOf : List Cond := .code yX5_holdOf cX5_holdOf 4 (some .int) :: ([.fieldLink RX5 23 "IcePadsModel" "span" "[I", .fieldLink RX5 20 "IcePadsModel" "kind" "[I", .fieldLink RX5 26 "IcePadsModel" "times" "[I", .fieldLink RX5 29 "IcePadsModel" "parts" "[I", .methodLink RX5 98 yX5_fallOf, .instanceMethod yX5_fallOf, .selects RX5 yX5_fallOf yX5_fallOf, .initialized RX5, .code yX5_fallOf cX5_fallOf 4 (some .int), .fieldLink RX5 7 "IcePadsModel" "isTold" "[Z", .fieldLink RX5 17 "IcePadsModel" "fall" "[I", .methodLink RX5 94 yX5_coldOf, .instanceMethod yX5_coldOf, .selects RX5 yX5_coldOf yX5_coldOf, .code yX5_coldOf cX5_coldOf 4 (some .int), .fieldLink RX5 13 "IcePadsModel" "cold" "[I"] ++ wsX50)
def wsX5_isFluid : List Cond := .code yX5_isFluid cX5_isFluid 2 (some .boolean) :: ([.fieldLink RX5 101 "IcePadsModel" "fluids" "I", .methodLink RX5 90 yX5_in, .static yX5_in, .initialized RX5, .code yX5_in cX5_in 3 (some .boolean)] ++ wsX50)
def wsX5_hold_r1 : List Cond := [Cond.fieldLink RX5 108 "IcePadsModel" "trace" "J", Cond.fieldLink RX5 20 "IcePadsModel" "kind" "[I", Cond.constantLong RX5 112 (11), Cond.constantLong RX5 114 (111), Cond.methodLink RX5 104 yX5_isFluid, Cond.instanceMethod yX5_isFluid, Cond.selects RX5 yX5_isFluid yX5_isFluid, Cond.initialized RX5, Cond.code yX5_isFluid cX5_isFluid 2 (some .boolean), Cond.fieldLink RX5 101 "IcePadsModel" "fluids" "I", Cond.methodLink RX5 90 yX5_in, Cond.static yX5_in, Cond.code yX5_in cX5_in 3 (some .boolean), Cond.methodLink RX5 116 yX5_holdOf, Cond.instanceMethod yX5_holdOf, Cond.selects RX5 yX5_holdOf yX5_holdOf, Cond.code yX5_holdOf cX5_holdOf 4 (some .int), Cond.fieldLink RX5 23 "IcePadsModel" "span" "[I", Cond.fieldLink RX5 26 "IcePadsModel" "times" "[I", Cond.fieldLink RX5 29 "IcePadsModel" "parts" "[I", Cond.methodLink RX5 98 yX5_fallOf, Cond.instanceMethod yX5_fallOf, Cond.selects RX5 yX5_fallOf yX5_fallOf, Cond.code yX5_fallOf cX5_fallOf 4 (some .int)]
def wsX5_hold_r2 : List Cond := [Cond.fieldLink RX5 7 "IcePadsModel" "isTold" "[Z", Cond.fieldLink RX5 17 "IcePadsModel" "fall" "[I", Cond.methodLink RX5 94 yX5_coldOf, Cond.instanceMethod yX5_coldOf, Cond.selects RX5 yX5_coldOf yX5_coldOf, Cond.code yX5_coldOf cX5_coldOf 4 (some .int), Cond.fieldLink RX5 13 "IcePadsModel" "cold" "[I"]
def wsX5_hold : List Cond := .code yX5_hold cX5_hold 3 (some .int) :: ((wsX5_hold_r1 ++ wsX5_hold_r2) ++ wsX50)
def wsX5_fill : List Cond := .code yX5_fill cX5_fill 4 (some .int) :: ([.fieldLink RX5 32 "IcePadsModel" "litres" "[I", .methodLink RX5 104 yX5_isFluid, .instanceMethod yX5_isFluid, .selects RX5 yX5_isFluid yX5_isFluid, .initialized RX5, .code yX5_isFluid cX5_isFluid 2 (some .boolean), .fieldLink RX5 101 "IcePadsModel" "fluids" "I", .methodLink RX5 90 yX5_in, .static yX5_in, .code yX5_in cX5_in 3 (some .boolean)] ++ wsX50)
def wsX5_litres : List Cond := .code yX5_litres cX5_litres 2 (some .int) :: ([.fieldLink RX5 32 "IcePadsModel" "litres" "[I", .methodLink RX5 104 yX5_isFluid, .instanceMethod yX5_isFluid, .selects RX5 yX5_isFluid yX5_isFluid, .initialized RX5, .code yX5_isFluid cX5_isFluid 2 (some .boolean), .fieldLink RX5 101 "IcePadsModel" "fluids" "I", .methodLink RX5 90 yX5_in, .static yX5_in, .code yX5_in cX5_in 3 (some .boolean)] ++ wsX50)
def wsX5_set : List Cond := .code yX5_set cX5_set 4 (some .int) :: ([.fieldLink RX5 45 "IcePadsModel" "onPad" "[I", .fieldLink RX5 35 "IcePadsModel" "pads" "I", .fieldLink RX5 39 "IcePadsModel" "limit" "I", .fieldLink RX5 42 "IcePadsModel" "rate" "I", .methodLink RX5 90 yX5_in, .static yX5_in, .initialized RX5, .code yX5_in cX5_in 3 (some .boolean)] ++ wsX50)
def wsX5_jet : List Cond := .code yX5_jet cX5_jet 5 (some .int) :: ([.fieldLink RX5 87 "IcePadsModel" "now" "I", .fieldLink RX5 120 "IcePadsModel" "jets" "I", .fieldLink RX5 48 "IcePadsModel" "size" "[I", .fieldLink RX5 51 "IcePadsModel" "first" "[I", .fieldLink RX5 54 "IcePadsModel" "ready" "[I", .fieldLink RX5 57 "IcePadsModel" "roll" "[I", .fieldLink RX5 60 "IcePadsModel" "fluid" "[I", .fieldLink RX5 63 "IcePadsModel" "state" "[I", .fieldLink RX5 66 "IcePadsModel" "start" "[I", .fieldLink RX5 72 "IcePadsModel" "backs" "[I", .fieldLink RX5 75 "IcePadsModel" "flew" "[I", .methodLink RX5 90 yX5_in, .static yX5_in, .initialized RX5, .code yX5_in cX5_in 3 (some .boolean), .methodLink RX5 104 yX5_isFluid, .instanceMethod yX5_isFluid, .selects RX5 yX5_isFluid yX5_isFluid, .code yX5_isFluid cX5_isFluid 2 (some .boolean), .fieldLink RX5 101 "IcePadsModel" "fluids" "I"] ++ wsX50)
def wsX5_leaves : List Cond := .code yX5_leaves cX5_leaves 4 none :: ([.fieldLink RX5 45 "IcePadsModel" "onPad" "[I", .fieldLink RX5 66 "IcePadsModel" "start" "[I", .fieldLink RX5 48 "IcePadsModel" "size" "[I", .fieldLink RX5 87 "IcePadsModel" "now" "I", .fieldLink RX5 57 "IcePadsModel" "roll" "[I", .fieldLink RX5 69 "IcePadsModel" "holds" "[I", .fieldLink RX5 63 "IcePadsModel" "state" "[I", .fieldLink RX5 75 "IcePadsModel" "flew" "[I", .fieldLink RX5 54 "IcePadsModel" "ready" "[I", .fieldLink RX5 72 "IcePadsModel" "backs" "[I"] ++ wsX50)
def wsX5_mayBegin : List Cond := .code yX5_mayBegin cX5_mayBegin 2 (some .boolean) :: ([.fieldLink RX5 63 "IcePadsModel" "state" "[I", .fieldLink RX5 54 "IcePadsModel" "ready" "[I", .fieldLink RX5 87 "IcePadsModel" "now" "I", .fieldLink RX5 32 "IcePadsModel" "litres" "[I", .fieldLink RX5 60 "IcePadsModel" "fluid" "[I", .fieldLink RX5 48 "IcePadsModel" "size" "[I", .fieldLink RX5 123 "IcePadsModel" "drain" "I", .fieldLink RX5 39 "IcePadsModel" "limit" "I"] ++ wsX50)
def wsX5_begins_r1 : List Cond := [Cond.fieldLink RX5 45 "IcePadsModel" "onPad" "[I", Cond.fieldLink RX5 120 "IcePadsModel" "jets" "I", Cond.fieldLink RX5 54 "IcePadsModel" "ready" "[I", Cond.fieldLink RX5 63 "IcePadsModel" "state" "[I", Cond.fieldLink RX5 66 "IcePadsModel" "start" "[I", Cond.fieldLink RX5 87 "IcePadsModel" "now" "I", Cond.fieldLink RX5 69 "IcePadsModel" "holds" "[I", Cond.fieldLink RX5 60 "IcePadsModel" "fluid" "[I", Cond.fieldLink RX5 32 "IcePadsModel" "litres" "[I", Cond.fieldLink RX5 48 "IcePadsModel" "size" "[I", Cond.fieldLink RX5 123 "IcePadsModel" "drain" "I", Cond.fieldLink RX5 129 "IcePadsModel" "begun" "I", Cond.methodLink RX5 126 yX5_mayBegin, Cond.instanceMethod yX5_mayBegin, Cond.selects RX5 yX5_mayBegin yX5_mayBegin, Cond.initialized RX5, Cond.code yX5_mayBegin cX5_mayBegin 2 (some .boolean), Cond.fieldLink RX5 39 "IcePadsModel" "limit" "I", Cond.methodLink RX5 116 yX5_holdOf, Cond.instanceMethod yX5_holdOf, Cond.selects RX5 yX5_holdOf yX5_holdOf, Cond.code yX5_holdOf cX5_holdOf 4 (some .int), Cond.fieldLink RX5 23 "IcePadsModel" "span" "[I", Cond.fieldLink RX5 20 "IcePadsModel" "kind" "[I"]
def wsX5_begins_r2 : List Cond := [Cond.fieldLink RX5 26 "IcePadsModel" "times" "[I", Cond.fieldLink RX5 29 "IcePadsModel" "parts" "[I", Cond.methodLink RX5 98 yX5_fallOf, Cond.instanceMethod yX5_fallOf, Cond.selects RX5 yX5_fallOf yX5_fallOf, Cond.code yX5_fallOf cX5_fallOf 4 (some .int), Cond.fieldLink RX5 7 "IcePadsModel" "isTold" "[Z", Cond.fieldLink RX5 17 "IcePadsModel" "fall" "[I", Cond.methodLink RX5 94 yX5_coldOf, Cond.instanceMethod yX5_coldOf, Cond.selects RX5 yX5_coldOf yX5_coldOf, Cond.code yX5_coldOf cX5_coldOf 4 (some .int), Cond.fieldLink RX5 13 "IcePadsModel" "cold" "[I"]
def wsX5_begins : List Cond := .code yX5_begins cX5_begins 4 none :: ((wsX5_begins_r1 ++ wsX5_begins_r2) ++ wsX50)
def wsX5_oneMinute_r1 : List Cond := [Cond.fieldLink RX5 123 "IcePadsModel" "drain" "I", Cond.fieldLink RX5 42 "IcePadsModel" "rate" "I", Cond.fieldLink RX5 35 "IcePadsModel" "pads" "I", Cond.fieldLink RX5 87 "IcePadsModel" "now" "I", Cond.methodLink RX5 132 yX5_leaves, Cond.instanceMethod yX5_leaves, Cond.selects RX5 yX5_leaves yX5_leaves, Cond.initialized RX5, Cond.code yX5_leaves cX5_leaves 4 none, Cond.fieldLink RX5 45 "IcePadsModel" "onPad" "[I", Cond.fieldLink RX5 66 "IcePadsModel" "start" "[I", Cond.fieldLink RX5 48 "IcePadsModel" "size" "[I", Cond.fieldLink RX5 57 "IcePadsModel" "roll" "[I", Cond.fieldLink RX5 69 "IcePadsModel" "holds" "[I", Cond.fieldLink RX5 63 "IcePadsModel" "state" "[I", Cond.fieldLink RX5 75 "IcePadsModel" "flew" "[I", Cond.fieldLink RX5 54 "IcePadsModel" "ready" "[I", Cond.fieldLink RX5 72 "IcePadsModel" "backs" "[I", Cond.methodLink RX5 136 yX5_begins, Cond.instanceMethod yX5_begins, Cond.selects RX5 yX5_begins yX5_begins, Cond.code yX5_begins cX5_begins 4 none, Cond.fieldLink RX5 120 "IcePadsModel" "jets" "I", Cond.fieldLink RX5 60 "IcePadsModel" "fluid" "[I"]
def wsX5_oneMinute_r2 : List Cond := [Cond.fieldLink RX5 32 "IcePadsModel" "litres" "[I", Cond.fieldLink RX5 129 "IcePadsModel" "begun" "I", Cond.methodLink RX5 126 yX5_mayBegin, Cond.instanceMethod yX5_mayBegin, Cond.selects RX5 yX5_mayBegin yX5_mayBegin, Cond.code yX5_mayBegin cX5_mayBegin 2 (some .boolean), Cond.fieldLink RX5 39 "IcePadsModel" "limit" "I", Cond.methodLink RX5 116 yX5_holdOf, Cond.instanceMethod yX5_holdOf, Cond.selects RX5 yX5_holdOf yX5_holdOf, Cond.code yX5_holdOf cX5_holdOf 4 (some .int), Cond.fieldLink RX5 23 "IcePadsModel" "span" "[I", Cond.fieldLink RX5 20 "IcePadsModel" "kind" "[I", Cond.fieldLink RX5 26 "IcePadsModel" "times" "[I", Cond.fieldLink RX5 29 "IcePadsModel" "parts" "[I", Cond.methodLink RX5 98 yX5_fallOf, Cond.instanceMethod yX5_fallOf, Cond.selects RX5 yX5_fallOf yX5_fallOf, Cond.code yX5_fallOf cX5_fallOf 4 (some .int), Cond.fieldLink RX5 7 "IcePadsModel" "isTold" "[Z", Cond.fieldLink RX5 17 "IcePadsModel" "fall" "[I", Cond.methodLink RX5 94 yX5_coldOf, Cond.instanceMethod yX5_coldOf, Cond.selects RX5 yX5_coldOf yX5_coldOf]
def wsX5_oneMinute_r3 : List Cond := [Cond.code yX5_coldOf cX5_coldOf 4 (some .int), Cond.fieldLink RX5 13 "IcePadsModel" "cold" "[I"]
def wsX5_oneMinute : List Cond := .code yX5_oneMinute cX5_oneMinute 2 none :: ((wsX5_oneMinute_r1 ++ (wsX5_oneMinute_r2 ++ wsX5_oneMinute_r3)) ++ wsX50)
def wsX5_minutes_r1 : List Cond := [Cond.fieldLink RX5 87 "IcePadsModel" "now" "I", Cond.methodLink RX5 90 yX5_in, Cond.static yX5_in, Cond.initialized RX5, Cond.code yX5_in cX5_in 3 (some .boolean), Cond.methodLink RX5 139 yX5_oneMinute, Cond.instanceMethod yX5_oneMinute, Cond.selects RX5 yX5_oneMinute yX5_oneMinute, Cond.code yX5_oneMinute cX5_oneMinute 2 none, Cond.fieldLink RX5 123 "IcePadsModel" "drain" "I", Cond.fieldLink RX5 42 "IcePadsModel" "rate" "I", Cond.fieldLink RX5 35 "IcePadsModel" "pads" "I", Cond.methodLink RX5 132 yX5_leaves, Cond.instanceMethod yX5_leaves, Cond.selects RX5 yX5_leaves yX5_leaves, Cond.code yX5_leaves cX5_leaves 4 none, Cond.fieldLink RX5 45 "IcePadsModel" "onPad" "[I", Cond.fieldLink RX5 66 "IcePadsModel" "start" "[I", Cond.fieldLink RX5 48 "IcePadsModel" "size" "[I", Cond.fieldLink RX5 57 "IcePadsModel" "roll" "[I", Cond.fieldLink RX5 69 "IcePadsModel" "holds" "[I", Cond.fieldLink RX5 63 "IcePadsModel" "state" "[I", Cond.fieldLink RX5 75 "IcePadsModel" "flew" "[I", Cond.fieldLink RX5 54 "IcePadsModel" "ready" "[I"]
def wsX5_minutes_r2 : List Cond := [Cond.fieldLink RX5 72 "IcePadsModel" "backs" "[I", Cond.methodLink RX5 136 yX5_begins, Cond.instanceMethod yX5_begins, Cond.selects RX5 yX5_begins yX5_begins, Cond.code yX5_begins cX5_begins 4 none, Cond.fieldLink RX5 120 "IcePadsModel" "jets" "I", Cond.fieldLink RX5 60 "IcePadsModel" "fluid" "[I", Cond.fieldLink RX5 32 "IcePadsModel" "litres" "[I", Cond.fieldLink RX5 129 "IcePadsModel" "begun" "I", Cond.methodLink RX5 126 yX5_mayBegin, Cond.instanceMethod yX5_mayBegin, Cond.selects RX5 yX5_mayBegin yX5_mayBegin, Cond.code yX5_mayBegin cX5_mayBegin 2 (some .boolean), Cond.fieldLink RX5 39 "IcePadsModel" "limit" "I", Cond.methodLink RX5 116 yX5_holdOf, Cond.instanceMethod yX5_holdOf, Cond.selects RX5 yX5_holdOf yX5_holdOf, Cond.code yX5_holdOf cX5_holdOf 4 (some .int), Cond.fieldLink RX5 23 "IcePadsModel" "span" "[I", Cond.fieldLink RX5 20 "IcePadsModel" "kind" "[I", Cond.fieldLink RX5 26 "IcePadsModel" "times" "[I", Cond.fieldLink RX5 29 "IcePadsModel" "parts" "[I", Cond.methodLink RX5 98 yX5_fallOf, Cond.instanceMethod yX5_fallOf]
def wsX5_minutes_r3 : List Cond := [Cond.selects RX5 yX5_fallOf yX5_fallOf, Cond.code yX5_fallOf cX5_fallOf 4 (some .int), Cond.fieldLink RX5 7 "IcePadsModel" "isTold" "[Z", Cond.fieldLink RX5 17 "IcePadsModel" "fall" "[I", Cond.methodLink RX5 94 yX5_coldOf, Cond.instanceMethod yX5_coldOf, Cond.selects RX5 yX5_coldOf yX5_coldOf, Cond.code yX5_coldOf cX5_coldOf 4 (some .int), Cond.fieldLink RX5 13 "IcePadsModel" "cold" "[I"]
def wsX5_minutes : List Cond := .code yX5_minutes cX5_minutes 3 (some .int) :: ((wsX5_minutes_r1 ++ (wsX5_minutes_r2 ++ wsX5_minutes_r3)) ++ wsX50)
def wsX5_lateOf : List Cond := .code yX5_lateOf cX5_lateOf 2 (some .int) :: ([.fieldLink RX5 75 "IcePadsModel" "flew" "[I", .fieldLink RX5 51 "IcePadsModel" "first" "[I", .fieldLink RX5 48 "IcePadsModel" "size" "[I", .fieldLink RX5 57 "IcePadsModel" "roll" "[I"] ++ wsX50)
def wsX5_about : List Cond := .code yX5_about cX5_about 5 (some .int) :: ([.fieldLink RX5 120 "IcePadsModel" "jets" "I", .fieldLink RX5 63 "IcePadsModel" "state" "[I", .fieldLink RX5 35 "IcePadsModel" "pads" "I", .fieldLink RX5 45 "IcePadsModel" "onPad" "[I", .fieldLink RX5 66 "IcePadsModel" "start" "[I", .fieldLink RX5 54 "IcePadsModel" "ready" "[I", .fieldLink RX5 72 "IcePadsModel" "backs" "[I", .fieldLink RX5 75 "IcePadsModel" "flew" "[I", .methodLink RX5 90 yX5_in, .static yX5_in, .initialized RX5, .code yX5_in cX5_in 3 (some .boolean), .methodLink RX5 142 yX5_lateOf, .instanceMethod yX5_lateOf, .selects RX5 yX5_lateOf yX5_lateOf, .code yX5_lateOf cX5_lateOf 2 (some .int), .fieldLink RX5 51 "IcePadsModel" "first" "[I", .fieldLink RX5 48 "IcePadsModel" "size" "[I", .fieldLink RX5 57 "IcePadsModel" "roll" "[I"] ++ wsX50)
def wsX5_on : List Cond := .code yX5_on cX5_on 2 (some .int) :: ([.fieldLink RX5 35 "IcePadsModel" "pads" "I", .fieldLink RX5 45 "IcePadsModel" "onPad" "[I", .methodLink RX5 90 yX5_in, .static yX5_in, .initialized RX5, .code yX5_in cX5_in 3 (some .boolean)] ++ wsX50)
def wsX5_lates : List Cond := .code yX5_lates cX5_lates 6 (some .int) :: ([.fieldLink RX5 87 "IcePadsModel" "now" "I", .fieldLink RX5 145 "IcePadsModel" "many" "I", .fieldLink RX5 81 "IcePadsModel" "row" "[I", .fieldLink RX5 54 "IcePadsModel" "ready" "[I", .fieldLink RX5 51 "IcePadsModel" "first" "[I", .fieldLink RX5 48 "IcePadsModel" "size" "[I"] ++ wsX50)
def wsX5_take : List Cond := .code yX5_take cX5_take 8 none :: ([.fieldLink RX5 145 "IcePadsModel" "many" "I", .fieldLink RX5 81 "IcePadsModel" "row" "[I", .fieldLink RX5 78 "IcePadsModel" "waiting" "[I"] ++ wsX50)
def wsX5_findPlan : List Cond := .code yX5_findPlan cX5_findPlan 6 (some .int) :: ([.fieldLink RX5 145 "IcePadsModel" "many" "I", .fieldLink RX5 120 "IcePadsModel" "jets" "I", .fieldLink RX5 63 "IcePadsModel" "state" "[I", .fieldLink RX5 78 "IcePadsModel" "waiting" "[I", .fieldLink RX5 84 "IcePadsModel" "bestRow" "[I", .fieldLink RX5 81 "IcePadsModel" "row" "[I", .methodLink RX5 148 yX5_take, .instanceMethod yX5_take, .selects RX5 yX5_take yX5_take, .initialized RX5, .code yX5_take cX5_take 8 none, .methodLink RX5 151 yX5_lates, .instanceMethod yX5_lates, .selects RX5 yX5_lates yX5_lates, .code yX5_lates cX5_lates 6 (some .int), .fieldLink RX5 87 "IcePadsModel" "now" "I", .fieldLink RX5 54 "IcePadsModel" "ready" "[I", .fieldLink RX5 51 "IcePadsModel" "first" "[I", .fieldLink RX5 48 "IcePadsModel" "size" "[I"] ++ wsX50)
def wsX5_plan_r1 : List Cond := [Cond.fieldLink RX5 145 "IcePadsModel" "many" "I", Cond.fieldLink RX5 84 "IcePadsModel" "bestRow" "[I", Cond.methodLink RX5 90 yX5_in, Cond.static yX5_in, Cond.initialized RX5, Cond.code yX5_in cX5_in 3 (some .boolean), Cond.methodLink RX5 155 yX5_findPlan, Cond.instanceMethod yX5_findPlan, Cond.selects RX5 yX5_findPlan yX5_findPlan, Cond.code yX5_findPlan cX5_findPlan 6 (some .int), Cond.fieldLink RX5 120 "IcePadsModel" "jets" "I", Cond.fieldLink RX5 63 "IcePadsModel" "state" "[I", Cond.fieldLink RX5 78 "IcePadsModel" "waiting" "[I", Cond.fieldLink RX5 81 "IcePadsModel" "row" "[I", Cond.methodLink RX5 148 yX5_take, Cond.instanceMethod yX5_take, Cond.selects RX5 yX5_take yX5_take, Cond.code yX5_take cX5_take 8 none, Cond.methodLink RX5 151 yX5_lates, Cond.instanceMethod yX5_lates, Cond.selects RX5 yX5_lates yX5_lates, Cond.code yX5_lates cX5_lates 6 (some .int), Cond.fieldLink RX5 87 "IcePadsModel" "now" "I", Cond.fieldLink RX5 54 "IcePadsModel" "ready" "[I"]
def wsX5_plan_r2 : List Cond := [Cond.fieldLink RX5 51 "IcePadsModel" "first" "[I", Cond.fieldLink RX5 48 "IcePadsModel" "size" "[I"]
def wsX5_plan : List Cond := .code yX5_plan cX5_plan 4 (some .int) :: ((wsX5_plan_r1 ++ wsX5_plan_r2) ++ wsX50)
def wsX5_ofState : List Cond := .code yX5_ofState cX5_ofState 4 (some .int) :: ([.fieldLink RX5 120 "IcePadsModel" "jets" "I", .fieldLink RX5 63 "IcePadsModel" "state" "[I"] ++ wsX50)
def wsX5_count : List Cond := .code yX5_count cX5_count 4 (some .int) :: ([.fieldLink RX5 87 "IcePadsModel" "now" "I", .fieldLink RX5 101 "IcePadsModel" "fluids" "I", .fieldLink RX5 35 "IcePadsModel" "pads" "I", .fieldLink RX5 120 "IcePadsModel" "jets" "I", .fieldLink RX5 123 "IcePadsModel" "drain" "I", .fieldLink RX5 129 "IcePadsModel" "begun" "I", .fieldLink RX5 72 "IcePadsModel" "backs" "[I", .fieldLink RX5 63 "IcePadsModel" "state" "[I", .methodLink RX5 158 yX5_ofState, .instanceMethod yX5_ofState, .selects RX5 yX5_ofState yX5_ofState, .initialized RX5, .code yX5_ofState cX5_ofState 4 (some .int), .methodLink RX5 142 yX5_lateOf, .instanceMethod yX5_lateOf, .selects RX5 yX5_lateOf yX5_lateOf, .code yX5_lateOf cX5_lateOf 2 (some .int), .fieldLink RX5 75 "IcePadsModel" "flew" "[I", .fieldLink RX5 51 "IcePadsModel" "first" "[I", .fieldLink RX5 48 "IcePadsModel" "size" "[I", .fieldLink RX5 57 "IcePadsModel" "roll" "[I"] ++ wsX50)
def wsX5_trace : List Cond := .code yX5_trace cX5_trace 1 (some .long) :: ([.fieldLink RX5 108 "IcePadsModel" "trace" "J"] ++ wsX50)
def wsJ9_max_7cf53 : List Cond := .code yJ9_max_7cf53 cJ9_max_7cf53 2 (some .int) :: ([])
def wsJ9_min_7cf53 : List Cond := .code yJ9_min_7cf53 cJ9_min_7cf53 2 (some .int) :: ([])
def wsL_law_r1 : List Cond := [Cond.classLink RL 7 RX4, Cond.instantiable RX4 14, Cond.initialized RX4, Cond.classLink RL 10 RX5, Cond.instantiable RX5 32, Cond.initialized RX5, Cond.methodLink RL 9 yX4_init, Cond.instanceMethod yX4_init, Cond.code yX4_init cX4_init 1 none, Cond.methodLink RX4 1 objectInit, Cond.instanceMethod objectInit, Cond.code objectInit ⟨#[0xb1]⟩ 1 none, Cond.classLink RX4 7 RX3, Cond.instantiable RX3 3, Cond.initialized RX3, Cond.fieldLink RX4 10 "IcePads" "sky" "LIcePads$Sky;", Cond.classLink RX4 16 RX0, Cond.fieldLink RX4 18 "IcePads" "fluids" "[LIcePads$Fluid;", Cond.classLink RX4 22 RX1, Cond.fieldLink RX4 24 "IcePads" "jets" "[LIcePads$Jet;", Cond.fieldLink RX4 28 "IcePads" "pads" "[LIcePads$Jet;", Cond.classLink RX4 31 RX2, Cond.instantiable RX2 6, Cond.initialized RX2]
def wsL_law_r2 : List Cond := [Cond.fieldLink RX4 34 "IcePads" "planner" "LIcePads$Planner;", Cond.fieldLink RX4 38 "IcePads" "padCount" "I", Cond.fieldLink RX4 42 "IcePads" "limit" "I", Cond.fieldLink RX4 45 "IcePads" "rate" "I", Cond.instanceMethod yX3_init, Cond.code yX3_init cX3_init 1 none, Cond.methodLink RX3 3 objectInit, Cond.arrayClass .int, Cond.fieldLink RX3 9 "IcePads$Sky" "cold" "[I", Cond.fieldLink RX3 15 "IcePads$Sky" "fall" "[I", Cond.arrayClass .boolean, Cond.fieldLink RX3 18 "IcePads$Sky" "told" "[Z", Cond.instanceMethod yX2_init, Cond.code yX2_init cX2_init 1 none, Cond.methodLink RX2 3 objectInit, Cond.classLink RX2 9 RX1, Cond.fieldLink RX2 11 "IcePads$Planner" "waiting" "[LIcePads$Jet;", Cond.fieldLink RX2 17 "IcePads$Planner" "placed" "[Z", Cond.fieldLink RX2 21 "IcePads$Planner" "order" "[I", Cond.fieldLink RX2 25 "IcePads$Planner" "best" "[I", Cond.methodLink RL 12 yX5_init, Cond.instanceMethod yX5_init, Cond.code yX5_init cX5_init 1 none, Cond.methodLink RX5 1 objectInit]
def wsL_law_r3 : List Cond := [Cond.fieldLink RX5 7 "IcePadsModel" "isTold" "[Z", Cond.fieldLink RX5 13 "IcePadsModel" "cold" "[I", Cond.fieldLink RX5 17 "IcePadsModel" "fall" "[I", Cond.fieldLink RX5 20 "IcePadsModel" "kind" "[I", Cond.fieldLink RX5 23 "IcePadsModel" "span" "[I", Cond.fieldLink RX5 26 "IcePadsModel" "times" "[I", Cond.fieldLink RX5 29 "IcePadsModel" "parts" "[I", Cond.fieldLink RX5 32 "IcePadsModel" "litres" "[I", Cond.fieldLink RX5 35 "IcePadsModel" "pads" "I", Cond.fieldLink RX5 39 "IcePadsModel" "limit" "I", Cond.fieldLink RX5 42 "IcePadsModel" "rate" "I", Cond.fieldLink RX5 45 "IcePadsModel" "onPad" "[I", Cond.fieldLink RX5 48 "IcePadsModel" "size" "[I", Cond.fieldLink RX5 51 "IcePadsModel" "first" "[I", Cond.fieldLink RX5 54 "IcePadsModel" "ready" "[I", Cond.fieldLink RX5 57 "IcePadsModel" "roll" "[I", Cond.fieldLink RX5 60 "IcePadsModel" "fluid" "[I", Cond.fieldLink RX5 63 "IcePadsModel" "state" "[I", Cond.fieldLink RX5 66 "IcePadsModel" "start" "[I", Cond.fieldLink RX5 69 "IcePadsModel" "holds" "[I", Cond.fieldLink RX5 72 "IcePadsModel" "backs" "[I", Cond.fieldLink RX5 75 "IcePadsModel" "flew" "[I", Cond.fieldLink RX5 78 "IcePadsModel" "waiting" "[I", Cond.fieldLink RX5 81 "IcePadsModel" "row" "[I"]
def wsL_law_r4 : List Cond := [Cond.fieldLink RX5 84 "IcePadsModel" "bestRow" "[I", Cond.fieldLink RX5 87 "IcePadsModel" "now" "I", Cond.methodLink RL 13 yX4_weather, Cond.instanceMethod yX4_weather, Cond.selects RX4 yX4_weather yX4_weather, Cond.code yX4_weather cX4_weather 4 (some .int), Cond.fieldLink RX4 56 "IcePads" "now" "I", Cond.methodLink RX4 48 yX4_isMinute, Cond.static yX4_isMinute, Cond.code yX4_isMinute cX4_isMinute 1 (some .boolean), Cond.methodLink RX4 52 yX4_within, Cond.static yX4_within, Cond.code yX4_within cX4_within 3 (some .boolean), Cond.methodLink RX4 59 yX3_tell, Cond.instanceMethod yX3_tell, Cond.selects RX3 yX3_tell yX3_tell, Cond.code yX3_tell cX3_tell 4 none, Cond.methodLink RL 17 yX5_weather, Cond.instanceMethod yX5_weather, Cond.selects RX5 yX5_weather yX5_weather, Cond.code yX5_weather cX5_weather 4 (some .int), Cond.methodLink RX5 90 yX5_in, Cond.static yX5_in, Cond.code yX5_in cX5_in 3 (some .boolean)]
def wsL_law_r5 : List Cond := [Cond.methodLink RL 18 yX4_loses, Cond.instanceMethod yX4_loses, Cond.selects RX4 yX4_loses yX4_loses, Cond.code yX4_loses cX4_loses 3 (some .int), Cond.methodLink RX4 63 yX3_isTold, Cond.instanceMethod yX3_isTold, Cond.selects RX3 yX3_isTold yX3_isTold, Cond.code yX3_isTold cX3_isTold 2 (some .boolean), Cond.methodLink RX4 66 yX4_oneIf, Cond.static yX4_oneIf, Cond.code yX4_oneIf cX4_oneIf 1 (some .int), Cond.methodLink RX4 70 yX3_lose, Cond.instanceMethod yX3_lose, Cond.selects RX3 yX3_lose yX3_lose, Cond.code yX3_lose cX3_lose 2 none, Cond.methodLink RL 22 yX5_loses, Cond.instanceMethod yX5_loses, Cond.selects RX5 yX5_loses yX5_loses, Cond.code yX5_loses cX5_loses 3 (some .int), Cond.methodLink RL 23 yX4_known, Cond.instanceMethod yX4_known, Cond.selects RX4 yX4_known yX4_known, Cond.code yX4_known cX4_known 3 (some .int), Cond.methodLink RX4 74 yX3_coldIn]
def wsL_law_r6 : List Cond := [Cond.instanceMethod yX3_coldIn, Cond.selects RX3 yX3_coldIn yX3_coldIn, Cond.code yX3_coldIn cX3_coldIn 6 (some .int), Cond.methodLink RX3 29 Lib.Math.min.name, Cond.static Lib.Math.min.name, Cond.initialized "java/lang/Math", Cond.code Lib.Math.min.name Lib.Math.min.code 2 (some .int), Cond.methodLink RX3 26 yX3_isTold, Cond.methodLink RX4 78 yX3_fallIn, Cond.instanceMethod yX3_fallIn, Cond.selects RX3 yX3_fallIn yX3_fallIn, Cond.code yX3_fallIn cX3_fallIn 5 (some .int), Cond.methodLink RX3 35 Lib.Math.max.name, Cond.static Lib.Math.max.name, Cond.code Lib.Math.max.name Lib.Math.max.code 2 (some .int), Cond.methodLink RL 27 yX5_known, Cond.instanceMethod yX5_known, Cond.selects RX5 yX5_known yX5_known, Cond.code yX5_known cX5_known 3 (some .int), Cond.methodLink RX5 94 yX5_coldOf, Cond.instanceMethod yX5_coldOf, Cond.selects RX5 yX5_coldOf yX5_coldOf, Cond.code yX5_coldOf cX5_coldOf 4 (some .int), Cond.methodLink RX5 98 yX5_fallOf]
def wsL_law_r7 : List Cond := [Cond.instanceMethod yX5_fallOf, Cond.selects RX5 yX5_fallOf yX5_fallOf, Cond.code yX5_fallOf cX5_fallOf 4 (some .int), Cond.methodLink RL 28 yX4_fluid, Cond.instanceMethod yX4_fluid, Cond.selects RX4 yX4_fluid yX4_fluid, Cond.code yX4_fluid cX4_fluid 11 (some .int), Cond.fieldLink RX4 85 "IcePads" "fluidCount" "I", Cond.instantiable RX0 5, Cond.initialized RX0, Cond.methodLink RX4 81 yX4_areSpans, Cond.static yX4_areSpans, Cond.code yX4_areSpans cX4_areSpans 4 (some .boolean), Cond.methodLink RX4 88 yX0_init, Cond.instanceMethod yX0_init, Cond.code yX0_init cX0_init 6 none, Cond.methodLink RX0 1 objectInit, Cond.fieldLink RX0 7 "IcePads$Fluid" "kind" "I", Cond.fieldLink RX0 13 "IcePads$Fluid" "spans" "[I", Cond.fieldLink RX0 17 "IcePads$Fluid" "times" "I", Cond.fieldLink RX0 20 "IcePads$Fluid" "parts" "I", Cond.fieldLink RX0 23 "IcePads$Fluid" "litresLeft" "I", Cond.methodLink RL 32 yX5_fluid, Cond.instanceMethod yX5_fluid]
def wsL_law_r8 : List Cond := [Cond.selects RX5 yX5_fluid yX5_fluid, Cond.code yX5_fluid cX5_fluid 10 (some .int), Cond.fieldLink RX5 101 "IcePadsModel" "fluids" "I", Cond.methodLink RL 33 yX4_hold, Cond.instanceMethod yX4_hold, Cond.selects RX4 yX4_hold yX4_hold, Cond.code yX4_hold cX4_hold 4 (some .int), Cond.fieldLink RX4 95 "IcePads" "traced" "J", Cond.methodLink RX4 91 yX4_fluidAt, Cond.instanceMethod yX4_fluidAt, Cond.selects RX4 yX4_fluidAt yX4_fluidAt, Cond.code yX4_fluidAt cX4_fluidAt 2 (some (.object "IcePads$Fluid")), Cond.methodLink RX4 99 yX0_traceOfBodies, Cond.instanceMethod yX0_traceOfBodies, Cond.selects RX0 yX0_traceOfBodies yX0_traceOfBodies, Cond.code yX0_traceOfBodies cX0_traceOfBodies 1 (some .int), Cond.methodLink RX4 103 yX4_holdIn, Cond.instanceMethod yX4_holdIn, Cond.selects RX4 yX4_holdIn yX4_holdIn, Cond.code yX4_holdIn cX4_holdIn 3 (some .int), Cond.methodLink RX4 191 yX0_holds, Cond.instanceMethod yX0_holds, Cond.selects RX0 yX0_holds yX0_holds, Cond.code yX0_holds cX0_holds 5 (some .int)]
def wsL_law_r9 : List Cond := [Cond.methodLink RX0 26 yX0_thinHold, Cond.instanceMethod yX0_thinHold, Cond.selects RX0 yX0_thinHold yX0_thinHold, Cond.code yX0_thinHold cX0_thinHold 3 (some .int), Cond.methodLink RL 36 yX5_hold, Cond.instanceMethod yX5_hold, Cond.selects RX5 yX5_hold yX5_hold, Cond.code yX5_hold cX5_hold 3 (some .int), Cond.fieldLink RX5 108 "IcePadsModel" "trace" "J", Cond.constantLong RX5 112 (11), Cond.constantLong RX5 114 (111), Cond.methodLink RX5 104 yX5_isFluid, Cond.instanceMethod yX5_isFluid, Cond.selects RX5 yX5_isFluid yX5_isFluid, Cond.code yX5_isFluid cX5_isFluid 2 (some .boolean), Cond.methodLink RX5 116 yX5_holdOf, Cond.instanceMethod yX5_holdOf, Cond.selects RX5 yX5_holdOf yX5_holdOf, Cond.code yX5_holdOf cX5_holdOf 4 (some .int), Cond.methodLink RL 37 yX4_fill, Cond.instanceMethod yX4_fill, Cond.selects RX4 yX4_fill yX4_fill, Cond.code yX4_fill cX4_fill 5 (some .int), Cond.fieldLink RX4 107 "IcePads$Fluid" "litresLeft" "I"]
def wsL_law_r10 : List Cond := [Cond.methodLink RL 40 yX5_fill, Cond.instanceMethod yX5_fill, Cond.selects RX5 yX5_fill yX5_fill, Cond.code yX5_fill cX5_fill 4 (some .int), Cond.methodLink RL 41 yX4_set, Cond.instanceMethod yX4_set, Cond.selects RX4 yX4_set yX4_set, Cond.code yX4_set cX4_set 3 (some .int), Cond.methodLink RX4 110 yX4_changePads, Cond.instanceMethod yX4_changePads, Cond.selects RX4 yX4_changePads yX4_changePads, Cond.code yX4_changePads cX4_changePads 3 (some .int), Cond.methodLink RX4 176 yX4_jetsIn, Cond.instanceMethod yX4_jetsIn, Cond.selects RX4 yX4_jetsIn yX4_jetsIn, Cond.code yX4_jetsIn cX4_jetsIn 5 (some .int), Cond.fieldLink RX4 119 "IcePads" "jetCount" "I", Cond.methodLink RX4 132 yX1_state, Cond.instanceMethod yX1_state, Cond.selects RX1 yX1_state yX1_state, Cond.initialized RX1, Cond.code yX1_state cX1_state 1 (some .int), Cond.fieldLink RX1 9 "IcePads$Jet" "pad" "I", Cond.methodLink RX1 40 yX1_isGone]
def wsL_law_r11 : List Cond := [Cond.instanceMethod yX1_isGone, Cond.selects RX1 yX1_isGone yX1_isGone, Cond.code yX1_isGone cX1_isGone 1 (some .boolean), Cond.fieldLink RX1 18 "IcePads$Jet" "flew" "I", Cond.methodLink RX4 113 yX4_changeLimit, Cond.instanceMethod yX4_changeLimit, Cond.selects RX4 yX4_changeLimit yX4_changeLimit, Cond.code yX4_changeLimit cX4_changeLimit 3 (some .int), Cond.methodLink RX4 116 yX4_changeRate, Cond.instanceMethod yX4_changeRate, Cond.selects RX4 yX4_changeRate yX4_changeRate, Cond.code yX4_changeRate cX4_changeRate 3 (some .int), Cond.methodLink RL 44 yX5_set, Cond.instanceMethod yX5_set, Cond.selects RX5 yX5_set yX5_set, Cond.code yX5_set cX5_set 4 (some .int), Cond.methodLink RL 45 yX4_jet, Cond.instanceMethod yX4_jet, Cond.selects RX4 yX4_jet yX4_jet, Cond.code yX4_jet cX4_jet 7 (some .int), Cond.instantiable RX1 11, Cond.methodLink RX4 122 yX1_init, Cond.instanceMethod yX1_init, Cond.code yX1_init cX1_init 6 none]
def wsL_law_r12 : List Cond := [Cond.methodLink RX1 3 objectInit, Cond.fieldLink RX1 15 "IcePads$Jet" "start" "I", Cond.fieldLink RX1 21 "IcePads$Jet" "number" "I", Cond.fieldLink RX1 24 "IcePads$Jet" "size" "I", Cond.fieldLink RX1 27 "IcePads$Jet" "firstReady" "I", Cond.fieldLink RX1 30 "IcePads$Jet" "ready" "I", Cond.fieldLink RX1 33 "IcePads$Jet" "roll" "I", Cond.fieldLink RX1 36 "IcePads$Jet" "fluid" "LIcePads$Fluid;", Cond.methodLink RL 49 yX5_jet, Cond.instanceMethod yX5_jet, Cond.selects RX5 yX5_jet yX5_jet, Cond.code yX5_jet cX5_jet 5 (some .int), Cond.fieldLink RX5 120 "IcePadsModel" "jets" "I", Cond.methodLink RL 50 yX4_minutes, Cond.instanceMethod yX4_minutes, Cond.selects RX4 yX4_minutes yX4_minutes, Cond.code yX4_minutes cX4_minutes 3 (some .int), Cond.methodLink RX4 125 yX4_passMinute, Cond.instanceMethod yX4_passMinute, Cond.selects RX4 yX4_passMinute yX4_passMinute, Cond.code yX4_passMinute cX4_passMinute 2 none, Cond.fieldLink RX4 179 "IcePads" "drain" "I", Cond.methodLink RX4 195 Lib.Math.max.name, Cond.methodLink RX4 200 yX4_endOn]
def wsL_law_r13 : List Cond := [Cond.instanceMethod yX4_endOn, Cond.selects RX4 yX4_endOn yX4_endOn, Cond.code yX4_endOn cX4_endOn 3 none, Cond.fieldLink RX4 138 "IcePads$Jet" "start" "I", Cond.methodLink RX4 206 yX1_treatment, Cond.instanceMethod yX1_treatment, Cond.selects RX1 yX1_treatment yX1_treatment, Cond.code yX1_treatment cX1_treatment 1 (some .int), Cond.methodLink RX4 209 yX1_leave, Cond.instanceMethod yX1_leave, Cond.selects RX1 yX1_leave yX1_leave, Cond.code yX1_leave cX1_leave 3 none, Cond.fieldLink RX1 44 "IcePads$Jet" "holdsTill" "I", Cond.fieldLink RX1 47 "IcePads$Jet" "turnsBack" "I", Cond.methodLink RX4 203 yX4_beginOn, Cond.instanceMethod yX4_beginOn, Cond.selects RX4 yX4_beginOn yX4_beginOn, Cond.code yX4_beginOn cX4_beginOn 3 none, Cond.fieldLink RX4 216 "IcePads$Jet" "fluid" "LIcePads$Fluid;", Cond.fieldLink RX4 182 "IcePads" "begun" "I", Cond.methodLink RX4 212 yX4_nextToBegin, Cond.instanceMethod yX4_nextToBegin, Cond.selects RX4 yX4_nextToBegin yX4_nextToBegin, Cond.code yX4_nextToBegin cX4_nextToBegin 4 (some (.object "IcePads$Jet"))]
def wsL_law_r14 : List Cond := [Cond.fieldLink RX4 141 "IcePads$Jet" "ready" "I", Cond.methodLink RX4 229 yX4_mayBegin, Cond.instanceMethod yX4_mayBegin, Cond.selects RX4 yX4_mayBegin yX4_mayBegin, Cond.code yX4_mayBegin cX4_mayBegin 2 (some .boolean), Cond.methodLink RX4 220 yX1_litresNeeded, Cond.instanceMethod yX1_litresNeeded, Cond.selects RX1 yX1_litresNeeded yX1_litresNeeded, Cond.code yX1_litresNeeded cX1_litresNeeded 1 (some .int), Cond.methodLink RX4 223 yX1_drainNeeded, Cond.instanceMethod yX1_drainNeeded, Cond.selects RX1 yX1_drainNeeded yX1_drainNeeded, Cond.code yX1_drainNeeded cX1_drainNeeded 1 (some .int), Cond.methodLink RX4 226 yX1_begin, Cond.instanceMethod yX1_begin, Cond.selects RX1 yX1_begin yX1_begin, Cond.code yX1_begin cX1_begin 4 none, Cond.methodLink RL 53 yX5_minutes, Cond.instanceMethod yX5_minutes, Cond.selects RX5 yX5_minutes yX5_minutes, Cond.code yX5_minutes cX5_minutes 3 (some .int), Cond.methodLink RX5 139 yX5_oneMinute, Cond.instanceMethod yX5_oneMinute, Cond.selects RX5 yX5_oneMinute yX5_oneMinute]
def wsL_law_r15 : List Cond := [Cond.code yX5_oneMinute cX5_oneMinute 2 none, Cond.fieldLink RX5 123 "IcePadsModel" "drain" "I", Cond.methodLink RX5 132 yX5_leaves, Cond.instanceMethod yX5_leaves, Cond.selects RX5 yX5_leaves yX5_leaves, Cond.code yX5_leaves cX5_leaves 4 none, Cond.methodLink RX5 136 yX5_begins, Cond.instanceMethod yX5_begins, Cond.selects RX5 yX5_begins yX5_begins, Cond.code yX5_begins cX5_begins 4 none, Cond.fieldLink RX5 129 "IcePadsModel" "begun" "I", Cond.methodLink RX5 126 yX5_mayBegin, Cond.instanceMethod yX5_mayBegin, Cond.selects RX5 yX5_mayBegin yX5_mayBegin, Cond.code yX5_mayBegin cX5_mayBegin 2 (some .boolean), Cond.methodLink RL 54 yX4_about, Cond.instanceMethod yX4_about, Cond.selects RX4 yX4_about yX4_about, Cond.code yX4_about cX4_about 4 (some .int), Cond.fieldLink RX4 135 "IcePads$Jet" "pad" "I", Cond.fieldLink RX4 144 "IcePads$Jet" "turnsBack" "I", Cond.fieldLink RX4 147 "IcePads$Jet" "flew" "I", Cond.methodLink RX4 128 yX4_jetAt, Cond.instanceMethod yX4_jetAt]
def wsL_law_r16 : List Cond := [Cond.selects RX4 yX4_jetAt yX4_jetAt, Cond.code yX4_jetAt cX4_jetAt 2 (some (.object "IcePads$Jet")), Cond.methodLink RX4 150 yX1_isGone, Cond.methodLink RX4 154 yX1_late, Cond.instanceMethod yX1_late, Cond.selects RX1 yX1_late yX1_late, Cond.code yX1_late cX1_late 1 (some .int), Cond.methodLink RX1 50 yX1_treatment, Cond.methodLink RL 57 yX5_about, Cond.instanceMethod yX5_about, Cond.selects RX5 yX5_about yX5_about, Cond.code yX5_about cX5_about 5 (some .int), Cond.methodLink RX5 142 yX5_lateOf, Cond.instanceMethod yX5_lateOf, Cond.selects RX5 yX5_lateOf yX5_lateOf, Cond.code yX5_lateOf cX5_lateOf 2 (some .int), Cond.methodLink RL 58 yX4_on, Cond.instanceMethod yX4_on, Cond.selects RX4 yX4_on yX4_on, Cond.code yX4_on cX4_on 3 (some .int), Cond.fieldLink RX4 157 "IcePads$Jet" "number" "I", Cond.methodLink RL 61 yX5_on, Cond.instanceMethod yX5_on, Cond.selects RX5 yX5_on yX5_on]
def wsL_law_r17 : List Cond := [Cond.code yX5_on cX5_on 2 (some .int), Cond.methodLink RL 62 yX4_litres, Cond.instanceMethod yX4_litres, Cond.selects RX4 yX4_litres yX4_litres, Cond.code yX4_litres cX4_litres 3 (some .int), Cond.methodLink RL 65 yX5_litres, Cond.instanceMethod yX5_litres, Cond.selects RX5 yX5_litres yX5_litres, Cond.code yX5_litres cX5_litres 2 (some .int), Cond.methodLink RL 66 yX4_plan, Cond.instanceMethod yX4_plan, Cond.selects RX4 yX4_plan yX4_plan, Cond.code yX4_plan cX4_plan 3 (some .int), Cond.fieldLink RX4 164 "IcePads$Planner" "size" "I", Cond.fieldLink RX4 173 "IcePads$Planner" "least" "I", Cond.methodLink RX4 160 yX2_gather, Cond.instanceMethod yX2_gather, Cond.selects RX2 yX2_gather yX2_gather, Cond.code yX2_gather cX2_gather 4 none, Cond.fieldLink RX2 28 "IcePads$Planner" "size" "I", Cond.methodLink RX2 32 yX1_state, Cond.methodLink RX4 167 yX2_search, Cond.instanceMethod yX2_search, Cond.selects RX2 yX2_search yX2_search]
def wsL_law_r18 : List Cond := [Cond.code yX2_search cX2_search 2 none, Cond.constant RX2 38 (2147483647), Cond.fieldLink RX2 39 "IcePads$Planner" "least" "I", Cond.methodLink RX2 42 yX2_place, Cond.instanceMethod yX2_place, Cond.selects RX2 yX2_place yX2_place, Cond.code yX2_place cX2_place 7 none, Cond.fieldLink RX2 54 "IcePads$Jet" "ready" "I", Cond.methodLink RX2 57 Lib.Math.max.name, Cond.fieldLink RX2 63 "IcePads$Jet" "number" "I", Cond.fieldLink RX2 69 "IcePads$Jet" "firstReady" "I", Cond.methodLink RX2 50 yX2_keep, Cond.instanceMethod yX2_keep, Cond.selects RX2 yX2_keep yX2_keep, Cond.code yX2_keep cX2_keep 3 none, Cond.methodLink RX2 66 yX1_treatment, Cond.methodLink RX4 170 yX2_numberAt, Cond.instanceMethod yX2_numberAt, Cond.selects RX2 yX2_numberAt yX2_numberAt, Cond.code yX2_numberAt cX2_numberAt 2 (some .int), Cond.methodLink RL 69 yX5_plan, Cond.instanceMethod yX5_plan, Cond.selects RX5 yX5_plan yX5_plan, Cond.code yX5_plan cX5_plan 4 (some .int)]
def wsL_law_r19 : List Cond := [Cond.fieldLink RX5 145 "IcePadsModel" "many" "I", Cond.methodLink RX5 155 yX5_findPlan, Cond.instanceMethod yX5_findPlan, Cond.selects RX5 yX5_findPlan yX5_findPlan, Cond.code yX5_findPlan cX5_findPlan 6 (some .int), Cond.methodLink RX5 148 yX5_take, Cond.instanceMethod yX5_take, Cond.selects RX5 yX5_take yX5_take, Cond.code yX5_take cX5_take 8 none, Cond.methodLink RX5 151 yX5_lates, Cond.instanceMethod yX5_lates, Cond.selects RX5 yX5_lates yX5_lates, Cond.code yX5_lates cX5_lates 6 (some .int), Cond.methodLink RL 70 yX4_count, Cond.instanceMethod yX4_count, Cond.selects RX4 yX4_count yX4_count, Cond.code yX4_count cX4_count 2 (some .int), Cond.methodLink RX4 185 yX4_allTurnsBack, Cond.instanceMethod yX4_allTurnsBack, Cond.selects RX4 yX4_allTurnsBack yX4_allTurnsBack, Cond.code yX4_allTurnsBack cX4_allTurnsBack 4 (some .int), Cond.methodLink RX4 188 yX4_allLate, Cond.instanceMethod yX4_allLate, Cond.selects RX4 yX4_allLate yX4_allLate]
def wsL_law_r20 : List Cond := [Cond.code yX4_allLate cX4_allLate 4 (some .int), Cond.methodLink RL 73 yX5_count, Cond.instanceMethod yX5_count, Cond.selects RX5 yX5_count yX5_count, Cond.code yX5_count cX5_count 4 (some .int), Cond.methodLink RX5 158 yX5_ofState, Cond.instanceMethod yX5_ofState, Cond.selects RX5 yX5_ofState yX5_ofState, Cond.code yX5_ofState cX5_ofState 4 (some .int), Cond.methodLink RL 74 yX4_trace, Cond.instanceMethod yX4_trace, Cond.selects RX4 yX4_trace yX4_trace, Cond.code yX4_trace cX4_trace 1 (some .long), Cond.methodLink RL 78 yX5_trace, Cond.instanceMethod yX5_trace, Cond.selects RX5 yX5_trace yX5_trace, Cond.code yX5_trace cX5_trace 1 (some .long)]
def wsL_law : List Cond := (wsL_law_r1 ++ (wsL_law_r2 ++ (wsL_law_r3 ++ (wsL_law_r4 ++ (wsL_law_r5 ++ (wsL_law_r6 ++ (wsL_law_r7 ++ (wsL_law_r8 ++ (wsL_law_r9 ++ (wsL_law_r10 ++ (wsL_law_r11 ++ (wsL_law_r12 ++ (wsL_law_r13 ++ (wsL_law_r14 ++ (wsL_law_r15 ++ (wsL_law_r16 ++ (wsL_law_r17 ++ (wsL_law_r18 ++ (wsL_law_r19 ++ wsL_law_r20))))))))))))))))))) ++ wsX40 ++ wsX50 ++ wsX30 ++ wsX20 ++ wsX00 ++ wsX10 ++ ([] : List Cond)
end
section
set_option maxRecDepth 20000 in
theorem wsL_law_in1 : ∀ w ∈ wsL_law_r1, w ∈ lw_tbl := fun w h => (goodIn_p wsL_law_r1 [42, 45] (by decide +kernel) (by decide +kernel) w h).1
set_option maxRecDepth 20000 in
theorem wsL_law_in2 : ∀ w ∈ wsL_law_r2, w ∈ lw_tbl := fun w h => (goodIn_p wsL_law_r2 [50, 72, 442] (by decide +kernel) (by decide +kernel) w h).1
set_option maxRecDepth 20000 in
theorem wsL_law_in3 : ∀ w ∈ wsL_law_r3, w ∈ lw_tbl := fun w h => (goodIn_p wsL_law_r3 [] (by decide +kernel) (by decide +kernel) w h).1
set_option maxRecDepth 20000 in
theorem wsL_law_in4 : ∀ w ∈ wsL_law_r4, w ∈ lw_tbl := fun w h => (goodIn_p wsL_law_r4 [142, 145, 148, 152, 544, 547] (by decide +kernel) (by decide +kernel) w h).1
set_option maxRecDepth 20000 in
theorem wsL_law_in5 : ∀ w ∈ wsL_law_r5, w ∈ lw_tbl := fun w h => (goodIn_p wsL_law_r5 [157, 161, 164, 168, 551, 172] (by decide +kernel) (by decide +kernel) w h).1
set_option maxRecDepth 20000 in
theorem wsL_law_in6 : ∀ w ∈ wsL_law_r6, w ∈ lw_tbl := fun w h => (goodIn_p wsL_law_r6 [176, 180, 184, 187, 555, 559] (by decide +kernel) (by decide +kernel) w h).1
set_option maxRecDepth 20000 in
theorem wsL_law_in7 : ∀ w ∈ wsL_law_r7, w ∈ lw_tbl := fun w h => (goodIn_p wsL_law_r7 [563, 191, 194, 198] (by decide +kernel) (by decide +kernel) w h).1
set_option maxRecDepth 20000 in
theorem wsL_law_in8 : ∀ w ∈ wsL_law_r8, w ∈ lw_tbl := fun w h => (goodIn_p wsL_law_r8 [567, 220, 224, 228, 232, 236] (by decide +kernel) (by decide +kernel) w h).1
set_option maxRecDepth 20000 in
theorem wsL_law_in9 : ∀ w ∈ wsL_law_r9, w ∈ lw_tbl := fun w h => (goodIn_p wsL_law_r9 [240, 571, 575, 581, 244] (by decide +kernel) (by decide +kernel) w h).1
set_option maxRecDepth 20000 in
theorem wsL_law_in10 : ∀ w ∈ wsL_law_r10, w ∈ lw_tbl := fun w h => (goodIn_p wsL_law_r10 [585, 248, 252, 256, 260] (by decide +kernel) (by decide +kernel) w h).1
set_option maxRecDepth 20000 in
theorem wsL_law_in11 : ∀ w ∈ wsL_law_r11, w ∈ lw_tbl := fun w h => (goodIn_p wsL_law_r11 [264, 268, 272, 593, 276, 280] (by decide +kernel) (by decide +kernel) w h).1
set_option maxRecDepth 20000 in
theorem wsL_law_in12 : ∀ w ∈ wsL_law_r12, w ∈ lw_tbl := fun w h => (goodIn_p wsL_law_r12 [597, 329, 333] (by decide +kernel) (by decide +kernel) w h).1
set_option maxRecDepth 20000 in
theorem wsL_law_in13 : ∀ w ∈ wsL_law_r13, w ∈ lw_tbl := fun w h => (goodIn_p wsL_law_r13 [338, 342, 346, 350, 354] (by decide +kernel) (by decide +kernel) w h).1
set_option maxRecDepth 20000 in
theorem wsL_law_in14 : ∀ w ∈ wsL_law_r14, w ∈ lw_tbl := fun w h => (goodIn_p wsL_law_r14 [358, 362, 366, 370, 601] (by decide +kernel) (by decide +kernel) w h).1
set_option maxRecDepth 20000 in
theorem wsL_law_in15 : ∀ w ∈ wsL_law_r15, w ∈ lw_tbl := fun w h => (goodIn_p wsL_law_r15 [605, 609, 613, 617, 374] (by decide +kernel) (by decide +kernel) w h).1
set_option maxRecDepth 20000 in
theorem wsL_law_in16 : ∀ w ∈ wsL_law_r16, w ∈ lw_tbl := fun w h => (goodIn_p wsL_law_r16 [378, 383, 621, 625, 388] (by decide +kernel) (by decide +kernel) w h).1
set_option maxRecDepth 20000 in
theorem wsL_law_in17 : ∀ w ∈ wsL_law_r17, w ∈ lw_tbl := fun w h => (goodIn_p wsL_law_r17 [629, 392, 589, 396, 400] (by decide +kernel) (by decide +kernel) w h).1
set_option maxRecDepth 20000 in
theorem wsL_law_in18 : ∀ w ∈ wsL_law_r18, w ∈ lw_tbl := fun w h => (goodIn_p wsL_law_r18 [405, 410, 414, 420, 633] (by decide +kernel) (by decide +kernel) w h).1
set_option maxRecDepth 20000 in
theorem wsL_law_in19 : ∀ w ∈ wsL_law_r19, w ∈ lw_tbl := fun w h => (goodIn_p wsL_law_r19 [637, 641, 645, 425, 429] (by decide +kernel) (by decide +kernel) w h).1
set_option maxRecDepth 20000 in
theorem wsL_law_in20 : ∀ w ∈ wsL_law_r20, w ∈ lw_tbl := fun w h => (goodIn_p wsL_law_r20 [433, 649, 653, 437, 657] (by decide +kernel) (by decide +kernel) w h).1
theorem wsL_law_inX4 : ∀ w ∈ wsX40, w ∈ lw_tbl := by decide +kernel
theorem wsL_law_inX5 : ∀ w ∈ wsX50, w ∈ lw_tbl := by decide +kernel
theorem wsL_law_inX3 : ∀ w ∈ wsX30, w ∈ lw_tbl := by decide +kernel
theorem wsL_law_inX2 : ∀ w ∈ wsX20, w ∈ lw_tbl := by decide +kernel
theorem wsL_law_inX0 : ∀ w ∈ wsX00, w ∈ lw_tbl := by decide +kernel
theorem wsL_law_inX1 : ∀ w ∈ wsX10, w ∈ lw_tbl := by decide +kernel
theorem wsL_law_in : ∀ w ∈ wsL_law, w ∈ lw_tbl := by
  intro w h
  have k : ∀ (a b : List Cond), (∀ w ∈ a, w ∈ lw_tbl) → (∀ w ∈ b, w ∈ lw_tbl) → ∀ w ∈ a ++ b, w ∈ lw_tbl := fun a b ha hb w h => (List.mem_append.mp h).elim (ha w) (hb w)
  refine k _ _ (k _ _ (k _ _ (k _ _ (k _ _ (k _ _ (k _ _ ?_ wsL_law_inX4) wsL_law_inX5) wsL_law_inX3) wsL_law_inX2) wsL_law_inX0) wsL_law_inX1) (fun _ h => absurd h List.not_mem_nil) w h
  exact k _ _ wsL_law_in1 (k _ _ wsL_law_in2 (k _ _ wsL_law_in3 (k _ _ wsL_law_in4 (k _ _ wsL_law_in5 (k _ _ wsL_law_in6 (k _ _ wsL_law_in7 (k _ _ wsL_law_in8 (k _ _ wsL_law_in9 (k _ _ wsL_law_in10 (k _ _ wsL_law_in11 (k _ _ wsL_law_in12 (k _ _ wsL_law_in13 (k _ _ wsL_law_in14 (k _ _ wsL_law_in15 (k _ _ wsL_law_in16 (k _ _ wsL_law_in17 (k _ _ wsL_law_in18 (k _ _ wsL_law_in19 (wsL_law_in20)))))))))))))))))))
theorem inlX0 : ∀ w ∈ wsX00, w ∈ wsL_law := fun _ h => List.mem_append_left _ (List.mem_append_left _ (List.mem_append_right _ h))
theorem inX0 : ∀ w ∈ wsX00, w ∈ lw_tbl := fun w h => wsL_law_in w (inlX0 w h)
theorem inlX1 : ∀ w ∈ wsX10, w ∈ wsL_law := fun _ h => List.mem_append_left _ (List.mem_append_right _ h)
theorem inX1 : ∀ w ∈ wsX10, w ∈ lw_tbl := fun w h => wsL_law_in w (inlX1 w h)
theorem inlX2 : ∀ w ∈ wsX20, w ∈ wsL_law := fun _ h => List.mem_append_left _ (List.mem_append_left _ (List.mem_append_left _ (List.mem_append_right _ h)))
theorem inX2 : ∀ w ∈ wsX20, w ∈ lw_tbl := fun w h => wsL_law_in w (inlX2 w h)
theorem inlX3 : ∀ w ∈ wsX30, w ∈ wsL_law := fun _ h => List.mem_append_left _ (List.mem_append_left _ (List.mem_append_left _ (List.mem_append_left _ (List.mem_append_right _ h))))
theorem inX3 : ∀ w ∈ wsX30, w ∈ lw_tbl := fun w h => wsL_law_in w (inlX3 w h)
theorem inlX4 : ∀ w ∈ wsX40, w ∈ wsL_law := fun _ h => List.mem_append_left _ (List.mem_append_left _ (List.mem_append_left _ (List.mem_append_left _ (List.mem_append_left _ (List.mem_append_left _ (List.mem_append_right _ h))))))
theorem inX4 : ∀ w ∈ wsX40, w ∈ lw_tbl := fun w h => wsL_law_in w (inlX4 w h)
theorem inlX5 : ∀ w ∈ wsX50, w ∈ wsL_law := fun _ h => List.mem_append_left _ (List.mem_append_left _ (List.mem_append_left _ (List.mem_append_left _ (List.mem_append_left _ (List.mem_append_right _ h)))))
theorem inX5 : ∀ w ∈ wsX50, w ∈ lw_tbl := fun w h => wsL_law_in w (inlX5 w h)
theorem inJ9 : ∀ w ∈ wsJ90, w ∈ lw_tbl := by decide +kernel
end
section
theorem dX0_init_0 : decode cX0_init 0 = .ok (.aload_n 0, 1) := by decide +kernel
theorem dX0_init_1 : decode cX0_init 1 = .ok (.invokespecial 1, 3) := by decide +kernel
theorem dX0_init_4 : decode cX0_init 4 = .ok (.aload_n 0, 1) := by decide +kernel
theorem dX0_init_5 : decode cX0_init 5 = .ok (.iload_n 1, 1) := by decide +kernel
theorem dX0_init_6 : decode cX0_init 6 = .ok (.putfield 7, 3) := by decide +kernel
theorem dX0_init_9 : decode cX0_init 9 = .ok (.aload_n 0, 1) := by decide +kernel
theorem dX0_init_10 : decode cX0_init 10 = .ok (.aload_n 2, 1) := by decide +kernel
theorem dX0_init_11 : decode cX0_init 11 = .ok (.putfield 13, 3) := by decide +kernel
theorem dX0_init_14 : decode cX0_init 14 = .ok (.aload_n 0, 1) := by decide +kernel
theorem dX0_init_15 : decode cX0_init 15 = .ok (.iload_n 3, 1) := by decide +kernel
theorem dX0_init_16 : decode cX0_init 16 = .ok (.putfield 17, 3) := by decide +kernel
theorem dX0_init_19 : decode cX0_init 19 = .ok (.aload_n 0, 1) := by decide +kernel
theorem dX0_init_20 : decode cX0_init 20 = .ok (.iload 4, 2) := by decide +kernel
theorem dX0_init_22 : decode cX0_init 22 = .ok (.putfield 20, 3) := by decide +kernel
theorem dX0_init_25 : decode cX0_init 25 = .ok (.aload_n 0, 1) := by decide +kernel
theorem dX0_init_26 : decode cX0_init 26 = .ok (.iload 5, 2) := by decide +kernel
theorem dX0_init_28 : decode cX0_init 28 = .ok (.putfield 23, 3) := by decide +kernel
theorem dX0_init_31 : decode cX0_init 31 = .ok (.return_, 1) := by decide +kernel
set_option maxRecDepth 20000 in
theorem ggX0_holds_X0_thinHold : GoodIn wsX0_holds wsX0_thinHold := goodIn_r _ [8, 9, 10, 11, 12, 13, 14] (by decide +kernel) (by decide +kernel)
set_option maxRecDepth 20000 in
theorem gX0_holds_X0_thinHold : GoodIn wsX0_holds (wsV RX0 26 RX0 yX0_thinHold wsX0_thinHold) := goodIn_app (goodIn_of _ (by decide +kernel)) ggX0_holds_X0_thinHold
theorem dX0_holds_0 : decode cX0_holds 0 = .ok (.aload_n 0, 1) := by decide +kernel
theorem dX0_holds_1 : decode cX0_holds 1 = .ok (.iload_n 1, 1) := by decide +kernel
theorem dX0_holds_2 : decode cX0_holds 2 = .ok (.iload_n 2, 1) := by decide +kernel
theorem dX0_holds_3 : decode cX0_holds 3 = .ok (.invokevirtual 26, 3) := by decide +kernel
theorem dX0_holds_6 : decode cX0_holds 6 = .ok (.istore_n 3, 1) := by decide +kernel
theorem dX0_holds_7 : decode cX0_holds 7 = .ok (.aload_n 0, 1) := by decide +kernel
theorem dX0_holds_8 : decode cX0_holds 8 = .ok (.getfield 7, 3) := by decide +kernel
theorem dX0_holds_11 : decode cX0_holds 11 = .ok (.ifCond .ne 5, 3) := by decide +kernel
theorem dX0_holds_14 : decode cX0_holds 14 = .ok (.iload_n 3, 1) := by decide +kernel
theorem dX0_holds_15 : decode cX0_holds 15 = .ok (.ireturn, 1) := by decide +kernel
theorem dX0_holds_16 : decode cX0_holds 16 = .ok (.iload_n 3, 1) := by decide +kernel
theorem dX0_holds_17 : decode cX0_holds 17 = .ok (.aload_n 0, 1) := by decide +kernel
theorem dX0_holds_18 : decode cX0_holds 18 = .ok (.getfield 17, 3) := by decide +kernel
theorem dX0_holds_21 : decode cX0_holds 21 = .ok (.imul, 1) := by decide +kernel
theorem dX0_holds_22 : decode cX0_holds 22 = .ok (.istore 4, 2) := by decide +kernel
theorem dX0_holds_24 : decode cX0_holds 24 = .ok (.aload_n 0, 1) := by decide +kernel
theorem dX0_holds_25 : decode cX0_holds 25 = .ok (.getfield 7, 3) := by decide +kernel
theorem dX0_holds_28 : decode cX0_holds 28 = .ok (.iconst 1, 1) := by decide +kernel
theorem dX0_holds_29 : decode cX0_holds 29 = .ok (.if_icmp .ne 8, 3) := by decide +kernel
theorem dX0_holds_32 : decode cX0_holds 32 = .ok (.iload 4, 2) := by decide +kernel
theorem dX0_holds_34 : decode cX0_holds 34 = .ok (.goto 13, 3) := by decide +kernel
theorem dX0_holds_37 : decode cX0_holds 37 = .ok (.iload 4, 2) := by decide +kernel
theorem dX0_holds_39 : decode cX0_holds 39 = .ok (.aload_n 0, 1) := by decide +kernel
theorem dX0_holds_40 : decode cX0_holds 40 = .ok (.getfield 20, 3) := by decide +kernel
theorem dX0_holds_43 : decode cX0_holds 43 = .ok (.imul, 1) := by decide +kernel
theorem dX0_holds_44 : decode cX0_holds 44 = .ok (.bipush 10, 2) := by decide +kernel
theorem dX0_holds_46 : decode cX0_holds 46 = .ok (.idiv, 1) := by decide +kernel
theorem dX0_holds_47 : decode cX0_holds 47 = .ok (.ireturn, 1) := by decide +kernel
theorem dX0_traceOfBodies_0 : decode cX0_traceOfBodies 0 = .ok (.aload_n 0, 1) := by decide +kernel
theorem dX0_traceOfBodies_1 : decode cX0_traceOfBodies 1 = .ok (.getfield 7, 3) := by decide +kernel
theorem dX0_traceOfBodies_4 : decode cX0_traceOfBodies 4 = .ok (.ifCond .ne 5, 3) := by decide +kernel
theorem dX0_traceOfBodies_7 : decode cX0_traceOfBodies 7 = .ok (.iconst 1, 1) := by decide +kernel
theorem dX0_traceOfBodies_8 : decode cX0_traceOfBodies 8 = .ok (.ireturn, 1) := by decide +kernel
theorem dX0_traceOfBodies_9 : decode cX0_traceOfBodies 9 = .ok (.aload_n 0, 1) := by decide +kernel
theorem dX0_traceOfBodies_10 : decode cX0_traceOfBodies 10 = .ok (.getfield 7, 3) := by decide +kernel
theorem dX0_traceOfBodies_13 : decode cX0_traceOfBodies 13 = .ok (.iconst 1, 1) := by decide +kernel
theorem dX0_traceOfBodies_14 : decode cX0_traceOfBodies 14 = .ok (.if_icmp .ne 8, 3) := by decide +kernel
theorem dX0_traceOfBodies_17 : decode cX0_traceOfBodies 17 = .ok (.bipush 11, 2) := by decide +kernel
theorem dX0_traceOfBodies_19 : decode cX0_traceOfBodies 19 = .ok (.goto 5, 3) := by decide +kernel
theorem dX0_traceOfBodies_22 : decode cX0_traceOfBodies 22 = .ok (.bipush 111, 2) := by decide +kernel
theorem dX0_traceOfBodies_24 : decode cX0_traceOfBodies 24 = .ok (.ireturn, 1) := by decide +kernel
theorem dX0_thinHold_0 : decode cX0_thinHold 0 = .ok (.iload_n 2, 1) := by decide +kernel
theorem dX0_thinHold_1 : decode cX0_thinHold 1 = .ok (.ifCond .lt 12, 3) := by decide +kernel
theorem dX0_thinHold_4 : decode cX0_thinHold 4 = .ok (.iload_n 2, 1) := by decide +kernel
theorem dX0_thinHold_5 : decode cX0_thinHold 5 = .ok (.aload_n 0, 1) := by decide +kernel
theorem dX0_thinHold_6 : decode cX0_thinHold 6 = .ok (.getfield 13, 3) := by decide +kernel
theorem dX0_thinHold_9 : decode cX0_thinHold 9 = .ok (.arraylength, 1) := by decide +kernel
theorem dX0_thinHold_10 : decode cX0_thinHold 10 = .ok (.if_icmp .lt 5, 3) := by decide +kernel
theorem dX0_thinHold_13 : decode cX0_thinHold 13 = .ok (.iconst 0, 1) := by decide +kernel
theorem dX0_thinHold_14 : decode cX0_thinHold 14 = .ok (.ireturn, 1) := by decide +kernel
theorem dX0_thinHold_15 : decode cX0_thinHold 15 = .ok (.iload_n 1, 1) := by decide +kernel
theorem dX0_thinHold_16 : decode cX0_thinHold 16 = .ok (.bipush (-10), 2) := by decide +kernel
theorem dX0_thinHold_18 : decode cX0_thinHold 18 = .ok (.if_icmp .ge 14, 3) := by decide +kernel
theorem dX0_thinHold_21 : decode cX0_thinHold 21 = .ok (.aload_n 0, 1) := by decide +kernel
theorem dX0_thinHold_22 : decode cX0_thinHold 22 = .ok (.getfield 13, 3) := by decide +kernel
theorem dX0_thinHold_25 : decode cX0_thinHold 25 = .ok (.iload_n 2, 1) := by decide +kernel
theorem dX0_thinHold_26 : decode cX0_thinHold 26 = .ok (.iaload, 1) := by decide +kernel
theorem dX0_thinHold_27 : decode cX0_thinHold 27 = .ok (.iconst 2, 1) := by decide +kernel
theorem dX0_thinHold_28 : decode cX0_thinHold 28 = .ok (.idiv, 1) := by decide +kernel
theorem dX0_thinHold_29 : decode cX0_thinHold 29 = .ok (.goto 9, 3) := by decide +kernel
theorem dX0_thinHold_32 : decode cX0_thinHold 32 = .ok (.aload_n 0, 1) := by decide +kernel
theorem dX0_thinHold_33 : decode cX0_thinHold 33 = .ok (.getfield 13, 3) := by decide +kernel
theorem dX0_thinHold_36 : decode cX0_thinHold 36 = .ok (.iload_n 2, 1) := by decide +kernel
theorem dX0_thinHold_37 : decode cX0_thinHold 37 = .ok (.iaload, 1) := by decide +kernel
theorem dX0_thinHold_38 : decode cX0_thinHold 38 = .ok (.ireturn, 1) := by decide +kernel
theorem dX1_init_0 : decode cX1_init 0 = .ok (.aload_n 0, 1) := by decide +kernel
theorem dX1_init_1 : decode cX1_init 1 = .ok (.invokespecial 3, 3) := by decide +kernel
theorem dX1_init_4 : decode cX1_init 4 = .ok (.aload_n 0, 1) := by decide +kernel
theorem dX1_init_5 : decode cX1_init 5 = .ok (.sipush (-900), 3) := by decide +kernel
theorem dX1_init_8 : decode cX1_init 8 = .ok (.putfield 9, 3) := by decide +kernel
theorem dX1_init_11 : decode cX1_init 11 = .ok (.aload_n 0, 1) := by decide +kernel
theorem dX1_init_12 : decode cX1_init 12 = .ok (.sipush (-900), 3) := by decide +kernel
theorem dX1_init_15 : decode cX1_init 15 = .ok (.putfield 15, 3) := by decide +kernel
theorem dX1_init_18 : decode cX1_init 18 = .ok (.aload_n 0, 1) := by decide +kernel
theorem dX1_init_19 : decode cX1_init 19 = .ok (.sipush (-900), 3) := by decide +kernel
theorem dX1_init_22 : decode cX1_init 22 = .ok (.putfield 18, 3) := by decide +kernel
theorem dX1_init_25 : decode cX1_init 25 = .ok (.aload_n 0, 1) := by decide +kernel
theorem dX1_init_26 : decode cX1_init 26 = .ok (.iload_n 1, 1) := by decide +kernel
theorem dX1_init_27 : decode cX1_init 27 = .ok (.putfield 21, 3) := by decide +kernel
theorem dX1_init_30 : decode cX1_init 30 = .ok (.aload_n 0, 1) := by decide +kernel
theorem dX1_init_31 : decode cX1_init 31 = .ok (.iload_n 2, 1) := by decide +kernel
theorem dX1_init_32 : decode cX1_init 32 = .ok (.putfield 24, 3) := by decide +kernel
theorem dX1_init_35 : decode cX1_init 35 = .ok (.aload_n 0, 1) := by decide +kernel
theorem dX1_init_36 : decode cX1_init 36 = .ok (.iload_n 3, 1) := by decide +kernel
theorem dX1_init_37 : decode cX1_init 37 = .ok (.putfield 27, 3) := by decide +kernel
theorem dX1_init_40 : decode cX1_init 40 = .ok (.aload_n 0, 1) := by decide +kernel
theorem dX1_init_41 : decode cX1_init 41 = .ok (.iload_n 3, 1) := by decide +kernel
theorem dX1_init_42 : decode cX1_init 42 = .ok (.putfield 30, 3) := by decide +kernel
theorem dX1_init_45 : decode cX1_init 45 = .ok (.aload_n 0, 1) := by decide +kernel
theorem dX1_init_46 : decode cX1_init 46 = .ok (.iload 4, 2) := by decide +kernel
theorem dX1_init_48 : decode cX1_init 48 = .ok (.putfield 33, 3) := by decide +kernel
theorem dX1_init_51 : decode cX1_init 51 = .ok (.aload_n 0, 1) := by decide +kernel
theorem dX1_init_52 : decode cX1_init 52 = .ok (.aload 5, 2) := by decide +kernel
theorem dX1_init_54 : decode cX1_init 54 = .ok (.putfield 36, 3) := by decide +kernel
theorem dX1_init_57 : decode cX1_init 57 = .ok (.return_, 1) := by decide +kernel
set_option maxRecDepth 20000 in
theorem ggX1_state_X1_isGone : GoodIn wsX1_state wsX1_isGone := goodIn_r _ [6, 7, 8, 9, 10, 11, 12, 13, 14, 15, 16, 17, 18] (by decide +kernel) (by decide +kernel)
set_option maxRecDepth 20000 in
theorem gX1_state_X1_isGone : GoodIn wsX1_state (wsV RX1 40 RX1 yX1_isGone wsX1_isGone) := goodIn_app (goodIn_of _ (by decide +kernel)) ggX1_state_X1_isGone
theorem dX1_state_0 : decode cX1_state 0 = .ok (.aload_n 0, 1) := by decide +kernel
theorem dX1_state_1 : decode cX1_state 1 = .ok (.invokevirtual 40, 3) := by decide +kernel
theorem dX1_state_4 : decode cX1_state 4 = .ok (.ifCond .eq 5, 3) := by decide +kernel
theorem dX1_state_7 : decode cX1_state 7 = .ok (.iconst 2, 1) := by decide +kernel
theorem dX1_state_8 : decode cX1_state 8 = .ok (.ireturn, 1) := by decide +kernel
theorem dX1_state_9 : decode cX1_state 9 = .ok (.aload_n 0, 1) := by decide +kernel
theorem dX1_state_10 : decode cX1_state 10 = .ok (.getfield 9, 3) := by decide +kernel
theorem dX1_state_13 : decode cX1_state 13 = .ok (.sipush (-900), 3) := by decide +kernel
theorem dX1_state_16 : decode cX1_state 16 = .ok (.if_icmp .ne 7, 3) := by decide +kernel
theorem dX1_state_19 : decode cX1_state 19 = .ok (.iconst 0, 1) := by decide +kernel
theorem dX1_state_20 : decode cX1_state 20 = .ok (.goto 4, 3) := by decide +kernel
theorem dX1_state_23 : decode cX1_state 23 = .ok (.iconst 1, 1) := by decide +kernel
theorem dX1_state_24 : decode cX1_state 24 = .ok (.ireturn, 1) := by decide +kernel
theorem dX1_isGone_0 : decode cX1_isGone 0 = .ok (.aload_n 0, 1) := by decide +kernel
theorem dX1_isGone_1 : decode cX1_isGone 1 = .ok (.getfield 18, 3) := by decide +kernel
theorem dX1_isGone_4 : decode cX1_isGone 4 = .ok (.sipush (-900), 3) := by decide +kernel
theorem dX1_isGone_7 : decode cX1_isGone 7 = .ok (.if_icmp .eq 7, 3) := by decide +kernel
theorem dX1_isGone_10 : decode cX1_isGone 10 = .ok (.iconst 1, 1) := by decide +kernel
theorem dX1_isGone_11 : decode cX1_isGone 11 = .ok (.goto 4, 3) := by decide +kernel
theorem dX1_isGone_14 : decode cX1_isGone 14 = .ok (.iconst 0, 1) := by decide +kernel
theorem dX1_isGone_15 : decode cX1_isGone 15 = .ok (.ireturn, 1) := by decide +kernel
theorem dX1_treatment_0 : decode cX1_treatment 0 = .ok (.iconst 2, 1) := by decide +kernel
theorem dX1_treatment_1 : decode cX1_treatment 1 = .ok (.aload_n 0, 1) := by decide +kernel
theorem dX1_treatment_2 : decode cX1_treatment 2 = .ok (.getfield 24, 3) := by decide +kernel
theorem dX1_treatment_5 : decode cX1_treatment 5 = .ok (.imul, 1) := by decide +kernel
theorem dX1_treatment_6 : decode cX1_treatment 6 = .ok (.ireturn, 1) := by decide +kernel
theorem dX1_litresNeeded_0 : decode cX1_litresNeeded 0 = .ok (.bipush 10, 2) := by decide +kernel
theorem dX1_litresNeeded_2 : decode cX1_litresNeeded 2 = .ok (.aload_n 0, 1) := by decide +kernel
theorem dX1_litresNeeded_3 : decode cX1_litresNeeded 3 = .ok (.getfield 24, 3) := by decide +kernel
theorem dX1_litresNeeded_6 : decode cX1_litresNeeded 6 = .ok (.imul, 1) := by decide +kernel
theorem dX1_litresNeeded_7 : decode cX1_litresNeeded 7 = .ok (.ireturn, 1) := by decide +kernel
theorem dX1_drainNeeded_0 : decode cX1_drainNeeded 0 = .ok (.bipush 8, 2) := by decide +kernel
theorem dX1_drainNeeded_2 : decode cX1_drainNeeded 2 = .ok (.aload_n 0, 1) := by decide +kernel
theorem dX1_drainNeeded_3 : decode cX1_drainNeeded 3 = .ok (.getfield 24, 3) := by decide +kernel
theorem dX1_drainNeeded_6 : decode cX1_drainNeeded 6 = .ok (.imul, 1) := by decide +kernel
theorem dX1_drainNeeded_7 : decode cX1_drainNeeded 7 = .ok (.ireturn, 1) := by decide +kernel
theorem dX1_begin_0 : decode cX1_begin 0 = .ok (.aload_n 0, 1) := by decide +kernel
theorem dX1_begin_1 : decode cX1_begin 1 = .ok (.iload_n 1, 1) := by decide +kernel
theorem dX1_begin_2 : decode cX1_begin 2 = .ok (.putfield 9, 3) := by decide +kernel
theorem dX1_begin_5 : decode cX1_begin 5 = .ok (.aload_n 0, 1) := by decide +kernel
theorem dX1_begin_6 : decode cX1_begin 6 = .ok (.iload_n 2, 1) := by decide +kernel
theorem dX1_begin_7 : decode cX1_begin 7 = .ok (.putfield 15, 3) := by decide +kernel
theorem dX1_begin_10 : decode cX1_begin 10 = .ok (.aload_n 0, 1) := by decide +kernel
theorem dX1_begin_11 : decode cX1_begin 11 = .ok (.iload_n 2, 1) := by decide +kernel
theorem dX1_begin_12 : decode cX1_begin 12 = .ok (.iload_n 3, 1) := by decide +kernel
theorem dX1_begin_13 : decode cX1_begin 13 = .ok (.iadd, 1) := by decide +kernel
theorem dX1_begin_14 : decode cX1_begin 14 = .ok (.putfield 44, 3) := by decide +kernel
theorem dX1_begin_17 : decode cX1_begin 17 = .ok (.return_, 1) := by decide +kernel
theorem dX1_leave_0 : decode cX1_leave 0 = .ok (.iload_n 1, 1) := by decide +kernel
theorem dX1_leave_1 : decode cX1_leave 1 = .ok (.aload_n 0, 1) := by decide +kernel
theorem dX1_leave_2 : decode cX1_leave 2 = .ok (.getfield 33, 3) := by decide +kernel
theorem dX1_leave_5 : decode cX1_leave 5 = .ok (.iadd, 1) := by decide +kernel
theorem dX1_leave_6 : decode cX1_leave 6 = .ok (.istore_n 2, 1) := by decide +kernel
theorem dX1_leave_7 : decode cX1_leave 7 = .ok (.aload_n 0, 1) := by decide +kernel
theorem dX1_leave_8 : decode cX1_leave 8 = .ok (.sipush (-900), 3) := by decide +kernel
theorem dX1_leave_11 : decode cX1_leave 11 = .ok (.putfield 9, 3) := by decide +kernel
theorem dX1_leave_14 : decode cX1_leave 14 = .ok (.iload_n 2, 1) := by decide +kernel
theorem dX1_leave_15 : decode cX1_leave 15 = .ok (.aload_n 0, 1) := by decide +kernel
theorem dX1_leave_16 : decode cX1_leave 16 = .ok (.getfield 44, 3) := by decide +kernel
theorem dX1_leave_19 : decode cX1_leave 19 = .ok (.if_icmp .gt 11, 3) := by decide +kernel
theorem dX1_leave_22 : decode cX1_leave 22 = .ok (.aload_n 0, 1) := by decide +kernel
theorem dX1_leave_23 : decode cX1_leave 23 = .ok (.iload_n 2, 1) := by decide +kernel
theorem dX1_leave_24 : decode cX1_leave 24 = .ok (.putfield 18, 3) := by decide +kernel
theorem dX1_leave_27 : decode cX1_leave 27 = .ok (.goto 18, 3) := by decide +kernel
theorem dX1_leave_30 : decode cX1_leave 30 = .ok (.aload_n 0, 1) := by decide +kernel
theorem dX1_leave_31 : decode cX1_leave 31 = .ok (.iload_n 2, 1) := by decide +kernel
theorem dX1_leave_32 : decode cX1_leave 32 = .ok (.putfield 30, 3) := by decide +kernel
theorem dX1_leave_35 : decode cX1_leave 35 = .ok (.aload_n 0, 1) := by decide +kernel
theorem dX1_leave_36 : decode cX1_leave 36 = .ok (.dup, 1) := by decide +kernel
theorem dX1_leave_37 : decode cX1_leave 37 = .ok (.getfield 47, 3) := by decide +kernel
theorem dX1_leave_40 : decode cX1_leave 40 = .ok (.iconst 1, 1) := by decide +kernel
theorem dX1_leave_41 : decode cX1_leave 41 = .ok (.iadd, 1) := by decide +kernel
theorem dX1_leave_42 : decode cX1_leave 42 = .ok (.putfield 47, 3) := by decide +kernel
theorem dX1_leave_45 : decode cX1_leave 45 = .ok (.return_, 1) := by decide +kernel
set_option maxRecDepth 20000 in
theorem ggX1_late_X1_treatment : GoodIn wsX1_late wsX1_treatment := goodIn_r _ [8, 9, 10, 11, 12, 13, 14, 15, 16, 17, 18, 19, 20] (by decide +kernel) (by decide +kernel)
set_option maxRecDepth 20000 in
theorem gX1_late_X1_treatment : GoodIn wsX1_late (wsV RX1 50 RX1 yX1_treatment wsX1_treatment) := goodIn_app (goodIn_of _ (by decide +kernel)) ggX1_late_X1_treatment
theorem dX1_late_0 : decode cX1_late 0 = .ok (.aload_n 0, 1) := by decide +kernel
theorem dX1_late_1 : decode cX1_late 1 = .ok (.getfield 18, 3) := by decide +kernel
theorem dX1_late_4 : decode cX1_late 4 = .ok (.aload_n 0, 1) := by decide +kernel
theorem dX1_late_5 : decode cX1_late 5 = .ok (.getfield 27, 3) := by decide +kernel
theorem dX1_late_8 : decode cX1_late 8 = .ok (.isub, 1) := by decide +kernel
theorem dX1_late_9 : decode cX1_late 9 = .ok (.aload_n 0, 1) := by decide +kernel
theorem dX1_late_10 : decode cX1_late 10 = .ok (.invokevirtual 50, 3) := by decide +kernel
theorem dX1_late_13 : decode cX1_late 13 = .ok (.isub, 1) := by decide +kernel
theorem dX1_late_14 : decode cX1_late 14 = .ok (.aload_n 0, 1) := by decide +kernel
theorem dX1_late_15 : decode cX1_late 15 = .ok (.getfield 33, 3) := by decide +kernel
theorem dX1_late_18 : decode cX1_late 18 = .ok (.isub, 1) := by decide +kernel
theorem dX1_late_19 : decode cX1_late 19 = .ok (.ireturn, 1) := by decide +kernel
theorem dX2_init_0 : decode cX2_init 0 = .ok (.aload_n 0, 1) := by decide +kernel
theorem dX2_init_1 : decode cX2_init 1 = .ok (.invokespecial 3, 3) := by decide +kernel
theorem dX2_init_4 : decode cX2_init 4 = .ok (.aload_n 0, 1) := by decide +kernel
theorem dX2_init_5 : decode cX2_init 5 = .ok (.iconst 5, 1) := by decide +kernel
theorem dX2_init_6 : decode cX2_init 6 = .ok (.anewarray 9, 3) := by decide +kernel
theorem dX2_init_9 : decode cX2_init 9 = .ok (.putfield 11, 3) := by decide +kernel
theorem dX2_init_12 : decode cX2_init 12 = .ok (.aload_n 0, 1) := by decide +kernel
theorem dX2_init_13 : decode cX2_init 13 = .ok (.iconst 5, 1) := by decide +kernel
theorem dX2_init_14 : decode cX2_init 14 = .ok (.newarray .boolean, 2) := by decide +kernel
theorem dX2_init_16 : decode cX2_init 16 = .ok (.putfield 17, 3) := by decide +kernel
theorem dX2_init_19 : decode cX2_init 19 = .ok (.aload_n 0, 1) := by decide +kernel
theorem dX2_init_20 : decode cX2_init 20 = .ok (.iconst 5, 1) := by decide +kernel
theorem dX2_init_21 : decode cX2_init 21 = .ok (.newarray .int, 2) := by decide +kernel
theorem dX2_init_23 : decode cX2_init 23 = .ok (.putfield 21, 3) := by decide +kernel
theorem dX2_init_26 : decode cX2_init 26 = .ok (.aload_n 0, 1) := by decide +kernel
theorem dX2_init_27 : decode cX2_init 27 = .ok (.iconst 5, 1) := by decide +kernel
theorem dX2_init_28 : decode cX2_init 28 = .ok (.newarray .int, 2) := by decide +kernel
theorem dX2_init_30 : decode cX2_init 30 = .ok (.putfield 25, 3) := by decide +kernel
theorem dX2_init_33 : decode cX2_init 33 = .ok (.return_, 1) := by decide +kernel
set_option maxRecDepth 20000 in
theorem ggX2_gather_X1_state : GoodIn wsX2_gather wsX1_state := goodIn_r _ [7, 8, 9, 10, 11, 6, 12, 13, 20, 21, 22, 23, 24, 25, 26, 27, 28, 29, 30] (by decide +kernel) (by decide +kernel)
set_option maxRecDepth 20000 in
theorem gX2_gather_X1_state : GoodIn wsX2_gather (wsV RX2 32 RX1 yX1_state wsX1_state) := goodIn_app (goodIn_of _ (by decide +kernel)) ggX2_gather_X1_state
theorem dX2_gather_0 : decode cX2_gather 0 = .ok (.aload_n 0, 1) := by decide +kernel
theorem dX2_gather_1 : decode cX2_gather 1 = .ok (.iconst 0, 1) := by decide +kernel
theorem dX2_gather_2 : decode cX2_gather 2 = .ok (.putfield 28, 3) := by decide +kernel
theorem dX2_gather_5 : decode cX2_gather 5 = .ok (.iconst 0, 1) := by decide +kernel
theorem dX2_gather_6 : decode cX2_gather 6 = .ok (.istore_n 2, 1) := by decide +kernel
theorem dX2_gather_7 : decode cX2_gather 7 = .ok (.iload_n 2, 1) := by decide +kernel
theorem dX2_gather_8 : decode cX2_gather 8 = .ok (.aload_n 1, 1) := by decide +kernel
theorem dX2_gather_9 : decode cX2_gather 9 = .ok (.arraylength, 1) := by decide +kernel
theorem dX2_gather_10 : decode cX2_gather 10 = .ok (.if_icmp .ge 59, 3) := by decide +kernel
theorem dX2_gather_13 : decode cX2_gather 13 = .ok (.aload_n 0, 1) := by decide +kernel
theorem dX2_gather_14 : decode cX2_gather 14 = .ok (.getfield 28, 3) := by decide +kernel
theorem dX2_gather_17 : decode cX2_gather 17 = .ok (.aload_n 0, 1) := by decide +kernel
theorem dX2_gather_18 : decode cX2_gather 18 = .ok (.getfield 11, 3) := by decide +kernel
theorem dX2_gather_21 : decode cX2_gather 21 = .ok (.arraylength, 1) := by decide +kernel
theorem dX2_gather_22 : decode cX2_gather 22 = .ok (.if_icmp .ge 47, 3) := by decide +kernel
theorem dX2_gather_25 : decode cX2_gather 25 = .ok (.aload_n 1, 1) := by decide +kernel
theorem dX2_gather_26 : decode cX2_gather 26 = .ok (.iload_n 2, 1) := by decide +kernel
theorem dX2_gather_27 : decode cX2_gather 27 = .ok (.aaload, 1) := by decide +kernel
theorem dX2_gather_28 : decode cX2_gather 28 = .ok (.astore_n 3, 1) := by decide +kernel
theorem dX2_gather_29 : decode cX2_gather 29 = .ok (.aload_n 3, 1) := by decide +kernel
theorem dX2_gather_30 : decode cX2_gather 30 = .ok (.ifnull 33, 3) := by decide +kernel
theorem dX2_gather_33 : decode cX2_gather 33 = .ok (.aload_n 3, 1) := by decide +kernel
theorem dX2_gather_34 : decode cX2_gather 34 = .ok (.invokevirtual 32, 3) := by decide +kernel
theorem dX2_gather_37 : decode cX2_gather 37 = .ok (.ifCond .eq 6, 3) := by decide +kernel
theorem dX2_gather_40 : decode cX2_gather 40 = .ok (.goto 23, 3) := by decide +kernel
theorem dX2_gather_43 : decode cX2_gather 43 = .ok (.aload_n 0, 1) := by decide +kernel
theorem dX2_gather_44 : decode cX2_gather 44 = .ok (.getfield 11, 3) := by decide +kernel
theorem dX2_gather_47 : decode cX2_gather 47 = .ok (.aload_n 0, 1) := by decide +kernel
theorem dX2_gather_48 : decode cX2_gather 48 = .ok (.getfield 28, 3) := by decide +kernel
theorem dX2_gather_51 : decode cX2_gather 51 = .ok (.aload_n 3, 1) := by decide +kernel
theorem dX2_gather_52 : decode cX2_gather 52 = .ok (.aastore, 1) := by decide +kernel
theorem dX2_gather_53 : decode cX2_gather 53 = .ok (.aload_n 0, 1) := by decide +kernel
theorem dX2_gather_54 : decode cX2_gather 54 = .ok (.dup, 1) := by decide +kernel
theorem dX2_gather_55 : decode cX2_gather 55 = .ok (.getfield 28, 3) := by decide +kernel
theorem dX2_gather_58 : decode cX2_gather 58 = .ok (.iconst 1, 1) := by decide +kernel
theorem dX2_gather_59 : decode cX2_gather 59 = .ok (.iadd, 1) := by decide +kernel
theorem dX2_gather_60 : decode cX2_gather 60 = .ok (.putfield 28, 3) := by decide +kernel
theorem dX2_gather_63 : decode cX2_gather 63 = .ok (.iinc 2 1, 3) := by decide +kernel
theorem dX2_gather_66 : decode cX2_gather 66 = .ok (.goto (-59), 3) := by decide +kernel
theorem dX2_gather_69 : decode cX2_gather 69 = .ok (.return_, 1) := by decide +kernel
set_option maxRecDepth 20000 in
theorem ggX2_search_X2_place : GoodIn wsX2_search wsX2_place := goodIn_r _ [7, 2, 8, 9, 10, 11, 12, 13, 14, 15, 16, 17, 18, 19, 20, 21, 6, 22, 23, 24, 25, 26, 27, 28, 29, 3, 4, 5, 30, 31, 32, 33, 34, 35, 36, 37, 38, 39, 40, 41, 42, 43, 44, 45, 46] (by decide +kernel) (by decide +kernel)
set_option maxRecDepth 20000 in
theorem gX2_search_X2_place : GoodIn wsX2_search (wsV RX2 42 RX2 yX2_place wsX2_place) := goodIn_app (goodIn_of _ (by decide +kernel)) ggX2_search_X2_place
theorem dX2_search_0 : decode cX2_search 0 = .ok (.aload_n 0, 1) := by decide +kernel
theorem dX2_search_1 : decode cX2_search 1 = .ok (.ldc 38, 2) := by decide +kernel
theorem dX2_search_3 : decode cX2_search 3 = .ok (.putfield 39, 3) := by decide +kernel
theorem dX2_search_6 : decode cX2_search 6 = .ok (.aload_n 0, 1) := by decide +kernel
theorem dX2_search_7 : decode cX2_search 7 = .ok (.iconst 0, 1) := by decide +kernel
theorem dX2_search_8 : decode cX2_search 8 = .ok (.iload_n 1, 1) := by decide +kernel
theorem dX2_search_9 : decode cX2_search 9 = .ok (.iconst 0, 1) := by decide +kernel
theorem dX2_search_10 : decode cX2_search 10 = .ok (.invokevirtual 42, 3) := by decide +kernel
theorem dX2_search_13 : decode cX2_search 13 = .ok (.return_, 1) := by decide +kernel
set_option maxRecDepth 20000 in
theorem ggX2_numberAt_X4_within : GoodIn wsX2_numberAt wsX4_within := goodIn_r _ [5] (by decide +kernel) (by decide +kernel)
set_option maxRecDepth 20000 in
theorem gX2_numberAt_X4_within_n46 : GoodIn wsX2_numberAt (wsX4_within) := ggX2_numberAt_X4_within
theorem dX2_numberAt_0 : decode cX2_numberAt 0 = .ok (.iload_n 1, 1) := by decide +kernel
theorem dX2_numberAt_1 : decode cX2_numberAt 1 = .ok (.iconst 0, 1) := by decide +kernel
theorem dX2_numberAt_2 : decode cX2_numberAt 2 = .ok (.aload_n 0, 1) := by decide +kernel
theorem dX2_numberAt_3 : decode cX2_numberAt 3 = .ok (.getfield 28, 3) := by decide +kernel
theorem dX2_numberAt_6 : decode cX2_numberAt 6 = .ok (.iconst 1, 1) := by decide +kernel
theorem dX2_numberAt_7 : decode cX2_numberAt 7 = .ok (.isub, 1) := by decide +kernel
theorem dX2_numberAt_8 : decode cX2_numberAt 8 = .ok (.invokestatic 46, 3) := by decide +kernel
theorem dX2_numberAt_11 : decode cX2_numberAt 11 = .ok (.ifCond .eq 12, 3) := by decide +kernel
theorem dX2_numberAt_14 : decode cX2_numberAt 14 = .ok (.aload_n 0, 1) := by decide +kernel
theorem dX2_numberAt_15 : decode cX2_numberAt 15 = .ok (.getfield 25, 3) := by decide +kernel
theorem dX2_numberAt_18 : decode cX2_numberAt 18 = .ok (.iload_n 1, 1) := by decide +kernel
theorem dX2_numberAt_19 : decode cX2_numberAt 19 = .ok (.iaload, 1) := by decide +kernel
theorem dX2_numberAt_20 : decode cX2_numberAt 20 = .ok (.goto 6, 3) := by decide +kernel
theorem dX2_numberAt_23 : decode cX2_numberAt 23 = .ok (.sipush (-900), 3) := by decide +kernel
theorem dX2_numberAt_26 : decode cX2_numberAt 26 = .ok (.ireturn, 1) := by decide +kernel
set_option maxRecDepth 20000 in
theorem ggX2_place_X2_keep : GoodIn wsX2_place wsX2_keep := goodIn_r _ [17, 1, 2, 18, 10, 28, 29, 30, 31, 32, 33] (by decide +kernel) (by decide +kernel)
set_option maxRecDepth 20000 in
theorem gX2_place_X2_keep : GoodIn wsX2_place (wsV RX2 50 RX2 yX2_keep wsX2_keep) := goodIn_app (goodIn_of _ (by decide +kernel)) ggX2_place_X2_keep
set_option maxRecDepth 20000 in
theorem ggX2_place_X1_treatment : GoodIn wsX2_place wsX1_treatment := goodIn_r _ [23, 24, 34, 35, 36, 37, 38, 39, 40, 41, 42, 43, 44] (by decide +kernel) (by decide +kernel)
set_option maxRecDepth 20000 in
theorem gX2_place_X1_treatment : GoodIn wsX2_place (wsV RX2 66 RX1 yX1_treatment wsX1_treatment) := goodIn_app (goodIn_of _ (by decide +kernel)) ggX2_place_X1_treatment
set_option maxRecDepth 20000 in
theorem ggX2_place_X2_place : GoodIn wsX2_place wsX2_place := goodIn_r _ [0, 1, 2, 3, 4, 5, 6, 7, 8, 9, 10, 11, 12, 13, 14, 15, 16, 17, 18, 19, 20, 21, 22, 23, 24, 25, 26, 27, 28, 29, 30, 31, 32, 33, 34, 35, 36, 37, 38, 39, 40, 41, 42, 43, 44] (by decide +kernel) (by decide +kernel)
set_option maxRecDepth 20000 in
theorem gX2_place_X2_place : GoodIn wsX2_place (wsV RX2 42 RX2 yX2_place wsX2_place) := goodIn_app (goodIn_of _ (by decide +kernel)) ggX2_place_X2_place
theorem dX2_place_0 : decode cX2_place 0 = .ok (.iload_n 3, 1) := by decide +kernel
theorem dX2_place_1 : decode cX2_place 1 = .ok (.aload_n 0, 1) := by decide +kernel
theorem dX2_place_2 : decode cX2_place 2 = .ok (.getfield 39, 3) := by decide +kernel
theorem dX2_place_5 : decode cX2_place 5 = .ok (.if_icmp .lt 4, 3) := by decide +kernel
theorem dX2_place_8 : decode cX2_place 8 = .ok (.return_, 1) := by decide +kernel
theorem dX2_place_9 : decode cX2_place 9 = .ok (.iload_n 1, 1) := by decide +kernel
theorem dX2_place_10 : decode cX2_place 10 = .ok (.aload_n 0, 1) := by decide +kernel
theorem dX2_place_11 : decode cX2_place 11 = .ok (.getfield 28, 3) := by decide +kernel
theorem dX2_place_14 : decode cX2_place 14 = .ok (.if_icmp .lt 9, 3) := by decide +kernel
theorem dX2_place_17 : decode cX2_place 17 = .ok (.aload_n 0, 1) := by decide +kernel
theorem dX2_place_18 : decode cX2_place 18 = .ok (.iload_n 3, 1) := by decide +kernel
theorem dX2_place_19 : decode cX2_place 19 = .ok (.invokevirtual 50, 3) := by decide +kernel
theorem dX2_place_22 : decode cX2_place 22 = .ok (.return_, 1) := by decide +kernel
theorem dX2_place_23 : decode cX2_place 23 = .ok (.iconst 0, 1) := by decide +kernel
theorem dX2_place_24 : decode cX2_place 24 = .ok (.istore 4, 2) := by decide +kernel
theorem dX2_place_26 : decode cX2_place 26 = .ok (.iload 4, 2) := by decide +kernel
theorem dX2_place_28 : decode cX2_place 28 = .ok (.aload_n 0, 1) := by decide +kernel
theorem dX2_place_29 : decode cX2_place 29 = .ok (.getfield 28, 3) := by decide +kernel
theorem dX2_place_32 : decode cX2_place 32 = .ok (.if_icmp .ge 99, 3) := by decide +kernel
theorem dX2_place_35 : decode cX2_place 35 = .ok (.aload_n 0, 1) := by decide +kernel
theorem dX2_place_36 : decode cX2_place 36 = .ok (.getfield 11, 3) := by decide +kernel
theorem dX2_place_39 : decode cX2_place 39 = .ok (.iload 4, 2) := by decide +kernel
theorem dX2_place_41 : decode cX2_place 41 = .ok (.aaload, 1) := by decide +kernel
theorem dX2_place_42 : decode cX2_place 42 = .ok (.astore 5, 2) := by decide +kernel
theorem dX2_place_44 : decode cX2_place 44 = .ok (.aload 5, 2) := by decide +kernel
theorem dX2_place_46 : decode cX2_place 46 = .ok (.ifnull 79, 3) := by decide +kernel
theorem dX2_place_49 : decode cX2_place 49 = .ok (.aload_n 0, 1) := by decide +kernel
theorem dX2_place_50 : decode cX2_place 50 = .ok (.getfield 17, 3) := by decide +kernel
theorem dX2_place_53 : decode cX2_place 53 = .ok (.iload 4, 2) := by decide +kernel
theorem dX2_place_55 : decode cX2_place 55 = .ok (.baload, 1) := by decide +kernel
theorem dX2_place_56 : decode cX2_place 56 = .ok (.ifCond .eq 6, 3) := by decide +kernel
theorem dX2_place_59 : decode cX2_place 59 = .ok (.goto 66, 3) := by decide +kernel
theorem dX2_place_62 : decode cX2_place 62 = .ok (.iload_n 2, 1) := by decide +kernel
theorem dX2_place_63 : decode cX2_place 63 = .ok (.aload 5, 2) := by decide +kernel
theorem dX2_place_65 : decode cX2_place 65 = .ok (.getfield 54, 3) := by decide +kernel
theorem dX2_place_68 : decode cX2_place 68 = .ok (.invokestatic 57, 3) := by decide +kernel
theorem dX2_place_71 : decode cX2_place 71 = .ok (.istore 6, 2) := by decide +kernel
theorem dX2_place_73 : decode cX2_place 73 = .ok (.aload_n 0, 1) := by decide +kernel
theorem dX2_place_74 : decode cX2_place 74 = .ok (.getfield 17, 3) := by decide +kernel
theorem dX2_place_77 : decode cX2_place 77 = .ok (.iload 4, 2) := by decide +kernel
theorem dX2_place_79 : decode cX2_place 79 = .ok (.iconst 1, 1) := by decide +kernel
theorem dX2_place_80 : decode cX2_place 80 = .ok (.bastore, 1) := by decide +kernel
theorem dX2_place_81 : decode cX2_place 81 = .ok (.aload_n 0, 1) := by decide +kernel
theorem dX2_place_82 : decode cX2_place 82 = .ok (.getfield 21, 3) := by decide +kernel
theorem dX2_place_85 : decode cX2_place 85 = .ok (.iload_n 1, 1) := by decide +kernel
theorem dX2_place_86 : decode cX2_place 86 = .ok (.aload 5, 2) := by decide +kernel
theorem dX2_place_88 : decode cX2_place 88 = .ok (.getfield 63, 3) := by decide +kernel
theorem dX2_place_91 : decode cX2_place 91 = .ok (.iastore, 1) := by decide +kernel
theorem dX2_place_92 : decode cX2_place 92 = .ok (.aload_n 0, 1) := by decide +kernel
theorem dX2_place_93 : decode cX2_place 93 = .ok (.iload_n 1, 1) := by decide +kernel
theorem dX2_place_94 : decode cX2_place 94 = .ok (.iconst 1, 1) := by decide +kernel
theorem dX2_place_95 : decode cX2_place 95 = .ok (.iadd, 1) := by decide +kernel
theorem dX2_place_96 : decode cX2_place 96 = .ok (.iload 6, 2) := by decide +kernel
theorem dX2_place_98 : decode cX2_place 98 = .ok (.aload 5, 2) := by decide +kernel
theorem dX2_place_100 : decode cX2_place 100 = .ok (.invokevirtual 66, 3) := by decide +kernel
theorem dX2_place_103 : decode cX2_place 103 = .ok (.iadd, 1) := by decide +kernel
theorem dX2_place_104 : decode cX2_place 104 = .ok (.iload_n 3, 1) := by decide +kernel
theorem dX2_place_105 : decode cX2_place 105 = .ok (.iload 6, 2) := by decide +kernel
theorem dX2_place_107 : decode cX2_place 107 = .ok (.iadd, 1) := by decide +kernel
theorem dX2_place_108 : decode cX2_place 108 = .ok (.aload 5, 2) := by decide +kernel
theorem dX2_place_110 : decode cX2_place 110 = .ok (.getfield 69, 3) := by decide +kernel
theorem dX2_place_113 : decode cX2_place 113 = .ok (.isub, 1) := by decide +kernel
theorem dX2_place_114 : decode cX2_place 114 = .ok (.invokevirtual 42, 3) := by decide +kernel
theorem dX2_place_117 : decode cX2_place 117 = .ok (.aload_n 0, 1) := by decide +kernel
theorem dX2_place_118 : decode cX2_place 118 = .ok (.getfield 17, 3) := by decide +kernel
theorem dX2_place_121 : decode cX2_place 121 = .ok (.iload 4, 2) := by decide +kernel
theorem dX2_place_123 : decode cX2_place 123 = .ok (.iconst 0, 1) := by decide +kernel
theorem dX2_place_124 : decode cX2_place 124 = .ok (.bastore, 1) := by decide +kernel
theorem dX2_place_125 : decode cX2_place 125 = .ok (.iinc 4 1, 3) := by decide +kernel
theorem dX2_place_128 : decode cX2_place 128 = .ok (.goto (-102), 3) := by decide +kernel
theorem dX2_place_131 : decode cX2_place 131 = .ok (.return_, 1) := by decide +kernel
theorem dX2_keep_0 : decode cX2_keep 0 = .ok (.aload_n 0, 1) := by decide +kernel
theorem dX2_keep_1 : decode cX2_keep 1 = .ok (.iload_n 1, 1) := by decide +kernel
theorem dX2_keep_2 : decode cX2_keep 2 = .ok (.putfield 39, 3) := by decide +kernel
theorem dX2_keep_5 : decode cX2_keep 5 = .ok (.iconst 0, 1) := by decide +kernel
theorem dX2_keep_6 : decode cX2_keep 6 = .ok (.istore_n 2, 1) := by decide +kernel
theorem dX2_keep_7 : decode cX2_keep 7 = .ok (.iload_n 2, 1) := by decide +kernel
theorem dX2_keep_8 : decode cX2_keep 8 = .ok (.aload_n 0, 1) := by decide +kernel
theorem dX2_keep_9 : decode cX2_keep 9 = .ok (.getfield 28, 3) := by decide +kernel
theorem dX2_keep_12 : decode cX2_keep 12 = .ok (.if_icmp .ge 21, 3) := by decide +kernel
theorem dX2_keep_15 : decode cX2_keep 15 = .ok (.aload_n 0, 1) := by decide +kernel
theorem dX2_keep_16 : decode cX2_keep 16 = .ok (.getfield 25, 3) := by decide +kernel
theorem dX2_keep_19 : decode cX2_keep 19 = .ok (.iload_n 2, 1) := by decide +kernel
theorem dX2_keep_20 : decode cX2_keep 20 = .ok (.aload_n 0, 1) := by decide +kernel
theorem dX2_keep_21 : decode cX2_keep 21 = .ok (.getfield 21, 3) := by decide +kernel
theorem dX2_keep_24 : decode cX2_keep 24 = .ok (.iload_n 2, 1) := by decide +kernel
theorem dX2_keep_25 : decode cX2_keep 25 = .ok (.iaload, 1) := by decide +kernel
theorem dX2_keep_26 : decode cX2_keep 26 = .ok (.iastore, 1) := by decide +kernel
theorem dX2_keep_27 : decode cX2_keep 27 = .ok (.iinc 2 1, 3) := by decide +kernel
theorem dX2_keep_30 : decode cX2_keep 30 = .ok (.goto (-23), 3) := by decide +kernel
theorem dX2_keep_33 : decode cX2_keep 33 = .ok (.return_, 1) := by decide +kernel
theorem dX3_init_0 : decode cX3_init 0 = .ok (.aload_n 0, 1) := by decide +kernel
theorem dX3_init_1 : decode cX3_init 1 = .ok (.invokespecial 3, 3) := by decide +kernel
theorem dX3_init_4 : decode cX3_init 4 = .ok (.aload_n 0, 1) := by decide +kernel
theorem dX3_init_5 : decode cX3_init 5 = .ok (.sipush 300, 3) := by decide +kernel
theorem dX3_init_8 : decode cX3_init 8 = .ok (.newarray .int, 2) := by decide +kernel
theorem dX3_init_10 : decode cX3_init 10 = .ok (.putfield 9, 3) := by decide +kernel
theorem dX3_init_13 : decode cX3_init 13 = .ok (.aload_n 0, 1) := by decide +kernel
theorem dX3_init_14 : decode cX3_init 14 = .ok (.sipush 300, 3) := by decide +kernel
theorem dX3_init_17 : decode cX3_init 17 = .ok (.newarray .int, 2) := by decide +kernel
theorem dX3_init_19 : decode cX3_init 19 = .ok (.putfield 15, 3) := by decide +kernel
theorem dX3_init_22 : decode cX3_init 22 = .ok (.aload_n 0, 1) := by decide +kernel
theorem dX3_init_23 : decode cX3_init 23 = .ok (.sipush 300, 3) := by decide +kernel
theorem dX3_init_26 : decode cX3_init 26 = .ok (.newarray .boolean, 2) := by decide +kernel
theorem dX3_init_28 : decode cX3_init 28 = .ok (.putfield 18, 3) := by decide +kernel
theorem dX3_init_31 : decode cX3_init 31 = .ok (.return_, 1) := by decide +kernel
theorem dX3_isTold_0 : decode cX3_isTold 0 = .ok (.iload_n 1, 1) := by decide +kernel
theorem dX3_isTold_1 : decode cX3_isTold 1 = .ok (.ifCond .lt 25, 3) := by decide +kernel
theorem dX3_isTold_4 : decode cX3_isTold 4 = .ok (.iload_n 1, 1) := by decide +kernel
theorem dX3_isTold_5 : decode cX3_isTold 5 = .ok (.aload_n 0, 1) := by decide +kernel
theorem dX3_isTold_6 : decode cX3_isTold 6 = .ok (.getfield 18, 3) := by decide +kernel
theorem dX3_isTold_9 : decode cX3_isTold 9 = .ok (.arraylength, 1) := by decide +kernel
theorem dX3_isTold_10 : decode cX3_isTold 10 = .ok (.if_icmp .ge 16, 3) := by decide +kernel
theorem dX3_isTold_13 : decode cX3_isTold 13 = .ok (.aload_n 0, 1) := by decide +kernel
theorem dX3_isTold_14 : decode cX3_isTold 14 = .ok (.getfield 18, 3) := by decide +kernel
theorem dX3_isTold_17 : decode cX3_isTold 17 = .ok (.iload_n 1, 1) := by decide +kernel
theorem dX3_isTold_18 : decode cX3_isTold 18 = .ok (.baload, 1) := by decide +kernel
theorem dX3_isTold_19 : decode cX3_isTold 19 = .ok (.ifCond .eq 7, 3) := by decide +kernel
theorem dX3_isTold_22 : decode cX3_isTold 22 = .ok (.iconst 1, 1) := by decide +kernel
theorem dX3_isTold_23 : decode cX3_isTold 23 = .ok (.goto 4, 3) := by decide +kernel
theorem dX3_isTold_26 : decode cX3_isTold 26 = .ok (.iconst 0, 1) := by decide +kernel
theorem dX3_isTold_27 : decode cX3_isTold 27 = .ok (.ireturn, 1) := by decide +kernel
set_option maxRecDepth 20000 in
theorem ggX3_tell_X4_isMinute : GoodIn wsX3_tell wsX4_isMinute := goodIn_r _ [6, 7, 8, 5, 9] (by decide +kernel) (by decide +kernel)
set_option maxRecDepth 20000 in
theorem gX3_tell_X4_isMinute_n22 : GoodIn wsX3_tell (wsX4_isMinute) := ggX3_tell_X4_isMinute
theorem dX3_tell_0 : decode cX3_tell 0 = .ok (.iload_n 1, 1) := by decide +kernel
theorem dX3_tell_1 : decode cX3_tell 1 = .ok (.invokestatic 22, 3) := by decide +kernel
theorem dX3_tell_4 : decode cX3_tell 4 = .ok (.ifCond .ne 4, 3) := by decide +kernel
theorem dX3_tell_7 : decode cX3_tell 7 = .ok (.return_, 1) := by decide +kernel
theorem dX3_tell_8 : decode cX3_tell 8 = .ok (.aload_n 0, 1) := by decide +kernel
theorem dX3_tell_9 : decode cX3_tell 9 = .ok (.getfield 9, 3) := by decide +kernel
theorem dX3_tell_12 : decode cX3_tell 12 = .ok (.iload_n 1, 1) := by decide +kernel
theorem dX3_tell_13 : decode cX3_tell 13 = .ok (.iload_n 2, 1) := by decide +kernel
theorem dX3_tell_14 : decode cX3_tell 14 = .ok (.iastore, 1) := by decide +kernel
theorem dX3_tell_15 : decode cX3_tell 15 = .ok (.aload_n 0, 1) := by decide +kernel
theorem dX3_tell_16 : decode cX3_tell 16 = .ok (.getfield 15, 3) := by decide +kernel
theorem dX3_tell_19 : decode cX3_tell 19 = .ok (.iload_n 1, 1) := by decide +kernel
theorem dX3_tell_20 : decode cX3_tell 20 = .ok (.iload_n 3, 1) := by decide +kernel
theorem dX3_tell_21 : decode cX3_tell 21 = .ok (.iastore, 1) := by decide +kernel
theorem dX3_tell_22 : decode cX3_tell 22 = .ok (.aload_n 0, 1) := by decide +kernel
theorem dX3_tell_23 : decode cX3_tell 23 = .ok (.getfield 18, 3) := by decide +kernel
theorem dX3_tell_26 : decode cX3_tell 26 = .ok (.iload_n 1, 1) := by decide +kernel
theorem dX3_tell_27 : decode cX3_tell 27 = .ok (.iconst 1, 1) := by decide +kernel
theorem dX3_tell_28 : decode cX3_tell 28 = .ok (.bastore, 1) := by decide +kernel
theorem dX3_tell_29 : decode cX3_tell 29 = .ok (.return_, 1) := by decide +kernel
set_option maxRecDepth 20000 in
theorem ggX3_lose_X4_isMinute : GoodIn wsX3_lose wsX4_isMinute := goodIn_r _ [4, 5, 6, 3, 7] (by decide +kernel) (by decide +kernel)
set_option maxRecDepth 20000 in
theorem gX3_lose_X4_isMinute_n22 : GoodIn wsX3_lose (wsX4_isMinute) := ggX3_lose_X4_isMinute
theorem dX3_lose_0 : decode cX3_lose 0 = .ok (.iload_n 1, 1) := by decide +kernel
theorem dX3_lose_1 : decode cX3_lose 1 = .ok (.invokestatic 22, 3) := by decide +kernel
theorem dX3_lose_4 : decode cX3_lose 4 = .ok (.ifCond .eq 10, 3) := by decide +kernel
theorem dX3_lose_7 : decode cX3_lose 7 = .ok (.aload_n 0, 1) := by decide +kernel
theorem dX3_lose_8 : decode cX3_lose 8 = .ok (.getfield 18, 3) := by decide +kernel
theorem dX3_lose_11 : decode cX3_lose 11 = .ok (.iload_n 1, 1) := by decide +kernel
theorem dX3_lose_12 : decode cX3_lose 12 = .ok (.iconst 0, 1) := by decide +kernel
theorem dX3_lose_13 : decode cX3_lose 13 = .ok (.bastore, 1) := by decide +kernel
theorem dX3_lose_14 : decode cX3_lose 14 = .ok (.return_, 1) := by decide +kernel
set_option maxRecDepth 20000 in
theorem ggX3_coldIn_X3_isTold : GoodIn wsX3_coldIn wsX3_isTold := goodIn_r _ [10, 11, 12, 13, 14] (by decide +kernel) (by decide +kernel)
set_option maxRecDepth 20000 in
theorem gX3_coldIn_X3_isTold : GoodIn wsX3_coldIn (wsV RX3 26 RX3 yX3_isTold wsX3_isTold) := goodIn_app (goodIn_of _ (by decide +kernel)) ggX3_coldIn_X3_isTold
theorem dX3_coldIn_0 : decode cX3_coldIn 0 = .ok (.aload_n 0, 1) := by decide +kernel
theorem dX3_coldIn_1 : decode cX3_coldIn 1 = .ok (.iload_n 1, 1) := by decide +kernel
theorem dX3_coldIn_2 : decode cX3_coldIn 2 = .ok (.invokevirtual 26, 3) := by decide +kernel
theorem dX3_coldIn_5 : decode cX3_coldIn 5 = .ok (.ifCond .eq 10, 3) := by decide +kernel
theorem dX3_coldIn_8 : decode cX3_coldIn 8 = .ok (.aload_n 0, 1) := by decide +kernel
theorem dX3_coldIn_9 : decode cX3_coldIn 9 = .ok (.getfield 9, 3) := by decide +kernel
theorem dX3_coldIn_12 : decode cX3_coldIn 12 = .ok (.iload_n 1, 1) := by decide +kernel
theorem dX3_coldIn_13 : decode cX3_coldIn 13 = .ok (.iaload, 1) := by decide +kernel
theorem dX3_coldIn_14 : decode cX3_coldIn 14 = .ok (.ireturn, 1) := by decide +kernel
theorem dX3_coldIn_15 : decode cX3_coldIn 15 = .ok (.iconst 0, 1) := by decide +kernel
theorem dX3_coldIn_16 : decode cX3_coldIn 16 = .ok (.istore_n 2, 1) := by decide +kernel
theorem dX3_coldIn_17 : decode cX3_coldIn 17 = .ok (.iconst 0, 1) := by decide +kernel
theorem dX3_coldIn_18 : decode cX3_coldIn 18 = .ok (.istore_n 3, 1) := by decide +kernel
theorem dX3_coldIn_19 : decode cX3_coldIn 19 = .ok (.iconst 1, 1) := by decide +kernel
theorem dX3_coldIn_20 : decode cX3_coldIn 20 = .ok (.istore 4, 2) := by decide +kernel
theorem dX3_coldIn_22 : decode cX3_coldIn 22 = .ok (.iload 4, 2) := by decide +kernel
theorem dX3_coldIn_24 : decode cX3_coldIn 24 = .ok (.bipush 30, 2) := by decide +kernel
theorem dX3_coldIn_26 : decode cX3_coldIn 26 = .ok (.if_icmp .gt 55, 3) := by decide +kernel
theorem dX3_coldIn_29 : decode cX3_coldIn 29 = .ok (.iload_n 1, 1) := by decide +kernel
theorem dX3_coldIn_30 : decode cX3_coldIn 30 = .ok (.iload 4, 2) := by decide +kernel
theorem dX3_coldIn_32 : decode cX3_coldIn 32 = .ok (.isub, 1) := by decide +kernel
theorem dX3_coldIn_33 : decode cX3_coldIn 33 = .ok (.istore 5, 2) := by decide +kernel
theorem dX3_coldIn_35 : decode cX3_coldIn 35 = .ok (.aload_n 0, 1) := by decide +kernel
theorem dX3_coldIn_36 : decode cX3_coldIn 36 = .ok (.iload 5, 2) := by decide +kernel
theorem dX3_coldIn_38 : decode cX3_coldIn 38 = .ok (.invokevirtual 26, 3) := by decide +kernel
theorem dX3_coldIn_41 : decode cX3_coldIn 41 = .ok (.ifCond .ne 6, 3) := by decide +kernel
theorem dX3_coldIn_44 : decode cX3_coldIn 44 = .ok (.goto 31, 3) := by decide +kernel
theorem dX3_coldIn_47 : decode cX3_coldIn 47 = .ok (.iload_n 2, 1) := by decide +kernel
theorem dX3_coldIn_48 : decode cX3_coldIn 48 = .ok (.ifCond .eq 17, 3) := by decide +kernel
theorem dX3_coldIn_51 : decode cX3_coldIn 51 = .ok (.iload_n 3, 1) := by decide +kernel
theorem dX3_coldIn_52 : decode cX3_coldIn 52 = .ok (.aload_n 0, 1) := by decide +kernel
theorem dX3_coldIn_53 : decode cX3_coldIn 53 = .ok (.getfield 9, 3) := by decide +kernel
theorem dX3_coldIn_56 : decode cX3_coldIn 56 = .ok (.iload 5, 2) := by decide +kernel
theorem dX3_coldIn_58 : decode cX3_coldIn 58 = .ok (.iaload, 1) := by decide +kernel
theorem dX3_coldIn_59 : decode cX3_coldIn 59 = .ok (.invokestatic 29, 3) := by decide +kernel
theorem dX3_coldIn_62 : decode cX3_coldIn 62 = .ok (.goto 10, 3) := by decide +kernel
theorem dX3_coldIn_65 : decode cX3_coldIn 65 = .ok (.aload_n 0, 1) := by decide +kernel
theorem dX3_coldIn_66 : decode cX3_coldIn 66 = .ok (.getfield 9, 3) := by decide +kernel
theorem dX3_coldIn_69 : decode cX3_coldIn 69 = .ok (.iload 5, 2) := by decide +kernel
theorem dX3_coldIn_71 : decode cX3_coldIn 71 = .ok (.iaload, 1) := by decide +kernel
theorem dX3_coldIn_72 : decode cX3_coldIn 72 = .ok (.istore_n 3, 1) := by decide +kernel
theorem dX3_coldIn_73 : decode cX3_coldIn 73 = .ok (.iconst 1, 1) := by decide +kernel
theorem dX3_coldIn_74 : decode cX3_coldIn 74 = .ok (.istore_n 2, 1) := by decide +kernel
theorem dX3_coldIn_75 : decode cX3_coldIn 75 = .ok (.iinc 4 1, 3) := by decide +kernel
theorem dX3_coldIn_78 : decode cX3_coldIn 78 = .ok (.goto (-56), 3) := by decide +kernel
theorem dX3_coldIn_81 : decode cX3_coldIn 81 = .ok (.iload_n 3, 1) := by decide +kernel
theorem dX3_coldIn_82 : decode cX3_coldIn 82 = .ok (.ireturn, 1) := by decide +kernel
set_option maxRecDepth 20000 in
theorem ggX3_fallIn_X3_isTold : GoodIn wsX3_fallIn wsX3_isTold := goodIn_r _ [10, 11, 12, 13, 14] (by decide +kernel) (by decide +kernel)
set_option maxRecDepth 20000 in
theorem gX3_fallIn_X3_isTold : GoodIn wsX3_fallIn (wsV RX3 26 RX3 yX3_isTold wsX3_isTold) := goodIn_app (goodIn_of _ (by decide +kernel)) ggX3_fallIn_X3_isTold
theorem dX3_fallIn_0 : decode cX3_fallIn 0 = .ok (.aload_n 0, 1) := by decide +kernel
theorem dX3_fallIn_1 : decode cX3_fallIn 1 = .ok (.iload_n 1, 1) := by decide +kernel
theorem dX3_fallIn_2 : decode cX3_fallIn 2 = .ok (.invokevirtual 26, 3) := by decide +kernel
theorem dX3_fallIn_5 : decode cX3_fallIn 5 = .ok (.ifCond .eq 10, 3) := by decide +kernel
theorem dX3_fallIn_8 : decode cX3_fallIn 8 = .ok (.aload_n 0, 1) := by decide +kernel
theorem dX3_fallIn_9 : decode cX3_fallIn 9 = .ok (.getfield 15, 3) := by decide +kernel
theorem dX3_fallIn_12 : decode cX3_fallIn 12 = .ok (.iload_n 1, 1) := by decide +kernel
theorem dX3_fallIn_13 : decode cX3_fallIn 13 = .ok (.iaload, 1) := by decide +kernel
theorem dX3_fallIn_14 : decode cX3_fallIn 14 = .ok (.ireturn, 1) := by decide +kernel
theorem dX3_fallIn_15 : decode cX3_fallIn 15 = .ok (.iconst 0, 1) := by decide +kernel
theorem dX3_fallIn_16 : decode cX3_fallIn 16 = .ok (.istore_n 2, 1) := by decide +kernel
theorem dX3_fallIn_17 : decode cX3_fallIn 17 = .ok (.iconst 1, 1) := by decide +kernel
theorem dX3_fallIn_18 : decode cX3_fallIn 18 = .ok (.istore_n 3, 1) := by decide +kernel
theorem dX3_fallIn_19 : decode cX3_fallIn 19 = .ok (.iload_n 3, 1) := by decide +kernel
theorem dX3_fallIn_20 : decode cX3_fallIn 20 = .ok (.bipush 30, 2) := by decide +kernel
theorem dX3_fallIn_22 : decode cX3_fallIn 22 = .ok (.if_icmp .gt 35, 3) := by decide +kernel
theorem dX3_fallIn_25 : decode cX3_fallIn 25 = .ok (.iload_n 1, 1) := by decide +kernel
theorem dX3_fallIn_26 : decode cX3_fallIn 26 = .ok (.iload_n 3, 1) := by decide +kernel
theorem dX3_fallIn_27 : decode cX3_fallIn 27 = .ok (.isub, 1) := by decide +kernel
theorem dX3_fallIn_28 : decode cX3_fallIn 28 = .ok (.istore 4, 2) := by decide +kernel
theorem dX3_fallIn_30 : decode cX3_fallIn 30 = .ok (.aload_n 0, 1) := by decide +kernel
theorem dX3_fallIn_31 : decode cX3_fallIn 31 = .ok (.iload 4, 2) := by decide +kernel
theorem dX3_fallIn_33 : decode cX3_fallIn 33 = .ok (.invokevirtual 26, 3) := by decide +kernel
theorem dX3_fallIn_36 : decode cX3_fallIn 36 = .ok (.ifCond .eq 15, 3) := by decide +kernel
theorem dX3_fallIn_39 : decode cX3_fallIn 39 = .ok (.iload_n 2, 1) := by decide +kernel
theorem dX3_fallIn_40 : decode cX3_fallIn 40 = .ok (.aload_n 0, 1) := by decide +kernel
theorem dX3_fallIn_41 : decode cX3_fallIn 41 = .ok (.getfield 15, 3) := by decide +kernel
theorem dX3_fallIn_44 : decode cX3_fallIn 44 = .ok (.iload 4, 2) := by decide +kernel
theorem dX3_fallIn_46 : decode cX3_fallIn 46 = .ok (.iaload, 1) := by decide +kernel
theorem dX3_fallIn_47 : decode cX3_fallIn 47 = .ok (.invokestatic 35, 3) := by decide +kernel
theorem dX3_fallIn_50 : decode cX3_fallIn 50 = .ok (.istore_n 2, 1) := by decide +kernel
theorem dX3_fallIn_51 : decode cX3_fallIn 51 = .ok (.iinc 3 1, 3) := by decide +kernel
theorem dX3_fallIn_54 : decode cX3_fallIn 54 = .ok (.goto (-35), 3) := by decide +kernel
theorem dX3_fallIn_57 : decode cX3_fallIn 57 = .ok (.iload_n 2, 1) := by decide +kernel
theorem dX3_fallIn_58 : decode cX3_fallIn 58 = .ok (.ireturn, 1) := by decide +kernel
set_option maxRecDepth 20000 in
theorem ggX4_init_X3_init : GoodIn wsX4_init wsX3_init := goodIn_r _ [21, 22, 2, 3, 23, 24, 25, 26, 27, 36, 37, 38] (by decide +kernel) (by decide +kernel)
set_option maxRecDepth 20000 in
theorem gX4_init_X3_init_n9 : GoodIn wsX4_init (wsX3_init) := ggX4_init_X3_init
set_option maxRecDepth 20000 in
theorem ggX4_init_X2_init : GoodIn wsX4_init wsX2_init := goodIn_r _ [29, 30, 2, 3, 31, 32, 26, 33, 23, 34, 35, 53, 54, 55, 56, 57, 58] (by decide +kernel) (by decide +kernel)
set_option maxRecDepth 20000 in
theorem gX4_init_X2_init_n33 : GoodIn wsX4_init (wsX2_init) := ggX4_init_X2_init
theorem dX4_init_0 : decode cX4_init 0 = .ok (.aload_n 0, 1) := by decide +kernel
theorem dX4_init_1 : decode cX4_init 1 = .ok (.invokespecial 1, 3) := by decide +kernel
theorem dX4_init_4 : decode cX4_init 4 = .ok (.aload_n 0, 1) := by decide +kernel
theorem dX4_init_5 : decode cX4_init 5 = .ok (.new 7, 3) := by decide +kernel
theorem dX4_init_8 : decode cX4_init 8 = .ok (.dup, 1) := by decide +kernel
theorem dX4_init_9 : decode cX4_init 9 = .ok (.invokespecial 9, 3) := by decide +kernel
theorem dX4_init_12 : decode cX4_init 12 = .ok (.putfield 10, 3) := by decide +kernel
theorem dX4_init_15 : decode cX4_init 15 = .ok (.aload_n 0, 1) := by decide +kernel
theorem dX4_init_16 : decode cX4_init 16 = .ok (.iconst 4, 1) := by decide +kernel
theorem dX4_init_17 : decode cX4_init 17 = .ok (.anewarray 16, 3) := by decide +kernel
theorem dX4_init_20 : decode cX4_init 20 = .ok (.putfield 18, 3) := by decide +kernel
theorem dX4_init_23 : decode cX4_init 23 = .ok (.aload_n 0, 1) := by decide +kernel
theorem dX4_init_24 : decode cX4_init 24 = .ok (.bipush 12, 2) := by decide +kernel
theorem dX4_init_26 : decode cX4_init 26 = .ok (.anewarray 22, 3) := by decide +kernel
theorem dX4_init_29 : decode cX4_init 29 = .ok (.putfield 24, 3) := by decide +kernel
theorem dX4_init_32 : decode cX4_init 32 = .ok (.aload_n 0, 1) := by decide +kernel
theorem dX4_init_33 : decode cX4_init 33 = .ok (.iconst 3, 1) := by decide +kernel
theorem dX4_init_34 : decode cX4_init 34 = .ok (.anewarray 22, 3) := by decide +kernel
theorem dX4_init_37 : decode cX4_init 37 = .ok (.putfield 28, 3) := by decide +kernel
theorem dX4_init_40 : decode cX4_init 40 = .ok (.aload_n 0, 1) := by decide +kernel
theorem dX4_init_41 : decode cX4_init 41 = .ok (.new 31, 3) := by decide +kernel
theorem dX4_init_44 : decode cX4_init 44 = .ok (.dup, 1) := by decide +kernel
theorem dX4_init_45 : decode cX4_init 45 = .ok (.invokespecial 33, 3) := by decide +kernel
theorem dX4_init_48 : decode cX4_init 48 = .ok (.putfield 34, 3) := by decide +kernel
theorem dX4_init_51 : decode cX4_init 51 = .ok (.aload_n 0, 1) := by decide +kernel
theorem dX4_init_52 : decode cX4_init 52 = .ok (.iconst 1, 1) := by decide +kernel
theorem dX4_init_53 : decode cX4_init 53 = .ok (.putfield 38, 3) := by decide +kernel
theorem dX4_init_56 : decode cX4_init 56 = .ok (.aload_n 0, 1) := by decide +kernel
theorem dX4_init_57 : decode cX4_init 57 = .ok (.sipush 200, 3) := by decide +kernel
theorem dX4_init_60 : decode cX4_init 60 = .ok (.putfield 42, 3) := by decide +kernel
theorem dX4_init_63 : decode cX4_init 63 = .ok (.aload_n 0, 1) := by decide +kernel
theorem dX4_init_64 : decode cX4_init 64 = .ok (.iconst 5, 1) := by decide +kernel
theorem dX4_init_65 : decode cX4_init 65 = .ok (.putfield 45, 3) := by decide +kernel
theorem dX4_init_68 : decode cX4_init 68 = .ok (.return_, 1) := by decide +kernel
set_option maxRecDepth 20000 in
theorem ggX4_weather_X4_isMinute : GoodIn wsX4_weather wsX4_isMinute := goodIn_r _ [6, 7, 8, 5, 9] (by decide +kernel) (by decide +kernel)
set_option maxRecDepth 20000 in
theorem gX4_weather_X4_isMinute : GoodIn wsX4_weather (va_wsS RX4 48 yX4_isMinute wsX4_isMinute) := goodIn_app (goodIn_of _ (by decide +kernel)) ggX4_weather_X4_isMinute
set_option maxRecDepth 20000 in
theorem ggX4_weather_X4_within : GoodIn wsX4_weather wsX4_within := goodIn_r _ [9] (by decide +kernel) (by decide +kernel)
set_option maxRecDepth 20000 in
theorem gX4_weather_X4_within : GoodIn wsX4_weather (va_wsS RX4 52 yX4_within wsX4_within) := goodIn_app (goodIn_of _ (by decide +kernel)) ggX4_weather_X4_within
set_option maxRecDepth 20000 in
theorem ggX4_weather_X3_tell : GoodIn wsX4_weather wsX3_tell := goodIn_r _ [14, 15, 16, 17, 4, 5, 6, 7, 8, 9, 32, 33, 34] (by decide +kernel) (by decide +kernel)
set_option maxRecDepth 20000 in
theorem gX4_weather_X3_tell : GoodIn wsX4_weather (wsV RX4 59 RX3 yX3_tell wsX3_tell) := goodIn_app (goodIn_of _ (by decide +kernel)) ggX4_weather_X3_tell
theorem dX4_weather_0 : decode cX4_weather 0 = .ok (.iload_n 1, 1) := by decide +kernel
theorem dX4_weather_1 : decode cX4_weather 1 = .ok (.invokestatic 48, 3) := by decide +kernel
theorem dX4_weather_4 : decode cX4_weather 4 = .ok (.ifCond .eq 22, 3) := by decide +kernel
theorem dX4_weather_7 : decode cX4_weather 7 = .ok (.iload_n 2, 1) := by decide +kernel
theorem dX4_weather_8 : decode cX4_weather 8 = .ok (.bipush (-30), 2) := by decide +kernel
theorem dX4_weather_10 : decode cX4_weather 10 = .ok (.iconst 5, 1) := by decide +kernel
theorem dX4_weather_11 : decode cX4_weather 11 = .ok (.invokestatic 52, 3) := by decide +kernel
theorem dX4_weather_14 : decode cX4_weather 14 = .ok (.ifCond .eq 12, 3) := by decide +kernel
theorem dX4_weather_17 : decode cX4_weather 17 = .ok (.iload_n 3, 1) := by decide +kernel
theorem dX4_weather_18 : decode cX4_weather 18 = .ok (.iconst 0, 1) := by decide +kernel
theorem dX4_weather_19 : decode cX4_weather 19 = .ok (.iconst 3, 1) := by decide +kernel
theorem dX4_weather_20 : decode cX4_weather 20 = .ok (.invokestatic 52, 3) := by decide +kernel
theorem dX4_weather_23 : decode cX4_weather 23 = .ok (.ifCond .ne 6, 3) := by decide +kernel
theorem dX4_weather_26 : decode cX4_weather 26 = .ok (.bipush (-100), 2) := by decide +kernel
theorem dX4_weather_28 : decode cX4_weather 28 = .ok (.ireturn, 1) := by decide +kernel
theorem dX4_weather_29 : decode cX4_weather 29 = .ok (.iload_n 1, 1) := by decide +kernel
theorem dX4_weather_30 : decode cX4_weather 30 = .ok (.aload_n 0, 1) := by decide +kernel
theorem dX4_weather_31 : decode cX4_weather 31 = .ok (.getfield 56, 3) := by decide +kernel
theorem dX4_weather_34 : decode cX4_weather 34 = .ok (.if_icmp .ge 7, 3) := by decide +kernel
theorem dX4_weather_37 : decode cX4_weather 37 = .ok (.sipush (-200), 3) := by decide +kernel
theorem dX4_weather_40 : decode cX4_weather 40 = .ok (.ireturn, 1) := by decide +kernel
theorem dX4_weather_41 : decode cX4_weather 41 = .ok (.aload_n 0, 1) := by decide +kernel
theorem dX4_weather_42 : decode cX4_weather 42 = .ok (.getfield 10, 3) := by decide +kernel
theorem dX4_weather_45 : decode cX4_weather 45 = .ok (.iload_n 1, 1) := by decide +kernel
theorem dX4_weather_46 : decode cX4_weather 46 = .ok (.iload_n 2, 1) := by decide +kernel
theorem dX4_weather_47 : decode cX4_weather 47 = .ok (.iload_n 3, 1) := by decide +kernel
theorem dX4_weather_48 : decode cX4_weather 48 = .ok (.invokevirtual 59, 3) := by decide +kernel
theorem dX4_weather_51 : decode cX4_weather 51 = .ok (.iconst 1, 1) := by decide +kernel
theorem dX4_weather_52 : decode cX4_weather 52 = .ok (.ireturn, 1) := by decide +kernel
set_option maxRecDepth 20000 in
theorem ggX4_loses_X4_isMinute : GoodIn wsX4_loses wsX4_isMinute := goodIn_r _ [6, 7, 8, 5, 9] (by decide +kernel) (by decide +kernel)
set_option maxRecDepth 20000 in
theorem gX4_loses_X4_isMinute : GoodIn wsX4_loses (va_wsS RX4 48 yX4_isMinute wsX4_isMinute) := goodIn_app (goodIn_of _ (by decide +kernel)) ggX4_loses_X4_isMinute
set_option maxRecDepth 20000 in
theorem ggX4_loses_X3_isTold : GoodIn wsX4_loses wsX3_isTold := goodIn_r _ [14, 15, 37, 38, 39] (by decide +kernel) (by decide +kernel)
set_option maxRecDepth 20000 in
theorem gX4_loses_X3_isTold : GoodIn wsX4_loses (wsV RX4 63 RX3 yX3_isTold wsX3_isTold) := goodIn_app (goodIn_of _ (by decide +kernel)) ggX4_loses_X3_isTold
set_option maxRecDepth 20000 in
theorem ggX4_loses_X4_oneIf : GoodIn wsX4_loses wsX4_oneIf := goodIn_r _ [18] (by decide +kernel) (by decide +kernel)
set_option maxRecDepth 20000 in
theorem gX4_loses_X4_oneIf : GoodIn wsX4_loses (va_wsS RX4 66 yX4_oneIf wsX4_oneIf) := goodIn_app (goodIn_of _ (by decide +kernel)) ggX4_loses_X4_oneIf
set_option maxRecDepth 20000 in
theorem ggX4_loses_X3_lose : GoodIn wsX4_loses wsX3_lose := goodIn_r _ [22, 15, 4, 5, 6, 7, 8, 9, 37, 38, 39] (by decide +kernel) (by decide +kernel)
set_option maxRecDepth 20000 in
theorem gX4_loses_X3_lose : GoodIn wsX4_loses (wsV RX4 70 RX3 yX3_lose wsX3_lose) := goodIn_app (goodIn_of _ (by decide +kernel)) ggX4_loses_X3_lose
theorem dX4_loses_0 : decode cX4_loses 0 = .ok (.iload_n 1, 1) := by decide +kernel
theorem dX4_loses_1 : decode cX4_loses 1 = .ok (.invokestatic 48, 3) := by decide +kernel
theorem dX4_loses_4 : decode cX4_loses 4 = .ok (.ifCond .ne 6, 3) := by decide +kernel
theorem dX4_loses_7 : decode cX4_loses 7 = .ok (.bipush (-100), 2) := by decide +kernel
theorem dX4_loses_9 : decode cX4_loses 9 = .ok (.ireturn, 1) := by decide +kernel
theorem dX4_loses_10 : decode cX4_loses 10 = .ok (.iload_n 1, 1) := by decide +kernel
theorem dX4_loses_11 : decode cX4_loses 11 = .ok (.aload_n 0, 1) := by decide +kernel
theorem dX4_loses_12 : decode cX4_loses 12 = .ok (.getfield 56, 3) := by decide +kernel
theorem dX4_loses_15 : decode cX4_loses 15 = .ok (.if_icmp .ge 7, 3) := by decide +kernel
theorem dX4_loses_18 : decode cX4_loses 18 = .ok (.sipush (-200), 3) := by decide +kernel
theorem dX4_loses_21 : decode cX4_loses 21 = .ok (.ireturn, 1) := by decide +kernel
theorem dX4_loses_22 : decode cX4_loses 22 = .ok (.aload_n 0, 1) := by decide +kernel
theorem dX4_loses_23 : decode cX4_loses 23 = .ok (.getfield 10, 3) := by decide +kernel
theorem dX4_loses_26 : decode cX4_loses 26 = .ok (.iload_n 1, 1) := by decide +kernel
theorem dX4_loses_27 : decode cX4_loses 27 = .ok (.invokevirtual 63, 3) := by decide +kernel
theorem dX4_loses_30 : decode cX4_loses 30 = .ok (.invokestatic 66, 3) := by decide +kernel
theorem dX4_loses_33 : decode cX4_loses 33 = .ok (.istore_n 2, 1) := by decide +kernel
theorem dX4_loses_34 : decode cX4_loses 34 = .ok (.aload_n 0, 1) := by decide +kernel
theorem dX4_loses_35 : decode cX4_loses 35 = .ok (.getfield 10, 3) := by decide +kernel
theorem dX4_loses_38 : decode cX4_loses 38 = .ok (.iload_n 1, 1) := by decide +kernel
theorem dX4_loses_39 : decode cX4_loses 39 = .ok (.invokevirtual 70, 3) := by decide +kernel
theorem dX4_loses_42 : decode cX4_loses 42 = .ok (.iload_n 2, 1) := by decide +kernel
theorem dX4_loses_43 : decode cX4_loses 43 = .ok (.ireturn, 1) := by decide +kernel
set_option maxRecDepth 20000 in
theorem ggX4_known_X4_isMinute : GoodIn wsX4_known wsX4_isMinute := goodIn_r _ [5, 6, 7, 4, 8] (by decide +kernel) (by decide +kernel)
set_option maxRecDepth 20000 in
theorem gX4_known_X4_isMinute : GoodIn wsX4_known (va_wsS RX4 48 yX4_isMinute wsX4_isMinute) := goodIn_app (goodIn_of _ (by decide +kernel)) ggX4_known_X4_isMinute
set_option maxRecDepth 20000 in
theorem ggX4_known_X3_coldIn : GoodIn wsX4_known wsX3_coldIn := goodIn_r _ [13, 14, 15, 16, 17, 18, 19, 20, 21, 12, 22, 23, 50, 51, 52] (by decide +kernel) (by decide +kernel)
set_option maxRecDepth 20000 in
theorem gX4_known_X3_coldIn : GoodIn wsX4_known (wsV RX4 74 RX3 yX3_coldIn wsX3_coldIn) := goodIn_app (goodIn_of _ (by decide +kernel)) ggX4_known_X3_coldIn
set_option maxRecDepth 20000 in
theorem ggX4_known_X3_fallIn : GoodIn wsX4_known wsX3_fallIn := goodIn_r _ [27, 28, 29, 30, 17, 31, 19, 20, 21, 12, 22, 23, 50, 51, 52] (by decide +kernel) (by decide +kernel)
set_option maxRecDepth 20000 in
theorem gX4_known_X3_fallIn : GoodIn wsX4_known (wsV RX4 78 RX3 yX3_fallIn wsX3_fallIn) := goodIn_app (goodIn_of _ (by decide +kernel)) ggX4_known_X3_fallIn
set_option maxRecDepth 20000 in
theorem ggX4_known_X3_isTold : GoodIn wsX4_known wsX3_isTold := goodIn_r _ [22, 23, 50, 51, 52] (by decide +kernel) (by decide +kernel)
set_option maxRecDepth 20000 in
theorem gX4_known_X3_isTold : GoodIn wsX4_known (wsV RX4 63 RX3 yX3_isTold wsX3_isTold) := goodIn_app (goodIn_of _ (by decide +kernel)) ggX4_known_X3_isTold
set_option maxRecDepth 20000 in
theorem ggX4_known_X4_oneIf : GoodIn wsX4_known wsX4_oneIf := goodIn_r _ [35] (by decide +kernel) (by decide +kernel)
set_option maxRecDepth 20000 in
theorem gX4_known_X4_oneIf : GoodIn wsX4_known (va_wsS RX4 66 yX4_oneIf wsX4_oneIf) := goodIn_app (goodIn_of _ (by decide +kernel)) ggX4_known_X4_oneIf
theorem dX4_known_0 : decode cX4_known 0 = .ok (.iload_n 1, 1) := by decide +kernel
theorem dX4_known_1 : decode cX4_known 1 = .ok (.invokestatic 48, 3) := by decide +kernel
theorem dX4_known_4 : decode cX4_known 4 = .ok (.ifCond .ne 6, 3) := by decide +kernel
theorem dX4_known_7 : decode cX4_known 7 = .ok (.bipush (-100), 2) := by decide +kernel
theorem dX4_known_9 : decode cX4_known 9 = .ok (.ireturn, 1) := by decide +kernel
theorem dX4_known_10 : decode cX4_known 10 = .ok (.iload_n 2, 1) := by decide +kernel
theorem dX4_known_11 : decode cX4_known 11 = .ok (.tableswitch 55 0 2 #[25, 34, 43], 25) := by decide +kernel
theorem dX4_known_36 : decode cX4_known 36 = .ok (.aload_n 0, 1) := by decide +kernel
theorem dX4_known_37 : decode cX4_known 37 = .ok (.getfield 10, 3) := by decide +kernel
theorem dX4_known_40 : decode cX4_known 40 = .ok (.iload_n 1, 1) := by decide +kernel
theorem dX4_known_41 : decode cX4_known 41 = .ok (.invokevirtual 74, 3) := by decide +kernel
theorem dX4_known_44 : decode cX4_known 44 = .ok (.ireturn, 1) := by decide +kernel
theorem dX4_known_45 : decode cX4_known 45 = .ok (.aload_n 0, 1) := by decide +kernel
theorem dX4_known_46 : decode cX4_known 46 = .ok (.getfield 10, 3) := by decide +kernel
theorem dX4_known_49 : decode cX4_known 49 = .ok (.iload_n 1, 1) := by decide +kernel
theorem dX4_known_50 : decode cX4_known 50 = .ok (.invokevirtual 78, 3) := by decide +kernel
theorem dX4_known_53 : decode cX4_known 53 = .ok (.ireturn, 1) := by decide +kernel
theorem dX4_known_54 : decode cX4_known 54 = .ok (.aload_n 0, 1) := by decide +kernel
theorem dX4_known_55 : decode cX4_known 55 = .ok (.getfield 10, 3) := by decide +kernel
theorem dX4_known_58 : decode cX4_known 58 = .ok (.iload_n 1, 1) := by decide +kernel
theorem dX4_known_59 : decode cX4_known 59 = .ok (.invokevirtual 63, 3) := by decide +kernel
theorem dX4_known_62 : decode cX4_known 62 = .ok (.invokestatic 66, 3) := by decide +kernel
theorem dX4_known_65 : decode cX4_known 65 = .ok (.ireturn, 1) := by decide +kernel
theorem dX4_known_66 : decode cX4_known 66 = .ok (.bipush (-100), 2) := by decide +kernel
theorem dX4_known_68 : decode cX4_known 68 = .ok (.ireturn, 1) := by decide +kernel
set_option maxRecDepth 20000 in
theorem ggX4_fluid_X4_within : GoodIn wsX4_fluid wsX4_within := goodIn_r _ [10] (by decide +kernel) (by decide +kernel)
set_option maxRecDepth 20000 in
theorem gX4_fluid_X4_within : GoodIn wsX4_fluid (va_wsS RX4 52 yX4_within wsX4_within) := goodIn_app (goodIn_of _ (by decide +kernel)) ggX4_fluid_X4_within
set_option maxRecDepth 20000 in
theorem ggX4_fluid_X4_areSpans : GoodIn wsX4_fluid wsX4_areSpans := goodIn_r _ [13] (by decide +kernel) (by decide +kernel)
set_option maxRecDepth 20000 in
theorem gX4_fluid_X4_areSpans : GoodIn wsX4_fluid (va_wsS RX4 81 yX4_areSpans wsX4_areSpans) := goodIn_app (goodIn_of _ (by decide +kernel)) ggX4_fluid_X4_areSpans
set_option maxRecDepth 20000 in
theorem ggX4_fluid_X0_init : GoodIn wsX4_fluid wsX0_init := goodIn_r _ [16, 17, 18, 19, 20, 21, 22, 23, 24, 39, 40, 41, 42, 43] (by decide +kernel) (by decide +kernel)
set_option maxRecDepth 20000 in
theorem gX4_fluid_X0_init : GoodIn wsX4_fluid (wsX0_init) := ggX4_fluid_X0_init
theorem dX4_fluid_0 : decode cX4_fluid 0 = .ok (.iload_n 1, 1) := by decide +kernel
theorem dX4_fluid_1 : decode cX4_fluid 1 = .ok (.iconst 0, 1) := by decide +kernel
theorem dX4_fluid_2 : decode cX4_fluid 2 = .ok (.iconst 2, 1) := by decide +kernel
theorem dX4_fluid_3 : decode cX4_fluid 3 = .ok (.invokestatic 52, 3) := by decide +kernel
theorem dX4_fluid_6 : decode cX4_fluid 6 = .ok (.ifCond .eq 15, 3) := by decide +kernel
theorem dX4_fluid_9 : decode cX4_fluid 9 = .ok (.iload_n 2, 1) := by decide +kernel
theorem dX4_fluid_10 : decode cX4_fluid 10 = .ok (.iload_n 3, 1) := by decide +kernel
theorem dX4_fluid_11 : decode cX4_fluid 11 = .ok (.iload 4, 2) := by decide +kernel
theorem dX4_fluid_13 : decode cX4_fluid 13 = .ok (.iload 5, 2) := by decide +kernel
theorem dX4_fluid_15 : decode cX4_fluid 15 = .ok (.invokestatic 81, 3) := by decide +kernel
theorem dX4_fluid_18 : decode cX4_fluid 18 = .ok (.ifCond .ne 6, 3) := by decide +kernel
theorem dX4_fluid_21 : decode cX4_fluid 21 = .ok (.bipush (-100), 2) := by decide +kernel
theorem dX4_fluid_23 : decode cX4_fluid 23 = .ok (.ireturn, 1) := by decide +kernel
theorem dX4_fluid_24 : decode cX4_fluid 24 = .ok (.iload_n 1, 1) := by decide +kernel
theorem dX4_fluid_25 : decode cX4_fluid 25 = .ok (.ifCond .eq 16, 3) := by decide +kernel
theorem dX4_fluid_28 : decode cX4_fluid 28 = .ok (.iload 6, 2) := by decide +kernel
theorem dX4_fluid_30 : decode cX4_fluid 30 = .ok (.iconst 1, 1) := by decide +kernel
theorem dX4_fluid_31 : decode cX4_fluid 31 = .ok (.iconst 4, 1) := by decide +kernel
theorem dX4_fluid_32 : decode cX4_fluid 32 = .ok (.invokestatic 52, 3) := by decide +kernel
theorem dX4_fluid_35 : decode cX4_fluid 35 = .ok (.ifCond .ne 6, 3) := by decide +kernel
theorem dX4_fluid_38 : decode cX4_fluid 38 = .ok (.bipush (-100), 2) := by decide +kernel
theorem dX4_fluid_40 : decode cX4_fluid 40 = .ok (.ireturn, 1) := by decide +kernel
theorem dX4_fluid_41 : decode cX4_fluid 41 = .ok (.iload_n 1, 1) := by decide +kernel
theorem dX4_fluid_42 : decode cX4_fluid 42 = .ok (.iconst 2, 1) := by decide +kernel
theorem dX4_fluid_43 : decode cX4_fluid 43 = .ok (.if_icmp .ne 17, 3) := by decide +kernel
theorem dX4_fluid_46 : decode cX4_fluid 46 = .ok (.iload 7, 2) := by decide +kernel
theorem dX4_fluid_48 : decode cX4_fluid 48 = .ok (.iconst 1, 1) := by decide +kernel
theorem dX4_fluid_49 : decode cX4_fluid 49 = .ok (.bipush 10, 2) := by decide +kernel
theorem dX4_fluid_51 : decode cX4_fluid 51 = .ok (.invokestatic 52, 3) := by decide +kernel
theorem dX4_fluid_54 : decode cX4_fluid 54 = .ok (.ifCond .ne 6, 3) := by decide +kernel
theorem dX4_fluid_57 : decode cX4_fluid 57 = .ok (.bipush (-100), 2) := by decide +kernel
theorem dX4_fluid_59 : decode cX4_fluid 59 = .ok (.ireturn, 1) := by decide +kernel
theorem dX4_fluid_60 : decode cX4_fluid 60 = .ok (.iload 8, 2) := by decide +kernel
theorem dX4_fluid_62 : decode cX4_fluid 62 = .ok (.iconst 0, 1) := by decide +kernel
theorem dX4_fluid_63 : decode cX4_fluid 63 = .ok (.sipush 2000, 3) := by decide +kernel
theorem dX4_fluid_66 : decode cX4_fluid 66 = .ok (.invokestatic 52, 3) := by decide +kernel
theorem dX4_fluid_69 : decode cX4_fluid 69 = .ok (.ifCond .ne 6, 3) := by decide +kernel
theorem dX4_fluid_72 : decode cX4_fluid 72 = .ok (.bipush (-100), 2) := by decide +kernel
theorem dX4_fluid_74 : decode cX4_fluid 74 = .ok (.ireturn, 1) := by decide +kernel
theorem dX4_fluid_75 : decode cX4_fluid 75 = .ok (.aload_n 0, 1) := by decide +kernel
theorem dX4_fluid_76 : decode cX4_fluid 76 = .ok (.getfield 85, 3) := by decide +kernel
theorem dX4_fluid_79 : decode cX4_fluid 79 = .ok (.aload_n 0, 1) := by decide +kernel
theorem dX4_fluid_80 : decode cX4_fluid 80 = .ok (.getfield 18, 3) := by decide +kernel
theorem dX4_fluid_83 : decode cX4_fluid 83 = .ok (.arraylength, 1) := by decide +kernel
theorem dX4_fluid_84 : decode cX4_fluid 84 = .ok (.if_icmp .lt 7, 3) := by decide +kernel
theorem dX4_fluid_87 : decode cX4_fluid 87 = .ok (.sipush (-300), 3) := by decide +kernel
theorem dX4_fluid_90 : decode cX4_fluid 90 = .ok (.ireturn, 1) := by decide +kernel
theorem dX4_fluid_91 : decode cX4_fluid 91 = .ok (.aload_n 0, 1) := by decide +kernel
theorem dX4_fluid_92 : decode cX4_fluid 92 = .ok (.getfield 85, 3) := by decide +kernel
theorem dX4_fluid_95 : decode cX4_fluid 95 = .ok (.istore 9, 2) := by decide +kernel
theorem dX4_fluid_97 : decode cX4_fluid 97 = .ok (.iconst 4, 1) := by decide +kernel
theorem dX4_fluid_98 : decode cX4_fluid 98 = .ok (.newarray .int, 2) := by decide +kernel
theorem dX4_fluid_100 : decode cX4_fluid 100 = .ok (.dup, 1) := by decide +kernel
theorem dX4_fluid_101 : decode cX4_fluid 101 = .ok (.iconst 0, 1) := by decide +kernel
theorem dX4_fluid_102 : decode cX4_fluid 102 = .ok (.iload_n 2, 1) := by decide +kernel
theorem dX4_fluid_103 : decode cX4_fluid 103 = .ok (.iastore, 1) := by decide +kernel
theorem dX4_fluid_104 : decode cX4_fluid 104 = .ok (.dup, 1) := by decide +kernel
theorem dX4_fluid_105 : decode cX4_fluid 105 = .ok (.iconst 1, 1) := by decide +kernel
theorem dX4_fluid_106 : decode cX4_fluid 106 = .ok (.iload_n 3, 1) := by decide +kernel
theorem dX4_fluid_107 : decode cX4_fluid 107 = .ok (.iastore, 1) := by decide +kernel
theorem dX4_fluid_108 : decode cX4_fluid 108 = .ok (.dup, 1) := by decide +kernel
theorem dX4_fluid_109 : decode cX4_fluid 109 = .ok (.iconst 2, 1) := by decide +kernel
theorem dX4_fluid_110 : decode cX4_fluid 110 = .ok (.iload 4, 2) := by decide +kernel
theorem dX4_fluid_112 : decode cX4_fluid 112 = .ok (.iastore, 1) := by decide +kernel
theorem dX4_fluid_113 : decode cX4_fluid 113 = .ok (.dup, 1) := by decide +kernel
theorem dX4_fluid_114 : decode cX4_fluid 114 = .ok (.iconst 3, 1) := by decide +kernel
theorem dX4_fluid_115 : decode cX4_fluid 115 = .ok (.iload 5, 2) := by decide +kernel
theorem dX4_fluid_117 : decode cX4_fluid 117 = .ok (.iastore, 1) := by decide +kernel
theorem dX4_fluid_118 : decode cX4_fluid 118 = .ok (.astore 10, 2) := by decide +kernel
theorem dX4_fluid_120 : decode cX4_fluid 120 = .ok (.aload_n 0, 1) := by decide +kernel
theorem dX4_fluid_121 : decode cX4_fluid 121 = .ok (.getfield 18, 3) := by decide +kernel
theorem dX4_fluid_124 : decode cX4_fluid 124 = .ok (.iload 9, 2) := by decide +kernel
theorem dX4_fluid_126 : decode cX4_fluid 126 = .ok (.new 16, 3) := by decide +kernel
theorem dX4_fluid_129 : decode cX4_fluid 129 = .ok (.dup, 1) := by decide +kernel
theorem dX4_fluid_130 : decode cX4_fluid 130 = .ok (.iload_n 1, 1) := by decide +kernel
theorem dX4_fluid_131 : decode cX4_fluid 131 = .ok (.aload 10, 2) := by decide +kernel
theorem dX4_fluid_133 : decode cX4_fluid 133 = .ok (.iload 6, 2) := by decide +kernel
theorem dX4_fluid_135 : decode cX4_fluid 135 = .ok (.iload 7, 2) := by decide +kernel
theorem dX4_fluid_137 : decode cX4_fluid 137 = .ok (.iload 8, 2) := by decide +kernel
theorem dX4_fluid_139 : decode cX4_fluid 139 = .ok (.invokespecial 88, 3) := by decide +kernel
theorem dX4_fluid_142 : decode cX4_fluid 142 = .ok (.aastore, 1) := by decide +kernel
theorem dX4_fluid_143 : decode cX4_fluid 143 = .ok (.aload_n 0, 1) := by decide +kernel
theorem dX4_fluid_144 : decode cX4_fluid 144 = .ok (.dup, 1) := by decide +kernel
theorem dX4_fluid_145 : decode cX4_fluid 145 = .ok (.getfield 85, 3) := by decide +kernel
theorem dX4_fluid_148 : decode cX4_fluid 148 = .ok (.iconst 1, 1) := by decide +kernel
theorem dX4_fluid_149 : decode cX4_fluid 149 = .ok (.iadd, 1) := by decide +kernel
theorem dX4_fluid_150 : decode cX4_fluid 150 = .ok (.putfield 85, 3) := by decide +kernel
theorem dX4_fluid_153 : decode cX4_fluid 153 = .ok (.iload 9, 2) := by decide +kernel
theorem dX4_fluid_155 : decode cX4_fluid 155 = .ok (.ireturn, 1) := by decide +kernel
set_option maxRecDepth 20000 in
theorem ggX4_hold_X4_fluidAt : GoodIn wsX4_hold wsX4_fluidAt := goodIn_r _ [6, 7, 8, 9, 5, 10, 59, 60, 61, 62, 63, 64, 65, 66, 67, 68, 69, 70, 71, 72] (by decide +kernel) (by decide +kernel)
set_option maxRecDepth 20000 in
theorem gX4_hold_X4_fluidAt : GoodIn wsX4_hold (wsV RX4 91 RX4 yX4_fluidAt wsX4_fluidAt) := goodIn_app (goodIn_of _ (by decide +kernel)) ggX4_hold_X4_fluidAt
set_option maxRecDepth 20000 in
theorem ggX4_hold_X4_isMinute : GoodIn wsX4_hold wsX4_isMinute := goodIn_r _ [13, 8, 9, 5, 10] (by decide +kernel) (by decide +kernel)
set_option maxRecDepth 20000 in
theorem gX4_hold_X4_isMinute : GoodIn wsX4_hold (va_wsS RX4 48 yX4_isMinute wsX4_isMinute) := goodIn_app (goodIn_of _ (by decide +kernel)) ggX4_hold_X4_isMinute
set_option maxRecDepth 20000 in
theorem ggX4_hold_X0_traceOfBodies : GoodIn wsX4_hold wsX0_traceOfBodies := goodIn_r _ [18, 19, 73, 74, 75, 76, 77] (by decide +kernel) (by decide +kernel)
set_option maxRecDepth 20000 in
theorem gX4_hold_X0_traceOfBodies : GoodIn wsX4_hold (wsV RX4 99 RX0 yX0_traceOfBodies wsX0_traceOfBodies) := goodIn_app (goodIn_of _ (by decide +kernel)) ggX4_hold_X0_traceOfBodies
set_option maxRecDepth 20000 in
theorem ggX4_hold_X4_holdIn : GoodIn wsX4_hold wsX4_holdIn := goodIn_r _ [23, 24, 25, 26, 27, 28, 29, 30, 31, 32, 33, 34, 35, 36, 37, 38, 39, 40, 41, 42, 43, 44, 45, 46, 47, 48, 49, 50, 17, 51, 19, 52, 53, 54, 55, 56, 57, 58, 59, 60, 61, 62, 63, 64, 65, 66, 67, 68, 69, 70, 71, 72, 78, 79, 80, 73, 74, 75, 76, 77] (by decide +kernel) (by decide +kernel)
set_option maxRecDepth 20000 in
theorem gX4_hold_X4_holdIn : GoodIn wsX4_hold (wsV RX4 103 RX4 yX4_holdIn wsX4_holdIn) := goodIn_app (goodIn_of _ (by decide +kernel)) ggX4_hold_X4_holdIn
theorem dX4_hold_0 : decode cX4_hold 0 = .ok (.aload_n 0, 1) := by decide +kernel
theorem dX4_hold_1 : decode cX4_hold 1 = .ok (.iload_n 1, 1) := by decide +kernel
theorem dX4_hold_2 : decode cX4_hold 2 = .ok (.invokevirtual 91, 3) := by decide +kernel
theorem dX4_hold_5 : decode cX4_hold 5 = .ok (.astore_n 3, 1) := by decide +kernel
theorem dX4_hold_6 : decode cX4_hold 6 = .ok (.aload_n 3, 1) := by decide +kernel
theorem dX4_hold_7 : decode cX4_hold 7 = .ok (.ifnull 10, 3) := by decide +kernel
theorem dX4_hold_10 : decode cX4_hold 10 = .ok (.iload_n 2, 1) := by decide +kernel
theorem dX4_hold_11 : decode cX4_hold 11 = .ok (.invokestatic 48, 3) := by decide +kernel
theorem dX4_hold_14 : decode cX4_hold 14 = .ok (.ifCond .ne 6, 3) := by decide +kernel
theorem dX4_hold_17 : decode cX4_hold 17 = .ok (.bipush (-100), 2) := by decide +kernel
theorem dX4_hold_19 : decode cX4_hold 19 = .ok (.ireturn, 1) := by decide +kernel
theorem dX4_hold_20 : decode cX4_hold 20 = .ok (.aload_n 0, 1) := by decide +kernel
theorem dX4_hold_21 : decode cX4_hold 21 = .ok (.dup, 1) := by decide +kernel
theorem dX4_hold_22 : decode cX4_hold 22 = .ok (.getfield 95, 3) := by decide +kernel
theorem dX4_hold_25 : decode cX4_hold 25 = .ok (.aload_n 3, 1) := by decide +kernel
theorem dX4_hold_26 : decode cX4_hold 26 = .ok (.invokevirtual 99, 3) := by decide +kernel
theorem dX4_hold_29 : decode cX4_hold 29 = .ok (.i2l, 1) := by decide +kernel
theorem dX4_hold_30 : decode cX4_hold 30 = .ok (.ladd, 1) := by decide +kernel
theorem dX4_hold_31 : decode cX4_hold 31 = .ok (.putfield 95, 3) := by decide +kernel
theorem dX4_hold_34 : decode cX4_hold 34 = .ok (.aload_n 0, 1) := by decide +kernel
theorem dX4_hold_35 : decode cX4_hold 35 = .ok (.aload_n 3, 1) := by decide +kernel
theorem dX4_hold_36 : decode cX4_hold 36 = .ok (.iload_n 2, 1) := by decide +kernel
theorem dX4_hold_37 : decode cX4_hold 37 = .ok (.invokevirtual 103, 3) := by decide +kernel
theorem dX4_hold_40 : decode cX4_hold 40 = .ok (.ireturn, 1) := by decide +kernel
set_option maxRecDepth 20000 in
theorem ggX4_fill_X4_fluidAt : GoodIn wsX4_fill wsX4_fluidAt := goodIn_r _ [6, 7, 8, 9, 5, 10, 16, 17, 18, 19, 20, 21, 22, 23, 24, 25, 26, 27, 28, 29] (by decide +kernel) (by decide +kernel)
set_option maxRecDepth 20000 in
theorem gX4_fill_X4_fluidAt : GoodIn wsX4_fill (wsV RX4 91 RX4 yX4_fluidAt wsX4_fluidAt) := goodIn_app (goodIn_of _ (by decide +kernel)) ggX4_fill_X4_fluidAt
set_option maxRecDepth 20000 in
theorem ggX4_fill_X4_within : GoodIn wsX4_fill wsX4_within := goodIn_r _ [10] (by decide +kernel) (by decide +kernel)
set_option maxRecDepth 20000 in
theorem gX4_fill_X4_within : GoodIn wsX4_fill (va_wsS RX4 52 yX4_within wsX4_within) := goodIn_app (goodIn_of _ (by decide +kernel)) ggX4_fill_X4_within
theorem dX4_fill_0 : decode cX4_fill 0 = .ok (.aload_n 0, 1) := by decide +kernel
theorem dX4_fill_1 : decode cX4_fill 1 = .ok (.iload_n 1, 1) := by decide +kernel
theorem dX4_fill_2 : decode cX4_fill 2 = .ok (.invokevirtual 91, 3) := by decide +kernel
theorem dX4_fill_5 : decode cX4_fill 5 = .ok (.astore_n 3, 1) := by decide +kernel
theorem dX4_fill_6 : decode cX4_fill 6 = .ok (.aload_n 3, 1) := by decide +kernel
theorem dX4_fill_7 : decode cX4_fill 7 = .ok (.ifnull 14, 3) := by decide +kernel
theorem dX4_fill_10 : decode cX4_fill 10 = .ok (.iload_n 2, 1) := by decide +kernel
theorem dX4_fill_11 : decode cX4_fill 11 = .ok (.iconst 0, 1) := by decide +kernel
theorem dX4_fill_12 : decode cX4_fill 12 = .ok (.sipush 2000, 3) := by decide +kernel
theorem dX4_fill_15 : decode cX4_fill 15 = .ok (.invokestatic 52, 3) := by decide +kernel
theorem dX4_fill_18 : decode cX4_fill 18 = .ok (.ifCond .ne 6, 3) := by decide +kernel
theorem dX4_fill_21 : decode cX4_fill 21 = .ok (.bipush (-100), 2) := by decide +kernel
theorem dX4_fill_23 : decode cX4_fill 23 = .ok (.ireturn, 1) := by decide +kernel
theorem dX4_fill_24 : decode cX4_fill 24 = .ok (.aload_n 3, 1) := by decide +kernel
theorem dX4_fill_25 : decode cX4_fill 25 = .ok (.getfield 107, 3) := by decide +kernel
theorem dX4_fill_28 : decode cX4_fill 28 = .ok (.istore 4, 2) := by decide +kernel
theorem dX4_fill_30 : decode cX4_fill 30 = .ok (.aload_n 3, 1) := by decide +kernel
theorem dX4_fill_31 : decode cX4_fill 31 = .ok (.iload_n 2, 1) := by decide +kernel
theorem dX4_fill_32 : decode cX4_fill 32 = .ok (.putfield 107, 3) := by decide +kernel
theorem dX4_fill_35 : decode cX4_fill 35 = .ok (.iload 4, 2) := by decide +kernel
theorem dX4_fill_37 : decode cX4_fill 37 = .ok (.ireturn, 1) := by decide +kernel
set_option maxRecDepth 20000 in
theorem ggX4_set_X4_changePads : GoodIn wsX4_set wsX4_changePads := goodIn_r _ [5, 6, 7, 8, 4, 9, 10, 11, 12, 13, 14, 15, 16, 17, 18, 19, 20, 21, 22, 23, 24, 25, 26, 37, 38, 39, 40, 41, 42, 43, 44, 45, 46, 47, 48, 49, 50, 51, 52, 53, 54, 55, 56, 57, 58, 59, 60, 61] (by decide +kernel) (by decide +kernel)
set_option maxRecDepth 20000 in
theorem gX4_set_X4_changePads : GoodIn wsX4_set (wsV RX4 110 RX4 yX4_changePads wsX4_changePads) := goodIn_app (goodIn_of _ (by decide +kernel)) ggX4_set_X4_changePads
set_option maxRecDepth 20000 in
theorem ggX4_set_X4_changeLimit : GoodIn wsX4_set wsX4_changeLimit := goodIn_r _ [30, 31, 7, 8, 4, 9, 37, 38, 39, 40, 41, 42, 43, 44, 45, 46, 47, 48, 49, 50] (by decide +kernel) (by decide +kernel)
set_option maxRecDepth 20000 in
theorem gX4_set_X4_changeLimit : GoodIn wsX4_set (wsV RX4 113 RX4 yX4_changeLimit wsX4_changeLimit) := goodIn_app (goodIn_of _ (by decide +kernel)) ggX4_set_X4_changeLimit
set_option maxRecDepth 20000 in
theorem ggX4_set_X4_changeRate : GoodIn wsX4_set wsX4_changeRate := goodIn_r _ [35, 36, 7, 8, 4, 9, 37, 38, 39, 40, 41, 42, 43, 44, 45, 46, 47, 48, 49, 50] (by decide +kernel) (by decide +kernel)
set_option maxRecDepth 20000 in
theorem gX4_set_X4_changeRate : GoodIn wsX4_set (wsV RX4 116 RX4 yX4_changeRate wsX4_changeRate) := goodIn_app (goodIn_of _ (by decide +kernel)) ggX4_set_X4_changeRate
theorem dX4_set_0 : decode cX4_set 0 = .ok (.iload_n 1, 1) := by decide +kernel
theorem dX4_set_1 : decode cX4_set 1 = .ok (.tableswitch 45 0 2 #[27, 33, 39], 27) := by decide +kernel
theorem dX4_set_28 : decode cX4_set 28 = .ok (.aload_n 0, 1) := by decide +kernel
theorem dX4_set_29 : decode cX4_set 29 = .ok (.iload_n 2, 1) := by decide +kernel
theorem dX4_set_30 : decode cX4_set 30 = .ok (.invokevirtual 110, 3) := by decide +kernel
theorem dX4_set_33 : decode cX4_set 33 = .ok (.ireturn, 1) := by decide +kernel
theorem dX4_set_34 : decode cX4_set 34 = .ok (.aload_n 0, 1) := by decide +kernel
theorem dX4_set_35 : decode cX4_set 35 = .ok (.iload_n 2, 1) := by decide +kernel
theorem dX4_set_36 : decode cX4_set 36 = .ok (.invokevirtual 113, 3) := by decide +kernel
theorem dX4_set_39 : decode cX4_set 39 = .ok (.ireturn, 1) := by decide +kernel
theorem dX4_set_40 : decode cX4_set 40 = .ok (.aload_n 0, 1) := by decide +kernel
theorem dX4_set_41 : decode cX4_set 41 = .ok (.iload_n 2, 1) := by decide +kernel
theorem dX4_set_42 : decode cX4_set 42 = .ok (.invokevirtual 116, 3) := by decide +kernel
theorem dX4_set_45 : decode cX4_set 45 = .ok (.ireturn, 1) := by decide +kernel
theorem dX4_set_46 : decode cX4_set 46 = .ok (.bipush (-100), 2) := by decide +kernel
theorem dX4_set_48 : decode cX4_set 48 = .ok (.ireturn, 1) := by decide +kernel
set_option maxRecDepth 20000 in
theorem ggX4_jet_X4_fluidAt : GoodIn wsX4_jet wsX4_fluidAt := goodIn_r _ [11, 12, 13, 14, 10, 15, 34, 35, 36, 37, 38, 39, 40, 41, 42, 43, 44, 45, 46, 47] (by decide +kernel) (by decide +kernel)
set_option maxRecDepth 20000 in
theorem gX4_jet_X4_fluidAt : GoodIn wsX4_jet (wsV RX4 91 RX4 yX4_fluidAt wsX4_fluidAt) := goodIn_app (goodIn_of _ (by decide +kernel)) ggX4_jet_X4_fluidAt
set_option maxRecDepth 20000 in
theorem ggX4_jet_X4_within : GoodIn wsX4_jet wsX4_within := goodIn_r _ [15] (by decide +kernel) (by decide +kernel)
set_option maxRecDepth 20000 in
theorem gX4_jet_X4_within : GoodIn wsX4_jet (va_wsS RX4 52 yX4_within wsX4_within) := goodIn_app (goodIn_of _ (by decide +kernel)) ggX4_jet_X4_within
set_option maxRecDepth 20000 in
theorem ggX4_jet_X4_isMinute : GoodIn wsX4_jet wsX4_isMinute := goodIn_r _ [18, 13, 14, 10, 15] (by decide +kernel) (by decide +kernel)
set_option maxRecDepth 20000 in
theorem gX4_jet_X4_isMinute : GoodIn wsX4_jet (va_wsS RX4 48 yX4_isMinute wsX4_isMinute) := goodIn_app (goodIn_of _ (by decide +kernel)) ggX4_jet_X4_isMinute
set_option maxRecDepth 20000 in
theorem ggX4_jet_X1_init : GoodIn wsX4_jet wsX1_init := goodIn_r _ [21, 22, 23, 24, 25, 26, 27, 28, 29, 30, 31, 32, 33, 48, 49, 50, 51, 52, 53, 54, 55, 56, 57, 58] (by decide +kernel) (by decide +kernel)
set_option maxRecDepth 20000 in
theorem gX4_jet_X1_init : GoodIn wsX4_jet (wsX1_init) := ggX4_jet_X1_init
theorem dX4_jet_0 : decode cX4_jet 0 = .ok (.aload_n 0, 1) := by decide +kernel
theorem dX4_jet_1 : decode cX4_jet 1 = .ok (.iload 4, 2) := by decide +kernel
theorem dX4_jet_3 : decode cX4_jet 3 = .ok (.invokevirtual 91, 3) := by decide +kernel
theorem dX4_jet_6 : decode cX4_jet 6 = .ok (.astore 5, 2) := by decide +kernel
theorem dX4_jet_8 : decode cX4_jet 8 = .ok (.aload 5, 2) := by decide +kernel
theorem dX4_jet_10 : decode cX4_jet 10 = .ok (.ifnull 22, 3) := by decide +kernel
theorem dX4_jet_13 : decode cX4_jet 13 = .ok (.iload_n 1, 1) := by decide +kernel
theorem dX4_jet_14 : decode cX4_jet 14 = .ok (.iconst 1, 1) := by decide +kernel
theorem dX4_jet_15 : decode cX4_jet 15 = .ok (.iconst 5, 1) := by decide +kernel
theorem dX4_jet_16 : decode cX4_jet 16 = .ok (.invokestatic 52, 3) := by decide +kernel
theorem dX4_jet_19 : decode cX4_jet 19 = .ok (.ifCond .eq 13, 3) := by decide +kernel
theorem dX4_jet_22 : decode cX4_jet 22 = .ok (.iload_n 3, 1) := by decide +kernel
theorem dX4_jet_23 : decode cX4_jet 23 = .ok (.iconst 1, 1) := by decide +kernel
theorem dX4_jet_24 : decode cX4_jet 24 = .ok (.bipush 20, 2) := by decide +kernel
theorem dX4_jet_26 : decode cX4_jet 26 = .ok (.invokestatic 52, 3) := by decide +kernel
theorem dX4_jet_29 : decode cX4_jet 29 = .ok (.ifCond .ne 6, 3) := by decide +kernel
theorem dX4_jet_32 : decode cX4_jet 32 = .ok (.bipush (-100), 2) := by decide +kernel
theorem dX4_jet_34 : decode cX4_jet 34 = .ok (.ireturn, 1) := by decide +kernel
theorem dX4_jet_35 : decode cX4_jet 35 = .ok (.iload_n 2, 1) := by decide +kernel
theorem dX4_jet_36 : decode cX4_jet 36 = .ok (.invokestatic 48, 3) := by decide +kernel
theorem dX4_jet_39 : decode cX4_jet 39 = .ok (.ifCond .eq 11, 3) := by decide +kernel
theorem dX4_jet_42 : decode cX4_jet 42 = .ok (.iload_n 2, 1) := by decide +kernel
theorem dX4_jet_43 : decode cX4_jet 43 = .ok (.aload_n 0, 1) := by decide +kernel
theorem dX4_jet_44 : decode cX4_jet 44 = .ok (.getfield 56, 3) := by decide +kernel
theorem dX4_jet_47 : decode cX4_jet 47 = .ok (.if_icmp .ge 6, 3) := by decide +kernel
theorem dX4_jet_50 : decode cX4_jet 50 = .ok (.bipush (-100), 2) := by decide +kernel
theorem dX4_jet_52 : decode cX4_jet 52 = .ok (.ireturn, 1) := by decide +kernel
theorem dX4_jet_53 : decode cX4_jet 53 = .ok (.aload_n 0, 1) := by decide +kernel
theorem dX4_jet_54 : decode cX4_jet 54 = .ok (.getfield 119, 3) := by decide +kernel
theorem dX4_jet_57 : decode cX4_jet 57 = .ok (.aload_n 0, 1) := by decide +kernel
theorem dX4_jet_58 : decode cX4_jet 58 = .ok (.getfield 24, 3) := by decide +kernel
theorem dX4_jet_61 : decode cX4_jet 61 = .ok (.arraylength, 1) := by decide +kernel
theorem dX4_jet_62 : decode cX4_jet 62 = .ok (.if_icmp .lt 7, 3) := by decide +kernel
theorem dX4_jet_65 : decode cX4_jet 65 = .ok (.sipush (-300), 3) := by decide +kernel
theorem dX4_jet_68 : decode cX4_jet 68 = .ok (.ireturn, 1) := by decide +kernel
theorem dX4_jet_69 : decode cX4_jet 69 = .ok (.aload_n 0, 1) := by decide +kernel
theorem dX4_jet_70 : decode cX4_jet 70 = .ok (.getfield 119, 3) := by decide +kernel
theorem dX4_jet_73 : decode cX4_jet 73 = .ok (.istore 6, 2) := by decide +kernel
theorem dX4_jet_75 : decode cX4_jet 75 = .ok (.aload_n 0, 1) := by decide +kernel
theorem dX4_jet_76 : decode cX4_jet 76 = .ok (.getfield 24, 3) := by decide +kernel
theorem dX4_jet_79 : decode cX4_jet 79 = .ok (.iload 6, 2) := by decide +kernel
theorem dX4_jet_81 : decode cX4_jet 81 = .ok (.new 22, 3) := by decide +kernel
theorem dX4_jet_84 : decode cX4_jet 84 = .ok (.dup, 1) := by decide +kernel
theorem dX4_jet_85 : decode cX4_jet 85 = .ok (.iload 6, 2) := by decide +kernel
theorem dX4_jet_87 : decode cX4_jet 87 = .ok (.iload_n 1, 1) := by decide +kernel
theorem dX4_jet_88 : decode cX4_jet 88 = .ok (.iload_n 2, 1) := by decide +kernel
theorem dX4_jet_89 : decode cX4_jet 89 = .ok (.iload_n 3, 1) := by decide +kernel
theorem dX4_jet_90 : decode cX4_jet 90 = .ok (.aload 5, 2) := by decide +kernel
theorem dX4_jet_92 : decode cX4_jet 92 = .ok (.invokespecial 122, 3) := by decide +kernel
theorem dX4_jet_95 : decode cX4_jet 95 = .ok (.aastore, 1) := by decide +kernel
theorem dX4_jet_96 : decode cX4_jet 96 = .ok (.aload_n 0, 1) := by decide +kernel
theorem dX4_jet_97 : decode cX4_jet 97 = .ok (.dup, 1) := by decide +kernel
theorem dX4_jet_98 : decode cX4_jet 98 = .ok (.getfield 119, 3) := by decide +kernel
theorem dX4_jet_101 : decode cX4_jet 101 = .ok (.iconst 1, 1) := by decide +kernel
theorem dX4_jet_102 : decode cX4_jet 102 = .ok (.iadd, 1) := by decide +kernel
theorem dX4_jet_103 : decode cX4_jet 103 = .ok (.putfield 119, 3) := by decide +kernel
theorem dX4_jet_106 : decode cX4_jet 106 = .ok (.iload 6, 2) := by decide +kernel
theorem dX4_jet_108 : decode cX4_jet 108 = .ok (.ireturn, 1) := by decide +kernel
set_option maxRecDepth 20000 in
theorem ggX4_minutes_X4_within : GoodIn wsX4_minutes wsX4_within := goodIn_r _ [5] (by decide +kernel) (by decide +kernel)
set_option maxRecDepth 20000 in
theorem gX4_minutes_X4_within : GoodIn wsX4_minutes (va_wsS RX4 52 yX4_within wsX4_within) := goodIn_app (goodIn_of _ (by decide +kernel)) ggX4_minutes_X4_within
set_option maxRecDepth 20000 in
theorem ggX4_minutes_X4_passMinute : GoodIn wsX4_minutes wsX4_passMinute := goodIn_r _ [9, 10, 11, 12, 13, 14, 15, 16, 1, 17, 18, 19, 4, 20, 21, 22, 23, 24, 25, 26, 27, 28, 29, 30, 31, 32, 33, 34, 35, 36, 37, 38, 39, 40, 41, 42, 43, 44, 45, 46, 47, 48, 49, 50, 51, 52, 53, 54, 55, 56, 57, 58, 59, 60, 61, 62, 63, 64, 65, 66, 67, 68, 69, 70, 71, 72, 73, 74, 75, 76, 77, 78, 79, 80, 81, 82, 83, 84, 85, 86, 87, 88, 89, 90, 91, 92, 93, 94, 95, 96, 97, 98, 99, 100, 101, 102, 103, 104, 105, 106, 107, 108, 109, 110, 111, 112, 113, 114, 115, 116, 117, 118, 119, 120, 121, 122, 123, 124, 125, 126, 127, 128, 129, 130, 131, 132, 133, 134, 135, 136, 137, 138, 139, 140, 141, 142, 143, 144, 145, 146, 147, 148, 149] (by decide +kernel) (by decide +kernel)
set_option maxRecDepth 20000 in
theorem gX4_minutes_X4_passMinute : GoodIn wsX4_minutes (wsV RX4 125 RX4 yX4_passMinute wsX4_passMinute) := goodIn_app (goodIn_of _ (by decide +kernel)) ggX4_minutes_X4_passMinute
theorem dX4_minutes_0 : decode cX4_minutes 0 = .ok (.iload_n 1, 1) := by decide +kernel
theorem dX4_minutes_1 : decode cX4_minutes 1 = .ok (.iconst 1, 1) := by decide +kernel
theorem dX4_minutes_2 : decode cX4_minutes 2 = .ok (.bipush 60, 2) := by decide +kernel
theorem dX4_minutes_4 : decode cX4_minutes 4 = .ok (.invokestatic 52, 3) := by decide +kernel
theorem dX4_minutes_7 : decode cX4_minutes 7 = .ok (.ifCond .ne 6, 3) := by decide +kernel
theorem dX4_minutes_10 : decode cX4_minutes 10 = .ok (.bipush (-100), 2) := by decide +kernel
theorem dX4_minutes_12 : decode cX4_minutes 12 = .ok (.ireturn, 1) := by decide +kernel
theorem dX4_minutes_13 : decode cX4_minutes 13 = .ok (.aload_n 0, 1) := by decide +kernel
theorem dX4_minutes_14 : decode cX4_minutes 14 = .ok (.getfield 56, 3) := by decide +kernel
theorem dX4_minutes_17 : decode cX4_minutes 17 = .ok (.iload_n 1, 1) := by decide +kernel
theorem dX4_minutes_18 : decode cX4_minutes 18 = .ok (.iadd, 1) := by decide +kernel
theorem dX4_minutes_19 : decode cX4_minutes 19 = .ok (.sipush 300, 3) := by decide +kernel
theorem dX4_minutes_22 : decode cX4_minutes 22 = .ok (.if_icmp .lt 7, 3) := by decide +kernel
theorem dX4_minutes_25 : decode cX4_minutes 25 = .ok (.sipush (-200), 3) := by decide +kernel
theorem dX4_minutes_28 : decode cX4_minutes 28 = .ok (.ireturn, 1) := by decide +kernel
theorem dX4_minutes_29 : decode cX4_minutes 29 = .ok (.iconst 0, 1) := by decide +kernel
theorem dX4_minutes_30 : decode cX4_minutes 30 = .ok (.istore_n 2, 1) := by decide +kernel
theorem dX4_minutes_31 : decode cX4_minutes 31 = .ok (.iload_n 2, 1) := by decide +kernel
theorem dX4_minutes_32 : decode cX4_minutes 32 = .ok (.iload_n 1, 1) := by decide +kernel
theorem dX4_minutes_33 : decode cX4_minutes 33 = .ok (.if_icmp .ge 13, 3) := by decide +kernel
theorem dX4_minutes_36 : decode cX4_minutes 36 = .ok (.aload_n 0, 1) := by decide +kernel
theorem dX4_minutes_37 : decode cX4_minutes 37 = .ok (.invokevirtual 125, 3) := by decide +kernel
theorem dX4_minutes_40 : decode cX4_minutes 40 = .ok (.iinc 2 1, 3) := by decide +kernel
theorem dX4_minutes_43 : decode cX4_minutes 43 = .ok (.goto (-12), 3) := by decide +kernel
theorem dX4_minutes_46 : decode cX4_minutes 46 = .ok (.aload_n 0, 1) := by decide +kernel
theorem dX4_minutes_47 : decode cX4_minutes 47 = .ok (.getfield 56, 3) := by decide +kernel
theorem dX4_minutes_50 : decode cX4_minutes 50 = .ok (.ireturn, 1) := by decide +kernel
set_option maxRecDepth 20000 in
theorem ggX4_about_X4_jetAt : GoodIn wsX4_about wsX4_jetAt := goodIn_r _ [10, 11, 12, 13, 9, 14, 49, 50, 51, 52, 53, 54, 55, 56, 57, 58, 59, 60, 61, 62] (by decide +kernel) (by decide +kernel)
set_option maxRecDepth 20000 in
theorem gX4_about_X4_jetAt : GoodIn wsX4_about (wsV RX4 128 RX4 yX4_jetAt wsX4_jetAt) := goodIn_app (goodIn_of _ (by decide +kernel)) ggX4_about_X4_jetAt
set_option maxRecDepth 20000 in
theorem ggX4_about_X1_state : GoodIn wsX4_about wsX1_state := goodIn_r _ [19, 20, 21, 22, 23, 18, 24, 25, 38, 39, 40, 41, 42, 43, 44, 45, 46, 47, 48] (by decide +kernel) (by decide +kernel)
set_option maxRecDepth 20000 in
theorem gX4_about_X1_state : GoodIn wsX4_about (wsV RX4 132 RX1 yX1_state wsX1_state) := goodIn_app (goodIn_of _ (by decide +kernel)) ggX4_about_X1_state
set_option maxRecDepth 20000 in
theorem ggX4_about_X1_isGone : GoodIn wsX4_about wsX1_isGone := goodIn_r _ [24, 25, 38, 39, 40, 41, 42, 43, 44, 45, 46, 47, 48] (by decide +kernel) (by decide +kernel)
set_option maxRecDepth 20000 in
theorem gX4_about_X1_isGone : GoodIn wsX4_about (wsV RX4 150 RX1 yX1_isGone wsX1_isGone) := goodIn_app (goodIn_of _ (by decide +kernel)) ggX4_about_X1_isGone
set_option maxRecDepth 20000 in
theorem ggX4_about_X1_late : GoodIn wsX4_about wsX1_late := goodIn_r _ [30, 25, 31, 32, 33, 34, 35, 18, 36, 37, 38, 39, 40, 41, 42, 43, 44, 45, 46, 47, 48] (by decide +kernel) (by decide +kernel)
set_option maxRecDepth 20000 in
theorem gX4_about_X1_late : GoodIn wsX4_about (wsV RX4 154 RX1 yX1_late wsX1_late) := goodIn_app (goodIn_of _ (by decide +kernel)) ggX4_about_X1_late
theorem dX4_about_0 : decode cX4_about 0 = .ok (.aload_n 0, 1) := by decide +kernel
theorem dX4_about_1 : decode cX4_about 1 = .ok (.iload_n 1, 1) := by decide +kernel
theorem dX4_about_2 : decode cX4_about 2 = .ok (.invokevirtual 128, 3) := by decide +kernel
theorem dX4_about_5 : decode cX4_about 5 = .ok (.astore_n 3, 1) := by decide +kernel
theorem dX4_about_6 : decode cX4_about 6 = .ok (.aload_n 3, 1) := by decide +kernel
theorem dX4_about_7 : decode cX4_about 7 = .ok (.ifnonnull 6, 3) := by decide +kernel
theorem dX4_about_10 : decode cX4_about 10 = .ok (.bipush (-100), 2) := by decide +kernel
theorem dX4_about_12 : decode cX4_about 12 = .ok (.ireturn, 1) := by decide +kernel
theorem dX4_about_13 : decode cX4_about 13 = .ok (.iload_n 2, 1) := by decide +kernel
theorem dX4_about_14 : decode cX4_about 14 = .ok (.tableswitch 90 0 6 #[42, 47, 52, 57, 62, 67, 72], 42) := by decide +kernel
theorem dX4_about_56 : decode cX4_about 56 = .ok (.aload_n 3, 1) := by decide +kernel
theorem dX4_about_57 : decode cX4_about 57 = .ok (.invokevirtual 132, 3) := by decide +kernel
theorem dX4_about_60 : decode cX4_about 60 = .ok (.ireturn, 1) := by decide +kernel
theorem dX4_about_61 : decode cX4_about 61 = .ok (.aload_n 3, 1) := by decide +kernel
theorem dX4_about_62 : decode cX4_about 62 = .ok (.getfield 135, 3) := by decide +kernel
theorem dX4_about_65 : decode cX4_about 65 = .ok (.ireturn, 1) := by decide +kernel
theorem dX4_about_66 : decode cX4_about 66 = .ok (.aload_n 3, 1) := by decide +kernel
theorem dX4_about_67 : decode cX4_about 67 = .ok (.getfield 138, 3) := by decide +kernel
theorem dX4_about_70 : decode cX4_about 70 = .ok (.ireturn, 1) := by decide +kernel
theorem dX4_about_71 : decode cX4_about 71 = .ok (.aload_n 3, 1) := by decide +kernel
theorem dX4_about_72 : decode cX4_about 72 = .ok (.getfield 141, 3) := by decide +kernel
theorem dX4_about_75 : decode cX4_about 75 = .ok (.ireturn, 1) := by decide +kernel
theorem dX4_about_76 : decode cX4_about 76 = .ok (.aload_n 3, 1) := by decide +kernel
theorem dX4_about_77 : decode cX4_about 77 = .ok (.getfield 144, 3) := by decide +kernel
theorem dX4_about_80 : decode cX4_about 80 = .ok (.ireturn, 1) := by decide +kernel
theorem dX4_about_81 : decode cX4_about 81 = .ok (.aload_n 3, 1) := by decide +kernel
theorem dX4_about_82 : decode cX4_about 82 = .ok (.getfield 147, 3) := by decide +kernel
theorem dX4_about_85 : decode cX4_about 85 = .ok (.ireturn, 1) := by decide +kernel
theorem dX4_about_86 : decode cX4_about 86 = .ok (.aload_n 3, 1) := by decide +kernel
theorem dX4_about_87 : decode cX4_about 87 = .ok (.invokevirtual 150, 3) := by decide +kernel
theorem dX4_about_90 : decode cX4_about 90 = .ok (.ifCond .eq 10, 3) := by decide +kernel
theorem dX4_about_93 : decode cX4_about 93 = .ok (.aload_n 3, 1) := by decide +kernel
theorem dX4_about_94 : decode cX4_about 94 = .ok (.invokevirtual 154, 3) := by decide +kernel
theorem dX4_about_97 : decode cX4_about 97 = .ok (.goto 6, 3) := by decide +kernel
theorem dX4_about_100 : decode cX4_about 100 = .ok (.sipush (-900), 3) := by decide +kernel
theorem dX4_about_103 : decode cX4_about 103 = .ok (.ireturn, 1) := by decide +kernel
theorem dX4_about_104 : decode cX4_about 104 = .ok (.bipush (-100), 2) := by decide +kernel
theorem dX4_about_106 : decode cX4_about 106 = .ok (.ireturn, 1) := by decide +kernel
set_option maxRecDepth 20000 in
theorem ggX4_on_X4_within : GoodIn wsX4_on wsX4_within := goodIn_r _ [7] (by decide +kernel) (by decide +kernel)
set_option maxRecDepth 20000 in
theorem gX4_on_X4_within : GoodIn wsX4_on (va_wsS RX4 52 yX4_within wsX4_within) := goodIn_app (goodIn_of _ (by decide +kernel)) ggX4_on_X4_within
theorem dX4_on_0 : decode cX4_on 0 = .ok (.iload_n 1, 1) := by decide +kernel
theorem dX4_on_1 : decode cX4_on 1 = .ok (.iconst 0, 1) := by decide +kernel
theorem dX4_on_2 : decode cX4_on 2 = .ok (.aload_n 0, 1) := by decide +kernel
theorem dX4_on_3 : decode cX4_on 3 = .ok (.getfield 38, 3) := by decide +kernel
theorem dX4_on_6 : decode cX4_on 6 = .ok (.iconst 1, 1) := by decide +kernel
theorem dX4_on_7 : decode cX4_on 7 = .ok (.isub, 1) := by decide +kernel
theorem dX4_on_8 : decode cX4_on 8 = .ok (.invokestatic 52, 3) := by decide +kernel
theorem dX4_on_11 : decode cX4_on 11 = .ok (.ifCond .ne 6, 3) := by decide +kernel
theorem dX4_on_14 : decode cX4_on 14 = .ok (.bipush (-100), 2) := by decide +kernel
theorem dX4_on_16 : decode cX4_on 16 = .ok (.ireturn, 1) := by decide +kernel
theorem dX4_on_17 : decode cX4_on 17 = .ok (.aload_n 0, 1) := by decide +kernel
theorem dX4_on_18 : decode cX4_on 18 = .ok (.getfield 28, 3) := by decide +kernel
theorem dX4_on_21 : decode cX4_on 21 = .ok (.iload_n 1, 1) := by decide +kernel
theorem dX4_on_22 : decode cX4_on 22 = .ok (.aaload, 1) := by decide +kernel
theorem dX4_on_23 : decode cX4_on 23 = .ok (.astore_n 2, 1) := by decide +kernel
theorem dX4_on_24 : decode cX4_on 24 = .ok (.aload_n 2, 1) := by decide +kernel
theorem dX4_on_25 : decode cX4_on 25 = .ok (.ifnonnull 9, 3) := by decide +kernel
theorem dX4_on_28 : decode cX4_on 28 = .ok (.sipush (-900), 3) := by decide +kernel
theorem dX4_on_31 : decode cX4_on 31 = .ok (.goto 7, 3) := by decide +kernel
theorem dX4_on_34 : decode cX4_on 34 = .ok (.aload_n 2, 1) := by decide +kernel
theorem dX4_on_35 : decode cX4_on 35 = .ok (.getfield 157, 3) := by decide +kernel
theorem dX4_on_38 : decode cX4_on 38 = .ok (.ireturn, 1) := by decide +kernel
set_option maxRecDepth 20000 in
theorem ggX4_litres_X4_fluidAt : GoodIn wsX4_litres wsX4_fluidAt := goodIn_r _ [6, 7, 8, 9, 5, 10, 16, 17, 18, 19, 20, 21, 22, 23, 24, 25, 26, 27, 28, 29] (by decide +kernel) (by decide +kernel)
set_option maxRecDepth 20000 in
theorem gX4_litres_X4_fluidAt : GoodIn wsX4_litres (wsV RX4 91 RX4 yX4_fluidAt wsX4_fluidAt) := goodIn_app (goodIn_of _ (by decide +kernel)) ggX4_litres_X4_fluidAt
theorem dX4_litres_0 : decode cX4_litres 0 = .ok (.aload_n 0, 1) := by decide +kernel
theorem dX4_litres_1 : decode cX4_litres 1 = .ok (.iload_n 1, 1) := by decide +kernel
theorem dX4_litres_2 : decode cX4_litres 2 = .ok (.invokevirtual 91, 3) := by decide +kernel
theorem dX4_litres_5 : decode cX4_litres 5 = .ok (.astore_n 2, 1) := by decide +kernel
theorem dX4_litres_6 : decode cX4_litres 6 = .ok (.aload_n 2, 1) := by decide +kernel
theorem dX4_litres_7 : decode cX4_litres 7 = .ok (.ifnonnull 8, 3) := by decide +kernel
theorem dX4_litres_10 : decode cX4_litres 10 = .ok (.bipush (-100), 2) := by decide +kernel
theorem dX4_litres_12 : decode cX4_litres 12 = .ok (.goto 7, 3) := by decide +kernel
theorem dX4_litres_15 : decode cX4_litres 15 = .ok (.aload_n 2, 1) := by decide +kernel
theorem dX4_litres_16 : decode cX4_litres 16 = .ok (.getfield 107, 3) := by decide +kernel
theorem dX4_litres_19 : decode cX4_litres 19 = .ok (.ireturn, 1) := by decide +kernel
set_option maxRecDepth 20000 in
theorem ggX4_plan_X4_within : GoodIn wsX4_plan wsX4_within := goodIn_r _ [9] (by decide +kernel) (by decide +kernel)
set_option maxRecDepth 20000 in
theorem gX4_plan_X4_within : GoodIn wsX4_plan (va_wsS RX4 52 yX4_within wsX4_within) := goodIn_app (goodIn_of _ (by decide +kernel)) ggX4_plan_X4_within
set_option maxRecDepth 20000 in
theorem ggX4_plan_X2_gather : GoodIn wsX4_plan wsX2_gather := goodIn_r _ [14, 15, 16, 17, 18, 19, 20, 21, 22, 23, 24, 25, 26, 27, 75, 76, 77, 78, 79, 80, 81, 82, 83, 84, 85, 86, 87, 88, 89, 90, 91] (by decide +kernel) (by decide +kernel)
set_option maxRecDepth 20000 in
theorem gX4_plan_X2_gather : GoodIn wsX4_plan (wsV RX4 160 RX2 yX2_gather wsX2_gather) := goodIn_app (goodIn_of _ (by decide +kernel)) ggX4_plan_X2_gather
set_option maxRecDepth 20000 in
theorem ggX4_plan_X2_search : GoodIn wsX4_plan wsX2_search := goodIn_r _ [31, 32, 33, 34, 35, 36, 13, 37, 15, 16, 38, 39, 40, 41, 42, 43, 44, 45, 46, 47, 48, 49, 50, 51, 52, 53, 54, 20, 55, 56, 75, 76, 77, 78, 79, 80, 81, 82, 83, 84, 85, 86, 87, 88, 89, 90, 91] (by decide +kernel) (by decide +kernel)
set_option maxRecDepth 20000 in
theorem gX4_plan_X2_search : GoodIn wsX4_plan (wsV RX4 167 RX2 yX2_search wsX2_search) := goodIn_app (goodIn_of _ (by decide +kernel)) ggX4_plan_X2_search
set_option maxRecDepth 20000 in
theorem ggX4_plan_X2_numberAt : GoodIn wsX4_plan wsX2_numberAt := goodIn_r _ [60, 15, 51, 7, 8, 9, 75, 76, 77, 78, 79, 80] (by decide +kernel) (by decide +kernel)
set_option maxRecDepth 20000 in
theorem gX4_plan_X2_numberAt : GoodIn wsX4_plan (wsV RX4 170 RX2 yX2_numberAt wsX2_numberAt) := goodIn_app (goodIn_of _ (by decide +kernel)) ggX4_plan_X2_numberAt
theorem dX4_plan_0 : decode cX4_plan 0 = .ok (.iload_n 1, 1) := by decide +kernel
theorem dX4_plan_1 : decode cX4_plan 1 = .ok (.iconst 0, 1) := by decide +kernel
theorem dX4_plan_2 : decode cX4_plan 2 = .ok (.iconst 2, 1) := by decide +kernel
theorem dX4_plan_3 : decode cX4_plan 3 = .ok (.invokestatic 52, 3) := by decide +kernel
theorem dX4_plan_6 : decode cX4_plan 6 = .ok (.ifCond .ne 6, 3) := by decide +kernel
theorem dX4_plan_9 : decode cX4_plan 9 = .ok (.bipush (-100), 2) := by decide +kernel
theorem dX4_plan_11 : decode cX4_plan 11 = .ok (.ireturn, 1) := by decide +kernel
theorem dX4_plan_12 : decode cX4_plan 12 = .ok (.iload_n 1, 1) := by decide +kernel
theorem dX4_plan_13 : decode cX4_plan 13 = .ok (.iconst 1, 1) := by decide +kernel
theorem dX4_plan_14 : decode cX4_plan 14 = .ok (.if_icmp .ne 15, 3) := by decide +kernel
theorem dX4_plan_17 : decode cX4_plan 17 = .ok (.iload_n 2, 1) := by decide +kernel
theorem dX4_plan_18 : decode cX4_plan 18 = .ok (.iconst 0, 1) := by decide +kernel
theorem dX4_plan_19 : decode cX4_plan 19 = .ok (.iconst 4, 1) := by decide +kernel
theorem dX4_plan_20 : decode cX4_plan 20 = .ok (.invokestatic 52, 3) := by decide +kernel
theorem dX4_plan_23 : decode cX4_plan 23 = .ok (.ifCond .ne 6, 3) := by decide +kernel
theorem dX4_plan_26 : decode cX4_plan 26 = .ok (.bipush (-100), 2) := by decide +kernel
theorem dX4_plan_28 : decode cX4_plan 28 = .ok (.ireturn, 1) := by decide +kernel
theorem dX4_plan_29 : decode cX4_plan 29 = .ok (.aload_n 0, 1) := by decide +kernel
theorem dX4_plan_30 : decode cX4_plan 30 = .ok (.getfield 34, 3) := by decide +kernel
theorem dX4_plan_33 : decode cX4_plan 33 = .ok (.aload_n 0, 1) := by decide +kernel
theorem dX4_plan_34 : decode cX4_plan 34 = .ok (.getfield 24, 3) := by decide +kernel
theorem dX4_plan_37 : decode cX4_plan 37 = .ok (.invokevirtual 160, 3) := by decide +kernel
theorem dX4_plan_40 : decode cX4_plan 40 = .ok (.iload_n 1, 1) := by decide +kernel
theorem dX4_plan_41 : decode cX4_plan 41 = .ok (.ifCond .ne 11, 3) := by decide +kernel
theorem dX4_plan_44 : decode cX4_plan 44 = .ok (.aload_n 0, 1) := by decide +kernel
theorem dX4_plan_45 : decode cX4_plan 45 = .ok (.getfield 34, 3) := by decide +kernel
theorem dX4_plan_48 : decode cX4_plan 48 = .ok (.getfield 164, 3) := by decide +kernel
theorem dX4_plan_51 : decode cX4_plan 51 = .ok (.ireturn, 1) := by decide +kernel
theorem dX4_plan_52 : decode cX4_plan 52 = .ok (.aload_n 0, 1) := by decide +kernel
theorem dX4_plan_53 : decode cX4_plan 53 = .ok (.getfield 34, 3) := by decide +kernel
theorem dX4_plan_56 : decode cX4_plan 56 = .ok (.aload_n 0, 1) := by decide +kernel
theorem dX4_plan_57 : decode cX4_plan 57 = .ok (.getfield 56, 3) := by decide +kernel
theorem dX4_plan_60 : decode cX4_plan 60 = .ok (.invokevirtual 167, 3) := by decide +kernel
theorem dX4_plan_63 : decode cX4_plan 63 = .ok (.iload_n 1, 1) := by decide +kernel
theorem dX4_plan_64 : decode cX4_plan 64 = .ok (.iconst 1, 1) := by decide +kernel
theorem dX4_plan_65 : decode cX4_plan 65 = .ok (.if_icmp .ne 14, 3) := by decide +kernel
theorem dX4_plan_68 : decode cX4_plan 68 = .ok (.aload_n 0, 1) := by decide +kernel
theorem dX4_plan_69 : decode cX4_plan 69 = .ok (.getfield 34, 3) := by decide +kernel
theorem dX4_plan_72 : decode cX4_plan 72 = .ok (.iload_n 2, 1) := by decide +kernel
theorem dX4_plan_73 : decode cX4_plan 73 = .ok (.invokevirtual 170, 3) := by decide +kernel
theorem dX4_plan_76 : decode cX4_plan 76 = .ok (.goto 10, 3) := by decide +kernel
theorem dX4_plan_79 : decode cX4_plan 79 = .ok (.aload_n 0, 1) := by decide +kernel
theorem dX4_plan_80 : decode cX4_plan 80 = .ok (.getfield 34, 3) := by decide +kernel
theorem dX4_plan_83 : decode cX4_plan 83 = .ok (.getfield 173, 3) := by decide +kernel
theorem dX4_plan_86 : decode cX4_plan 86 = .ok (.ireturn, 1) := by decide +kernel
set_option maxRecDepth 20000 in
theorem ggX4_count_X4_jetsIn : GoodIn wsX4_count wsX4_jetsIn := goodIn_r _ [11, 4, 12, 13, 14, 15, 16, 17, 18, 19, 20, 21, 22, 23, 45, 46, 47, 48, 49, 50, 51, 52, 53, 54, 55, 56, 57, 58, 59, 60, 61, 62, 63, 64, 65, 66, 67, 68, 69] (by decide +kernel) (by decide +kernel)
set_option maxRecDepth 20000 in
theorem gX4_count_X4_jetsIn : GoodIn wsX4_count (wsV RX4 176 RX4 yX4_jetsIn wsX4_jetsIn) := goodIn_app (goodIn_of _ (by decide +kernel)) ggX4_count_X4_jetsIn
set_option maxRecDepth 20000 in
theorem ggX4_count_X4_allTurnsBack : GoodIn wsX4_count wsX4_allTurnsBack := goodIn_r _ [27, 4, 12, 28, 45, 46, 47, 48, 49, 50, 51, 52, 53, 54, 55, 56, 57, 58, 59, 60, 61, 62, 63, 64, 65, 66, 67, 68, 69] (by decide +kernel) (by decide +kernel)
set_option maxRecDepth 20000 in
theorem gX4_count_X4_allTurnsBack : GoodIn wsX4_count (wsV RX4 185 RX4 yX4_allTurnsBack wsX4_allTurnsBack) := goodIn_app (goodIn_of _ (by decide +kernel)) ggX4_count_X4_allTurnsBack
set_option maxRecDepth 20000 in
theorem ggX4_count_X4_allLate : GoodIn wsX4_count wsX4_allLate := goodIn_r _ [32, 4, 12, 33, 20, 21, 16, 22, 23, 34, 35, 36, 37, 38, 39, 40, 41, 42, 43, 44, 45, 46, 47, 48, 49, 50, 51, 52, 53, 54, 55, 56, 57, 58, 59, 60, 61, 62, 63, 64, 65, 66, 67, 68, 69] (by decide +kernel) (by decide +kernel)
set_option maxRecDepth 20000 in
theorem gX4_count_X4_allLate : GoodIn wsX4_count (wsV RX4 188 RX4 yX4_allLate wsX4_allLate) := goodIn_app (goodIn_of _ (by decide +kernel)) ggX4_count_X4_allLate
theorem dX4_count_0 : decode cX4_count 0 = .ok (.iload_n 1, 1) := by decide +kernel
theorem dX4_count_1 : decode cX4_count 1 = .ok (.tableswitch 107 0 9 #[55, 60, 65, 70, 75, 81, 87, 92, 97, 102], 55) := by decide +kernel
theorem dX4_count_56 : decode cX4_count 56 = .ok (.aload_n 0, 1) := by decide +kernel
theorem dX4_count_57 : decode cX4_count 57 = .ok (.getfield 56, 3) := by decide +kernel
theorem dX4_count_60 : decode cX4_count 60 = .ok (.ireturn, 1) := by decide +kernel
theorem dX4_count_61 : decode cX4_count 61 = .ok (.aload_n 0, 1) := by decide +kernel
theorem dX4_count_62 : decode cX4_count 62 = .ok (.getfield 85, 3) := by decide +kernel
theorem dX4_count_65 : decode cX4_count 65 = .ok (.ireturn, 1) := by decide +kernel
theorem dX4_count_66 : decode cX4_count 66 = .ok (.aload_n 0, 1) := by decide +kernel
theorem dX4_count_67 : decode cX4_count 67 = .ok (.getfield 38, 3) := by decide +kernel
theorem dX4_count_70 : decode cX4_count 70 = .ok (.ireturn, 1) := by decide +kernel
theorem dX4_count_71 : decode cX4_count 71 = .ok (.aload_n 0, 1) := by decide +kernel
theorem dX4_count_72 : decode cX4_count 72 = .ok (.getfield 119, 3) := by decide +kernel
theorem dX4_count_75 : decode cX4_count 75 = .ok (.ireturn, 1) := by decide +kernel
theorem dX4_count_76 : decode cX4_count 76 = .ok (.aload_n 0, 1) := by decide +kernel
theorem dX4_count_77 : decode cX4_count 77 = .ok (.iconst 0, 1) := by decide +kernel
theorem dX4_count_78 : decode cX4_count 78 = .ok (.invokevirtual 176, 3) := by decide +kernel
theorem dX4_count_81 : decode cX4_count 81 = .ok (.ireturn, 1) := by decide +kernel
theorem dX4_count_82 : decode cX4_count 82 = .ok (.aload_n 0, 1) := by decide +kernel
theorem dX4_count_83 : decode cX4_count 83 = .ok (.iconst 2, 1) := by decide +kernel
theorem dX4_count_84 : decode cX4_count 84 = .ok (.invokevirtual 176, 3) := by decide +kernel
theorem dX4_count_87 : decode cX4_count 87 = .ok (.ireturn, 1) := by decide +kernel
theorem dX4_count_88 : decode cX4_count 88 = .ok (.aload_n 0, 1) := by decide +kernel
theorem dX4_count_89 : decode cX4_count 89 = .ok (.getfield 179, 3) := by decide +kernel
theorem dX4_count_92 : decode cX4_count 92 = .ok (.ireturn, 1) := by decide +kernel
theorem dX4_count_93 : decode cX4_count 93 = .ok (.aload_n 0, 1) := by decide +kernel
theorem dX4_count_94 : decode cX4_count 94 = .ok (.getfield 182, 3) := by decide +kernel
theorem dX4_count_97 : decode cX4_count 97 = .ok (.ireturn, 1) := by decide +kernel
theorem dX4_count_98 : decode cX4_count 98 = .ok (.aload_n 0, 1) := by decide +kernel
theorem dX4_count_99 : decode cX4_count 99 = .ok (.invokevirtual 185, 3) := by decide +kernel
theorem dX4_count_102 : decode cX4_count 102 = .ok (.ireturn, 1) := by decide +kernel
theorem dX4_count_103 : decode cX4_count 103 = .ok (.aload_n 0, 1) := by decide +kernel
theorem dX4_count_104 : decode cX4_count 104 = .ok (.invokevirtual 188, 3) := by decide +kernel
theorem dX4_count_107 : decode cX4_count 107 = .ok (.ireturn, 1) := by decide +kernel
theorem dX4_count_108 : decode cX4_count 108 = .ok (.bipush (-100), 2) := by decide +kernel
theorem dX4_count_110 : decode cX4_count 110 = .ok (.ireturn, 1) := by decide +kernel
theorem dX4_trace_0 : decode cX4_trace 0 = .ok (.aload_n 0, 1) := by decide +kernel
theorem dX4_trace_1 : decode cX4_trace 1 = .ok (.getfield 95, 3) := by decide +kernel
theorem dX4_trace_4 : decode cX4_trace 4 = .ok (.lreturn, 1) := by decide +kernel
theorem dX4_within_0 : decode cX4_within 0 = .ok (.iload_n 0, 1) := by decide +kernel
theorem dX4_within_1 : decode cX4_within 1 = .ok (.iload_n 1, 1) := by decide +kernel
theorem dX4_within_2 : decode cX4_within 2 = .ok (.if_icmp .lt 12, 3) := by decide +kernel
theorem dX4_within_5 : decode cX4_within 5 = .ok (.iload_n 0, 1) := by decide +kernel
theorem dX4_within_6 : decode cX4_within 6 = .ok (.iload_n 2, 1) := by decide +kernel
theorem dX4_within_7 : decode cX4_within 7 = .ok (.if_icmp .gt 7, 3) := by decide +kernel
theorem dX4_within_10 : decode cX4_within 10 = .ok (.iconst 1, 1) := by decide +kernel
theorem dX4_within_11 : decode cX4_within 11 = .ok (.goto 4, 3) := by decide +kernel
theorem dX4_within_14 : decode cX4_within 14 = .ok (.iconst 0, 1) := by decide +kernel
theorem dX4_within_15 : decode cX4_within 15 = .ok (.ireturn, 1) := by decide +kernel
set_option maxRecDepth 20000 in
theorem ggX4_isMinute_X4_within : GoodIn wsX4_isMinute wsX4_within := goodIn_r _ [4] (by decide +kernel) (by decide +kernel)
set_option maxRecDepth 20000 in
theorem gX4_isMinute_X4_within : GoodIn wsX4_isMinute (va_wsS RX4 52 yX4_within wsX4_within) := goodIn_app (goodIn_of _ (by decide +kernel)) ggX4_isMinute_X4_within
theorem dX4_isMinute_0 : decode cX4_isMinute 0 = .ok (.iload_n 0, 1) := by decide +kernel
theorem dX4_isMinute_1 : decode cX4_isMinute 1 = .ok (.iconst 0, 1) := by decide +kernel
theorem dX4_isMinute_2 : decode cX4_isMinute 2 = .ok (.sipush 299, 3) := by decide +kernel
theorem dX4_isMinute_5 : decode cX4_isMinute 5 = .ok (.invokestatic 52, 3) := by decide +kernel
theorem dX4_isMinute_8 : decode cX4_isMinute 8 = .ok (.ireturn, 1) := by decide +kernel
theorem dX4_areSpans_0 : decode cX4_areSpans 0 = .ok (.iload_n 0, 1) := by decide +kernel
theorem dX4_areSpans_1 : decode cX4_areSpans 1 = .ok (.bipush 100, 2) := by decide +kernel
theorem dX4_areSpans_3 : decode cX4_areSpans 3 = .ok (.if_icmp .gt 26, 3) := by decide +kernel
theorem dX4_areSpans_6 : decode cX4_areSpans 6 = .ok (.iload_n 1, 1) := by decide +kernel
theorem dX4_areSpans_7 : decode cX4_areSpans 7 = .ok (.iload_n 0, 1) := by decide +kernel
theorem dX4_areSpans_8 : decode cX4_areSpans 8 = .ok (.if_icmp .gt 21, 3) := by decide +kernel
theorem dX4_areSpans_11 : decode cX4_areSpans 11 = .ok (.iload_n 2, 1) := by decide +kernel
theorem dX4_areSpans_12 : decode cX4_areSpans 12 = .ok (.iload_n 1, 1) := by decide +kernel
theorem dX4_areSpans_13 : decode cX4_areSpans 13 = .ok (.if_icmp .gt 16, 3) := by decide +kernel
theorem dX4_areSpans_16 : decode cX4_areSpans 16 = .ok (.iload_n 3, 1) := by decide +kernel
theorem dX4_areSpans_17 : decode cX4_areSpans 17 = .ok (.iload_n 2, 1) := by decide +kernel
theorem dX4_areSpans_18 : decode cX4_areSpans 18 = .ok (.if_icmp .gt 11, 3) := by decide +kernel
theorem dX4_areSpans_21 : decode cX4_areSpans 21 = .ok (.iload_n 3, 1) := by decide +kernel
theorem dX4_areSpans_22 : decode cX4_areSpans 22 = .ok (.ifCond .lt 7, 3) := by decide +kernel
theorem dX4_areSpans_25 : decode cX4_areSpans 25 = .ok (.iconst 1, 1) := by decide +kernel
theorem dX4_areSpans_26 : decode cX4_areSpans 26 = .ok (.goto 4, 3) := by decide +kernel
theorem dX4_areSpans_29 : decode cX4_areSpans 29 = .ok (.iconst 0, 1) := by decide +kernel
theorem dX4_areSpans_30 : decode cX4_areSpans 30 = .ok (.ireturn, 1) := by decide +kernel
theorem dX4_oneIf_0 : decode cX4_oneIf 0 = .ok (.iload_n 0, 1) := by decide +kernel
theorem dX4_oneIf_1 : decode cX4_oneIf 1 = .ok (.ifCond .eq 7, 3) := by decide +kernel
theorem dX4_oneIf_4 : decode cX4_oneIf 4 = .ok (.iconst 1, 1) := by decide +kernel
theorem dX4_oneIf_5 : decode cX4_oneIf 5 = .ok (.goto 4, 3) := by decide +kernel
theorem dX4_oneIf_8 : decode cX4_oneIf 8 = .ok (.iconst 0, 1) := by decide +kernel
theorem dX4_oneIf_9 : decode cX4_oneIf 9 = .ok (.ireturn, 1) := by decide +kernel
set_option maxRecDepth 20000 in
theorem ggX4_fluidAt_X4_within : GoodIn wsX4_fluidAt wsX4_within := goodIn_r _ [5] (by decide +kernel) (by decide +kernel)
set_option maxRecDepth 20000 in
theorem gX4_fluidAt_X4_within : GoodIn wsX4_fluidAt (va_wsS RX4 52 yX4_within wsX4_within) := goodIn_app (goodIn_of _ (by decide +kernel)) ggX4_fluidAt_X4_within
theorem dX4_fluidAt_0 : decode cX4_fluidAt 0 = .ok (.iload_n 1, 1) := by decide +kernel
theorem dX4_fluidAt_1 : decode cX4_fluidAt 1 = .ok (.iconst 0, 1) := by decide +kernel
theorem dX4_fluidAt_2 : decode cX4_fluidAt 2 = .ok (.aload_n 0, 1) := by decide +kernel
theorem dX4_fluidAt_3 : decode cX4_fluidAt 3 = .ok (.getfield 18, 3) := by decide +kernel
theorem dX4_fluidAt_6 : decode cX4_fluidAt 6 = .ok (.arraylength, 1) := by decide +kernel
theorem dX4_fluidAt_7 : decode cX4_fluidAt 7 = .ok (.iconst 1, 1) := by decide +kernel
theorem dX4_fluidAt_8 : decode cX4_fluidAt 8 = .ok (.isub, 1) := by decide +kernel
theorem dX4_fluidAt_9 : decode cX4_fluidAt 9 = .ok (.invokestatic 52, 3) := by decide +kernel
theorem dX4_fluidAt_12 : decode cX4_fluidAt 12 = .ok (.ifCond .eq 12, 3) := by decide +kernel
theorem dX4_fluidAt_15 : decode cX4_fluidAt 15 = .ok (.aload_n 0, 1) := by decide +kernel
theorem dX4_fluidAt_16 : decode cX4_fluidAt 16 = .ok (.getfield 18, 3) := by decide +kernel
theorem dX4_fluidAt_19 : decode cX4_fluidAt 19 = .ok (.iload_n 1, 1) := by decide +kernel
theorem dX4_fluidAt_20 : decode cX4_fluidAt 20 = .ok (.aaload, 1) := by decide +kernel
theorem dX4_fluidAt_21 : decode cX4_fluidAt 21 = .ok (.goto 4, 3) := by decide +kernel
theorem dX4_fluidAt_24 : decode cX4_fluidAt 24 = .ok (.aconst_null, 1) := by decide +kernel
theorem dX4_fluidAt_25 : decode cX4_fluidAt 25 = .ok (.areturn, 1) := by decide +kernel
set_option maxRecDepth 20000 in
theorem ggX4_jetAt_X4_within : GoodIn wsX4_jetAt wsX4_within := goodIn_r _ [5] (by decide +kernel) (by decide +kernel)
set_option maxRecDepth 20000 in
theorem gX4_jetAt_X4_within : GoodIn wsX4_jetAt (va_wsS RX4 52 yX4_within wsX4_within) := goodIn_app (goodIn_of _ (by decide +kernel)) ggX4_jetAt_X4_within
theorem dX4_jetAt_0 : decode cX4_jetAt 0 = .ok (.iload_n 1, 1) := by decide +kernel
theorem dX4_jetAt_1 : decode cX4_jetAt 1 = .ok (.iconst 0, 1) := by decide +kernel
theorem dX4_jetAt_2 : decode cX4_jetAt 2 = .ok (.aload_n 0, 1) := by decide +kernel
theorem dX4_jetAt_3 : decode cX4_jetAt 3 = .ok (.getfield 24, 3) := by decide +kernel
theorem dX4_jetAt_6 : decode cX4_jetAt 6 = .ok (.arraylength, 1) := by decide +kernel
theorem dX4_jetAt_7 : decode cX4_jetAt 7 = .ok (.iconst 1, 1) := by decide +kernel
theorem dX4_jetAt_8 : decode cX4_jetAt 8 = .ok (.isub, 1) := by decide +kernel
theorem dX4_jetAt_9 : decode cX4_jetAt 9 = .ok (.invokestatic 52, 3) := by decide +kernel
theorem dX4_jetAt_12 : decode cX4_jetAt 12 = .ok (.ifCond .eq 12, 3) := by decide +kernel
theorem dX4_jetAt_15 : decode cX4_jetAt 15 = .ok (.aload_n 0, 1) := by decide +kernel
theorem dX4_jetAt_16 : decode cX4_jetAt 16 = .ok (.getfield 24, 3) := by decide +kernel
theorem dX4_jetAt_19 : decode cX4_jetAt 19 = .ok (.iload_n 1, 1) := by decide +kernel
theorem dX4_jetAt_20 : decode cX4_jetAt 20 = .ok (.aaload, 1) := by decide +kernel
theorem dX4_jetAt_21 : decode cX4_jetAt 21 = .ok (.goto 4, 3) := by decide +kernel
theorem dX4_jetAt_24 : decode cX4_jetAt 24 = .ok (.aconst_null, 1) := by decide +kernel
theorem dX4_jetAt_25 : decode cX4_jetAt 25 = .ok (.areturn, 1) := by decide +kernel
set_option maxRecDepth 20000 in
theorem ggX4_holdIn_X3_coldIn : GoodIn wsX4_holdIn wsX3_coldIn := goodIn_r _ [6, 7, 8, 9, 10, 11, 12, 13, 14, 5, 15, 16, 52, 53, 54] (by decide +kernel) (by decide +kernel)
set_option maxRecDepth 20000 in
theorem gX4_holdIn_X3_coldIn : GoodIn wsX4_holdIn (wsV RX4 74 RX3 yX3_coldIn wsX3_coldIn) := goodIn_app (goodIn_of _ (by decide +kernel)) ggX4_holdIn_X3_coldIn
set_option maxRecDepth 20000 in
theorem ggX4_holdIn_X3_fallIn : GoodIn wsX4_holdIn wsX3_fallIn := goodIn_r _ [20, 21, 22, 23, 10, 24, 12, 13, 14, 5, 15, 16, 52, 53, 54] (by decide +kernel) (by decide +kernel)
set_option maxRecDepth 20000 in
theorem gX4_holdIn_X3_fallIn : GoodIn wsX4_holdIn (wsV RX4 78 RX3 yX3_fallIn wsX3_fallIn) := goodIn_app (goodIn_of _ (by decide +kernel)) ggX4_holdIn_X3_fallIn
set_option maxRecDepth 20000 in
theorem ggX4_holdIn_X0_holds : GoodIn wsX4_holdIn wsX0_holds := goodIn_r _ [29, 30, 31, 32, 33, 34, 35, 28, 36, 37, 55, 56, 57, 58, 59] (by decide +kernel) (by decide +kernel)
set_option maxRecDepth 20000 in
theorem gX4_holdIn_X0_holds : GoodIn wsX4_holdIn (wsV RX4 191 RX0 yX0_holds wsX0_holds) := goodIn_app (goodIn_of _ (by decide +kernel)) ggX4_holdIn_X0_holds
theorem dX4_holdIn_0 : decode cX4_holdIn 0 = .ok (.aload_n 1, 1) := by decide +kernel
theorem dX4_holdIn_1 : decode cX4_holdIn 1 = .ok (.aload_n 0, 1) := by decide +kernel
theorem dX4_holdIn_2 : decode cX4_holdIn 2 = .ok (.getfield 10, 3) := by decide +kernel
theorem dX4_holdIn_5 : decode cX4_holdIn 5 = .ok (.iload_n 2, 1) := by decide +kernel
theorem dX4_holdIn_6 : decode cX4_holdIn 6 = .ok (.invokevirtual 74, 3) := by decide +kernel
theorem dX4_holdIn_9 : decode cX4_holdIn 9 = .ok (.aload_n 0, 1) := by decide +kernel
theorem dX4_holdIn_10 : decode cX4_holdIn 10 = .ok (.getfield 10, 3) := by decide +kernel
theorem dX4_holdIn_13 : decode cX4_holdIn 13 = .ok (.iload_n 2, 1) := by decide +kernel
theorem dX4_holdIn_14 : decode cX4_holdIn 14 = .ok (.invokevirtual 78, 3) := by decide +kernel
theorem dX4_holdIn_17 : decode cX4_holdIn 17 = .ok (.invokevirtual 191, 3) := by decide +kernel
theorem dX4_holdIn_20 : decode cX4_holdIn 20 = .ok (.ireturn, 1) := by decide +kernel
set_option maxRecDepth 20000 in
theorem ggX4_changePads_X4_within : GoodIn wsX4_changePads wsX4_within := goodIn_r _ [5] (by decide +kernel) (by decide +kernel)
set_option maxRecDepth 20000 in
theorem gX4_changePads_X4_within : GoodIn wsX4_changePads (va_wsS RX4 52 yX4_within wsX4_within) := goodIn_app (goodIn_of _ (by decide +kernel)) ggX4_changePads_X4_within
set_option maxRecDepth 20000 in
theorem ggX4_changePads_X4_jetsIn : GoodIn wsX4_changePads wsX4_jetsIn := goodIn_r _ [9, 10, 11, 12, 13, 14, 15, 16, 17, 18, 19, 20, 21, 22, 23, 24, 25, 26, 27, 28, 29, 30, 31, 32, 33, 34, 35, 36, 37, 38, 39, 40, 41, 42, 43, 44, 45, 46, 47] (by decide +kernel) (by decide +kernel)
set_option maxRecDepth 20000 in
theorem gX4_changePads_X4_jetsIn : GoodIn wsX4_changePads (wsV RX4 176 RX4 yX4_jetsIn wsX4_jetsIn) := goodIn_app (goodIn_of _ (by decide +kernel)) ggX4_changePads_X4_jetsIn
theorem dX4_changePads_0 : decode cX4_changePads 0 = .ok (.iload_n 1, 1) := by decide +kernel
theorem dX4_changePads_1 : decode cX4_changePads 1 = .ok (.iconst 1, 1) := by decide +kernel
theorem dX4_changePads_2 : decode cX4_changePads 2 = .ok (.iconst 3, 1) := by decide +kernel
theorem dX4_changePads_3 : decode cX4_changePads 3 = .ok (.invokestatic 52, 3) := by decide +kernel
theorem dX4_changePads_6 : decode cX4_changePads 6 = .ok (.ifCond .ne 6, 3) := by decide +kernel
theorem dX4_changePads_9 : decode cX4_changePads 9 = .ok (.bipush (-100), 2) := by decide +kernel
theorem dX4_changePads_11 : decode cX4_changePads 11 = .ok (.ireturn, 1) := by decide +kernel
theorem dX4_changePads_12 : decode cX4_changePads 12 = .ok (.aload_n 0, 1) := by decide +kernel
theorem dX4_changePads_13 : decode cX4_changePads 13 = .ok (.iconst 1, 1) := by decide +kernel
theorem dX4_changePads_14 : decode cX4_changePads 14 = .ok (.invokevirtual 176, 3) := by decide +kernel
theorem dX4_changePads_17 : decode cX4_changePads 17 = .ok (.ifCond .le 7, 3) := by decide +kernel
theorem dX4_changePads_20 : decode cX4_changePads 20 = .ok (.sipush (-200), 3) := by decide +kernel
theorem dX4_changePads_23 : decode cX4_changePads 23 = .ok (.ireturn, 1) := by decide +kernel
theorem dX4_changePads_24 : decode cX4_changePads 24 = .ok (.aload_n 0, 1) := by decide +kernel
theorem dX4_changePads_25 : decode cX4_changePads 25 = .ok (.getfield 38, 3) := by decide +kernel
theorem dX4_changePads_28 : decode cX4_changePads 28 = .ok (.istore_n 2, 1) := by decide +kernel
theorem dX4_changePads_29 : decode cX4_changePads 29 = .ok (.aload_n 0, 1) := by decide +kernel
theorem dX4_changePads_30 : decode cX4_changePads 30 = .ok (.iload_n 1, 1) := by decide +kernel
theorem dX4_changePads_31 : decode cX4_changePads 31 = .ok (.putfield 38, 3) := by decide +kernel
theorem dX4_changePads_34 : decode cX4_changePads 34 = .ok (.iload_n 2, 1) := by decide +kernel
theorem dX4_changePads_35 : decode cX4_changePads 35 = .ok (.ireturn, 1) := by decide +kernel
set_option maxRecDepth 20000 in
theorem ggX4_changeLimit_X4_within : GoodIn wsX4_changeLimit wsX4_within := goodIn_r _ [5] (by decide +kernel) (by decide +kernel)
set_option maxRecDepth 20000 in
theorem gX4_changeLimit_X4_within : GoodIn wsX4_changeLimit (va_wsS RX4 52 yX4_within wsX4_within) := goodIn_app (goodIn_of _ (by decide +kernel)) ggX4_changeLimit_X4_within
theorem dX4_changeLimit_0 : decode cX4_changeLimit 0 = .ok (.iload_n 1, 1) := by decide +kernel
theorem dX4_changeLimit_1 : decode cX4_changeLimit 1 = .ok (.bipush 10, 2) := by decide +kernel
theorem dX4_changeLimit_3 : decode cX4_changeLimit 3 = .ok (.sipush 1000, 3) := by decide +kernel
theorem dX4_changeLimit_6 : decode cX4_changeLimit 6 = .ok (.invokestatic 52, 3) := by decide +kernel
theorem dX4_changeLimit_9 : decode cX4_changeLimit 9 = .ok (.ifCond .ne 6, 3) := by decide +kernel
theorem dX4_changeLimit_12 : decode cX4_changeLimit 12 = .ok (.bipush (-100), 2) := by decide +kernel
theorem dX4_changeLimit_14 : decode cX4_changeLimit 14 = .ok (.ireturn, 1) := by decide +kernel
theorem dX4_changeLimit_15 : decode cX4_changeLimit 15 = .ok (.aload_n 0, 1) := by decide +kernel
theorem dX4_changeLimit_16 : decode cX4_changeLimit 16 = .ok (.getfield 42, 3) := by decide +kernel
theorem dX4_changeLimit_19 : decode cX4_changeLimit 19 = .ok (.istore_n 2, 1) := by decide +kernel
theorem dX4_changeLimit_20 : decode cX4_changeLimit 20 = .ok (.aload_n 0, 1) := by decide +kernel
theorem dX4_changeLimit_21 : decode cX4_changeLimit 21 = .ok (.iload_n 1, 1) := by decide +kernel
theorem dX4_changeLimit_22 : decode cX4_changeLimit 22 = .ok (.putfield 42, 3) := by decide +kernel
theorem dX4_changeLimit_25 : decode cX4_changeLimit 25 = .ok (.iload_n 2, 1) := by decide +kernel
theorem dX4_changeLimit_26 : decode cX4_changeLimit 26 = .ok (.ireturn, 1) := by decide +kernel
set_option maxRecDepth 20000 in
theorem ggX4_changeRate_X4_within : GoodIn wsX4_changeRate wsX4_within := goodIn_r _ [5] (by decide +kernel) (by decide +kernel)
set_option maxRecDepth 20000 in
theorem gX4_changeRate_X4_within : GoodIn wsX4_changeRate (va_wsS RX4 52 yX4_within wsX4_within) := goodIn_app (goodIn_of _ (by decide +kernel)) ggX4_changeRate_X4_within
theorem dX4_changeRate_0 : decode cX4_changeRate 0 = .ok (.iload_n 1, 1) := by decide +kernel
theorem dX4_changeRate_1 : decode cX4_changeRate 1 = .ok (.iconst 0, 1) := by decide +kernel
theorem dX4_changeRate_2 : decode cX4_changeRate 2 = .ok (.bipush 50, 2) := by decide +kernel
theorem dX4_changeRate_4 : decode cX4_changeRate 4 = .ok (.invokestatic 52, 3) := by decide +kernel
theorem dX4_changeRate_7 : decode cX4_changeRate 7 = .ok (.ifCond .ne 6, 3) := by decide +kernel
theorem dX4_changeRate_10 : decode cX4_changeRate 10 = .ok (.bipush (-100), 2) := by decide +kernel
theorem dX4_changeRate_12 : decode cX4_changeRate 12 = .ok (.ireturn, 1) := by decide +kernel
theorem dX4_changeRate_13 : decode cX4_changeRate 13 = .ok (.aload_n 0, 1) := by decide +kernel
theorem dX4_changeRate_14 : decode cX4_changeRate 14 = .ok (.getfield 45, 3) := by decide +kernel
theorem dX4_changeRate_17 : decode cX4_changeRate 17 = .ok (.istore_n 2, 1) := by decide +kernel
theorem dX4_changeRate_18 : decode cX4_changeRate 18 = .ok (.aload_n 0, 1) := by decide +kernel
theorem dX4_changeRate_19 : decode cX4_changeRate 19 = .ok (.iload_n 1, 1) := by decide +kernel
theorem dX4_changeRate_20 : decode cX4_changeRate 20 = .ok (.putfield 45, 3) := by decide +kernel
theorem dX4_changeRate_23 : decode cX4_changeRate 23 = .ok (.iload_n 2, 1) := by decide +kernel
theorem dX4_changeRate_24 : decode cX4_changeRate 24 = .ok (.ireturn, 1) := by decide +kernel
set_option maxRecDepth 20000 in
theorem ggX4_passMinute_X4_endOn : GoodIn wsX4_passMinute wsX4_endOn := goodIn_r _ [13, 14, 8, 15, 16, 17, 18, 19, 20, 21, 22, 23, 24, 25, 26, 27, 28, 29, 30, 31, 110, 111, 112, 113, 114, 115, 116, 117, 118, 119, 120, 121, 122, 123, 124, 125, 126, 127, 128, 129, 130, 131, 132, 133, 134] (by decide +kernel) (by decide +kernel)
set_option maxRecDepth 20000 in
theorem gX4_passMinute_X4_endOn : GoodIn wsX4_passMinute (wsV RX4 200 RX4 yX4_endOn wsX4_endOn) := goodIn_app (goodIn_of _ (by decide +kernel)) ggX4_passMinute_X4_endOn
set_option maxRecDepth 20000 in
theorem ggX4_passMinute_X4_beginOn : GoodIn wsX4_passMinute wsX4_beginOn := goodIn_r _ [35, 14, 36, 37, 1, 38, 8, 39, 40, 41, 12, 42, 43, 44, 45, 46, 47, 48, 49, 50, 51, 52, 53, 19, 54, 27, 55, 56, 57, 58, 29, 59, 60, 61, 62, 21, 63, 64, 65, 66, 67, 68, 69, 70, 71, 72, 73, 74, 75, 76, 77, 78, 79, 5, 80, 81, 82, 83, 84, 85, 86, 87, 88, 89, 90, 91, 4, 6, 92, 93, 94, 95, 96, 97, 98, 99, 100, 101, 102, 103, 104, 105, 106, 107, 108, 109, 28, 110, 111, 112, 113, 114, 115, 116, 117, 118, 119, 120, 121, 122, 123, 124, 125, 126, 127, 128, 129, 130, 131, 132, 133, 134, 135, 136, 137, 138, 139, 140, 141, 142] (by decide +kernel) (by decide +kernel)
set_option maxRecDepth 20000 in
theorem gX4_passMinute_X4_beginOn : GoodIn wsX4_passMinute (wsV RX4 203 RX4 yX4_beginOn wsX4_beginOn) := goodIn_app (goodIn_of _ (by decide +kernel)) ggX4_passMinute_X4_beginOn
theorem dX4_passMinute_0 : decode cX4_passMinute 0 = .ok (.aload_n 0, 1) := by decide +kernel
theorem dX4_passMinute_1 : decode cX4_passMinute 1 = .ok (.iconst 0, 1) := by decide +kernel
theorem dX4_passMinute_2 : decode cX4_passMinute 2 = .ok (.aload_n 0, 1) := by decide +kernel
theorem dX4_passMinute_3 : decode cX4_passMinute 3 = .ok (.getfield 179, 3) := by decide +kernel
theorem dX4_passMinute_6 : decode cX4_passMinute 6 = .ok (.aload_n 0, 1) := by decide +kernel
theorem dX4_passMinute_7 : decode cX4_passMinute 7 = .ok (.getfield 45, 3) := by decide +kernel
theorem dX4_passMinute_10 : decode cX4_passMinute 10 = .ok (.isub, 1) := by decide +kernel
theorem dX4_passMinute_11 : decode cX4_passMinute 11 = .ok (.invokestatic 195, 3) := by decide +kernel
theorem dX4_passMinute_14 : decode cX4_passMinute 14 = .ok (.putfield 179, 3) := by decide +kernel
theorem dX4_passMinute_17 : decode cX4_passMinute 17 = .ok (.iconst 0, 1) := by decide +kernel
theorem dX4_passMinute_18 : decode cX4_passMinute 18 = .ok (.istore_n 1, 1) := by decide +kernel
theorem dX4_passMinute_19 : decode cX4_passMinute 19 = .ok (.iload_n 1, 1) := by decide +kernel
theorem dX4_passMinute_20 : decode cX4_passMinute 20 = .ok (.aload_n 0, 1) := by decide +kernel
theorem dX4_passMinute_21 : decode cX4_passMinute 21 = .ok (.getfield 38, 3) := by decide +kernel
theorem dX4_passMinute_24 : decode cX4_passMinute 24 = .ok (.if_icmp .ge 14, 3) := by decide +kernel
theorem dX4_passMinute_27 : decode cX4_passMinute 27 = .ok (.aload_n 0, 1) := by decide +kernel
theorem dX4_passMinute_28 : decode cX4_passMinute 28 = .ok (.iload_n 1, 1) := by decide +kernel
theorem dX4_passMinute_29 : decode cX4_passMinute 29 = .ok (.invokevirtual 200, 3) := by decide +kernel
theorem dX4_passMinute_32 : decode cX4_passMinute 32 = .ok (.iinc 1 1, 3) := by decide +kernel
theorem dX4_passMinute_35 : decode cX4_passMinute 35 = .ok (.goto (-16), 3) := by decide +kernel
theorem dX4_passMinute_38 : decode cX4_passMinute 38 = .ok (.iconst 0, 1) := by decide +kernel
theorem dX4_passMinute_39 : decode cX4_passMinute 39 = .ok (.istore_n 1, 1) := by decide +kernel
theorem dX4_passMinute_40 : decode cX4_passMinute 40 = .ok (.iload_n 1, 1) := by decide +kernel
theorem dX4_passMinute_41 : decode cX4_passMinute 41 = .ok (.aload_n 0, 1) := by decide +kernel
theorem dX4_passMinute_42 : decode cX4_passMinute 42 = .ok (.getfield 38, 3) := by decide +kernel
theorem dX4_passMinute_45 : decode cX4_passMinute 45 = .ok (.if_icmp .ge 14, 3) := by decide +kernel
theorem dX4_passMinute_48 : decode cX4_passMinute 48 = .ok (.aload_n 0, 1) := by decide +kernel
theorem dX4_passMinute_49 : decode cX4_passMinute 49 = .ok (.iload_n 1, 1) := by decide +kernel
theorem dX4_passMinute_50 : decode cX4_passMinute 50 = .ok (.invokevirtual 203, 3) := by decide +kernel
theorem dX4_passMinute_53 : decode cX4_passMinute 53 = .ok (.iinc 1 1, 3) := by decide +kernel
theorem dX4_passMinute_56 : decode cX4_passMinute 56 = .ok (.goto (-16), 3) := by decide +kernel
theorem dX4_passMinute_59 : decode cX4_passMinute 59 = .ok (.aload_n 0, 1) := by decide +kernel
theorem dX4_passMinute_60 : decode cX4_passMinute 60 = .ok (.dup, 1) := by decide +kernel
theorem dX4_passMinute_61 : decode cX4_passMinute 61 = .ok (.getfield 56, 3) := by decide +kernel
theorem dX4_passMinute_64 : decode cX4_passMinute 64 = .ok (.iconst 1, 1) := by decide +kernel
theorem dX4_passMinute_65 : decode cX4_passMinute 65 = .ok (.iadd, 1) := by decide +kernel
theorem dX4_passMinute_66 : decode cX4_passMinute 66 = .ok (.putfield 56, 3) := by decide +kernel
theorem dX4_passMinute_69 : decode cX4_passMinute 69 = .ok (.return_, 1) := by decide +kernel
set_option maxRecDepth 20000 in
theorem ggX4_endOn_X1_treatment : GoodIn wsX4_endOn wsX1_treatment := goodIn_r _ [8, 9, 34, 35, 36, 37, 38, 39, 40, 41, 42, 43, 44] (by decide +kernel) (by decide +kernel)
set_option maxRecDepth 20000 in
theorem gX4_endOn_X1_treatment : GoodIn wsX4_endOn (wsV RX4 206 RX1 yX1_treatment wsX1_treatment) := goodIn_app (goodIn_of _ (by decide +kernel)) ggX4_endOn_X1_treatment
set_option maxRecDepth 20000 in
theorem ggX4_endOn_X1_leave : GoodIn wsX4_endOn wsX1_leave := goodIn_r _ [13, 14, 15, 16, 17, 18, 19, 34, 35, 36, 37, 38, 39, 40, 41, 42, 43, 44] (by decide +kernel) (by decide +kernel)
set_option maxRecDepth 20000 in
theorem gX4_endOn_X1_leave : GoodIn wsX4_endOn (wsV RX4 209 RX1 yX1_leave wsX1_leave) := goodIn_app (goodIn_of _ (by decide +kernel)) ggX4_endOn_X1_leave
theorem dX4_endOn_0 : decode cX4_endOn 0 = .ok (.aload_n 0, 1) := by decide +kernel
theorem dX4_endOn_1 : decode cX4_endOn 1 = .ok (.getfield 28, 3) := by decide +kernel
theorem dX4_endOn_4 : decode cX4_endOn 4 = .ok (.iload_n 1, 1) := by decide +kernel
theorem dX4_endOn_5 : decode cX4_endOn 5 = .ok (.aaload, 1) := by decide +kernel
theorem dX4_endOn_6 : decode cX4_endOn 6 = .ok (.astore_n 2, 1) := by decide +kernel
theorem dX4_endOn_7 : decode cX4_endOn 7 = .ok (.aload_n 2, 1) := by decide +kernel
theorem dX4_endOn_8 : decode cX4_endOn 8 = .ok (.ifnull 19, 3) := by decide +kernel
theorem dX4_endOn_11 : decode cX4_endOn 11 = .ok (.aload_n 0, 1) := by decide +kernel
theorem dX4_endOn_12 : decode cX4_endOn 12 = .ok (.getfield 56, 3) := by decide +kernel
theorem dX4_endOn_15 : decode cX4_endOn 15 = .ok (.aload_n 2, 1) := by decide +kernel
theorem dX4_endOn_16 : decode cX4_endOn 16 = .ok (.getfield 138, 3) := by decide +kernel
theorem dX4_endOn_19 : decode cX4_endOn 19 = .ok (.aload_n 2, 1) := by decide +kernel
end
section
theorem dX4_endOn_20 : decode cX4_endOn 20 = .ok (.invokevirtual 206, 3) := by decide +kernel
theorem dX4_endOn_23 : decode cX4_endOn 23 = .ok (.iadd, 1) := by decide +kernel
theorem dX4_endOn_24 : decode cX4_endOn 24 = .ok (.if_icmp .ge 4, 3) := by decide +kernel
theorem dX4_endOn_27 : decode cX4_endOn 27 = .ok (.return_, 1) := by decide +kernel
theorem dX4_endOn_28 : decode cX4_endOn 28 = .ok (.aload_n 0, 1) := by decide +kernel
theorem dX4_endOn_29 : decode cX4_endOn 29 = .ok (.getfield 28, 3) := by decide +kernel
theorem dX4_endOn_32 : decode cX4_endOn 32 = .ok (.iload_n 1, 1) := by decide +kernel
theorem dX4_endOn_33 : decode cX4_endOn 33 = .ok (.aconst_null, 1) := by decide +kernel
theorem dX4_endOn_34 : decode cX4_endOn 34 = .ok (.aastore, 1) := by decide +kernel
theorem dX4_endOn_35 : decode cX4_endOn 35 = .ok (.aload_n 2, 1) := by decide +kernel
theorem dX4_endOn_36 : decode cX4_endOn 36 = .ok (.aload_n 0, 1) := by decide +kernel
theorem dX4_endOn_37 : decode cX4_endOn 37 = .ok (.getfield 56, 3) := by decide +kernel
theorem dX4_endOn_40 : decode cX4_endOn 40 = .ok (.invokevirtual 209, 3) := by decide +kernel
theorem dX4_endOn_43 : decode cX4_endOn 43 = .ok (.return_, 1) := by decide +kernel
set_option maxRecDepth 20000 in
theorem ggX4_beginOn_X4_nextToBegin : GoodIn wsX4_beginOn wsX4_nextToBegin := goodIn_r _ [11, 12, 13, 14, 15, 16, 17, 10, 18, 6, 2, 3, 4, 19, 20, 21, 22, 23, 24, 25, 26, 27, 28, 29, 30, 31, 32, 33, 34, 35, 36, 37, 38, 39, 87, 88, 89, 90, 91, 92, 93, 94, 95, 96, 97, 98, 99, 100, 101, 102, 103, 104, 105, 106, 107, 108, 109, 110, 111, 112, 113, 114, 115, 116] (by decide +kernel) (by decide +kernel)
set_option maxRecDepth 20000 in
theorem gX4_beginOn_X4_nextToBegin : GoodIn wsX4_beginOn (wsV RX4 212 RX4 yX4_nextToBegin wsX4_nextToBegin) := goodIn_app (goodIn_of _ (by decide +kernel)) ggX4_beginOn_X4_nextToBegin
set_option maxRecDepth 20000 in
theorem ggX4_beginOn_X1_litresNeeded : GoodIn wsX4_beginOn wsX1_litresNeeded := goodIn_r _ [34, 35, 101, 102, 103, 104, 105, 106, 107, 108, 109, 110, 111] (by decide +kernel) (by decide +kernel)
set_option maxRecDepth 20000 in
theorem gX4_beginOn_X1_litresNeeded : GoodIn wsX4_beginOn (wsV RX4 220 RX1 yX1_litresNeeded wsX1_litresNeeded) := goodIn_app (goodIn_of _ (by decide +kernel)) ggX4_beginOn_X1_litresNeeded
set_option maxRecDepth 20000 in
theorem ggX4_beginOn_X1_drainNeeded : GoodIn wsX4_beginOn wsX1_drainNeeded := goodIn_r _ [39, 35, 101, 102, 103, 104, 105, 106, 107, 108, 109, 110, 111] (by decide +kernel) (by decide +kernel)
set_option maxRecDepth 20000 in
theorem gX4_beginOn_X1_drainNeeded : GoodIn wsX4_beginOn (wsV RX4 223 RX1 yX1_drainNeeded wsX1_drainNeeded) := goodIn_app (goodIn_of _ (by decide +kernel)) ggX4_beginOn_X1_drainNeeded
set_option maxRecDepth 20000 in
theorem ggX4_beginOn_X4_holdIn : GoodIn wsX4_beginOn wsX4_holdIn := goodIn_r _ [43, 44, 45, 46, 47, 48, 49, 50, 51, 52, 53, 54, 55, 56, 57, 58, 59, 60, 61, 62, 63, 64, 65, 66, 67, 68, 69, 70, 71, 72, 73, 74, 75, 76, 77, 78, 79, 80, 87, 88, 89, 90, 91, 92, 93, 94, 95, 96, 97, 98, 99, 100, 117, 118, 119, 112, 113, 114, 115, 116] (by decide +kernel) (by decide +kernel)
set_option maxRecDepth 20000 in
theorem gX4_beginOn_X4_holdIn : GoodIn wsX4_beginOn (wsV RX4 103 RX4 yX4_holdIn wsX4_holdIn) := goodIn_app (goodIn_of _ (by decide +kernel)) ggX4_beginOn_X4_holdIn
set_option maxRecDepth 20000 in
theorem ggX4_beginOn_X1_begin : GoodIn wsX4_beginOn wsX1_begin := goodIn_r _ [84, 25, 85, 86, 101, 102, 103, 104, 105, 106, 107, 108, 109, 110, 111] (by decide +kernel) (by decide +kernel)
set_option maxRecDepth 20000 in
theorem gX4_beginOn_X1_begin : GoodIn wsX4_beginOn (wsV RX4 226 RX1 yX1_begin wsX1_begin) := goodIn_app (goodIn_of _ (by decide +kernel)) ggX4_beginOn_X1_begin
theorem dX4_beginOn_0 : decode cX4_beginOn 0 = .ok (.aload_n 0, 1) := by decide +kernel
theorem dX4_beginOn_1 : decode cX4_beginOn 1 = .ok (.getfield 28, 3) := by decide +kernel
theorem dX4_beginOn_4 : decode cX4_beginOn 4 = .ok (.iload_n 1, 1) := by decide +kernel
theorem dX4_beginOn_5 : decode cX4_beginOn 5 = .ok (.aaload, 1) := by decide +kernel
theorem dX4_beginOn_6 : decode cX4_beginOn 6 = .ok (.ifnull 4, 3) := by decide +kernel
theorem dX4_beginOn_9 : decode cX4_beginOn 9 = .ok (.return_, 1) := by decide +kernel
theorem dX4_beginOn_10 : decode cX4_beginOn 10 = .ok (.aload_n 0, 1) := by decide +kernel
theorem dX4_beginOn_11 : decode cX4_beginOn 11 = .ok (.invokevirtual 212, 3) := by decide +kernel
theorem dX4_beginOn_14 : decode cX4_beginOn 14 = .ok (.astore_n 2, 1) := by decide +kernel
theorem dX4_beginOn_15 : decode cX4_beginOn 15 = .ok (.aload_n 2, 1) := by decide +kernel
theorem dX4_beginOn_16 : decode cX4_beginOn 16 = .ok (.ifnonnull 4, 3) := by decide +kernel
theorem dX4_beginOn_19 : decode cX4_beginOn 19 = .ok (.return_, 1) := by decide +kernel
theorem dX4_beginOn_20 : decode cX4_beginOn 20 = .ok (.aload_n 2, 1) := by decide +kernel
theorem dX4_beginOn_21 : decode cX4_beginOn 21 = .ok (.getfield 216, 3) := by decide +kernel
theorem dX4_beginOn_24 : decode cX4_beginOn 24 = .ok (.dup, 1) := by decide +kernel
theorem dX4_beginOn_25 : decode cX4_beginOn 25 = .ok (.getfield 107, 3) := by decide +kernel
theorem dX4_beginOn_28 : decode cX4_beginOn 28 = .ok (.aload_n 2, 1) := by decide +kernel
theorem dX4_beginOn_29 : decode cX4_beginOn 29 = .ok (.invokevirtual 220, 3) := by decide +kernel
theorem dX4_beginOn_32 : decode cX4_beginOn 32 = .ok (.isub, 1) := by decide +kernel
theorem dX4_beginOn_33 : decode cX4_beginOn 33 = .ok (.putfield 107, 3) := by decide +kernel
theorem dX4_beginOn_36 : decode cX4_beginOn 36 = .ok (.aload_n 0, 1) := by decide +kernel
theorem dX4_beginOn_37 : decode cX4_beginOn 37 = .ok (.dup, 1) := by decide +kernel
theorem dX4_beginOn_38 : decode cX4_beginOn 38 = .ok (.getfield 179, 3) := by decide +kernel
theorem dX4_beginOn_41 : decode cX4_beginOn 41 = .ok (.aload_n 2, 1) := by decide +kernel
theorem dX4_beginOn_42 : decode cX4_beginOn 42 = .ok (.invokevirtual 223, 3) := by decide +kernel
theorem dX4_beginOn_45 : decode cX4_beginOn 45 = .ok (.iadd, 1) := by decide +kernel
theorem dX4_beginOn_46 : decode cX4_beginOn 46 = .ok (.putfield 179, 3) := by decide +kernel
theorem dX4_beginOn_49 : decode cX4_beginOn 49 = .ok (.aload_n 0, 1) := by decide +kernel
theorem dX4_beginOn_50 : decode cX4_beginOn 50 = .ok (.dup, 1) := by decide +kernel
theorem dX4_beginOn_51 : decode cX4_beginOn 51 = .ok (.getfield 182, 3) := by decide +kernel
theorem dX4_beginOn_54 : decode cX4_beginOn 54 = .ok (.iconst 1, 1) := by decide +kernel
theorem dX4_beginOn_55 : decode cX4_beginOn 55 = .ok (.iadd, 1) := by decide +kernel
theorem dX4_beginOn_56 : decode cX4_beginOn 56 = .ok (.putfield 182, 3) := by decide +kernel
theorem dX4_beginOn_59 : decode cX4_beginOn 59 = .ok (.aload_n 0, 1) := by decide +kernel
theorem dX4_beginOn_60 : decode cX4_beginOn 60 = .ok (.getfield 28, 3) := by decide +kernel
theorem dX4_beginOn_63 : decode cX4_beginOn 63 = .ok (.iload_n 1, 1) := by decide +kernel
theorem dX4_beginOn_64 : decode cX4_beginOn 64 = .ok (.aload_n 2, 1) := by decide +kernel
theorem dX4_beginOn_65 : decode cX4_beginOn 65 = .ok (.aastore, 1) := by decide +kernel
theorem dX4_beginOn_66 : decode cX4_beginOn 66 = .ok (.aload_n 2, 1) := by decide +kernel
theorem dX4_beginOn_67 : decode cX4_beginOn 67 = .ok (.iload_n 1, 1) := by decide +kernel
theorem dX4_beginOn_68 : decode cX4_beginOn 68 = .ok (.aload_n 0, 1) := by decide +kernel
theorem dX4_beginOn_69 : decode cX4_beginOn 69 = .ok (.getfield 56, 3) := by decide +kernel
theorem dX4_beginOn_72 : decode cX4_beginOn 72 = .ok (.aload_n 0, 1) := by decide +kernel
theorem dX4_beginOn_73 : decode cX4_beginOn 73 = .ok (.aload_n 2, 1) := by decide +kernel
theorem dX4_beginOn_74 : decode cX4_beginOn 74 = .ok (.getfield 216, 3) := by decide +kernel
theorem dX4_beginOn_77 : decode cX4_beginOn 77 = .ok (.aload_n 0, 1) := by decide +kernel
theorem dX4_beginOn_78 : decode cX4_beginOn 78 = .ok (.getfield 56, 3) := by decide +kernel
theorem dX4_beginOn_81 : decode cX4_beginOn 81 = .ok (.invokevirtual 103, 3) := by decide +kernel
theorem dX4_beginOn_84 : decode cX4_beginOn 84 = .ok (.invokevirtual 226, 3) := by decide +kernel
theorem dX4_beginOn_87 : decode cX4_beginOn 87 = .ok (.return_, 1) := by decide +kernel
set_option maxRecDepth 20000 in
theorem ggX4_nextToBegin_X4_mayBegin : GoodIn wsX4_nextToBegin wsX4_mayBegin := goodIn_r _ [8, 3, 9, 10, 11, 12, 13, 14, 15, 16, 17, 18, 19, 20, 21, 22, 23, 24, 25, 26, 27, 28, 29, 30, 31, 32, 33, 48, 49, 50, 51, 52, 53, 54, 55, 56, 57, 58, 34, 35, 36, 37, 38, 39, 40, 41, 42, 43, 44, 45, 46, 47, 59, 60, 61, 62, 63] (by decide +kernel) (by decide +kernel)
set_option maxRecDepth 20000 in
theorem gX4_nextToBegin_X4_mayBegin : GoodIn wsX4_nextToBegin (wsV RX4 229 RX4 yX4_mayBegin wsX4_mayBegin) := goodIn_app (goodIn_of _ (by decide +kernel)) ggX4_nextToBegin_X4_mayBegin
theorem dX4_nextToBegin_0 : decode cX4_nextToBegin 0 = .ok (.aconst_null, 1) := by decide +kernel
theorem dX4_nextToBegin_1 : decode cX4_nextToBegin 1 = .ok (.astore_n 1, 1) := by decide +kernel
theorem dX4_nextToBegin_2 : decode cX4_nextToBegin 2 = .ok (.iconst 0, 1) := by decide +kernel
theorem dX4_nextToBegin_3 : decode cX4_nextToBegin 3 = .ok (.istore_n 2, 1) := by decide +kernel
theorem dX4_nextToBegin_4 : decode cX4_nextToBegin 4 = .ok (.iload_n 2, 1) := by decide +kernel
theorem dX4_nextToBegin_5 : decode cX4_nextToBegin 5 = .ok (.aload_n 0, 1) := by decide +kernel
theorem dX4_nextToBegin_6 : decode cX4_nextToBegin 6 = .ok (.getfield 119, 3) := by decide +kernel
theorem dX4_nextToBegin_9 : decode cX4_nextToBegin 9 = .ok (.if_icmp .ge 48, 3) := by decide +kernel
theorem dX4_nextToBegin_12 : decode cX4_nextToBegin 12 = .ok (.aload_n 0, 1) := by decide +kernel
theorem dX4_nextToBegin_13 : decode cX4_nextToBegin 13 = .ok (.getfield 24, 3) := by decide +kernel
theorem dX4_nextToBegin_16 : decode cX4_nextToBegin 16 = .ok (.iload_n 2, 1) := by decide +kernel
theorem dX4_nextToBegin_17 : decode cX4_nextToBegin 17 = .ok (.aaload, 1) := by decide +kernel
theorem dX4_nextToBegin_18 : decode cX4_nextToBegin 18 = .ok (.astore_n 3, 1) := by decide +kernel
theorem dX4_nextToBegin_19 : decode cX4_nextToBegin 19 = .ok (.aload_n 3, 1) := by decide +kernel
theorem dX4_nextToBegin_20 : decode cX4_nextToBegin 20 = .ok (.ifnull 31, 3) := by decide +kernel
theorem dX4_nextToBegin_23 : decode cX4_nextToBegin 23 = .ok (.aload_n 0, 1) := by decide +kernel
theorem dX4_nextToBegin_24 : decode cX4_nextToBegin 24 = .ok (.aload_n 3, 1) := by decide +kernel
theorem dX4_nextToBegin_25 : decode cX4_nextToBegin 25 = .ok (.invokevirtual 229, 3) := by decide +kernel
theorem dX4_nextToBegin_28 : decode cX4_nextToBegin 28 = .ok (.ifCond .ne 6, 3) := by decide +kernel
theorem dX4_nextToBegin_31 : decode cX4_nextToBegin 31 = .ok (.goto 20, 3) := by decide +kernel
theorem dX4_nextToBegin_34 : decode cX4_nextToBegin 34 = .ok (.aload_n 1, 1) := by decide +kernel
theorem dX4_nextToBegin_35 : decode cX4_nextToBegin 35 = .ok (.ifnull 14, 3) := by decide +kernel
theorem dX4_nextToBegin_38 : decode cX4_nextToBegin 38 = .ok (.aload_n 3, 1) := by decide +kernel
theorem dX4_nextToBegin_39 : decode cX4_nextToBegin 39 = .ok (.getfield 141, 3) := by decide +kernel
theorem dX4_nextToBegin_42 : decode cX4_nextToBegin 42 = .ok (.aload_n 1, 1) := by decide +kernel
theorem dX4_nextToBegin_43 : decode cX4_nextToBegin 43 = .ok (.getfield 141, 3) := by decide +kernel
theorem dX4_nextToBegin_46 : decode cX4_nextToBegin 46 = .ok (.if_icmp .ge 5, 3) := by decide +kernel
theorem dX4_nextToBegin_49 : decode cX4_nextToBegin 49 = .ok (.aload_n 3, 1) := by decide +kernel
theorem dX4_nextToBegin_50 : decode cX4_nextToBegin 50 = .ok (.astore_n 1, 1) := by decide +kernel
theorem dX4_nextToBegin_51 : decode cX4_nextToBegin 51 = .ok (.iinc 2 1, 3) := by decide +kernel
theorem dX4_nextToBegin_54 : decode cX4_nextToBegin 54 = .ok (.goto (-50), 3) := by decide +kernel
theorem dX4_nextToBegin_57 : decode cX4_nextToBegin 57 = .ok (.aload_n 1, 1) := by decide +kernel
theorem dX4_nextToBegin_58 : decode cX4_nextToBegin 58 = .ok (.areturn, 1) := by decide +kernel
set_option maxRecDepth 20000 in
theorem ggX4_mayBegin_X1_state : GoodIn wsX4_mayBegin wsX1_state := goodIn_r _ [11, 12, 13, 14, 15, 10, 16, 17, 27, 28, 29, 30, 31, 32, 33, 34, 35, 36, 37] (by decide +kernel) (by decide +kernel)
set_option maxRecDepth 20000 in
theorem gX4_mayBegin_X1_state : GoodIn wsX4_mayBegin (wsV RX4 132 RX1 yX1_state wsX1_state) := goodIn_app (goodIn_of _ (by decide +kernel)) ggX4_mayBegin_X1_state
set_option maxRecDepth 20000 in
theorem ggX4_mayBegin_X1_litresNeeded : GoodIn wsX4_mayBegin wsX1_litresNeeded := goodIn_r _ [21, 22, 27, 28, 29, 30, 31, 32, 33, 34, 35, 36, 37] (by decide +kernel) (by decide +kernel)
set_option maxRecDepth 20000 in
theorem gX4_mayBegin_X1_litresNeeded : GoodIn wsX4_mayBegin (wsV RX4 220 RX1 yX1_litresNeeded wsX1_litresNeeded) := goodIn_app (goodIn_of _ (by decide +kernel)) ggX4_mayBegin_X1_litresNeeded
set_option maxRecDepth 20000 in
theorem ggX4_mayBegin_X1_drainNeeded : GoodIn wsX4_mayBegin wsX1_drainNeeded := goodIn_r _ [26, 22, 27, 28, 29, 30, 31, 32, 33, 34, 35, 36, 37] (by decide +kernel) (by decide +kernel)
set_option maxRecDepth 20000 in
theorem gX4_mayBegin_X1_drainNeeded : GoodIn wsX4_mayBegin (wsV RX4 223 RX1 yX1_drainNeeded wsX1_drainNeeded) := goodIn_app (goodIn_of _ (by decide +kernel)) ggX4_mayBegin_X1_drainNeeded
theorem dX4_mayBegin_0 : decode cX4_mayBegin 0 = .ok (.aload_n 1, 1) := by decide +kernel
theorem dX4_mayBegin_1 : decode cX4_mayBegin 1 = .ok (.invokevirtual 132, 3) := by decide +kernel
theorem dX4_mayBegin_4 : decode cX4_mayBegin 4 = .ok (.ifCond .ne 48, 3) := by decide +kernel
theorem dX4_mayBegin_7 : decode cX4_mayBegin 7 = .ok (.aload_n 1, 1) := by decide +kernel
theorem dX4_mayBegin_8 : decode cX4_mayBegin 8 = .ok (.getfield 141, 3) := by decide +kernel
theorem dX4_mayBegin_11 : decode cX4_mayBegin 11 = .ok (.aload_n 0, 1) := by decide +kernel
theorem dX4_mayBegin_12 : decode cX4_mayBegin 12 = .ok (.getfield 56, 3) := by decide +kernel
theorem dX4_mayBegin_15 : decode cX4_mayBegin 15 = .ok (.if_icmp .gt 37, 3) := by decide +kernel
theorem dX4_mayBegin_18 : decode cX4_mayBegin 18 = .ok (.aload_n 1, 1) := by decide +kernel
theorem dX4_mayBegin_19 : decode cX4_mayBegin 19 = .ok (.getfield 216, 3) := by decide +kernel
theorem dX4_mayBegin_22 : decode cX4_mayBegin 22 = .ok (.getfield 107, 3) := by decide +kernel
theorem dX4_mayBegin_25 : decode cX4_mayBegin 25 = .ok (.aload_n 1, 1) := by decide +kernel
theorem dX4_mayBegin_26 : decode cX4_mayBegin 26 = .ok (.invokevirtual 220, 3) := by decide +kernel
theorem dX4_mayBegin_29 : decode cX4_mayBegin 29 = .ok (.if_icmp .lt 23, 3) := by decide +kernel
theorem dX4_mayBegin_32 : decode cX4_mayBegin 32 = .ok (.aload_n 0, 1) := by decide +kernel
theorem dX4_mayBegin_33 : decode cX4_mayBegin 33 = .ok (.getfield 179, 3) := by decide +kernel
theorem dX4_mayBegin_36 : decode cX4_mayBegin 36 = .ok (.aload_n 1, 1) := by decide +kernel
theorem dX4_mayBegin_37 : decode cX4_mayBegin 37 = .ok (.invokevirtual 223, 3) := by decide +kernel
theorem dX4_mayBegin_40 : decode cX4_mayBegin 40 = .ok (.iadd, 1) := by decide +kernel
theorem dX4_mayBegin_41 : decode cX4_mayBegin 41 = .ok (.aload_n 0, 1) := by decide +kernel
theorem dX4_mayBegin_42 : decode cX4_mayBegin 42 = .ok (.getfield 42, 3) := by decide +kernel
theorem dX4_mayBegin_45 : decode cX4_mayBegin 45 = .ok (.if_icmp .gt 7, 3) := by decide +kernel
theorem dX4_mayBegin_48 : decode cX4_mayBegin 48 = .ok (.iconst 1, 1) := by decide +kernel
theorem dX4_mayBegin_49 : decode cX4_mayBegin 49 = .ok (.goto 4, 3) := by decide +kernel
theorem dX4_mayBegin_52 : decode cX4_mayBegin 52 = .ok (.iconst 0, 1) := by decide +kernel
theorem dX4_mayBegin_53 : decode cX4_mayBegin 53 = .ok (.ireturn, 1) := by decide +kernel
set_option maxRecDepth 20000 in
theorem ggX4_jetsIn_X1_state : GoodIn wsX4_jetsIn wsX1_state := goodIn_r _ [7, 8, 9, 10, 11, 6, 12, 13, 28, 29, 30, 31, 32, 33, 34, 35, 36, 37, 38] (by decide +kernel) (by decide +kernel)
set_option maxRecDepth 20000 in
theorem gX4_jetsIn_X1_state : GoodIn wsX4_jetsIn (wsV RX4 132 RX1 yX1_state wsX1_state) := goodIn_app (goodIn_of _ (by decide +kernel)) ggX4_jetsIn_X1_state
theorem dX4_jetsIn_0 : decode cX4_jetsIn 0 = .ok (.iconst 0, 1) := by decide +kernel
theorem dX4_jetsIn_1 : decode cX4_jetsIn 1 = .ok (.istore_n 2, 1) := by decide +kernel
theorem dX4_jetsIn_2 : decode cX4_jetsIn 2 = .ok (.iconst 0, 1) := by decide +kernel
theorem dX4_jetsIn_3 : decode cX4_jetsIn 3 = .ok (.istore_n 3, 1) := by decide +kernel
theorem dX4_jetsIn_4 : decode cX4_jetsIn 4 = .ok (.iload_n 3, 1) := by decide +kernel
theorem dX4_jetsIn_5 : decode cX4_jetsIn 5 = .ok (.aload_n 0, 1) := by decide +kernel
theorem dX4_jetsIn_6 : decode cX4_jetsIn 6 = .ok (.getfield 119, 3) := by decide +kernel
theorem dX4_jetsIn_9 : decode cX4_jetsIn 9 = .ok (.if_icmp .ge 34, 3) := by decide +kernel
theorem dX4_jetsIn_12 : decode cX4_jetsIn 12 = .ok (.aload_n 0, 1) := by decide +kernel
theorem dX4_jetsIn_13 : decode cX4_jetsIn 13 = .ok (.getfield 24, 3) := by decide +kernel
theorem dX4_jetsIn_16 : decode cX4_jetsIn 16 = .ok (.iload_n 3, 1) := by decide +kernel
theorem dX4_jetsIn_17 : decode cX4_jetsIn 17 = .ok (.aaload, 1) := by decide +kernel
theorem dX4_jetsIn_18 : decode cX4_jetsIn 18 = .ok (.astore 4, 2) := by decide +kernel
theorem dX4_jetsIn_20 : decode cX4_jetsIn 20 = .ok (.aload 4, 2) := by decide +kernel
theorem dX4_jetsIn_22 : decode cX4_jetsIn 22 = .ok (.ifnull 15, 3) := by decide +kernel
theorem dX4_jetsIn_25 : decode cX4_jetsIn 25 = .ok (.aload 4, 2) := by decide +kernel
theorem dX4_jetsIn_27 : decode cX4_jetsIn 27 = .ok (.invokevirtual 132, 3) := by decide +kernel
theorem dX4_jetsIn_30 : decode cX4_jetsIn 30 = .ok (.iload_n 1, 1) := by decide +kernel
theorem dX4_jetsIn_31 : decode cX4_jetsIn 31 = .ok (.if_icmp .ne 6, 3) := by decide +kernel
theorem dX4_jetsIn_34 : decode cX4_jetsIn 34 = .ok (.iinc 2 1, 3) := by decide +kernel
theorem dX4_jetsIn_37 : decode cX4_jetsIn 37 = .ok (.iinc 3 1, 3) := by decide +kernel
theorem dX4_jetsIn_40 : decode cX4_jetsIn 40 = .ok (.goto (-36), 3) := by decide +kernel
theorem dX4_jetsIn_43 : decode cX4_jetsIn 43 = .ok (.iload_n 2, 1) := by decide +kernel
theorem dX4_jetsIn_44 : decode cX4_jetsIn 44 = .ok (.ireturn, 1) := by decide +kernel
theorem dX4_allTurnsBack_0 : decode cX4_allTurnsBack 0 = .ok (.iconst 0, 1) := by decide +kernel
theorem dX4_allTurnsBack_1 : decode cX4_allTurnsBack 1 = .ok (.istore_n 1, 1) := by decide +kernel
theorem dX4_allTurnsBack_2 : decode cX4_allTurnsBack 2 = .ok (.iconst 0, 1) := by decide +kernel
theorem dX4_allTurnsBack_3 : decode cX4_allTurnsBack 3 = .ok (.istore_n 2, 1) := by decide +kernel
theorem dX4_allTurnsBack_4 : decode cX4_allTurnsBack 4 = .ok (.iload_n 2, 1) := by decide +kernel
theorem dX4_allTurnsBack_5 : decode cX4_allTurnsBack 5 = .ok (.aload_n 0, 1) := by decide +kernel
theorem dX4_allTurnsBack_6 : decode cX4_allTurnsBack 6 = .ok (.getfield 119, 3) := by decide +kernel
theorem dX4_allTurnsBack_9 : decode cX4_allTurnsBack 9 = .ok (.if_icmp .ge 27, 3) := by decide +kernel
theorem dX4_allTurnsBack_12 : decode cX4_allTurnsBack 12 = .ok (.aload_n 0, 1) := by decide +kernel
theorem dX4_allTurnsBack_13 : decode cX4_allTurnsBack 13 = .ok (.getfield 24, 3) := by decide +kernel
theorem dX4_allTurnsBack_16 : decode cX4_allTurnsBack 16 = .ok (.iload_n 2, 1) := by decide +kernel
theorem dX4_allTurnsBack_17 : decode cX4_allTurnsBack 17 = .ok (.aaload, 1) := by decide +kernel
theorem dX4_allTurnsBack_18 : decode cX4_allTurnsBack 18 = .ok (.astore_n 3, 1) := by decide +kernel
theorem dX4_allTurnsBack_19 : decode cX4_allTurnsBack 19 = .ok (.aload_n 3, 1) := by decide +kernel
theorem dX4_allTurnsBack_20 : decode cX4_allTurnsBack 20 = .ok (.ifnull 10, 3) := by decide +kernel
theorem dX4_allTurnsBack_23 : decode cX4_allTurnsBack 23 = .ok (.iload_n 1, 1) := by decide +kernel
theorem dX4_allTurnsBack_24 : decode cX4_allTurnsBack 24 = .ok (.aload_n 3, 1) := by decide +kernel
theorem dX4_allTurnsBack_25 : decode cX4_allTurnsBack 25 = .ok (.getfield 144, 3) := by decide +kernel
theorem dX4_allTurnsBack_28 : decode cX4_allTurnsBack 28 = .ok (.iadd, 1) := by decide +kernel
theorem dX4_allTurnsBack_29 : decode cX4_allTurnsBack 29 = .ok (.istore_n 1, 1) := by decide +kernel
theorem dX4_allTurnsBack_30 : decode cX4_allTurnsBack 30 = .ok (.iinc 2 1, 3) := by decide +kernel
theorem dX4_allTurnsBack_33 : decode cX4_allTurnsBack 33 = .ok (.goto (-29), 3) := by decide +kernel
theorem dX4_allTurnsBack_36 : decode cX4_allTurnsBack 36 = .ok (.iload_n 1, 1) := by decide +kernel
theorem dX4_allTurnsBack_37 : decode cX4_allTurnsBack 37 = .ok (.ireturn, 1) := by decide +kernel
set_option maxRecDepth 20000 in
theorem ggX4_allLate_X1_isGone : GoodIn wsX4_allLate wsX1_isGone := goodIn_r _ [7, 8, 34, 35, 36, 37, 38, 39, 40, 41, 42, 43, 44] (by decide +kernel) (by decide +kernel)
set_option maxRecDepth 20000 in
theorem gX4_allLate_X1_isGone : GoodIn wsX4_allLate (wsV RX4 150 RX1 yX1_isGone wsX1_isGone) := goodIn_app (goodIn_of _ (by decide +kernel)) ggX4_allLate_X1_isGone
set_option maxRecDepth 20000 in
theorem ggX4_allLate_X1_late : GoodIn wsX4_allLate wsX1_late := goodIn_r _ [12, 8, 13, 14, 15, 16, 17, 6, 18, 19, 34, 35, 36, 37, 38, 39, 40, 41, 42, 43, 44] (by decide +kernel) (by decide +kernel)
set_option maxRecDepth 20000 in
theorem gX4_allLate_X1_late : GoodIn wsX4_allLate (wsV RX4 154 RX1 yX1_late wsX1_late) := goodIn_app (goodIn_of _ (by decide +kernel)) ggX4_allLate_X1_late
theorem dX4_allLate_0 : decode cX4_allLate 0 = .ok (.iconst 0, 1) := by decide +kernel
theorem dX4_allLate_1 : decode cX4_allLate 1 = .ok (.istore_n 1, 1) := by decide +kernel
theorem dX4_allLate_2 : decode cX4_allLate 2 = .ok (.iconst 0, 1) := by decide +kernel
theorem dX4_allLate_3 : decode cX4_allLate 3 = .ok (.istore_n 2, 1) := by decide +kernel
theorem dX4_allLate_4 : decode cX4_allLate 4 = .ok (.iload_n 2, 1) := by decide +kernel
theorem dX4_allLate_5 : decode cX4_allLate 5 = .ok (.aload_n 0, 1) := by decide +kernel
theorem dX4_allLate_6 : decode cX4_allLate 6 = .ok (.getfield 119, 3) := by decide +kernel
theorem dX4_allLate_9 : decode cX4_allLate 9 = .ok (.if_icmp .ge 34, 3) := by decide +kernel
theorem dX4_allLate_12 : decode cX4_allLate 12 = .ok (.aload_n 0, 1) := by decide +kernel
theorem dX4_allLate_13 : decode cX4_allLate 13 = .ok (.getfield 24, 3) := by decide +kernel
theorem dX4_allLate_16 : decode cX4_allLate 16 = .ok (.iload_n 2, 1) := by decide +kernel
theorem dX4_allLate_17 : decode cX4_allLate 17 = .ok (.aaload, 1) := by decide +kernel
theorem dX4_allLate_18 : decode cX4_allLate 18 = .ok (.astore_n 3, 1) := by decide +kernel
theorem dX4_allLate_19 : decode cX4_allLate 19 = .ok (.aload_n 3, 1) := by decide +kernel
theorem dX4_allLate_20 : decode cX4_allLate 20 = .ok (.ifnull 17, 3) := by decide +kernel
theorem dX4_allLate_23 : decode cX4_allLate 23 = .ok (.aload_n 3, 1) := by decide +kernel
theorem dX4_allLate_24 : decode cX4_allLate 24 = .ok (.invokevirtual 150, 3) := by decide +kernel
theorem dX4_allLate_27 : decode cX4_allLate 27 = .ok (.ifCond .eq 10, 3) := by decide +kernel
theorem dX4_allLate_30 : decode cX4_allLate 30 = .ok (.iload_n 1, 1) := by decide +kernel
theorem dX4_allLate_31 : decode cX4_allLate 31 = .ok (.aload_n 3, 1) := by decide +kernel
theorem dX4_allLate_32 : decode cX4_allLate 32 = .ok (.invokevirtual 154, 3) := by decide +kernel
theorem dX4_allLate_35 : decode cX4_allLate 35 = .ok (.iadd, 1) := by decide +kernel
theorem dX4_allLate_36 : decode cX4_allLate 36 = .ok (.istore_n 1, 1) := by decide +kernel
theorem dX4_allLate_37 : decode cX4_allLate 37 = .ok (.iinc 2 1, 3) := by decide +kernel
theorem dX4_allLate_40 : decode cX4_allLate 40 = .ok (.goto (-36), 3) := by decide +kernel
theorem dX4_allLate_43 : decode cX4_allLate 43 = .ok (.iload_n 1, 1) := by decide +kernel
theorem dX4_allLate_44 : decode cX4_allLate 44 = .ok (.ireturn, 1) := by decide +kernel
theorem dX5_init_0 : decode cX5_init 0 = .ok (.aload_n 0, 1) := by decide +kernel
theorem dX5_init_1 : decode cX5_init 1 = .ok (.invokespecial 1, 3) := by decide +kernel
theorem dX5_init_4 : decode cX5_init 4 = .ok (.aload_n 0, 1) := by decide +kernel
theorem dX5_init_5 : decode cX5_init 5 = .ok (.sipush 300, 3) := by decide +kernel
theorem dX5_init_8 : decode cX5_init 8 = .ok (.newarray .boolean, 2) := by decide +kernel
theorem dX5_init_10 : decode cX5_init 10 = .ok (.putfield 7, 3) := by decide +kernel
theorem dX5_init_13 : decode cX5_init 13 = .ok (.aload_n 0, 1) := by decide +kernel
theorem dX5_init_14 : decode cX5_init 14 = .ok (.sipush 300, 3) := by decide +kernel
theorem dX5_init_17 : decode cX5_init 17 = .ok (.newarray .int, 2) := by decide +kernel
theorem dX5_init_19 : decode cX5_init 19 = .ok (.putfield 13, 3) := by decide +kernel
theorem dX5_init_22 : decode cX5_init 22 = .ok (.aload_n 0, 1) := by decide +kernel
theorem dX5_init_23 : decode cX5_init 23 = .ok (.sipush 300, 3) := by decide +kernel
theorem dX5_init_26 : decode cX5_init 26 = .ok (.newarray .int, 2) := by decide +kernel
theorem dX5_init_28 : decode cX5_init 28 = .ok (.putfield 17, 3) := by decide +kernel
theorem dX5_init_31 : decode cX5_init 31 = .ok (.aload_n 0, 1) := by decide +kernel
theorem dX5_init_32 : decode cX5_init 32 = .ok (.iconst 4, 1) := by decide +kernel
theorem dX5_init_33 : decode cX5_init 33 = .ok (.newarray .int, 2) := by decide +kernel
theorem dX5_init_35 : decode cX5_init 35 = .ok (.putfield 20, 3) := by decide +kernel
theorem dX5_init_38 : decode cX5_init 38 = .ok (.aload_n 0, 1) := by decide +kernel
theorem dX5_init_39 : decode cX5_init 39 = .ok (.bipush 16, 2) := by decide +kernel
theorem dX5_init_41 : decode cX5_init 41 = .ok (.newarray .int, 2) := by decide +kernel
theorem dX5_init_43 : decode cX5_init 43 = .ok (.putfield 23, 3) := by decide +kernel
theorem dX5_init_46 : decode cX5_init 46 = .ok (.aload_n 0, 1) := by decide +kernel
theorem dX5_init_47 : decode cX5_init 47 = .ok (.iconst 4, 1) := by decide +kernel
theorem dX5_init_48 : decode cX5_init 48 = .ok (.newarray .int, 2) := by decide +kernel
theorem dX5_init_50 : decode cX5_init 50 = .ok (.putfield 26, 3) := by decide +kernel
theorem dX5_init_53 : decode cX5_init 53 = .ok (.aload_n 0, 1) := by decide +kernel
theorem dX5_init_54 : decode cX5_init 54 = .ok (.iconst 4, 1) := by decide +kernel
theorem dX5_init_55 : decode cX5_init 55 = .ok (.newarray .int, 2) := by decide +kernel
theorem dX5_init_57 : decode cX5_init 57 = .ok (.putfield 29, 3) := by decide +kernel
theorem dX5_init_60 : decode cX5_init 60 = .ok (.aload_n 0, 1) := by decide +kernel
theorem dX5_init_61 : decode cX5_init 61 = .ok (.iconst 4, 1) := by decide +kernel
theorem dX5_init_62 : decode cX5_init 62 = .ok (.newarray .int, 2) := by decide +kernel
theorem dX5_init_64 : decode cX5_init 64 = .ok (.putfield 32, 3) := by decide +kernel
theorem dX5_init_67 : decode cX5_init 67 = .ok (.aload_n 0, 1) := by decide +kernel
theorem dX5_init_68 : decode cX5_init 68 = .ok (.iconst 1, 1) := by decide +kernel
theorem dX5_init_69 : decode cX5_init 69 = .ok (.putfield 35, 3) := by decide +kernel
theorem dX5_init_72 : decode cX5_init 72 = .ok (.aload_n 0, 1) := by decide +kernel
theorem dX5_init_73 : decode cX5_init 73 = .ok (.sipush 200, 3) := by decide +kernel
theorem dX5_init_76 : decode cX5_init 76 = .ok (.putfield 39, 3) := by decide +kernel
theorem dX5_init_79 : decode cX5_init 79 = .ok (.aload_n 0, 1) := by decide +kernel
theorem dX5_init_80 : decode cX5_init 80 = .ok (.iconst 5, 1) := by decide +kernel
theorem dX5_init_81 : decode cX5_init 81 = .ok (.putfield 42, 3) := by decide +kernel
theorem dX5_init_84 : decode cX5_init 84 = .ok (.aload_n 0, 1) := by decide +kernel
theorem dX5_init_85 : decode cX5_init 85 = .ok (.iconst 3, 1) := by decide +kernel
theorem dX5_init_86 : decode cX5_init 86 = .ok (.newarray .int, 2) := by decide +kernel
theorem dX5_init_88 : decode cX5_init 88 = .ok (.putfield 45, 3) := by decide +kernel
theorem dX5_init_91 : decode cX5_init 91 = .ok (.aload_n 0, 1) := by decide +kernel
theorem dX5_init_92 : decode cX5_init 92 = .ok (.bipush 12, 2) := by decide +kernel
theorem dX5_init_94 : decode cX5_init 94 = .ok (.newarray .int, 2) := by decide +kernel
theorem dX5_init_96 : decode cX5_init 96 = .ok (.putfield 48, 3) := by decide +kernel
theorem dX5_init_99 : decode cX5_init 99 = .ok (.aload_n 0, 1) := by decide +kernel
theorem dX5_init_100 : decode cX5_init 100 = .ok (.bipush 12, 2) := by decide +kernel
theorem dX5_init_102 : decode cX5_init 102 = .ok (.newarray .int, 2) := by decide +kernel
theorem dX5_init_104 : decode cX5_init 104 = .ok (.putfield 51, 3) := by decide +kernel
theorem dX5_init_107 : decode cX5_init 107 = .ok (.aload_n 0, 1) := by decide +kernel
theorem dX5_init_108 : decode cX5_init 108 = .ok (.bipush 12, 2) := by decide +kernel
theorem dX5_init_110 : decode cX5_init 110 = .ok (.newarray .int, 2) := by decide +kernel
theorem dX5_init_112 : decode cX5_init 112 = .ok (.putfield 54, 3) := by decide +kernel
theorem dX5_init_115 : decode cX5_init 115 = .ok (.aload_n 0, 1) := by decide +kernel
theorem dX5_init_116 : decode cX5_init 116 = .ok (.bipush 12, 2) := by decide +kernel
theorem dX5_init_118 : decode cX5_init 118 = .ok (.newarray .int, 2) := by decide +kernel
theorem dX5_init_120 : decode cX5_init 120 = .ok (.putfield 57, 3) := by decide +kernel
theorem dX5_init_123 : decode cX5_init 123 = .ok (.aload_n 0, 1) := by decide +kernel
theorem dX5_init_124 : decode cX5_init 124 = .ok (.bipush 12, 2) := by decide +kernel
theorem dX5_init_126 : decode cX5_init 126 = .ok (.newarray .int, 2) := by decide +kernel
theorem dX5_init_128 : decode cX5_init 128 = .ok (.putfield 60, 3) := by decide +kernel
theorem dX5_init_131 : decode cX5_init 131 = .ok (.aload_n 0, 1) := by decide +kernel
theorem dX5_init_132 : decode cX5_init 132 = .ok (.bipush 12, 2) := by decide +kernel
theorem dX5_init_134 : decode cX5_init 134 = .ok (.newarray .int, 2) := by decide +kernel
theorem dX5_init_136 : decode cX5_init 136 = .ok (.putfield 63, 3) := by decide +kernel
theorem dX5_init_139 : decode cX5_init 139 = .ok (.aload_n 0, 1) := by decide +kernel
theorem dX5_init_140 : decode cX5_init 140 = .ok (.bipush 12, 2) := by decide +kernel
theorem dX5_init_142 : decode cX5_init 142 = .ok (.newarray .int, 2) := by decide +kernel
theorem dX5_init_144 : decode cX5_init 144 = .ok (.putfield 66, 3) := by decide +kernel
theorem dX5_init_147 : decode cX5_init 147 = .ok (.aload_n 0, 1) := by decide +kernel
theorem dX5_init_148 : decode cX5_init 148 = .ok (.bipush 12, 2) := by decide +kernel
theorem dX5_init_150 : decode cX5_init 150 = .ok (.newarray .int, 2) := by decide +kernel
theorem dX5_init_152 : decode cX5_init 152 = .ok (.putfield 69, 3) := by decide +kernel
theorem dX5_init_155 : decode cX5_init 155 = .ok (.aload_n 0, 1) := by decide +kernel
theorem dX5_init_156 : decode cX5_init 156 = .ok (.bipush 12, 2) := by decide +kernel
theorem dX5_init_158 : decode cX5_init 158 = .ok (.newarray .int, 2) := by decide +kernel
theorem dX5_init_160 : decode cX5_init 160 = .ok (.putfield 72, 3) := by decide +kernel
theorem dX5_init_163 : decode cX5_init 163 = .ok (.aload_n 0, 1) := by decide +kernel
theorem dX5_init_164 : decode cX5_init 164 = .ok (.bipush 12, 2) := by decide +kernel
theorem dX5_init_166 : decode cX5_init 166 = .ok (.newarray .int, 2) := by decide +kernel
theorem dX5_init_168 : decode cX5_init 168 = .ok (.putfield 75, 3) := by decide +kernel
theorem dX5_init_171 : decode cX5_init 171 = .ok (.aload_n 0, 1) := by decide +kernel
theorem dX5_init_172 : decode cX5_init 172 = .ok (.iconst 5, 1) := by decide +kernel
theorem dX5_init_173 : decode cX5_init 173 = .ok (.newarray .int, 2) := by decide +kernel
theorem dX5_init_175 : decode cX5_init 175 = .ok (.putfield 78, 3) := by decide +kernel
theorem dX5_init_178 : decode cX5_init 178 = .ok (.aload_n 0, 1) := by decide +kernel
theorem dX5_init_179 : decode cX5_init 179 = .ok (.iconst 5, 1) := by decide +kernel
theorem dX5_init_180 : decode cX5_init 180 = .ok (.newarray .int, 2) := by decide +kernel
theorem dX5_init_182 : decode cX5_init 182 = .ok (.putfield 81, 3) := by decide +kernel
theorem dX5_init_185 : decode cX5_init 185 = .ok (.aload_n 0, 1) := by decide +kernel
theorem dX5_init_186 : decode cX5_init 186 = .ok (.iconst 5, 1) := by decide +kernel
theorem dX5_init_187 : decode cX5_init 187 = .ok (.newarray .int, 2) := by decide +kernel
theorem dX5_init_189 : decode cX5_init 189 = .ok (.putfield 84, 3) := by decide +kernel
theorem dX5_init_192 : decode cX5_init 192 = .ok (.aload_n 0, 1) := by decide +kernel
theorem dX5_init_193 : decode cX5_init 193 = .ok (.iconst 0, 1) := by decide +kernel
theorem dX5_init_194 : decode cX5_init 194 = .ok (.putfield 87, 3) := by decide +kernel
theorem dX5_init_197 : decode cX5_init 197 = .ok (.return_, 1) := by decide +kernel
theorem dX5_in_0 : decode cX5_in 0 = .ok (.iload_n 0, 1) := by decide +kernel
theorem dX5_in_1 : decode cX5_in 1 = .ok (.iload_n 1, 1) := by decide +kernel
theorem dX5_in_2 : decode cX5_in 2 = .ok (.if_icmp .lt 12, 3) := by decide +kernel
theorem dX5_in_5 : decode cX5_in 5 = .ok (.iload_n 0, 1) := by decide +kernel
theorem dX5_in_6 : decode cX5_in 6 = .ok (.iload_n 2, 1) := by decide +kernel
theorem dX5_in_7 : decode cX5_in 7 = .ok (.if_icmp .gt 7, 3) := by decide +kernel
theorem dX5_in_10 : decode cX5_in 10 = .ok (.iconst 1, 1) := by decide +kernel
theorem dX5_in_11 : decode cX5_in 11 = .ok (.goto 4, 3) := by decide +kernel
theorem dX5_in_14 : decode cX5_in 14 = .ok (.iconst 0, 1) := by decide +kernel
theorem dX5_in_15 : decode cX5_in 15 = .ok (.ireturn, 1) := by decide +kernel
set_option maxRecDepth 20000 in
theorem ggX5_weather_X5_in : GoodIn wsX5_weather wsX5_in := goodIn_r _ [8] (by decide +kernel) (by decide +kernel)
set_option maxRecDepth 20000 in
theorem gX5_weather_X5_in : GoodIn wsX5_weather (va_wsS RX5 90 yX5_in wsX5_in) := goodIn_app (goodIn_of _ (by decide +kernel)) ggX5_weather_X5_in
theorem dX5_weather_0 : decode cX5_weather 0 = .ok (.iload_n 1, 1) := by decide +kernel
theorem dX5_weather_1 : decode cX5_weather 1 = .ok (.iconst 0, 1) := by decide +kernel
theorem dX5_weather_2 : decode cX5_weather 2 = .ok (.sipush 299, 3) := by decide +kernel
theorem dX5_weather_5 : decode cX5_weather 5 = .ok (.invokestatic 90, 3) := by decide +kernel
theorem dX5_weather_8 : decode cX5_weather 8 = .ok (.ifCond .eq 22, 3) := by decide +kernel
theorem dX5_weather_11 : decode cX5_weather 11 = .ok (.iload_n 2, 1) := by decide +kernel
theorem dX5_weather_12 : decode cX5_weather 12 = .ok (.bipush (-30), 2) := by decide +kernel
theorem dX5_weather_14 : decode cX5_weather 14 = .ok (.iconst 5, 1) := by decide +kernel
theorem dX5_weather_15 : decode cX5_weather 15 = .ok (.invokestatic 90, 3) := by decide +kernel
theorem dX5_weather_18 : decode cX5_weather 18 = .ok (.ifCond .eq 12, 3) := by decide +kernel
theorem dX5_weather_21 : decode cX5_weather 21 = .ok (.iload_n 3, 1) := by decide +kernel
theorem dX5_weather_22 : decode cX5_weather 22 = .ok (.iconst 0, 1) := by decide +kernel
theorem dX5_weather_23 : decode cX5_weather 23 = .ok (.iconst 3, 1) := by decide +kernel
theorem dX5_weather_24 : decode cX5_weather 24 = .ok (.invokestatic 90, 3) := by decide +kernel
theorem dX5_weather_27 : decode cX5_weather 27 = .ok (.ifCond .ne 6, 3) := by decide +kernel
theorem dX5_weather_30 : decode cX5_weather 30 = .ok (.bipush (-100), 2) := by decide +kernel
theorem dX5_weather_32 : decode cX5_weather 32 = .ok (.ireturn, 1) := by decide +kernel
theorem dX5_weather_33 : decode cX5_weather 33 = .ok (.iload_n 1, 1) := by decide +kernel
theorem dX5_weather_34 : decode cX5_weather 34 = .ok (.aload_n 0, 1) := by decide +kernel
theorem dX5_weather_35 : decode cX5_weather 35 = .ok (.getfield 87, 3) := by decide +kernel
theorem dX5_weather_38 : decode cX5_weather 38 = .ok (.if_icmp .ge 7, 3) := by decide +kernel
theorem dX5_weather_41 : decode cX5_weather 41 = .ok (.sipush (-200), 3) := by decide +kernel
theorem dX5_weather_44 : decode cX5_weather 44 = .ok (.ireturn, 1) := by decide +kernel
theorem dX5_weather_45 : decode cX5_weather 45 = .ok (.aload_n 0, 1) := by decide +kernel
theorem dX5_weather_46 : decode cX5_weather 46 = .ok (.getfield 7, 3) := by decide +kernel
theorem dX5_weather_49 : decode cX5_weather 49 = .ok (.iload_n 1, 1) := by decide +kernel
theorem dX5_weather_50 : decode cX5_weather 50 = .ok (.iconst 1, 1) := by decide +kernel
theorem dX5_weather_51 : decode cX5_weather 51 = .ok (.bastore, 1) := by decide +kernel
theorem dX5_weather_52 : decode cX5_weather 52 = .ok (.aload_n 0, 1) := by decide +kernel
theorem dX5_weather_53 : decode cX5_weather 53 = .ok (.getfield 13, 3) := by decide +kernel
theorem dX5_weather_56 : decode cX5_weather 56 = .ok (.iload_n 1, 1) := by decide +kernel
theorem dX5_weather_57 : decode cX5_weather 57 = .ok (.iload_n 2, 1) := by decide +kernel
theorem dX5_weather_58 : decode cX5_weather 58 = .ok (.iastore, 1) := by decide +kernel
theorem dX5_weather_59 : decode cX5_weather 59 = .ok (.aload_n 0, 1) := by decide +kernel
theorem dX5_weather_60 : decode cX5_weather 60 = .ok (.getfield 17, 3) := by decide +kernel
theorem dX5_weather_63 : decode cX5_weather 63 = .ok (.iload_n 1, 1) := by decide +kernel
theorem dX5_weather_64 : decode cX5_weather 64 = .ok (.iload_n 3, 1) := by decide +kernel
theorem dX5_weather_65 : decode cX5_weather 65 = .ok (.iastore, 1) := by decide +kernel
theorem dX5_weather_66 : decode cX5_weather 66 = .ok (.iconst 1, 1) := by decide +kernel
theorem dX5_weather_67 : decode cX5_weather 67 = .ok (.ireturn, 1) := by decide +kernel
set_option maxRecDepth 20000 in
theorem ggX5_loses_X5_in : GoodIn wsX5_loses wsX5_in := goodIn_r _ [6] (by decide +kernel) (by decide +kernel)
set_option maxRecDepth 20000 in
theorem gX5_loses_X5_in : GoodIn wsX5_loses (va_wsS RX5 90 yX5_in wsX5_in) := goodIn_app (goodIn_of _ (by decide +kernel)) ggX5_loses_X5_in
theorem dX5_loses_0 : decode cX5_loses 0 = .ok (.iload_n 1, 1) := by decide +kernel
theorem dX5_loses_1 : decode cX5_loses 1 = .ok (.iconst 0, 1) := by decide +kernel
theorem dX5_loses_2 : decode cX5_loses 2 = .ok (.sipush 299, 3) := by decide +kernel
theorem dX5_loses_5 : decode cX5_loses 5 = .ok (.invokestatic 90, 3) := by decide +kernel
theorem dX5_loses_8 : decode cX5_loses 8 = .ok (.ifCond .ne 6, 3) := by decide +kernel
theorem dX5_loses_11 : decode cX5_loses 11 = .ok (.bipush (-100), 2) := by decide +kernel
theorem dX5_loses_13 : decode cX5_loses 13 = .ok (.ireturn, 1) := by decide +kernel
theorem dX5_loses_14 : decode cX5_loses 14 = .ok (.iload_n 1, 1) := by decide +kernel
theorem dX5_loses_15 : decode cX5_loses 15 = .ok (.aload_n 0, 1) := by decide +kernel
theorem dX5_loses_16 : decode cX5_loses 16 = .ok (.getfield 87, 3) := by decide +kernel
theorem dX5_loses_19 : decode cX5_loses 19 = .ok (.if_icmp .ge 7, 3) := by decide +kernel
theorem dX5_loses_22 : decode cX5_loses 22 = .ok (.sipush (-200), 3) := by decide +kernel
theorem dX5_loses_25 : decode cX5_loses 25 = .ok (.ireturn, 1) := by decide +kernel
theorem dX5_loses_26 : decode cX5_loses 26 = .ok (.aload_n 0, 1) := by decide +kernel
theorem dX5_loses_27 : decode cX5_loses 27 = .ok (.getfield 7, 3) := by decide +kernel
theorem dX5_loses_30 : decode cX5_loses 30 = .ok (.iload_n 1, 1) := by decide +kernel
theorem dX5_loses_31 : decode cX5_loses 31 = .ok (.baload, 1) := by decide +kernel
theorem dX5_loses_32 : decode cX5_loses 32 = .ok (.ifCond .eq 7, 3) := by decide +kernel
theorem dX5_loses_35 : decode cX5_loses 35 = .ok (.iconst 1, 1) := by decide +kernel
theorem dX5_loses_36 : decode cX5_loses 36 = .ok (.goto 4, 3) := by decide +kernel
theorem dX5_loses_39 : decode cX5_loses 39 = .ok (.iconst 0, 1) := by decide +kernel
theorem dX5_loses_40 : decode cX5_loses 40 = .ok (.istore_n 2, 1) := by decide +kernel
theorem dX5_loses_41 : decode cX5_loses 41 = .ok (.aload_n 0, 1) := by decide +kernel
theorem dX5_loses_42 : decode cX5_loses 42 = .ok (.getfield 7, 3) := by decide +kernel
theorem dX5_loses_45 : decode cX5_loses 45 = .ok (.iload_n 1, 1) := by decide +kernel
theorem dX5_loses_46 : decode cX5_loses 46 = .ok (.iconst 0, 1) := by decide +kernel
theorem dX5_loses_47 : decode cX5_loses 47 = .ok (.bastore, 1) := by decide +kernel
theorem dX5_loses_48 : decode cX5_loses 48 = .ok (.iload_n 2, 1) := by decide +kernel
theorem dX5_loses_49 : decode cX5_loses 49 = .ok (.ireturn, 1) := by decide +kernel
theorem dX5_coldOf_0 : decode cX5_coldOf 0 = .ok (.aload_n 0, 1) := by decide +kernel
theorem dX5_coldOf_1 : decode cX5_coldOf 1 = .ok (.getfield 7, 3) := by decide +kernel
theorem dX5_coldOf_4 : decode cX5_coldOf 4 = .ok (.iload_n 1, 1) := by decide +kernel
theorem dX5_coldOf_5 : decode cX5_coldOf 5 = .ok (.baload, 1) := by decide +kernel
theorem dX5_coldOf_6 : decode cX5_coldOf 6 = .ok (.ifCond .eq 10, 3) := by decide +kernel
theorem dX5_coldOf_9 : decode cX5_coldOf 9 = .ok (.aload_n 0, 1) := by decide +kernel
theorem dX5_coldOf_10 : decode cX5_coldOf 10 = .ok (.getfield 13, 3) := by decide +kernel
theorem dX5_coldOf_13 : decode cX5_coldOf 13 = .ok (.iload_n 1, 1) := by decide +kernel
theorem dX5_coldOf_14 : decode cX5_coldOf 14 = .ok (.iaload, 1) := by decide +kernel
theorem dX5_coldOf_15 : decode cX5_coldOf 15 = .ok (.ireturn, 1) := by decide +kernel
theorem dX5_coldOf_16 : decode cX5_coldOf 16 = .ok (.bipush 100, 2) := by decide +kernel
theorem dX5_coldOf_18 : decode cX5_coldOf 18 = .ok (.istore_n 2, 1) := by decide +kernel
theorem dX5_coldOf_19 : decode cX5_coldOf 19 = .ok (.iload_n 1, 1) := by decide +kernel
theorem dX5_coldOf_20 : decode cX5_coldOf 20 = .ok (.iconst 1, 1) := by decide +kernel
theorem dX5_coldOf_21 : decode cX5_coldOf 21 = .ok (.isub, 1) := by decide +kernel
theorem dX5_coldOf_22 : decode cX5_coldOf 22 = .ok (.istore_n 3, 1) := by decide +kernel
theorem dX5_coldOf_23 : decode cX5_coldOf 23 = .ok (.iload_n 3, 1) := by decide +kernel
theorem dX5_coldOf_24 : decode cX5_coldOf 24 = .ok (.ifCond .lt 47, 3) := by decide +kernel
theorem dX5_coldOf_27 : decode cX5_coldOf 27 = .ok (.iload_n 3, 1) := by decide +kernel
theorem dX5_coldOf_28 : decode cX5_coldOf 28 = .ok (.iload_n 1, 1) := by decide +kernel
theorem dX5_coldOf_29 : decode cX5_coldOf 29 = .ok (.bipush 30, 2) := by decide +kernel
theorem dX5_coldOf_31 : decode cX5_coldOf 31 = .ok (.isub, 1) := by decide +kernel
theorem dX5_coldOf_32 : decode cX5_coldOf 32 = .ok (.if_icmp .lt 39, 3) := by decide +kernel
theorem dX5_coldOf_35 : decode cX5_coldOf 35 = .ok (.aload_n 0, 1) := by decide +kernel
theorem dX5_coldOf_36 : decode cX5_coldOf 36 = .ok (.getfield 7, 3) := by decide +kernel
theorem dX5_coldOf_39 : decode cX5_coldOf 39 = .ok (.iload_n 3, 1) := by decide +kernel
theorem dX5_coldOf_40 : decode cX5_coldOf 40 = .ok (.baload, 1) := by decide +kernel
theorem dX5_coldOf_41 : decode cX5_coldOf 41 = .ok (.ifCond .eq 22, 3) := by decide +kernel
theorem dX5_coldOf_44 : decode cX5_coldOf 44 = .ok (.aload_n 0, 1) := by decide +kernel
theorem dX5_coldOf_45 : decode cX5_coldOf 45 = .ok (.getfield 13, 3) := by decide +kernel
theorem dX5_coldOf_48 : decode cX5_coldOf 48 = .ok (.iload_n 3, 1) := by decide +kernel
theorem dX5_coldOf_49 : decode cX5_coldOf 49 = .ok (.iaload, 1) := by decide +kernel
theorem dX5_coldOf_50 : decode cX5_coldOf 50 = .ok (.iload_n 2, 1) := by decide +kernel
theorem dX5_coldOf_51 : decode cX5_coldOf 51 = .ok (.if_icmp .ge 12, 3) := by decide +kernel
theorem dX5_coldOf_54 : decode cX5_coldOf 54 = .ok (.aload_n 0, 1) := by decide +kernel
theorem dX5_coldOf_55 : decode cX5_coldOf 55 = .ok (.getfield 13, 3) := by decide +kernel
theorem dX5_coldOf_58 : decode cX5_coldOf 58 = .ok (.iload_n 3, 1) := by decide +kernel
theorem dX5_coldOf_59 : decode cX5_coldOf 59 = .ok (.iaload, 1) := by decide +kernel
theorem dX5_coldOf_60 : decode cX5_coldOf 60 = .ok (.goto 4, 3) := by decide +kernel
theorem dX5_coldOf_63 : decode cX5_coldOf 63 = .ok (.iload_n 2, 1) := by decide +kernel
theorem dX5_coldOf_64 : decode cX5_coldOf 64 = .ok (.istore_n 2, 1) := by decide +kernel
theorem dX5_coldOf_65 : decode cX5_coldOf 65 = .ok (.iinc 3 (-1), 3) := by decide +kernel
theorem dX5_coldOf_68 : decode cX5_coldOf 68 = .ok (.goto (-45), 3) := by decide +kernel
theorem dX5_coldOf_71 : decode cX5_coldOf 71 = .ok (.iload_n 2, 1) := by decide +kernel
theorem dX5_coldOf_72 : decode cX5_coldOf 72 = .ok (.bipush 100, 2) := by decide +kernel
theorem dX5_coldOf_74 : decode cX5_coldOf 74 = .ok (.if_icmp .ne 7, 3) := by decide +kernel
theorem dX5_coldOf_77 : decode cX5_coldOf 77 = .ok (.iconst 0, 1) := by decide +kernel
theorem dX5_coldOf_78 : decode cX5_coldOf 78 = .ok (.goto 4, 3) := by decide +kernel
theorem dX5_coldOf_81 : decode cX5_coldOf 81 = .ok (.iload_n 2, 1) := by decide +kernel
theorem dX5_coldOf_82 : decode cX5_coldOf 82 = .ok (.ireturn, 1) := by decide +kernel
theorem dX5_fallOf_0 : decode cX5_fallOf 0 = .ok (.aload_n 0, 1) := by decide +kernel
theorem dX5_fallOf_1 : decode cX5_fallOf 1 = .ok (.getfield 7, 3) := by decide +kernel
theorem dX5_fallOf_4 : decode cX5_fallOf 4 = .ok (.iload_n 1, 1) := by decide +kernel
theorem dX5_fallOf_5 : decode cX5_fallOf 5 = .ok (.baload, 1) := by decide +kernel
theorem dX5_fallOf_6 : decode cX5_fallOf 6 = .ok (.ifCond .eq 10, 3) := by decide +kernel
theorem dX5_fallOf_9 : decode cX5_fallOf 9 = .ok (.aload_n 0, 1) := by decide +kernel
theorem dX5_fallOf_10 : decode cX5_fallOf 10 = .ok (.getfield 17, 3) := by decide +kernel
theorem dX5_fallOf_13 : decode cX5_fallOf 13 = .ok (.iload_n 1, 1) := by decide +kernel
theorem dX5_fallOf_14 : decode cX5_fallOf 14 = .ok (.iaload, 1) := by decide +kernel
theorem dX5_fallOf_15 : decode cX5_fallOf 15 = .ok (.ireturn, 1) := by decide +kernel
theorem dX5_fallOf_16 : decode cX5_fallOf 16 = .ok (.iconst 0, 1) := by decide +kernel
theorem dX5_fallOf_17 : decode cX5_fallOf 17 = .ok (.istore_n 2, 1) := by decide +kernel
theorem dX5_fallOf_18 : decode cX5_fallOf 18 = .ok (.iload_n 1, 1) := by decide +kernel
theorem dX5_fallOf_19 : decode cX5_fallOf 19 = .ok (.iconst 1, 1) := by decide +kernel
theorem dX5_fallOf_20 : decode cX5_fallOf 20 = .ok (.isub, 1) := by decide +kernel
theorem dX5_fallOf_21 : decode cX5_fallOf 21 = .ok (.istore_n 3, 1) := by decide +kernel
theorem dX5_fallOf_22 : decode cX5_fallOf 22 = .ok (.iload_n 3, 1) := by decide +kernel
theorem dX5_fallOf_23 : decode cX5_fallOf 23 = .ok (.ifCond .lt 47, 3) := by decide +kernel
theorem dX5_fallOf_26 : decode cX5_fallOf 26 = .ok (.iload_n 3, 1) := by decide +kernel
theorem dX5_fallOf_27 : decode cX5_fallOf 27 = .ok (.iload_n 1, 1) := by decide +kernel
theorem dX5_fallOf_28 : decode cX5_fallOf 28 = .ok (.bipush 30, 2) := by decide +kernel
theorem dX5_fallOf_30 : decode cX5_fallOf 30 = .ok (.isub, 1) := by decide +kernel
theorem dX5_fallOf_31 : decode cX5_fallOf 31 = .ok (.if_icmp .lt 39, 3) := by decide +kernel
theorem dX5_fallOf_34 : decode cX5_fallOf 34 = .ok (.aload_n 0, 1) := by decide +kernel
theorem dX5_fallOf_35 : decode cX5_fallOf 35 = .ok (.getfield 7, 3) := by decide +kernel
theorem dX5_fallOf_38 : decode cX5_fallOf 38 = .ok (.iload_n 3, 1) := by decide +kernel
theorem dX5_fallOf_39 : decode cX5_fallOf 39 = .ok (.baload, 1) := by decide +kernel
theorem dX5_fallOf_40 : decode cX5_fallOf 40 = .ok (.ifCond .eq 22, 3) := by decide +kernel
theorem dX5_fallOf_43 : decode cX5_fallOf 43 = .ok (.aload_n 0, 1) := by decide +kernel
theorem dX5_fallOf_44 : decode cX5_fallOf 44 = .ok (.getfield 17, 3) := by decide +kernel
theorem dX5_fallOf_47 : decode cX5_fallOf 47 = .ok (.iload_n 3, 1) := by decide +kernel
theorem dX5_fallOf_48 : decode cX5_fallOf 48 = .ok (.iaload, 1) := by decide +kernel
theorem dX5_fallOf_49 : decode cX5_fallOf 49 = .ok (.iload_n 2, 1) := by decide +kernel
theorem dX5_fallOf_50 : decode cX5_fallOf 50 = .ok (.if_icmp .le 12, 3) := by decide +kernel
theorem dX5_fallOf_53 : decode cX5_fallOf 53 = .ok (.aload_n 0, 1) := by decide +kernel
theorem dX5_fallOf_54 : decode cX5_fallOf 54 = .ok (.getfield 17, 3) := by decide +kernel
theorem dX5_fallOf_57 : decode cX5_fallOf 57 = .ok (.iload_n 3, 1) := by decide +kernel
theorem dX5_fallOf_58 : decode cX5_fallOf 58 = .ok (.iaload, 1) := by decide +kernel
theorem dX5_fallOf_59 : decode cX5_fallOf 59 = .ok (.goto 4, 3) := by decide +kernel
theorem dX5_fallOf_62 : decode cX5_fallOf 62 = .ok (.iload_n 2, 1) := by decide +kernel
theorem dX5_fallOf_63 : decode cX5_fallOf 63 = .ok (.istore_n 2, 1) := by decide +kernel
theorem dX5_fallOf_64 : decode cX5_fallOf 64 = .ok (.iinc 3 (-1), 3) := by decide +kernel
theorem dX5_fallOf_67 : decode cX5_fallOf 67 = .ok (.goto (-45), 3) := by decide +kernel
theorem dX5_fallOf_70 : decode cX5_fallOf 70 = .ok (.iload_n 2, 1) := by decide +kernel
theorem dX5_fallOf_71 : decode cX5_fallOf 71 = .ok (.ireturn, 1) := by decide +kernel
set_option maxRecDepth 20000 in
theorem ggX5_known_X5_in : GoodIn wsX5_known wsX5_in := goodIn_r _ [5] (by decide +kernel) (by decide +kernel)
set_option maxRecDepth 20000 in
theorem gX5_known_X5_in : GoodIn wsX5_known (va_wsS RX5 90 yX5_in wsX5_in) := goodIn_app (goodIn_of _ (by decide +kernel)) ggX5_known_X5_in
set_option maxRecDepth 20000 in
theorem ggX5_known_X5_coldOf : GoodIn wsX5_known wsX5_coldOf := goodIn_r _ [9, 1, 10, 16, 17, 18, 19, 20, 21, 22, 23, 24, 25, 26, 27, 28, 29, 30, 31, 32, 33, 34, 35, 36, 37, 38, 39, 40, 41, 42, 43, 44, 45, 46, 47] (by decide +kernel) (by decide +kernel)
set_option maxRecDepth 20000 in
theorem gX5_known_X5_coldOf : GoodIn wsX5_known (wsV RX5 94 RX5 yX5_coldOf wsX5_coldOf) := goodIn_app (goodIn_of _ (by decide +kernel)) ggX5_known_X5_coldOf
set_option maxRecDepth 20000 in
theorem ggX5_known_X5_fallOf : GoodIn wsX5_known wsX5_fallOf := goodIn_r _ [14, 1, 15, 16, 17, 18, 19, 20, 21, 22, 23, 24, 25, 26, 27, 28, 29, 30, 31, 32, 33, 34, 35, 36, 37, 38, 39, 40, 41, 42, 43, 44, 45, 46, 47] (by decide +kernel) (by decide +kernel)
set_option maxRecDepth 20000 in
theorem gX5_known_X5_fallOf : GoodIn wsX5_known (wsV RX5 98 RX5 yX5_fallOf wsX5_fallOf) := goodIn_app (goodIn_of _ (by decide +kernel)) ggX5_known_X5_fallOf
theorem dX5_known_0 : decode cX5_known 0 = .ok (.iload_n 1, 1) := by decide +kernel
theorem dX5_known_1 : decode cX5_known 1 = .ok (.iconst 0, 1) := by decide +kernel
theorem dX5_known_2 : decode cX5_known 2 = .ok (.sipush 299, 3) := by decide +kernel
theorem dX5_known_5 : decode cX5_known 5 = .ok (.invokestatic 90, 3) := by decide +kernel
theorem dX5_known_8 : decode cX5_known 8 = .ok (.ifCond .eq 12, 3) := by decide +kernel
theorem dX5_known_11 : decode cX5_known 11 = .ok (.iload_n 2, 1) := by decide +kernel
theorem dX5_known_12 : decode cX5_known 12 = .ok (.iconst 0, 1) := by decide +kernel
theorem dX5_known_13 : decode cX5_known 13 = .ok (.iconst 2, 1) := by decide +kernel
theorem dX5_known_14 : decode cX5_known 14 = .ok (.invokestatic 90, 3) := by decide +kernel
theorem dX5_known_17 : decode cX5_known 17 = .ok (.ifCond .ne 6, 3) := by decide +kernel
theorem dX5_known_20 : decode cX5_known 20 = .ok (.bipush (-100), 2) := by decide +kernel
theorem dX5_known_22 : decode cX5_known 22 = .ok (.ireturn, 1) := by decide +kernel
theorem dX5_known_23 : decode cX5_known 23 = .ok (.iload_n 2, 1) := by decide +kernel
theorem dX5_known_24 : decode cX5_known 24 = .ok (.ifCond .ne 11, 3) := by decide +kernel
theorem dX5_known_27 : decode cX5_known 27 = .ok (.aload_n 0, 1) := by decide +kernel
theorem dX5_known_28 : decode cX5_known 28 = .ok (.iload_n 1, 1) := by decide +kernel
theorem dX5_known_29 : decode cX5_known 29 = .ok (.invokevirtual 94, 3) := by decide +kernel
theorem dX5_known_32 : decode cX5_known 32 = .ok (.goto 30, 3) := by decide +kernel
theorem dX5_known_35 : decode cX5_known 35 = .ok (.iload_n 2, 1) := by decide +kernel
theorem dX5_known_36 : decode cX5_known 36 = .ok (.iconst 1, 1) := by decide +kernel
theorem dX5_known_37 : decode cX5_known 37 = .ok (.if_icmp .ne 11, 3) := by decide +kernel
theorem dX5_known_40 : decode cX5_known 40 = .ok (.aload_n 0, 1) := by decide +kernel
theorem dX5_known_41 : decode cX5_known 41 = .ok (.iload_n 1, 1) := by decide +kernel
theorem dX5_known_42 : decode cX5_known 42 = .ok (.invokevirtual 98, 3) := by decide +kernel
theorem dX5_known_45 : decode cX5_known 45 = .ok (.goto 17, 3) := by decide +kernel
theorem dX5_known_48 : decode cX5_known 48 = .ok (.aload_n 0, 1) := by decide +kernel
theorem dX5_known_49 : decode cX5_known 49 = .ok (.getfield 7, 3) := by decide +kernel
theorem dX5_known_52 : decode cX5_known 52 = .ok (.iload_n 1, 1) := by decide +kernel
theorem dX5_known_53 : decode cX5_known 53 = .ok (.baload, 1) := by decide +kernel
theorem dX5_known_54 : decode cX5_known 54 = .ok (.ifCond .eq 7, 3) := by decide +kernel
theorem dX5_known_57 : decode cX5_known 57 = .ok (.iconst 1, 1) := by decide +kernel
theorem dX5_known_58 : decode cX5_known 58 = .ok (.goto 4, 3) := by decide +kernel
theorem dX5_known_61 : decode cX5_known 61 = .ok (.iconst 0, 1) := by decide +kernel
theorem dX5_known_62 : decode cX5_known 62 = .ok (.ireturn, 1) := by decide +kernel
set_option maxRecDepth 20000 in
theorem ggX5_fluid_X5_in : GoodIn wsX5_fluid wsX5_in := goodIn_r _ [10] (by decide +kernel) (by decide +kernel)
set_option maxRecDepth 20000 in
theorem gX5_fluid_X5_in : GoodIn wsX5_fluid (va_wsS RX5 90 yX5_in wsX5_in) := goodIn_app (goodIn_of _ (by decide +kernel)) ggX5_fluid_X5_in
theorem dX5_fluid_0 : decode cX5_fluid 0 = .ok (.iload_n 2, 1) := by decide +kernel
theorem dX5_fluid_1 : decode cX5_fluid 1 = .ok (.bipush 100, 2) := by decide +kernel
theorem dX5_fluid_3 : decode cX5_fluid 3 = .ok (.if_icmp .gt 30, 3) := by decide +kernel
theorem dX5_fluid_6 : decode cX5_fluid 6 = .ok (.iload_n 3, 1) := by decide +kernel
theorem dX5_fluid_7 : decode cX5_fluid 7 = .ok (.iload_n 2, 1) := by decide +kernel
theorem dX5_fluid_8 : decode cX5_fluid 8 = .ok (.if_icmp .gt 25, 3) := by decide +kernel
theorem dX5_fluid_11 : decode cX5_fluid 11 = .ok (.iload 4, 2) := by decide +kernel
theorem dX5_fluid_13 : decode cX5_fluid 13 = .ok (.iload_n 3, 1) := by decide +kernel
theorem dX5_fluid_14 : decode cX5_fluid 14 = .ok (.if_icmp .gt 19, 3) := by decide +kernel
theorem dX5_fluid_17 : decode cX5_fluid 17 = .ok (.iload 5, 2) := by decide +kernel
theorem dX5_fluid_19 : decode cX5_fluid 19 = .ok (.iload 4, 2) := by decide +kernel
theorem dX5_fluid_21 : decode cX5_fluid 21 = .ok (.if_icmp .gt 12, 3) := by decide +kernel
theorem dX5_fluid_24 : decode cX5_fluid 24 = .ok (.iload 5, 2) := by decide +kernel
theorem dX5_fluid_26 : decode cX5_fluid 26 = .ok (.ifCond .lt 7, 3) := by decide +kernel
theorem dX5_fluid_29 : decode cX5_fluid 29 = .ok (.iconst 1, 1) := by decide +kernel
theorem dX5_fluid_30 : decode cX5_fluid 30 = .ok (.goto 4, 3) := by decide +kernel
theorem dX5_fluid_33 : decode cX5_fluid 33 = .ok (.iconst 0, 1) := by decide +kernel
theorem dX5_fluid_34 : decode cX5_fluid 34 = .ok (.istore 9, 2) := by decide +kernel
theorem dX5_fluid_36 : decode cX5_fluid 36 = .ok (.iload_n 1, 1) := by decide +kernel
theorem dX5_fluid_37 : decode cX5_fluid 37 = .ok (.iconst 0, 1) := by decide +kernel
theorem dX5_fluid_38 : decode cX5_fluid 38 = .ok (.iconst 2, 1) := by decide +kernel
theorem dX5_fluid_39 : decode cX5_fluid 39 = .ok (.invokestatic 90, 3) := by decide +kernel
theorem dX5_fluid_42 : decode cX5_fluid 42 = .ok (.ifCond .eq 50, 3) := by decide +kernel
theorem dX5_fluid_45 : decode cX5_fluid 45 = .ok (.iload 9, 2) := by decide +kernel
theorem dX5_fluid_47 : decode cX5_fluid 47 = .ok (.ifCond .eq 45, 3) := by decide +kernel
theorem dX5_fluid_50 : decode cX5_fluid 50 = .ok (.iload_n 1, 1) := by decide +kernel
theorem dX5_fluid_51 : decode cX5_fluid 51 = .ok (.ifCond .le 13, 3) := by decide +kernel
theorem dX5_fluid_54 : decode cX5_fluid 54 = .ok (.iload 6, 2) := by decide +kernel
theorem dX5_fluid_56 : decode cX5_fluid 56 = .ok (.iconst 1, 1) := by decide +kernel
theorem dX5_fluid_57 : decode cX5_fluid 57 = .ok (.iconst 4, 1) := by decide +kernel
theorem dX5_fluid_58 : decode cX5_fluid 58 = .ok (.invokestatic 90, 3) := by decide +kernel
theorem dX5_fluid_61 : decode cX5_fluid 61 = .ok (.ifCond .eq 31, 3) := by decide +kernel
theorem dX5_fluid_64 : decode cX5_fluid 64 = .ok (.iload_n 1, 1) := by decide +kernel
theorem dX5_fluid_65 : decode cX5_fluid 65 = .ok (.iconst 2, 1) := by decide +kernel
theorem dX5_fluid_66 : decode cX5_fluid 66 = .ok (.if_icmp .ne 14, 3) := by decide +kernel
theorem dX5_fluid_69 : decode cX5_fluid 69 = .ok (.iload 7, 2) := by decide +kernel
theorem dX5_fluid_71 : decode cX5_fluid 71 = .ok (.iconst 1, 1) := by decide +kernel
theorem dX5_fluid_72 : decode cX5_fluid 72 = .ok (.bipush 10, 2) := by decide +kernel
theorem dX5_fluid_74 : decode cX5_fluid 74 = .ok (.invokestatic 90, 3) := by decide +kernel
theorem dX5_fluid_77 : decode cX5_fluid 77 = .ok (.ifCond .eq 15, 3) := by decide +kernel
theorem dX5_fluid_80 : decode cX5_fluid 80 = .ok (.iload 8, 2) := by decide +kernel
theorem dX5_fluid_82 : decode cX5_fluid 82 = .ok (.iconst 0, 1) := by decide +kernel
theorem dX5_fluid_83 : decode cX5_fluid 83 = .ok (.sipush 2000, 3) := by decide +kernel
theorem dX5_fluid_86 : decode cX5_fluid 86 = .ok (.invokestatic 90, 3) := by decide +kernel
theorem dX5_fluid_89 : decode cX5_fluid 89 = .ok (.ifCond .ne 6, 3) := by decide +kernel
theorem dX5_fluid_92 : decode cX5_fluid 92 = .ok (.bipush (-100), 2) := by decide +kernel
theorem dX5_fluid_94 : decode cX5_fluid 94 = .ok (.ireturn, 1) := by decide +kernel
theorem dX5_fluid_95 : decode cX5_fluid 95 = .ok (.aload_n 0, 1) := by decide +kernel
theorem dX5_fluid_96 : decode cX5_fluid 96 = .ok (.getfield 101, 3) := by decide +kernel
theorem dX5_fluid_99 : decode cX5_fluid 99 = .ok (.iconst 4, 1) := by decide +kernel
theorem dX5_fluid_100 : decode cX5_fluid 100 = .ok (.if_icmp .ne 7, 3) := by decide +kernel
theorem dX5_fluid_103 : decode cX5_fluid 103 = .ok (.sipush (-300), 3) := by decide +kernel
theorem dX5_fluid_106 : decode cX5_fluid 106 = .ok (.ireturn, 1) := by decide +kernel
theorem dX5_fluid_107 : decode cX5_fluid 107 = .ok (.aload_n 0, 1) := by decide +kernel
theorem dX5_fluid_108 : decode cX5_fluid 108 = .ok (.getfield 20, 3) := by decide +kernel
theorem dX5_fluid_111 : decode cX5_fluid 111 = .ok (.aload_n 0, 1) := by decide +kernel
theorem dX5_fluid_112 : decode cX5_fluid 112 = .ok (.getfield 101, 3) := by decide +kernel
theorem dX5_fluid_115 : decode cX5_fluid 115 = .ok (.iload_n 1, 1) := by decide +kernel
theorem dX5_fluid_116 : decode cX5_fluid 116 = .ok (.iastore, 1) := by decide +kernel
theorem dX5_fluid_117 : decode cX5_fluid 117 = .ok (.aload_n 0, 1) := by decide +kernel
theorem dX5_fluid_118 : decode cX5_fluid 118 = .ok (.getfield 23, 3) := by decide +kernel
theorem dX5_fluid_121 : decode cX5_fluid 121 = .ok (.iconst 4, 1) := by decide +kernel
theorem dX5_fluid_122 : decode cX5_fluid 122 = .ok (.aload_n 0, 1) := by decide +kernel
theorem dX5_fluid_123 : decode cX5_fluid 123 = .ok (.getfield 101, 3) := by decide +kernel
theorem dX5_fluid_126 : decode cX5_fluid 126 = .ok (.imul, 1) := by decide +kernel
theorem dX5_fluid_127 : decode cX5_fluid 127 = .ok (.iload_n 2, 1) := by decide +kernel
theorem dX5_fluid_128 : decode cX5_fluid 128 = .ok (.iastore, 1) := by decide +kernel
theorem dX5_fluid_129 : decode cX5_fluid 129 = .ok (.aload_n 0, 1) := by decide +kernel
theorem dX5_fluid_130 : decode cX5_fluid 130 = .ok (.getfield 23, 3) := by decide +kernel
theorem dX5_fluid_133 : decode cX5_fluid 133 = .ok (.iconst 4, 1) := by decide +kernel
theorem dX5_fluid_134 : decode cX5_fluid 134 = .ok (.aload_n 0, 1) := by decide +kernel
theorem dX5_fluid_135 : decode cX5_fluid 135 = .ok (.getfield 101, 3) := by decide +kernel
theorem dX5_fluid_138 : decode cX5_fluid 138 = .ok (.imul, 1) := by decide +kernel
theorem dX5_fluid_139 : decode cX5_fluid 139 = .ok (.iconst 1, 1) := by decide +kernel
theorem dX5_fluid_140 : decode cX5_fluid 140 = .ok (.iadd, 1) := by decide +kernel
theorem dX5_fluid_141 : decode cX5_fluid 141 = .ok (.iload_n 3, 1) := by decide +kernel
theorem dX5_fluid_142 : decode cX5_fluid 142 = .ok (.iastore, 1) := by decide +kernel
theorem dX5_fluid_143 : decode cX5_fluid 143 = .ok (.aload_n 0, 1) := by decide +kernel
theorem dX5_fluid_144 : decode cX5_fluid 144 = .ok (.getfield 23, 3) := by decide +kernel
theorem dX5_fluid_147 : decode cX5_fluid 147 = .ok (.iconst 4, 1) := by decide +kernel
theorem dX5_fluid_148 : decode cX5_fluid 148 = .ok (.aload_n 0, 1) := by decide +kernel
theorem dX5_fluid_149 : decode cX5_fluid 149 = .ok (.getfield 101, 3) := by decide +kernel
theorem dX5_fluid_152 : decode cX5_fluid 152 = .ok (.imul, 1) := by decide +kernel
theorem dX5_fluid_153 : decode cX5_fluid 153 = .ok (.iconst 2, 1) := by decide +kernel
theorem dX5_fluid_154 : decode cX5_fluid 154 = .ok (.iadd, 1) := by decide +kernel
theorem dX5_fluid_155 : decode cX5_fluid 155 = .ok (.iload 4, 2) := by decide +kernel
theorem dX5_fluid_157 : decode cX5_fluid 157 = .ok (.iastore, 1) := by decide +kernel
theorem dX5_fluid_158 : decode cX5_fluid 158 = .ok (.aload_n 0, 1) := by decide +kernel
theorem dX5_fluid_159 : decode cX5_fluid 159 = .ok (.getfield 23, 3) := by decide +kernel
theorem dX5_fluid_162 : decode cX5_fluid 162 = .ok (.iconst 4, 1) := by decide +kernel
theorem dX5_fluid_163 : decode cX5_fluid 163 = .ok (.aload_n 0, 1) := by decide +kernel
theorem dX5_fluid_164 : decode cX5_fluid 164 = .ok (.getfield 101, 3) := by decide +kernel
theorem dX5_fluid_167 : decode cX5_fluid 167 = .ok (.imul, 1) := by decide +kernel
theorem dX5_fluid_168 : decode cX5_fluid 168 = .ok (.iconst 3, 1) := by decide +kernel
theorem dX5_fluid_169 : decode cX5_fluid 169 = .ok (.iadd, 1) := by decide +kernel
theorem dX5_fluid_170 : decode cX5_fluid 170 = .ok (.iload 5, 2) := by decide +kernel
theorem dX5_fluid_172 : decode cX5_fluid 172 = .ok (.iastore, 1) := by decide +kernel
theorem dX5_fluid_173 : decode cX5_fluid 173 = .ok (.aload_n 0, 1) := by decide +kernel
theorem dX5_fluid_174 : decode cX5_fluid 174 = .ok (.getfield 26, 3) := by decide +kernel
theorem dX5_fluid_177 : decode cX5_fluid 177 = .ok (.aload_n 0, 1) := by decide +kernel
theorem dX5_fluid_178 : decode cX5_fluid 178 = .ok (.getfield 101, 3) := by decide +kernel
theorem dX5_fluid_181 : decode cX5_fluid 181 = .ok (.iload 6, 2) := by decide +kernel
theorem dX5_fluid_183 : decode cX5_fluid 183 = .ok (.iastore, 1) := by decide +kernel
theorem dX5_fluid_184 : decode cX5_fluid 184 = .ok (.aload_n 0, 1) := by decide +kernel
theorem dX5_fluid_185 : decode cX5_fluid 185 = .ok (.getfield 29, 3) := by decide +kernel
theorem dX5_fluid_188 : decode cX5_fluid 188 = .ok (.aload_n 0, 1) := by decide +kernel
theorem dX5_fluid_189 : decode cX5_fluid 189 = .ok (.getfield 101, 3) := by decide +kernel
theorem dX5_fluid_192 : decode cX5_fluid 192 = .ok (.iload 7, 2) := by decide +kernel
theorem dX5_fluid_194 : decode cX5_fluid 194 = .ok (.iastore, 1) := by decide +kernel
theorem dX5_fluid_195 : decode cX5_fluid 195 = .ok (.aload_n 0, 1) := by decide +kernel
theorem dX5_fluid_196 : decode cX5_fluid 196 = .ok (.getfield 32, 3) := by decide +kernel
theorem dX5_fluid_199 : decode cX5_fluid 199 = .ok (.aload_n 0, 1) := by decide +kernel
theorem dX5_fluid_200 : decode cX5_fluid 200 = .ok (.getfield 101, 3) := by decide +kernel
theorem dX5_fluid_203 : decode cX5_fluid 203 = .ok (.iload 8, 2) := by decide +kernel
theorem dX5_fluid_205 : decode cX5_fluid 205 = .ok (.iastore, 1) := by decide +kernel
theorem dX5_fluid_206 : decode cX5_fluid 206 = .ok (.aload_n 0, 1) := by decide +kernel
theorem dX5_fluid_207 : decode cX5_fluid 207 = .ok (.dup, 1) := by decide +kernel
theorem dX5_fluid_208 : decode cX5_fluid 208 = .ok (.getfield 101, 3) := by decide +kernel
theorem dX5_fluid_211 : decode cX5_fluid 211 = .ok (.iconst 1, 1) := by decide +kernel
theorem dX5_fluid_212 : decode cX5_fluid 212 = .ok (.iadd, 1) := by decide +kernel
theorem dX5_fluid_213 : decode cX5_fluid 213 = .ok (.putfield 101, 3) := by decide +kernel
theorem dX5_fluid_216 : decode cX5_fluid 216 = .ok (.aload_n 0, 1) := by decide +kernel
theorem dX5_fluid_217 : decode cX5_fluid 217 = .ok (.getfield 101, 3) := by decide +kernel
theorem dX5_fluid_220 : decode cX5_fluid 220 = .ok (.iconst 1, 1) := by decide +kernel
theorem dX5_fluid_221 : decode cX5_fluid 221 = .ok (.isub, 1) := by decide +kernel
theorem dX5_fluid_222 : decode cX5_fluid 222 = .ok (.ireturn, 1) := by decide +kernel
set_option maxRecDepth 20000 in
theorem ggX5_holdOf_X5_fallOf : GoodIn wsX5_holdOf wsX5_fallOf := goodIn_r _ [9, 10, 11, 17, 18, 19, 20, 21, 22, 23, 24, 25, 26, 27, 28, 29, 30, 31, 32, 33, 34, 35, 36, 37, 38, 39, 40, 41, 42, 43, 44, 45, 46, 47, 48] (by decide +kernel) (by decide +kernel)
set_option maxRecDepth 20000 in
theorem gX5_holdOf_X5_fallOf : GoodIn wsX5_holdOf (wsV RX5 98 RX5 yX5_fallOf wsX5_fallOf) := goodIn_app (goodIn_of _ (by decide +kernel)) ggX5_holdOf_X5_fallOf
set_option maxRecDepth 20000 in
theorem ggX5_holdOf_X5_coldOf : GoodIn wsX5_holdOf wsX5_coldOf := goodIn_r _ [15, 10, 16, 17, 18, 19, 20, 21, 22, 23, 24, 25, 26, 27, 28, 29, 30, 31, 32, 33, 34, 35, 36, 37, 38, 39, 40, 41, 42, 43, 44, 45, 46, 47, 48] (by decide +kernel) (by decide +kernel)
set_option maxRecDepth 20000 in
theorem gX5_holdOf_X5_coldOf : GoodIn wsX5_holdOf (wsV RX5 94 RX5 yX5_coldOf wsX5_coldOf) := goodIn_app (goodIn_of _ (by decide +kernel)) ggX5_holdOf_X5_coldOf
theorem dX5_holdOf_0 : decode cX5_holdOf 0 = .ok (.aload_n 0, 1) := by decide +kernel
theorem dX5_holdOf_1 : decode cX5_holdOf 1 = .ok (.getfield 23, 3) := by decide +kernel
theorem dX5_holdOf_4 : decode cX5_holdOf 4 = .ok (.iconst 4, 1) := by decide +kernel
theorem dX5_holdOf_5 : decode cX5_holdOf 5 = .ok (.iload_n 1, 1) := by decide +kernel
theorem dX5_holdOf_6 : decode cX5_holdOf 6 = .ok (.imul, 1) := by decide +kernel
theorem dX5_holdOf_7 : decode cX5_holdOf 7 = .ok (.aload_n 0, 1) := by decide +kernel
theorem dX5_holdOf_8 : decode cX5_holdOf 8 = .ok (.iload_n 2, 1) := by decide +kernel
theorem dX5_holdOf_9 : decode cX5_holdOf 9 = .ok (.invokevirtual 98, 3) := by decide +kernel
theorem dX5_holdOf_12 : decode cX5_holdOf 12 = .ok (.iadd, 1) := by decide +kernel
theorem dX5_holdOf_13 : decode cX5_holdOf 13 = .ok (.iaload, 1) := by decide +kernel
theorem dX5_holdOf_14 : decode cX5_holdOf 14 = .ok (.istore_n 3, 1) := by decide +kernel
theorem dX5_holdOf_15 : decode cX5_holdOf 15 = .ok (.aload_n 0, 1) := by decide +kernel
theorem dX5_holdOf_16 : decode cX5_holdOf 16 = .ok (.iload_n 2, 1) := by decide +kernel
theorem dX5_holdOf_17 : decode cX5_holdOf 17 = .ok (.invokevirtual 94, 3) := by decide +kernel
theorem dX5_holdOf_20 : decode cX5_holdOf 20 = .ok (.bipush (-10), 2) := by decide +kernel
theorem dX5_holdOf_22 : decode cX5_holdOf 22 = .ok (.if_icmp .ge 9, 3) := by decide +kernel
theorem dX5_holdOf_25 : decode cX5_holdOf 25 = .ok (.iload_n 3, 1) := by decide +kernel
theorem dX5_holdOf_26 : decode cX5_holdOf 26 = .ok (.iconst 2, 1) := by decide +kernel
theorem dX5_holdOf_27 : decode cX5_holdOf 27 = .ok (.idiv, 1) := by decide +kernel
theorem dX5_holdOf_28 : decode cX5_holdOf 28 = .ok (.goto 4, 3) := by decide +kernel
theorem dX5_holdOf_31 : decode cX5_holdOf 31 = .ok (.iload_n 3, 1) := by decide +kernel
theorem dX5_holdOf_32 : decode cX5_holdOf 32 = .ok (.istore_n 3, 1) := by decide +kernel
theorem dX5_holdOf_33 : decode cX5_holdOf 33 = .ok (.aload_n 0, 1) := by decide +kernel
theorem dX5_holdOf_34 : decode cX5_holdOf 34 = .ok (.getfield 20, 3) := by decide +kernel
theorem dX5_holdOf_37 : decode cX5_holdOf 37 = .ok (.iload_n 1, 1) := by decide +kernel
theorem dX5_holdOf_38 : decode cX5_holdOf 38 = .ok (.iaload, 1) := by decide +kernel
theorem dX5_holdOf_39 : decode cX5_holdOf 39 = .ok (.ifCond .le 14, 3) := by decide +kernel
theorem dX5_holdOf_42 : decode cX5_holdOf 42 = .ok (.iload_n 3, 1) := by decide +kernel
theorem dX5_holdOf_43 : decode cX5_holdOf 43 = .ok (.aload_n 0, 1) := by decide +kernel
theorem dX5_holdOf_44 : decode cX5_holdOf 44 = .ok (.getfield 26, 3) := by decide +kernel
theorem dX5_holdOf_47 : decode cX5_holdOf 47 = .ok (.iload_n 1, 1) := by decide +kernel
theorem dX5_holdOf_48 : decode cX5_holdOf 48 = .ok (.iaload, 1) := by decide +kernel
theorem dX5_holdOf_49 : decode cX5_holdOf 49 = .ok (.imul, 1) := by decide +kernel
theorem dX5_holdOf_50 : decode cX5_holdOf 50 = .ok (.goto 4, 3) := by decide +kernel
theorem dX5_holdOf_53 : decode cX5_holdOf 53 = .ok (.iload_n 3, 1) := by decide +kernel
theorem dX5_holdOf_54 : decode cX5_holdOf 54 = .ok (.istore_n 3, 1) := by decide +kernel
theorem dX5_holdOf_55 : decode cX5_holdOf 55 = .ok (.aload_n 0, 1) := by decide +kernel
theorem dX5_holdOf_56 : decode cX5_holdOf 56 = .ok (.getfield 20, 3) := by decide +kernel
theorem dX5_holdOf_59 : decode cX5_holdOf 59 = .ok (.iload_n 1, 1) := by decide +kernel
theorem dX5_holdOf_60 : decode cX5_holdOf 60 = .ok (.iaload, 1) := by decide +kernel
theorem dX5_holdOf_61 : decode cX5_holdOf 61 = .ok (.iconst 2, 1) := by decide +kernel
theorem dX5_holdOf_62 : decode cX5_holdOf 62 = .ok (.if_icmp .ne 17, 3) := by decide +kernel
theorem dX5_holdOf_65 : decode cX5_holdOf 65 = .ok (.iload_n 3, 1) := by decide +kernel
theorem dX5_holdOf_66 : decode cX5_holdOf 66 = .ok (.aload_n 0, 1) := by decide +kernel
theorem dX5_holdOf_67 : decode cX5_holdOf 67 = .ok (.getfield 29, 3) := by decide +kernel
theorem dX5_holdOf_70 : decode cX5_holdOf 70 = .ok (.iload_n 1, 1) := by decide +kernel
theorem dX5_holdOf_71 : decode cX5_holdOf 71 = .ok (.iaload, 1) := by decide +kernel
theorem dX5_holdOf_72 : decode cX5_holdOf 72 = .ok (.imul, 1) := by decide +kernel
theorem dX5_holdOf_73 : decode cX5_holdOf 73 = .ok (.bipush 10, 2) := by decide +kernel
theorem dX5_holdOf_75 : decode cX5_holdOf 75 = .ok (.idiv, 1) := by decide +kernel
theorem dX5_holdOf_76 : decode cX5_holdOf 76 = .ok (.goto 4, 3) := by decide +kernel
theorem dX5_holdOf_79 : decode cX5_holdOf 79 = .ok (.iload_n 3, 1) := by decide +kernel
theorem dX5_holdOf_80 : decode cX5_holdOf 80 = .ok (.ireturn, 1) := by decide +kernel
set_option maxRecDepth 20000 in
theorem ggX5_isFluid_X5_in : GoodIn wsX5_isFluid wsX5_in := goodIn_r _ [5] (by decide +kernel) (by decide +kernel)
set_option maxRecDepth 20000 in
theorem gX5_isFluid_X5_in : GoodIn wsX5_isFluid (va_wsS RX5 90 yX5_in wsX5_in) := goodIn_app (goodIn_of _ (by decide +kernel)) ggX5_isFluid_X5_in
theorem dX5_isFluid_0 : decode cX5_isFluid 0 = .ok (.iload_n 1, 1) := by decide +kernel
theorem dX5_isFluid_1 : decode cX5_isFluid 1 = .ok (.iconst 0, 1) := by decide +kernel
theorem dX5_isFluid_2 : decode cX5_isFluid 2 = .ok (.aload_n 0, 1) := by decide +kernel
theorem dX5_isFluid_3 : decode cX5_isFluid 3 = .ok (.getfield 101, 3) := by decide +kernel
theorem dX5_isFluid_6 : decode cX5_isFluid 6 = .ok (.iconst 1, 1) := by decide +kernel
theorem dX5_isFluid_7 : decode cX5_isFluid 7 = .ok (.isub, 1) := by decide +kernel
theorem dX5_isFluid_8 : decode cX5_isFluid 8 = .ok (.invokestatic 90, 3) := by decide +kernel
theorem dX5_isFluid_11 : decode cX5_isFluid 11 = .ok (.ireturn, 1) := by decide +kernel
set_option maxRecDepth 20000 in
theorem ggX5_hold_X5_isFluid : GoodIn wsX5_hold wsX5_isFluid := goodIn_r _ [9, 10, 11, 12, 8, 13, 32, 33, 34, 35, 36, 37, 38, 39, 40, 41, 42, 43, 44, 45, 46, 47, 48, 49, 50, 51, 52, 53, 54, 55, 56, 57, 58, 59, 60, 61, 62, 63] (by decide +kernel) (by decide +kernel)
set_option maxRecDepth 20000 in
theorem gX5_hold_X5_isFluid : GoodIn wsX5_hold (wsV RX5 104 RX5 yX5_isFluid wsX5_isFluid) := goodIn_app (goodIn_of _ (by decide +kernel)) ggX5_hold_X5_isFluid
set_option maxRecDepth 20000 in
theorem ggX5_hold_X5_in : GoodIn wsX5_hold wsX5_in := goodIn_r _ [13] (by decide +kernel) (by decide +kernel)
set_option maxRecDepth 20000 in
theorem gX5_hold_X5_in : GoodIn wsX5_hold (va_wsS RX5 90 yX5_in wsX5_in) := goodIn_app (goodIn_of _ (by decide +kernel)) ggX5_hold_X5_in
set_option maxRecDepth 20000 in
theorem ggX5_hold_X5_holdOf : GoodIn wsX5_hold wsX5_holdOf := goodIn_r _ [17, 18, 2, 19, 20, 21, 22, 23, 8, 24, 25, 26, 27, 28, 29, 30, 31, 32, 33, 34, 35, 36, 37, 38, 39, 40, 41, 42, 43, 44, 45, 46, 47, 48, 49, 50, 51, 52, 53, 54, 55, 56, 57, 58, 59, 60, 61, 62, 63] (by decide +kernel) (by decide +kernel)
set_option maxRecDepth 20000 in
theorem gX5_hold_X5_holdOf : GoodIn wsX5_hold (wsV RX5 116 RX5 yX5_holdOf wsX5_holdOf) := goodIn_app (goodIn_of _ (by decide +kernel)) ggX5_hold_X5_holdOf
theorem dX5_hold_0 : decode cX5_hold 0 = .ok (.aload_n 0, 1) := by decide +kernel
theorem dX5_hold_1 : decode cX5_hold 1 = .ok (.iload_n 1, 1) := by decide +kernel
theorem dX5_hold_2 : decode cX5_hold 2 = .ok (.invokevirtual 104, 3) := by decide +kernel
theorem dX5_hold_5 : decode cX5_hold 5 = .ok (.ifCond .eq 14, 3) := by decide +kernel
theorem dX5_hold_8 : decode cX5_hold 8 = .ok (.iload_n 2, 1) := by decide +kernel
theorem dX5_hold_9 : decode cX5_hold 9 = .ok (.iconst 0, 1) := by decide +kernel
theorem dX5_hold_10 : decode cX5_hold 10 = .ok (.sipush 299, 3) := by decide +kernel
theorem dX5_hold_13 : decode cX5_hold 13 = .ok (.invokestatic 90, 3) := by decide +kernel
theorem dX5_hold_16 : decode cX5_hold 16 = .ok (.ifCond .ne 6, 3) := by decide +kernel
theorem dX5_hold_19 : decode cX5_hold 19 = .ok (.bipush (-100), 2) := by decide +kernel
theorem dX5_hold_21 : decode cX5_hold 21 = .ok (.ireturn, 1) := by decide +kernel
theorem dX5_hold_22 : decode cX5_hold 22 = .ok (.aload_n 0, 1) := by decide +kernel
theorem dX5_hold_23 : decode cX5_hold 23 = .ok (.dup, 1) := by decide +kernel
theorem dX5_hold_24 : decode cX5_hold 24 = .ok (.getfield 108, 3) := by decide +kernel
theorem dX5_hold_27 : decode cX5_hold 27 = .ok (.aload_n 0, 1) := by decide +kernel
theorem dX5_hold_28 : decode cX5_hold 28 = .ok (.getfield 20, 3) := by decide +kernel
theorem dX5_hold_31 : decode cX5_hold 31 = .ok (.iload_n 1, 1) := by decide +kernel
theorem dX5_hold_32 : decode cX5_hold 32 = .ok (.iaload, 1) := by decide +kernel
theorem dX5_hold_33 : decode cX5_hold 33 = .ok (.ifCond .ne 7, 3) := by decide +kernel
theorem dX5_hold_36 : decode cX5_hold 36 = .ok (.lconst 1, 1) := by decide +kernel
theorem dX5_hold_37 : decode cX5_hold 37 = .ok (.goto 22, 3) := by decide +kernel
theorem dX5_hold_40 : decode cX5_hold 40 = .ok (.aload_n 0, 1) := by decide +kernel
theorem dX5_hold_41 : decode cX5_hold 41 = .ok (.getfield 20, 3) := by decide +kernel
theorem dX5_hold_44 : decode cX5_hold 44 = .ok (.iload_n 1, 1) := by decide +kernel
theorem dX5_hold_45 : decode cX5_hold 45 = .ok (.iaload, 1) := by decide +kernel
theorem dX5_hold_46 : decode cX5_hold 46 = .ok (.iconst 1, 1) := by decide +kernel
theorem dX5_hold_47 : decode cX5_hold 47 = .ok (.if_icmp .ne 9, 3) := by decide +kernel
theorem dX5_hold_50 : decode cX5_hold 50 = .ok (.ldc2_w 112, 3) := by decide +kernel
theorem dX5_hold_53 : decode cX5_hold 53 = .ok (.goto 6, 3) := by decide +kernel
theorem dX5_hold_56 : decode cX5_hold 56 = .ok (.ldc2_w 114, 3) := by decide +kernel
theorem dX5_hold_59 : decode cX5_hold 59 = .ok (.ladd, 1) := by decide +kernel
theorem dX5_hold_60 : decode cX5_hold 60 = .ok (.putfield 108, 3) := by decide +kernel
theorem dX5_hold_63 : decode cX5_hold 63 = .ok (.aload_n 0, 1) := by decide +kernel
theorem dX5_hold_64 : decode cX5_hold 64 = .ok (.iload_n 1, 1) := by decide +kernel
theorem dX5_hold_65 : decode cX5_hold 65 = .ok (.iload_n 2, 1) := by decide +kernel
theorem dX5_hold_66 : decode cX5_hold 66 = .ok (.invokevirtual 116, 3) := by decide +kernel
theorem dX5_hold_69 : decode cX5_hold 69 = .ok (.ireturn, 1) := by decide +kernel
set_option maxRecDepth 20000 in
theorem ggX5_fill_X5_isFluid : GoodIn wsX5_fill wsX5_isFluid := goodIn_r _ [6, 7, 8, 9, 5, 10, 11, 12, 13, 14, 15, 16, 17, 18, 19, 20, 21, 22, 23, 24, 25, 26, 27, 28, 29, 30, 31, 32, 33, 34, 35, 36, 37, 38, 39, 40, 41, 42] (by decide +kernel) (by decide +kernel)
set_option maxRecDepth 20000 in
theorem gX5_fill_X5_isFluid : GoodIn wsX5_fill (wsV RX5 104 RX5 yX5_isFluid wsX5_isFluid) := goodIn_app (goodIn_of _ (by decide +kernel)) ggX5_fill_X5_isFluid
set_option maxRecDepth 20000 in
theorem ggX5_fill_X5_in : GoodIn wsX5_fill wsX5_in := goodIn_r _ [10] (by decide +kernel) (by decide +kernel)
set_option maxRecDepth 20000 in
theorem gX5_fill_X5_in : GoodIn wsX5_fill (va_wsS RX5 90 yX5_in wsX5_in) := goodIn_app (goodIn_of _ (by decide +kernel)) ggX5_fill_X5_in
theorem dX5_fill_0 : decode cX5_fill 0 = .ok (.aload_n 0, 1) := by decide +kernel
theorem dX5_fill_1 : decode cX5_fill 1 = .ok (.iload_n 1, 1) := by decide +kernel
theorem dX5_fill_2 : decode cX5_fill 2 = .ok (.invokevirtual 104, 3) := by decide +kernel
theorem dX5_fill_5 : decode cX5_fill 5 = .ok (.ifCond .eq 14, 3) := by decide +kernel
theorem dX5_fill_8 : decode cX5_fill 8 = .ok (.iload_n 2, 1) := by decide +kernel
theorem dX5_fill_9 : decode cX5_fill 9 = .ok (.iconst 0, 1) := by decide +kernel
theorem dX5_fill_10 : decode cX5_fill 10 = .ok (.sipush 2000, 3) := by decide +kernel
theorem dX5_fill_13 : decode cX5_fill 13 = .ok (.invokestatic 90, 3) := by decide +kernel
theorem dX5_fill_16 : decode cX5_fill 16 = .ok (.ifCond .ne 6, 3) := by decide +kernel
theorem dX5_fill_19 : decode cX5_fill 19 = .ok (.bipush (-100), 2) := by decide +kernel
theorem dX5_fill_21 : decode cX5_fill 21 = .ok (.ireturn, 1) := by decide +kernel
theorem dX5_fill_22 : decode cX5_fill 22 = .ok (.aload_n 0, 1) := by decide +kernel
theorem dX5_fill_23 : decode cX5_fill 23 = .ok (.getfield 32, 3) := by decide +kernel
theorem dX5_fill_26 : decode cX5_fill 26 = .ok (.iload_n 1, 1) := by decide +kernel
theorem dX5_fill_27 : decode cX5_fill 27 = .ok (.iaload, 1) := by decide +kernel
theorem dX5_fill_28 : decode cX5_fill 28 = .ok (.istore_n 3, 1) := by decide +kernel
theorem dX5_fill_29 : decode cX5_fill 29 = .ok (.aload_n 0, 1) := by decide +kernel
theorem dX5_fill_30 : decode cX5_fill 30 = .ok (.getfield 32, 3) := by decide +kernel
theorem dX5_fill_33 : decode cX5_fill 33 = .ok (.iload_n 1, 1) := by decide +kernel
theorem dX5_fill_34 : decode cX5_fill 34 = .ok (.iload_n 2, 1) := by decide +kernel
theorem dX5_fill_35 : decode cX5_fill 35 = .ok (.iastore, 1) := by decide +kernel
theorem dX5_fill_36 : decode cX5_fill 36 = .ok (.iload_n 3, 1) := by decide +kernel
theorem dX5_fill_37 : decode cX5_fill 37 = .ok (.ireturn, 1) := by decide +kernel
set_option maxRecDepth 20000 in
theorem ggX5_litres_X5_isFluid : GoodIn wsX5_litres wsX5_isFluid := goodIn_r _ [6, 7, 8, 9, 5, 10, 11, 12, 13, 14, 15, 16, 17, 18, 19, 20, 21, 22, 23, 24, 25, 26, 27, 28, 29, 30, 31, 32, 33, 34, 35, 36, 37, 38, 39, 40, 41, 42] (by decide +kernel) (by decide +kernel)
set_option maxRecDepth 20000 in
theorem gX5_litres_X5_isFluid : GoodIn wsX5_litres (wsV RX5 104 RX5 yX5_isFluid wsX5_isFluid) := goodIn_app (goodIn_of _ (by decide +kernel)) ggX5_litres_X5_isFluid
theorem dX5_litres_0 : decode cX5_litres 0 = .ok (.aload_n 0, 1) := by decide +kernel
theorem dX5_litres_1 : decode cX5_litres 1 = .ok (.iload_n 1, 1) := by decide +kernel
theorem dX5_litres_2 : decode cX5_litres 2 = .ok (.invokevirtual 104, 3) := by decide +kernel
theorem dX5_litres_5 : decode cX5_litres 5 = .ok (.ifCond .eq 12, 3) := by decide +kernel
theorem dX5_litres_8 : decode cX5_litres 8 = .ok (.aload_n 0, 1) := by decide +kernel
theorem dX5_litres_9 : decode cX5_litres 9 = .ok (.getfield 32, 3) := by decide +kernel
theorem dX5_litres_12 : decode cX5_litres 12 = .ok (.iload_n 1, 1) := by decide +kernel
theorem dX5_litres_13 : decode cX5_litres 13 = .ok (.iaload, 1) := by decide +kernel
theorem dX5_litres_14 : decode cX5_litres 14 = .ok (.goto 5, 3) := by decide +kernel
theorem dX5_litres_17 : decode cX5_litres 17 = .ok (.bipush (-100), 2) := by decide +kernel
theorem dX5_litres_19 : decode cX5_litres 19 = .ok (.ireturn, 1) := by decide +kernel
set_option maxRecDepth 20000 in
theorem ggX5_set_X5_in : GoodIn wsX5_set wsX5_in := goodIn_r _ [8] (by decide +kernel) (by decide +kernel)
set_option maxRecDepth 20000 in
theorem gX5_set_X5_in : GoodIn wsX5_set (va_wsS RX5 90 yX5_in wsX5_in) := goodIn_app (goodIn_of _ (by decide +kernel)) ggX5_set_X5_in
theorem dX5_set_0 : decode cX5_set 0 = .ok (.bipush (-100), 2) := by decide +kernel
theorem dX5_set_2 : decode cX5_set 2 = .ok (.istore_n 3, 1) := by decide +kernel
theorem dX5_set_3 : decode cX5_set 3 = .ok (.iload_n 1, 1) := by decide +kernel
theorem dX5_set_4 : decode cX5_set 4 = .ok (.ifCond .ne 52, 3) := by decide +kernel
theorem dX5_set_7 : decode cX5_set 7 = .ok (.iload_n 2, 1) := by decide +kernel
theorem dX5_set_8 : decode cX5_set 8 = .ok (.iconst 1, 1) := by decide +kernel
theorem dX5_set_9 : decode cX5_set 9 = .ok (.iconst 3, 1) := by decide +kernel
theorem dX5_set_10 : decode cX5_set 10 = .ok (.invokestatic 90, 3) := by decide +kernel
theorem dX5_set_13 : decode cX5_set 13 = .ok (.ifCond .eq 43, 3) := by decide +kernel
theorem dX5_set_16 : decode cX5_set 16 = .ok (.aload_n 0, 1) := by decide +kernel
theorem dX5_set_17 : decode cX5_set 17 = .ok (.getfield 45, 3) := by decide +kernel
theorem dX5_set_20 : decode cX5_set 20 = .ok (.iconst 0, 1) := by decide +kernel
theorem dX5_set_21 : decode cX5_set 21 = .ok (.iaload, 1) := by decide +kernel
theorem dX5_set_22 : decode cX5_set 22 = .ok (.aload_n 0, 1) := by decide +kernel
theorem dX5_set_23 : decode cX5_set 23 = .ok (.getfield 45, 3) := by decide +kernel
theorem dX5_set_26 : decode cX5_set 26 = .ok (.iconst 1, 1) := by decide +kernel
theorem dX5_set_27 : decode cX5_set 27 = .ok (.iaload, 1) := by decide +kernel
theorem dX5_set_28 : decode cX5_set 28 = .ok (.iadd, 1) := by decide +kernel
theorem dX5_set_29 : decode cX5_set 29 = .ok (.aload_n 0, 1) := by decide +kernel
theorem dX5_set_30 : decode cX5_set 30 = .ok (.getfield 45, 3) := by decide +kernel
theorem dX5_set_33 : decode cX5_set 33 = .ok (.iconst 2, 1) := by decide +kernel
theorem dX5_set_34 : decode cX5_set 34 = .ok (.iaload, 1) := by decide +kernel
theorem dX5_set_35 : decode cX5_set 35 = .ok (.iadd, 1) := by decide +kernel
theorem dX5_set_36 : decode cX5_set 36 = .ok (.ifCond .le 7, 3) := by decide +kernel
theorem dX5_set_39 : decode cX5_set 39 = .ok (.sipush (-200), 3) := by decide +kernel
theorem dX5_set_42 : decode cX5_set 42 = .ok (.ireturn, 1) := by decide +kernel
theorem dX5_set_43 : decode cX5_set 43 = .ok (.aload_n 0, 1) := by decide +kernel
theorem dX5_set_44 : decode cX5_set 44 = .ok (.getfield 35, 3) := by decide +kernel
theorem dX5_set_47 : decode cX5_set 47 = .ok (.istore_n 3, 1) := by decide +kernel
theorem dX5_set_48 : decode cX5_set 48 = .ok (.aload_n 0, 1) := by decide +kernel
theorem dX5_set_49 : decode cX5_set 49 = .ok (.iload_n 2, 1) := by decide +kernel
theorem dX5_set_50 : decode cX5_set 50 = .ok (.putfield 35, 3) := by decide +kernel
theorem dX5_set_53 : decode cX5_set 53 = .ok (.goto 58, 3) := by decide +kernel
theorem dX5_set_56 : decode cX5_set 56 = .ok (.iload_n 1, 1) := by decide +kernel
theorem dX5_set_57 : decode cX5_set 57 = .ok (.iconst 1, 1) := by decide +kernel
theorem dX5_set_58 : decode cX5_set 58 = .ok (.if_icmp .ne 28, 3) := by decide +kernel
theorem dX5_set_61 : decode cX5_set 61 = .ok (.iload_n 2, 1) := by decide +kernel
theorem dX5_set_62 : decode cX5_set 62 = .ok (.bipush 10, 2) := by decide +kernel
theorem dX5_set_64 : decode cX5_set 64 = .ok (.sipush 1000, 3) := by decide +kernel
theorem dX5_set_67 : decode cX5_set 67 = .ok (.invokestatic 90, 3) := by decide +kernel
theorem dX5_set_70 : decode cX5_set 70 = .ok (.ifCond .eq 16, 3) := by decide +kernel
theorem dX5_set_73 : decode cX5_set 73 = .ok (.aload_n 0, 1) := by decide +kernel
theorem dX5_set_74 : decode cX5_set 74 = .ok (.getfield 39, 3) := by decide +kernel
theorem dX5_set_77 : decode cX5_set 77 = .ok (.istore_n 3, 1) := by decide +kernel
theorem dX5_set_78 : decode cX5_set 78 = .ok (.aload_n 0, 1) := by decide +kernel
theorem dX5_set_79 : decode cX5_set 79 = .ok (.iload_n 2, 1) := by decide +kernel
theorem dX5_set_80 : decode cX5_set 80 = .ok (.putfield 39, 3) := by decide +kernel
theorem dX5_set_83 : decode cX5_set 83 = .ok (.goto 28, 3) := by decide +kernel
theorem dX5_set_86 : decode cX5_set 86 = .ok (.iload_n 1, 1) := by decide +kernel
theorem dX5_set_87 : decode cX5_set 87 = .ok (.iconst 2, 1) := by decide +kernel
theorem dX5_set_88 : decode cX5_set 88 = .ok (.if_icmp .ne 23, 3) := by decide +kernel
theorem dX5_set_91 : decode cX5_set 91 = .ok (.iload_n 2, 1) := by decide +kernel
theorem dX5_set_92 : decode cX5_set 92 = .ok (.iconst 0, 1) := by decide +kernel
theorem dX5_set_93 : decode cX5_set 93 = .ok (.bipush 50, 2) := by decide +kernel
theorem dX5_set_95 : decode cX5_set 95 = .ok (.invokestatic 90, 3) := by decide +kernel
theorem dX5_set_98 : decode cX5_set 98 = .ok (.ifCond .eq 13, 3) := by decide +kernel
theorem dX5_set_101 : decode cX5_set 101 = .ok (.aload_n 0, 1) := by decide +kernel
theorem dX5_set_102 : decode cX5_set 102 = .ok (.getfield 42, 3) := by decide +kernel
theorem dX5_set_105 : decode cX5_set 105 = .ok (.istore_n 3, 1) := by decide +kernel
theorem dX5_set_106 : decode cX5_set 106 = .ok (.aload_n 0, 1) := by decide +kernel
theorem dX5_set_107 : decode cX5_set 107 = .ok (.iload_n 2, 1) := by decide +kernel
theorem dX5_set_108 : decode cX5_set 108 = .ok (.putfield 42, 3) := by decide +kernel
theorem dX5_set_111 : decode cX5_set 111 = .ok (.iload_n 3, 1) := by decide +kernel
theorem dX5_set_112 : decode cX5_set 112 = .ok (.ireturn, 1) := by decide +kernel
set_option maxRecDepth 20000 in
theorem ggX5_jet_X5_in : GoodIn wsX5_jet wsX5_in := goodIn_r _ [15] (by decide +kernel) (by decide +kernel)
set_option maxRecDepth 20000 in
theorem gX5_jet_X5_in : GoodIn wsX5_jet (va_wsS RX5 90 yX5_in wsX5_in) := goodIn_app (goodIn_of _ (by decide +kernel)) ggX5_jet_X5_in
set_option maxRecDepth 20000 in
theorem ggX5_jet_X5_isFluid : GoodIn wsX5_jet wsX5_isFluid := goodIn_r _ [19, 20, 12, 13, 14, 15, 21, 22, 23, 24, 25, 26, 27, 28, 29, 30, 31, 32, 33, 34, 35, 36, 37, 38, 39, 40, 41, 42, 43, 44, 45, 46, 47, 48, 49, 50, 51, 52] (by decide +kernel) (by decide +kernel)
set_option maxRecDepth 20000 in
theorem gX5_jet_X5_isFluid : GoodIn wsX5_jet (wsV RX5 104 RX5 yX5_isFluid wsX5_isFluid) := goodIn_app (goodIn_of _ (by decide +kernel)) ggX5_jet_X5_isFluid
theorem dX5_jet_0 : decode cX5_jet 0 = .ok (.iload_n 1, 1) := by decide +kernel
theorem dX5_jet_1 : decode cX5_jet 1 = .ok (.iconst 1, 1) := by decide +kernel
theorem dX5_jet_2 : decode cX5_jet 2 = .ok (.iconst 5, 1) := by decide +kernel
theorem dX5_jet_3 : decode cX5_jet 3 = .ok (.invokestatic 90, 3) := by decide +kernel
theorem dX5_jet_6 : decode cX5_jet 6 = .ok (.ifCond .eq 36, 3) := by decide +kernel
theorem dX5_jet_9 : decode cX5_jet 9 = .ok (.iload_n 2, 1) := by decide +kernel
theorem dX5_jet_10 : decode cX5_jet 10 = .ok (.aload_n 0, 1) := by decide +kernel
theorem dX5_jet_11 : decode cX5_jet 11 = .ok (.getfield 87, 3) := by decide +kernel
theorem dX5_jet_14 : decode cX5_jet 14 = .ok (.sipush 299, 3) := by decide +kernel
theorem dX5_jet_17 : decode cX5_jet 17 = .ok (.invokestatic 90, 3) := by decide +kernel
theorem dX5_jet_20 : decode cX5_jet 20 = .ok (.ifCond .eq 22, 3) := by decide +kernel
theorem dX5_jet_23 : decode cX5_jet 23 = .ok (.iload_n 3, 1) := by decide +kernel
theorem dX5_jet_24 : decode cX5_jet 24 = .ok (.iconst 1, 1) := by decide +kernel
theorem dX5_jet_25 : decode cX5_jet 25 = .ok (.bipush 20, 2) := by decide +kernel
theorem dX5_jet_27 : decode cX5_jet 27 = .ok (.invokestatic 90, 3) := by decide +kernel
theorem dX5_jet_30 : decode cX5_jet 30 = .ok (.ifCond .eq 12, 3) := by decide +kernel
theorem dX5_jet_33 : decode cX5_jet 33 = .ok (.aload_n 0, 1) := by decide +kernel
theorem dX5_jet_34 : decode cX5_jet 34 = .ok (.iload 4, 2) := by decide +kernel
theorem dX5_jet_36 : decode cX5_jet 36 = .ok (.invokevirtual 104, 3) := by decide +kernel
theorem dX5_jet_39 : decode cX5_jet 39 = .ok (.ifCond .ne 6, 3) := by decide +kernel
theorem dX5_jet_42 : decode cX5_jet 42 = .ok (.bipush (-100), 2) := by decide +kernel
theorem dX5_jet_44 : decode cX5_jet 44 = .ok (.ireturn, 1) := by decide +kernel
theorem dX5_jet_45 : decode cX5_jet 45 = .ok (.aload_n 0, 1) := by decide +kernel
theorem dX5_jet_46 : decode cX5_jet 46 = .ok (.getfield 120, 3) := by decide +kernel
theorem dX5_jet_49 : decode cX5_jet 49 = .ok (.bipush 12, 2) := by decide +kernel
theorem dX5_jet_51 : decode cX5_jet 51 = .ok (.if_icmp .ne 7, 3) := by decide +kernel
theorem dX5_jet_54 : decode cX5_jet 54 = .ok (.sipush (-300), 3) := by decide +kernel
theorem dX5_jet_57 : decode cX5_jet 57 = .ok (.ireturn, 1) := by decide +kernel
theorem dX5_jet_58 : decode cX5_jet 58 = .ok (.aload_n 0, 1) := by decide +kernel
theorem dX5_jet_59 : decode cX5_jet 59 = .ok (.getfield 48, 3) := by decide +kernel
theorem dX5_jet_62 : decode cX5_jet 62 = .ok (.aload_n 0, 1) := by decide +kernel
theorem dX5_jet_63 : decode cX5_jet 63 = .ok (.getfield 120, 3) := by decide +kernel
theorem dX5_jet_66 : decode cX5_jet 66 = .ok (.iload_n 1, 1) := by decide +kernel
theorem dX5_jet_67 : decode cX5_jet 67 = .ok (.iastore, 1) := by decide +kernel
theorem dX5_jet_68 : decode cX5_jet 68 = .ok (.aload_n 0, 1) := by decide +kernel
theorem dX5_jet_69 : decode cX5_jet 69 = .ok (.getfield 51, 3) := by decide +kernel
theorem dX5_jet_72 : decode cX5_jet 72 = .ok (.aload_n 0, 1) := by decide +kernel
theorem dX5_jet_73 : decode cX5_jet 73 = .ok (.getfield 120, 3) := by decide +kernel
theorem dX5_jet_76 : decode cX5_jet 76 = .ok (.iload_n 2, 1) := by decide +kernel
theorem dX5_jet_77 : decode cX5_jet 77 = .ok (.iastore, 1) := by decide +kernel
theorem dX5_jet_78 : decode cX5_jet 78 = .ok (.aload_n 0, 1) := by decide +kernel
theorem dX5_jet_79 : decode cX5_jet 79 = .ok (.getfield 54, 3) := by decide +kernel
theorem dX5_jet_82 : decode cX5_jet 82 = .ok (.aload_n 0, 1) := by decide +kernel
theorem dX5_jet_83 : decode cX5_jet 83 = .ok (.getfield 120, 3) := by decide +kernel
theorem dX5_jet_86 : decode cX5_jet 86 = .ok (.iload_n 2, 1) := by decide +kernel
theorem dX5_jet_87 : decode cX5_jet 87 = .ok (.iastore, 1) := by decide +kernel
theorem dX5_jet_88 : decode cX5_jet 88 = .ok (.aload_n 0, 1) := by decide +kernel
theorem dX5_jet_89 : decode cX5_jet 89 = .ok (.getfield 57, 3) := by decide +kernel
theorem dX5_jet_92 : decode cX5_jet 92 = .ok (.aload_n 0, 1) := by decide +kernel
theorem dX5_jet_93 : decode cX5_jet 93 = .ok (.getfield 120, 3) := by decide +kernel
theorem dX5_jet_96 : decode cX5_jet 96 = .ok (.iload_n 3, 1) := by decide +kernel
theorem dX5_jet_97 : decode cX5_jet 97 = .ok (.iastore, 1) := by decide +kernel
theorem dX5_jet_98 : decode cX5_jet 98 = .ok (.aload_n 0, 1) := by decide +kernel
theorem dX5_jet_99 : decode cX5_jet 99 = .ok (.getfield 60, 3) := by decide +kernel
theorem dX5_jet_102 : decode cX5_jet 102 = .ok (.aload_n 0, 1) := by decide +kernel
theorem dX5_jet_103 : decode cX5_jet 103 = .ok (.getfield 120, 3) := by decide +kernel
theorem dX5_jet_106 : decode cX5_jet 106 = .ok (.iload 4, 2) := by decide +kernel
theorem dX5_jet_108 : decode cX5_jet 108 = .ok (.iastore, 1) := by decide +kernel
theorem dX5_jet_109 : decode cX5_jet 109 = .ok (.aload_n 0, 1) := by decide +kernel
theorem dX5_jet_110 : decode cX5_jet 110 = .ok (.getfield 63, 3) := by decide +kernel
theorem dX5_jet_113 : decode cX5_jet 113 = .ok (.aload_n 0, 1) := by decide +kernel
theorem dX5_jet_114 : decode cX5_jet 114 = .ok (.getfield 120, 3) := by decide +kernel
theorem dX5_jet_117 : decode cX5_jet 117 = .ok (.iconst 0, 1) := by decide +kernel
theorem dX5_jet_118 : decode cX5_jet 118 = .ok (.iastore, 1) := by decide +kernel
theorem dX5_jet_119 : decode cX5_jet 119 = .ok (.aload_n 0, 1) := by decide +kernel
theorem dX5_jet_120 : decode cX5_jet 120 = .ok (.getfield 66, 3) := by decide +kernel
theorem dX5_jet_123 : decode cX5_jet 123 = .ok (.aload_n 0, 1) := by decide +kernel
theorem dX5_jet_124 : decode cX5_jet 124 = .ok (.getfield 120, 3) := by decide +kernel
theorem dX5_jet_127 : decode cX5_jet 127 = .ok (.sipush (-900), 3) := by decide +kernel
theorem dX5_jet_130 : decode cX5_jet 130 = .ok (.iastore, 1) := by decide +kernel
theorem dX5_jet_131 : decode cX5_jet 131 = .ok (.aload_n 0, 1) := by decide +kernel
theorem dX5_jet_132 : decode cX5_jet 132 = .ok (.getfield 72, 3) := by decide +kernel
theorem dX5_jet_135 : decode cX5_jet 135 = .ok (.aload_n 0, 1) := by decide +kernel
theorem dX5_jet_136 : decode cX5_jet 136 = .ok (.getfield 120, 3) := by decide +kernel
theorem dX5_jet_139 : decode cX5_jet 139 = .ok (.iconst 0, 1) := by decide +kernel
theorem dX5_jet_140 : decode cX5_jet 140 = .ok (.iastore, 1) := by decide +kernel
theorem dX5_jet_141 : decode cX5_jet 141 = .ok (.aload_n 0, 1) := by decide +kernel
theorem dX5_jet_142 : decode cX5_jet 142 = .ok (.getfield 75, 3) := by decide +kernel
theorem dX5_jet_145 : decode cX5_jet 145 = .ok (.aload_n 0, 1) := by decide +kernel
theorem dX5_jet_146 : decode cX5_jet 146 = .ok (.getfield 120, 3) := by decide +kernel
theorem dX5_jet_149 : decode cX5_jet 149 = .ok (.sipush (-900), 3) := by decide +kernel
theorem dX5_jet_152 : decode cX5_jet 152 = .ok (.iastore, 1) := by decide +kernel
theorem dX5_jet_153 : decode cX5_jet 153 = .ok (.aload_n 0, 1) := by decide +kernel
theorem dX5_jet_154 : decode cX5_jet 154 = .ok (.dup, 1) := by decide +kernel
theorem dX5_jet_155 : decode cX5_jet 155 = .ok (.getfield 120, 3) := by decide +kernel
theorem dX5_jet_158 : decode cX5_jet 158 = .ok (.iconst 1, 1) := by decide +kernel
theorem dX5_jet_159 : decode cX5_jet 159 = .ok (.iadd, 1) := by decide +kernel
theorem dX5_jet_160 : decode cX5_jet 160 = .ok (.putfield 120, 3) := by decide +kernel
theorem dX5_jet_163 : decode cX5_jet 163 = .ok (.aload_n 0, 1) := by decide +kernel
theorem dX5_jet_164 : decode cX5_jet 164 = .ok (.getfield 120, 3) := by decide +kernel
theorem dX5_jet_167 : decode cX5_jet 167 = .ok (.iconst 1, 1) := by decide +kernel
theorem dX5_jet_168 : decode cX5_jet 168 = .ok (.isub, 1) := by decide +kernel
theorem dX5_jet_169 : decode cX5_jet 169 = .ok (.ireturn, 1) := by decide +kernel
theorem dX5_leaves_0 : decode cX5_leaves 0 = .ok (.aload_n 0, 1) := by decide +kernel
end
section
theorem dX5_leaves_1 : decode cX5_leaves 1 = .ok (.getfield 45, 3) := by decide +kernel
theorem dX5_leaves_4 : decode cX5_leaves 4 = .ok (.iload_n 1, 1) := by decide +kernel
theorem dX5_leaves_5 : decode cX5_leaves 5 = .ok (.iaload, 1) := by decide +kernel
theorem dX5_leaves_6 : decode cX5_leaves 6 = .ok (.iconst 1, 1) := by decide +kernel
theorem dX5_leaves_7 : decode cX5_leaves 7 = .ok (.isub, 1) := by decide +kernel
theorem dX5_leaves_8 : decode cX5_leaves 8 = .ok (.istore_n 2, 1) := by decide +kernel
theorem dX5_leaves_9 : decode cX5_leaves 9 = .ok (.iload_n 2, 1) := by decide +kernel
theorem dX5_leaves_10 : decode cX5_leaves 10 = .ok (.ifCond .lt 25, 3) := by decide +kernel
theorem dX5_leaves_13 : decode cX5_leaves 13 = .ok (.aload_n 0, 1) := by decide +kernel
theorem dX5_leaves_14 : decode cX5_leaves 14 = .ok (.getfield 66, 3) := by decide +kernel
theorem dX5_leaves_17 : decode cX5_leaves 17 = .ok (.iload_n 2, 1) := by decide +kernel
theorem dX5_leaves_18 : decode cX5_leaves 18 = .ok (.iaload, 1) := by decide +kernel
theorem dX5_leaves_19 : decode cX5_leaves 19 = .ok (.iconst 2, 1) := by decide +kernel
theorem dX5_leaves_20 : decode cX5_leaves 20 = .ok (.aload_n 0, 1) := by decide +kernel
theorem dX5_leaves_21 : decode cX5_leaves 21 = .ok (.getfield 48, 3) := by decide +kernel
theorem dX5_leaves_24 : decode cX5_leaves 24 = .ok (.iload_n 2, 1) := by decide +kernel
theorem dX5_leaves_25 : decode cX5_leaves 25 = .ok (.iaload, 1) := by decide +kernel
theorem dX5_leaves_26 : decode cX5_leaves 26 = .ok (.imul, 1) := by decide +kernel
theorem dX5_leaves_27 : decode cX5_leaves 27 = .ok (.iadd, 1) := by decide +kernel
theorem dX5_leaves_28 : decode cX5_leaves 28 = .ok (.aload_n 0, 1) := by decide +kernel
theorem dX5_leaves_29 : decode cX5_leaves 29 = .ok (.getfield 87, 3) := by decide +kernel
theorem dX5_leaves_32 : decode cX5_leaves 32 = .ok (.if_icmp .eq 4, 3) := by decide +kernel
theorem dX5_leaves_35 : decode cX5_leaves 35 = .ok (.return_, 1) := by decide +kernel
theorem dX5_leaves_36 : decode cX5_leaves 36 = .ok (.aload_n 0, 1) := by decide +kernel
theorem dX5_leaves_37 : decode cX5_leaves 37 = .ok (.getfield 45, 3) := by decide +kernel
theorem dX5_leaves_40 : decode cX5_leaves 40 = .ok (.iload_n 1, 1) := by decide +kernel
theorem dX5_leaves_41 : decode cX5_leaves 41 = .ok (.iconst 0, 1) := by decide +kernel
theorem dX5_leaves_42 : decode cX5_leaves 42 = .ok (.iastore, 1) := by decide +kernel
theorem dX5_leaves_43 : decode cX5_leaves 43 = .ok (.aload_n 0, 1) := by decide +kernel
theorem dX5_leaves_44 : decode cX5_leaves 44 = .ok (.getfield 87, 3) := by decide +kernel
theorem dX5_leaves_47 : decode cX5_leaves 47 = .ok (.aload_n 0, 1) := by decide +kernel
theorem dX5_leaves_48 : decode cX5_leaves 48 = .ok (.getfield 57, 3) := by decide +kernel
theorem dX5_leaves_51 : decode cX5_leaves 51 = .ok (.iload_n 2, 1) := by decide +kernel
theorem dX5_leaves_52 : decode cX5_leaves 52 = .ok (.iaload, 1) := by decide +kernel
theorem dX5_leaves_53 : decode cX5_leaves 53 = .ok (.iadd, 1) := by decide +kernel
theorem dX5_leaves_54 : decode cX5_leaves 54 = .ok (.istore_n 3, 1) := by decide +kernel
theorem dX5_leaves_55 : decode cX5_leaves 55 = .ok (.iload_n 3, 1) := by decide +kernel
theorem dX5_leaves_56 : decode cX5_leaves 56 = .ok (.aload_n 0, 1) := by decide +kernel
theorem dX5_leaves_57 : decode cX5_leaves 57 = .ok (.getfield 66, 3) := by decide +kernel
theorem dX5_leaves_60 : decode cX5_leaves 60 = .ok (.iload_n 2, 1) := by decide +kernel
theorem dX5_leaves_61 : decode cX5_leaves 61 = .ok (.iaload, 1) := by decide +kernel
theorem dX5_leaves_62 : decode cX5_leaves 62 = .ok (.isub, 1) := by decide +kernel
theorem dX5_leaves_63 : decode cX5_leaves 63 = .ok (.aload_n 0, 1) := by decide +kernel
theorem dX5_leaves_64 : decode cX5_leaves 64 = .ok (.getfield 69, 3) := by decide +kernel
theorem dX5_leaves_67 : decode cX5_leaves 67 = .ok (.iload_n 2, 1) := by decide +kernel
theorem dX5_leaves_68 : decode cX5_leaves 68 = .ok (.iaload, 1) := by decide +kernel
theorem dX5_leaves_69 : decode cX5_leaves 69 = .ok (.if_icmp .gt 20, 3) := by decide +kernel
theorem dX5_leaves_72 : decode cX5_leaves 72 = .ok (.aload_n 0, 1) := by decide +kernel
theorem dX5_leaves_73 : decode cX5_leaves 73 = .ok (.getfield 63, 3) := by decide +kernel
theorem dX5_leaves_76 : decode cX5_leaves 76 = .ok (.iload_n 2, 1) := by decide +kernel
theorem dX5_leaves_77 : decode cX5_leaves 77 = .ok (.iconst 2, 1) := by decide +kernel
theorem dX5_leaves_78 : decode cX5_leaves 78 = .ok (.iastore, 1) := by decide +kernel
theorem dX5_leaves_79 : decode cX5_leaves 79 = .ok (.aload_n 0, 1) := by decide +kernel
theorem dX5_leaves_80 : decode cX5_leaves 80 = .ok (.getfield 75, 3) := by decide +kernel
theorem dX5_leaves_83 : decode cX5_leaves 83 = .ok (.iload_n 2, 1) := by decide +kernel
theorem dX5_leaves_84 : decode cX5_leaves 84 = .ok (.iload_n 3, 1) := by decide +kernel
theorem dX5_leaves_85 : decode cX5_leaves 85 = .ok (.iastore, 1) := by decide +kernel
theorem dX5_leaves_86 : decode cX5_leaves 86 = .ok (.goto 27, 3) := by decide +kernel
theorem dX5_leaves_89 : decode cX5_leaves 89 = .ok (.aload_n 0, 1) := by decide +kernel
theorem dX5_leaves_90 : decode cX5_leaves 90 = .ok (.getfield 63, 3) := by decide +kernel
theorem dX5_leaves_93 : decode cX5_leaves 93 = .ok (.iload_n 2, 1) := by decide +kernel
theorem dX5_leaves_94 : decode cX5_leaves 94 = .ok (.iconst 0, 1) := by decide +kernel
theorem dX5_leaves_95 : decode cX5_leaves 95 = .ok (.iastore, 1) := by decide +kernel
theorem dX5_leaves_96 : decode cX5_leaves 96 = .ok (.aload_n 0, 1) := by decide +kernel
theorem dX5_leaves_97 : decode cX5_leaves 97 = .ok (.getfield 54, 3) := by decide +kernel
theorem dX5_leaves_100 : decode cX5_leaves 100 = .ok (.iload_n 2, 1) := by decide +kernel
theorem dX5_leaves_101 : decode cX5_leaves 101 = .ok (.iload_n 3, 1) := by decide +kernel
theorem dX5_leaves_102 : decode cX5_leaves 102 = .ok (.iastore, 1) := by decide +kernel
theorem dX5_leaves_103 : decode cX5_leaves 103 = .ok (.aload_n 0, 1) := by decide +kernel
theorem dX5_leaves_104 : decode cX5_leaves 104 = .ok (.getfield 72, 3) := by decide +kernel
theorem dX5_leaves_107 : decode cX5_leaves 107 = .ok (.iload_n 2, 1) := by decide +kernel
theorem dX5_leaves_108 : decode cX5_leaves 108 = .ok (.dup2, 1) := by decide +kernel
theorem dX5_leaves_109 : decode cX5_leaves 109 = .ok (.iaload, 1) := by decide +kernel
theorem dX5_leaves_110 : decode cX5_leaves 110 = .ok (.iconst 1, 1) := by decide +kernel
theorem dX5_leaves_111 : decode cX5_leaves 111 = .ok (.iadd, 1) := by decide +kernel
theorem dX5_leaves_112 : decode cX5_leaves 112 = .ok (.iastore, 1) := by decide +kernel
theorem dX5_leaves_113 : decode cX5_leaves 113 = .ok (.return_, 1) := by decide +kernel
theorem dX5_mayBegin_0 : decode cX5_mayBegin 0 = .ok (.aload_n 0, 1) := by decide +kernel
theorem dX5_mayBegin_1 : decode cX5_mayBegin 1 = .ok (.getfield 63, 3) := by decide +kernel
theorem dX5_mayBegin_4 : decode cX5_mayBegin 4 = .ok (.iload_n 1, 1) := by decide +kernel
theorem dX5_mayBegin_5 : decode cX5_mayBegin 5 = .ok (.iaload, 1) := by decide +kernel
theorem dX5_mayBegin_6 : decode cX5_mayBegin 6 = .ok (.ifCond .ne 64, 3) := by decide +kernel
theorem dX5_mayBegin_9 : decode cX5_mayBegin 9 = .ok (.aload_n 0, 1) := by decide +kernel
theorem dX5_mayBegin_10 : decode cX5_mayBegin 10 = .ok (.getfield 54, 3) := by decide +kernel
theorem dX5_mayBegin_13 : decode cX5_mayBegin 13 = .ok (.iload_n 1, 1) := by decide +kernel
theorem dX5_mayBegin_14 : decode cX5_mayBegin 14 = .ok (.iaload, 1) := by decide +kernel
theorem dX5_mayBegin_15 : decode cX5_mayBegin 15 = .ok (.aload_n 0, 1) := by decide +kernel
theorem dX5_mayBegin_16 : decode cX5_mayBegin 16 = .ok (.getfield 87, 3) := by decide +kernel
theorem dX5_mayBegin_19 : decode cX5_mayBegin 19 = .ok (.if_icmp .gt 51, 3) := by decide +kernel
theorem dX5_mayBegin_22 : decode cX5_mayBegin 22 = .ok (.aload_n 0, 1) := by decide +kernel
theorem dX5_mayBegin_23 : decode cX5_mayBegin 23 = .ok (.getfield 32, 3) := by decide +kernel
theorem dX5_mayBegin_26 : decode cX5_mayBegin 26 = .ok (.aload_n 0, 1) := by decide +kernel
theorem dX5_mayBegin_27 : decode cX5_mayBegin 27 = .ok (.getfield 60, 3) := by decide +kernel
theorem dX5_mayBegin_30 : decode cX5_mayBegin 30 = .ok (.iload_n 1, 1) := by decide +kernel
theorem dX5_mayBegin_31 : decode cX5_mayBegin 31 = .ok (.iaload, 1) := by decide +kernel
theorem dX5_mayBegin_32 : decode cX5_mayBegin 32 = .ok (.iaload, 1) := by decide +kernel
theorem dX5_mayBegin_33 : decode cX5_mayBegin 33 = .ok (.bipush 10, 2) := by decide +kernel
theorem dX5_mayBegin_35 : decode cX5_mayBegin 35 = .ok (.aload_n 0, 1) := by decide +kernel
theorem dX5_mayBegin_36 : decode cX5_mayBegin 36 = .ok (.getfield 48, 3) := by decide +kernel
theorem dX5_mayBegin_39 : decode cX5_mayBegin 39 = .ok (.iload_n 1, 1) := by decide +kernel
theorem dX5_mayBegin_40 : decode cX5_mayBegin 40 = .ok (.iaload, 1) := by decide +kernel
theorem dX5_mayBegin_41 : decode cX5_mayBegin 41 = .ok (.imul, 1) := by decide +kernel
theorem dX5_mayBegin_42 : decode cX5_mayBegin 42 = .ok (.if_icmp .lt 28, 3) := by decide +kernel
theorem dX5_mayBegin_45 : decode cX5_mayBegin 45 = .ok (.aload_n 0, 1) := by decide +kernel
theorem dX5_mayBegin_46 : decode cX5_mayBegin 46 = .ok (.getfield 123, 3) := by decide +kernel
theorem dX5_mayBegin_49 : decode cX5_mayBegin 49 = .ok (.bipush 8, 2) := by decide +kernel
theorem dX5_mayBegin_51 : decode cX5_mayBegin 51 = .ok (.aload_n 0, 1) := by decide +kernel
theorem dX5_mayBegin_52 : decode cX5_mayBegin 52 = .ok (.getfield 48, 3) := by decide +kernel
theorem dX5_mayBegin_55 : decode cX5_mayBegin 55 = .ok (.iload_n 1, 1) := by decide +kernel
theorem dX5_mayBegin_56 : decode cX5_mayBegin 56 = .ok (.iaload, 1) := by decide +kernel
theorem dX5_mayBegin_57 : decode cX5_mayBegin 57 = .ok (.imul, 1) := by decide +kernel
theorem dX5_mayBegin_58 : decode cX5_mayBegin 58 = .ok (.iadd, 1) := by decide +kernel
theorem dX5_mayBegin_59 : decode cX5_mayBegin 59 = .ok (.aload_n 0, 1) := by decide +kernel
theorem dX5_mayBegin_60 : decode cX5_mayBegin 60 = .ok (.getfield 39, 3) := by decide +kernel
theorem dX5_mayBegin_63 : decode cX5_mayBegin 63 = .ok (.if_icmp .gt 7, 3) := by decide +kernel
theorem dX5_mayBegin_66 : decode cX5_mayBegin 66 = .ok (.iconst 1, 1) := by decide +kernel
theorem dX5_mayBegin_67 : decode cX5_mayBegin 67 = .ok (.goto 4, 3) := by decide +kernel
theorem dX5_mayBegin_70 : decode cX5_mayBegin 70 = .ok (.iconst 0, 1) := by decide +kernel
theorem dX5_mayBegin_71 : decode cX5_mayBegin 71 = .ok (.ireturn, 1) := by decide +kernel
set_option maxRecDepth 20000 in
theorem ggX5_begins_X5_mayBegin : GoodIn wsX5_begins wsX5_mayBegin := goodIn_r _ [17, 4, 3, 6, 9, 8, 10, 11, 18, 38, 39, 40, 41, 42, 43, 44, 45, 46, 47, 48, 49, 50, 51, 52, 53, 54, 55, 56, 57, 58, 59, 60, 61, 62, 63, 64, 65, 66, 67, 68, 69] (by decide +kernel) (by decide +kernel)
set_option maxRecDepth 20000 in
theorem gX5_begins_X5_mayBegin : GoodIn wsX5_begins (wsV RX5 126 RX5 yX5_mayBegin wsX5_mayBegin) := goodIn_app (goodIn_of _ (by decide +kernel)) ggX5_begins_X5_mayBegin
set_option maxRecDepth 20000 in
theorem ggX5_begins_X5_holdOf : GoodIn wsX5_begins wsX5_holdOf := goodIn_r _ [22, 23, 24, 25, 26, 27, 28, 29, 16, 30, 31, 32, 33, 34, 35, 36, 37, 38, 39, 40, 41, 42, 43, 44, 45, 46, 47, 48, 49, 50, 51, 52, 53, 54, 55, 56, 57, 58, 59, 60, 61, 62, 63, 64, 65, 66, 67, 68, 69] (by decide +kernel) (by decide +kernel)
set_option maxRecDepth 20000 in
theorem gX5_begins_X5_holdOf : GoodIn wsX5_begins (wsV RX5 116 RX5 yX5_holdOf wsX5_holdOf) := goodIn_app (goodIn_of _ (by decide +kernel)) ggX5_begins_X5_holdOf
theorem dX5_begins_0 : decode cX5_begins 0 = .ok (.aload_n 0, 1) := by decide +kernel
theorem dX5_begins_1 : decode cX5_begins 1 = .ok (.getfield 45, 3) := by decide +kernel
theorem dX5_begins_4 : decode cX5_begins 4 = .ok (.iload_n 1, 1) := by decide +kernel
theorem dX5_begins_5 : decode cX5_begins 5 = .ok (.iaload, 1) := by decide +kernel
theorem dX5_begins_6 : decode cX5_begins 6 = .ok (.ifCond .le 4, 3) := by decide +kernel
theorem dX5_begins_9 : decode cX5_begins 9 = .ok (.return_, 1) := by decide +kernel
theorem dX5_begins_10 : decode cX5_begins 10 = .ok (.iconst (-1), 1) := by decide +kernel
theorem dX5_begins_11 : decode cX5_begins 11 = .ok (.istore_n 2, 1) := by decide +kernel
theorem dX5_begins_12 : decode cX5_begins 12 = .ok (.iconst 0, 1) := by decide +kernel
theorem dX5_begins_13 : decode cX5_begins 13 = .ok (.istore_n 3, 1) := by decide +kernel
theorem dX5_begins_14 : decode cX5_begins 14 = .ok (.iload_n 3, 1) := by decide +kernel
theorem dX5_begins_15 : decode cX5_begins 15 = .ok (.aload_n 0, 1) := by decide +kernel
theorem dX5_begins_16 : decode cX5_begins 16 = .ok (.getfield 120, 3) := by decide +kernel
theorem dX5_begins_19 : decode cX5_begins 19 = .ok (.if_icmp .ge 42, 3) := by decide +kernel
theorem dX5_begins_22 : decode cX5_begins 22 = .ok (.aload_n 0, 1) := by decide +kernel
theorem dX5_begins_23 : decode cX5_begins 23 = .ok (.iload_n 3, 1) := by decide +kernel
theorem dX5_begins_24 : decode cX5_begins 24 = .ok (.invokevirtual 126, 3) := by decide +kernel
theorem dX5_begins_27 : decode cX5_begins 27 = .ok (.ifCond .eq 26, 3) := by decide +kernel
theorem dX5_begins_30 : decode cX5_begins 30 = .ok (.iload_n 2, 1) := by decide +kernel
theorem dX5_begins_31 : decode cX5_begins 31 = .ok (.ifCond .lt 18, 3) := by decide +kernel
theorem dX5_begins_34 : decode cX5_begins 34 = .ok (.aload_n 0, 1) := by decide +kernel
theorem dX5_begins_35 : decode cX5_begins 35 = .ok (.getfield 54, 3) := by decide +kernel
theorem dX5_begins_38 : decode cX5_begins 38 = .ok (.iload_n 3, 1) := by decide +kernel
theorem dX5_begins_39 : decode cX5_begins 39 = .ok (.iaload, 1) := by decide +kernel
theorem dX5_begins_40 : decode cX5_begins 40 = .ok (.aload_n 0, 1) := by decide +kernel
theorem dX5_begins_41 : decode cX5_begins 41 = .ok (.getfield 54, 3) := by decide +kernel
theorem dX5_begins_44 : decode cX5_begins 44 = .ok (.iload_n 2, 1) := by decide +kernel
theorem dX5_begins_45 : decode cX5_begins 45 = .ok (.iaload, 1) := by decide +kernel
theorem dX5_begins_46 : decode cX5_begins 46 = .ok (.if_icmp .ge 7, 3) := by decide +kernel
theorem dX5_begins_49 : decode cX5_begins 49 = .ok (.iload_n 3, 1) := by decide +kernel
theorem dX5_begins_50 : decode cX5_begins 50 = .ok (.goto 4, 3) := by decide +kernel
theorem dX5_begins_53 : decode cX5_begins 53 = .ok (.iload_n 2, 1) := by decide +kernel
theorem dX5_begins_54 : decode cX5_begins 54 = .ok (.istore_n 2, 1) := by decide +kernel
theorem dX5_begins_55 : decode cX5_begins 55 = .ok (.iinc 3 1, 3) := by decide +kernel
theorem dX5_begins_58 : decode cX5_begins 58 = .ok (.goto (-44), 3) := by decide +kernel
theorem dX5_begins_61 : decode cX5_begins 61 = .ok (.iload_n 2, 1) := by decide +kernel
theorem dX5_begins_62 : decode cX5_begins 62 = .ok (.ifCond .lt 100, 3) := by decide +kernel
theorem dX5_begins_65 : decode cX5_begins 65 = .ok (.aload_n 0, 1) := by decide +kernel
theorem dX5_begins_66 : decode cX5_begins 66 = .ok (.getfield 45, 3) := by decide +kernel
theorem dX5_begins_69 : decode cX5_begins 69 = .ok (.iload_n 1, 1) := by decide +kernel
theorem dX5_begins_70 : decode cX5_begins 70 = .ok (.iload_n 2, 1) := by decide +kernel
theorem dX5_begins_71 : decode cX5_begins 71 = .ok (.iconst 1, 1) := by decide +kernel
theorem dX5_begins_72 : decode cX5_begins 72 = .ok (.iadd, 1) := by decide +kernel
theorem dX5_begins_73 : decode cX5_begins 73 = .ok (.iastore, 1) := by decide +kernel
theorem dX5_begins_74 : decode cX5_begins 74 = .ok (.aload_n 0, 1) := by decide +kernel
theorem dX5_begins_75 : decode cX5_begins 75 = .ok (.getfield 63, 3) := by decide +kernel
theorem dX5_begins_78 : decode cX5_begins 78 = .ok (.iload_n 2, 1) := by decide +kernel
theorem dX5_begins_79 : decode cX5_begins 79 = .ok (.iconst 1, 1) := by decide +kernel
theorem dX5_begins_80 : decode cX5_begins 80 = .ok (.iastore, 1) := by decide +kernel
theorem dX5_begins_81 : decode cX5_begins 81 = .ok (.aload_n 0, 1) := by decide +kernel
theorem dX5_begins_82 : decode cX5_begins 82 = .ok (.getfield 66, 3) := by decide +kernel
theorem dX5_begins_85 : decode cX5_begins 85 = .ok (.iload_n 2, 1) := by decide +kernel
theorem dX5_begins_86 : decode cX5_begins 86 = .ok (.aload_n 0, 1) := by decide +kernel
theorem dX5_begins_87 : decode cX5_begins 87 = .ok (.getfield 87, 3) := by decide +kernel
theorem dX5_begins_90 : decode cX5_begins 90 = .ok (.iastore, 1) := by decide +kernel
theorem dX5_begins_91 : decode cX5_begins 91 = .ok (.aload_n 0, 1) := by decide +kernel
theorem dX5_begins_92 : decode cX5_begins 92 = .ok (.getfield 69, 3) := by decide +kernel
theorem dX5_begins_95 : decode cX5_begins 95 = .ok (.iload_n 2, 1) := by decide +kernel
theorem dX5_begins_96 : decode cX5_begins 96 = .ok (.aload_n 0, 1) := by decide +kernel
theorem dX5_begins_97 : decode cX5_begins 97 = .ok (.aload_n 0, 1) := by decide +kernel
theorem dX5_begins_98 : decode cX5_begins 98 = .ok (.getfield 60, 3) := by decide +kernel
theorem dX5_begins_101 : decode cX5_begins 101 = .ok (.iload_n 2, 1) := by decide +kernel
theorem dX5_begins_102 : decode cX5_begins 102 = .ok (.iaload, 1) := by decide +kernel
theorem dX5_begins_103 : decode cX5_begins 103 = .ok (.aload_n 0, 1) := by decide +kernel
theorem dX5_begins_104 : decode cX5_begins 104 = .ok (.getfield 87, 3) := by decide +kernel
theorem dX5_begins_107 : decode cX5_begins 107 = .ok (.invokevirtual 116, 3) := by decide +kernel
theorem dX5_begins_110 : decode cX5_begins 110 = .ok (.iastore, 1) := by decide +kernel
theorem dX5_begins_111 : decode cX5_begins 111 = .ok (.aload_n 0, 1) := by decide +kernel
theorem dX5_begins_112 : decode cX5_begins 112 = .ok (.getfield 32, 3) := by decide +kernel
theorem dX5_begins_115 : decode cX5_begins 115 = .ok (.aload_n 0, 1) := by decide +kernel
theorem dX5_begins_116 : decode cX5_begins 116 = .ok (.getfield 60, 3) := by decide +kernel
theorem dX5_begins_119 : decode cX5_begins 119 = .ok (.iload_n 2, 1) := by decide +kernel
theorem dX5_begins_120 : decode cX5_begins 120 = .ok (.iaload, 1) := by decide +kernel
theorem dX5_begins_121 : decode cX5_begins 121 = .ok (.dup2, 1) := by decide +kernel
theorem dX5_begins_122 : decode cX5_begins 122 = .ok (.iaload, 1) := by decide +kernel
theorem dX5_begins_123 : decode cX5_begins 123 = .ok (.bipush 10, 2) := by decide +kernel
theorem dX5_begins_125 : decode cX5_begins 125 = .ok (.aload_n 0, 1) := by decide +kernel
theorem dX5_begins_126 : decode cX5_begins 126 = .ok (.getfield 48, 3) := by decide +kernel
theorem dX5_begins_129 : decode cX5_begins 129 = .ok (.iload_n 2, 1) := by decide +kernel
theorem dX5_begins_130 : decode cX5_begins 130 = .ok (.iaload, 1) := by decide +kernel
theorem dX5_begins_131 : decode cX5_begins 131 = .ok (.imul, 1) := by decide +kernel
theorem dX5_begins_132 : decode cX5_begins 132 = .ok (.isub, 1) := by decide +kernel
theorem dX5_begins_133 : decode cX5_begins 133 = .ok (.iastore, 1) := by decide +kernel
theorem dX5_begins_134 : decode cX5_begins 134 = .ok (.aload_n 0, 1) := by decide +kernel
theorem dX5_begins_135 : decode cX5_begins 135 = .ok (.dup, 1) := by decide +kernel
theorem dX5_begins_136 : decode cX5_begins 136 = .ok (.getfield 123, 3) := by decide +kernel
theorem dX5_begins_139 : decode cX5_begins 139 = .ok (.bipush 8, 2) := by decide +kernel
theorem dX5_begins_141 : decode cX5_begins 141 = .ok (.aload_n 0, 1) := by decide +kernel
theorem dX5_begins_142 : decode cX5_begins 142 = .ok (.getfield 48, 3) := by decide +kernel
theorem dX5_begins_145 : decode cX5_begins 145 = .ok (.iload_n 2, 1) := by decide +kernel
theorem dX5_begins_146 : decode cX5_begins 146 = .ok (.iaload, 1) := by decide +kernel
theorem dX5_begins_147 : decode cX5_begins 147 = .ok (.imul, 1) := by decide +kernel
theorem dX5_begins_148 : decode cX5_begins 148 = .ok (.iadd, 1) := by decide +kernel
theorem dX5_begins_149 : decode cX5_begins 149 = .ok (.putfield 123, 3) := by decide +kernel
theorem dX5_begins_152 : decode cX5_begins 152 = .ok (.aload_n 0, 1) := by decide +kernel
theorem dX5_begins_153 : decode cX5_begins 153 = .ok (.dup, 1) := by decide +kernel
theorem dX5_begins_154 : decode cX5_begins 154 = .ok (.getfield 129, 3) := by decide +kernel
theorem dX5_begins_157 : decode cX5_begins 157 = .ok (.iconst 1, 1) := by decide +kernel
theorem dX5_begins_158 : decode cX5_begins 158 = .ok (.iadd, 1) := by decide +kernel
theorem dX5_begins_159 : decode cX5_begins 159 = .ok (.putfield 129, 3) := by decide +kernel
theorem dX5_begins_162 : decode cX5_begins 162 = .ok (.return_, 1) := by decide +kernel
set_option maxRecDepth 20000 in
theorem ggX5_oneMinute_X5_leaves : GoodIn wsX5_oneMinute wsX5_leaves := goodIn_r _ [9, 10, 11, 12, 4, 13, 14, 15, 16, 17, 18, 51, 52, 53, 54, 55, 56, 57, 58, 59, 60, 61, 62, 63, 64, 65, 66, 67, 68, 69, 70, 71, 72, 73, 74, 75, 76, 77, 78, 79, 80, 81, 82] (by decide +kernel) (by decide +kernel)
set_option maxRecDepth 20000 in
theorem gX5_oneMinute_X5_leaves : GoodIn wsX5_oneMinute (wsV RX5 132 RX5 yX5_leaves wsX5_leaves) := goodIn_app (goodIn_of _ (by decide +kernel)) ggX5_oneMinute_X5_leaves
set_option maxRecDepth 20000 in
theorem ggX5_oneMinute_X5_begins : GoodIn wsX5_oneMinute wsX5_begins := goodIn_r _ [22, 10, 23, 17, 15, 11, 4, 14, 24, 25, 12, 1, 26, 27, 28, 29, 8, 30, 31, 32, 33, 34, 35, 36, 37, 38, 39, 40, 41, 42, 43, 44, 45, 46, 47, 48, 49, 50, 51, 52, 53, 54, 55, 56, 57, 58, 59, 60, 61, 62, 63, 64, 65, 66, 67, 68, 69, 70, 71, 72, 73, 74, 75, 76, 77, 78, 79, 80, 81, 82] (by decide +kernel) (by decide +kernel)
set_option maxRecDepth 20000 in
theorem gX5_oneMinute_X5_begins : GoodIn wsX5_oneMinute (wsV RX5 136 RX5 yX5_begins wsX5_begins) := goodIn_app (goodIn_of _ (by decide +kernel)) ggX5_oneMinute_X5_begins
theorem dX5_oneMinute_0 : decode cX5_oneMinute 0 = .ok (.aload_n 0, 1) := by decide +kernel
theorem dX5_oneMinute_1 : decode cX5_oneMinute 1 = .ok (.aload_n 0, 1) := by decide +kernel
theorem dX5_oneMinute_2 : decode cX5_oneMinute 2 = .ok (.getfield 123, 3) := by decide +kernel
theorem dX5_oneMinute_5 : decode cX5_oneMinute 5 = .ok (.aload_n 0, 1) := by decide +kernel
theorem dX5_oneMinute_6 : decode cX5_oneMinute 6 = .ok (.getfield 42, 3) := by decide +kernel
theorem dX5_oneMinute_9 : decode cX5_oneMinute 9 = .ok (.if_icmp .le 15, 3) := by decide +kernel
theorem dX5_oneMinute_12 : decode cX5_oneMinute 12 = .ok (.aload_n 0, 1) := by decide +kernel
theorem dX5_oneMinute_13 : decode cX5_oneMinute 13 = .ok (.getfield 123, 3) := by decide +kernel
theorem dX5_oneMinute_16 : decode cX5_oneMinute 16 = .ok (.aload_n 0, 1) := by decide +kernel
theorem dX5_oneMinute_17 : decode cX5_oneMinute 17 = .ok (.getfield 42, 3) := by decide +kernel
theorem dX5_oneMinute_20 : decode cX5_oneMinute 20 = .ok (.isub, 1) := by decide +kernel
theorem dX5_oneMinute_21 : decode cX5_oneMinute 21 = .ok (.goto 4, 3) := by decide +kernel
theorem dX5_oneMinute_24 : decode cX5_oneMinute 24 = .ok (.iconst 0, 1) := by decide +kernel
theorem dX5_oneMinute_25 : decode cX5_oneMinute 25 = .ok (.putfield 123, 3) := by decide +kernel
theorem dX5_oneMinute_28 : decode cX5_oneMinute 28 = .ok (.iconst 0, 1) := by decide +kernel
theorem dX5_oneMinute_29 : decode cX5_oneMinute 29 = .ok (.istore_n 1, 1) := by decide +kernel
theorem dX5_oneMinute_30 : decode cX5_oneMinute 30 = .ok (.iload_n 1, 1) := by decide +kernel
theorem dX5_oneMinute_31 : decode cX5_oneMinute 31 = .ok (.aload_n 0, 1) := by decide +kernel
theorem dX5_oneMinute_32 : decode cX5_oneMinute 32 = .ok (.getfield 35, 3) := by decide +kernel
theorem dX5_oneMinute_35 : decode cX5_oneMinute 35 = .ok (.if_icmp .ge 14, 3) := by decide +kernel
theorem dX5_oneMinute_38 : decode cX5_oneMinute 38 = .ok (.aload_n 0, 1) := by decide +kernel
theorem dX5_oneMinute_39 : decode cX5_oneMinute 39 = .ok (.iload_n 1, 1) := by decide +kernel
theorem dX5_oneMinute_40 : decode cX5_oneMinute 40 = .ok (.invokevirtual 132, 3) := by decide +kernel
theorem dX5_oneMinute_43 : decode cX5_oneMinute 43 = .ok (.iinc 1 1, 3) := by decide +kernel
theorem dX5_oneMinute_46 : decode cX5_oneMinute 46 = .ok (.goto (-16), 3) := by decide +kernel
theorem dX5_oneMinute_49 : decode cX5_oneMinute 49 = .ok (.iconst 0, 1) := by decide +kernel
theorem dX5_oneMinute_50 : decode cX5_oneMinute 50 = .ok (.istore_n 1, 1) := by decide +kernel
theorem dX5_oneMinute_51 : decode cX5_oneMinute 51 = .ok (.iload_n 1, 1) := by decide +kernel
theorem dX5_oneMinute_52 : decode cX5_oneMinute 52 = .ok (.aload_n 0, 1) := by decide +kernel
theorem dX5_oneMinute_53 : decode cX5_oneMinute 53 = .ok (.getfield 35, 3) := by decide +kernel
theorem dX5_oneMinute_56 : decode cX5_oneMinute 56 = .ok (.if_icmp .ge 14, 3) := by decide +kernel
theorem dX5_oneMinute_59 : decode cX5_oneMinute 59 = .ok (.aload_n 0, 1) := by decide +kernel
theorem dX5_oneMinute_60 : decode cX5_oneMinute 60 = .ok (.iload_n 1, 1) := by decide +kernel
theorem dX5_oneMinute_61 : decode cX5_oneMinute 61 = .ok (.invokevirtual 136, 3) := by decide +kernel
theorem dX5_oneMinute_64 : decode cX5_oneMinute 64 = .ok (.iinc 1 1, 3) := by decide +kernel
theorem dX5_oneMinute_67 : decode cX5_oneMinute 67 = .ok (.goto (-16), 3) := by decide +kernel
theorem dX5_oneMinute_70 : decode cX5_oneMinute 70 = .ok (.aload_n 0, 1) := by decide +kernel
theorem dX5_oneMinute_71 : decode cX5_oneMinute 71 = .ok (.dup, 1) := by decide +kernel
theorem dX5_oneMinute_72 : decode cX5_oneMinute 72 = .ok (.getfield 87, 3) := by decide +kernel
theorem dX5_oneMinute_75 : decode cX5_oneMinute 75 = .ok (.iconst 1, 1) := by decide +kernel
theorem dX5_oneMinute_76 : decode cX5_oneMinute 76 = .ok (.iadd, 1) := by decide +kernel
theorem dX5_oneMinute_77 : decode cX5_oneMinute 77 = .ok (.putfield 87, 3) := by decide +kernel
theorem dX5_oneMinute_80 : decode cX5_oneMinute 80 = .ok (.return_, 1) := by decide +kernel
set_option maxRecDepth 20000 in
theorem ggX5_minutes_X5_in : GoodIn wsX5_minutes wsX5_in := goodIn_r _ [5] (by decide +kernel) (by decide +kernel)
set_option maxRecDepth 20000 in
theorem gX5_minutes_X5_in : GoodIn wsX5_minutes (va_wsS RX5 90 yX5_in wsX5_in) := goodIn_app (goodIn_of _ (by decide +kernel)) ggX5_minutes_X5_in
set_option maxRecDepth 20000 in
theorem ggX5_minutes_X5_oneMinute : GoodIn wsX5_minutes wsX5_oneMinute := goodIn_r _ [9, 10, 11, 12, 1, 13, 14, 15, 4, 16, 17, 18, 19, 20, 21, 22, 23, 24, 25, 26, 27, 28, 29, 30, 31, 32, 33, 34, 35, 36, 37, 38, 39, 40, 41, 42, 43, 44, 45, 46, 47, 48, 49, 50, 51, 52, 53, 54, 55, 56, 57, 58, 59, 60, 61, 62, 63, 64, 65, 66, 67, 68, 69, 70, 71, 72, 73, 74, 75, 76, 77, 78, 79, 80, 81, 82, 83, 84, 85, 86, 87, 88, 89] (by decide +kernel) (by decide +kernel)
set_option maxRecDepth 20000 in
theorem gX5_minutes_X5_oneMinute : GoodIn wsX5_minutes (wsV RX5 139 RX5 yX5_oneMinute wsX5_oneMinute) := goodIn_app (goodIn_of _ (by decide +kernel)) ggX5_minutes_X5_oneMinute
theorem dX5_minutes_0 : decode cX5_minutes 0 = .ok (.iload_n 1, 1) := by decide +kernel
theorem dX5_minutes_1 : decode cX5_minutes 1 = .ok (.iconst 1, 1) := by decide +kernel
theorem dX5_minutes_2 : decode cX5_minutes 2 = .ok (.bipush 60, 2) := by decide +kernel
theorem dX5_minutes_4 : decode cX5_minutes 4 = .ok (.invokestatic 90, 3) := by decide +kernel
theorem dX5_minutes_7 : decode cX5_minutes 7 = .ok (.ifCond .ne 6, 3) := by decide +kernel
theorem dX5_minutes_10 : decode cX5_minutes 10 = .ok (.bipush (-100), 2) := by decide +kernel
theorem dX5_minutes_12 : decode cX5_minutes 12 = .ok (.ireturn, 1) := by decide +kernel
theorem dX5_minutes_13 : decode cX5_minutes 13 = .ok (.aload_n 0, 1) := by decide +kernel
theorem dX5_minutes_14 : decode cX5_minutes 14 = .ok (.getfield 87, 3) := by decide +kernel
theorem dX5_minutes_17 : decode cX5_minutes 17 = .ok (.iload_n 1, 1) := by decide +kernel
theorem dX5_minutes_18 : decode cX5_minutes 18 = .ok (.iadd, 1) := by decide +kernel
theorem dX5_minutes_19 : decode cX5_minutes 19 = .ok (.sipush 300, 3) := by decide +kernel
theorem dX5_minutes_22 : decode cX5_minutes 22 = .ok (.if_icmp .lt 7, 3) := by decide +kernel
theorem dX5_minutes_25 : decode cX5_minutes 25 = .ok (.sipush (-200), 3) := by decide +kernel
theorem dX5_minutes_28 : decode cX5_minutes 28 = .ok (.ireturn, 1) := by decide +kernel
theorem dX5_minutes_29 : decode cX5_minutes 29 = .ok (.iconst 0, 1) := by decide +kernel
theorem dX5_minutes_30 : decode cX5_minutes 30 = .ok (.istore_n 2, 1) := by decide +kernel
theorem dX5_minutes_31 : decode cX5_minutes 31 = .ok (.iload_n 2, 1) := by decide +kernel
theorem dX5_minutes_32 : decode cX5_minutes 32 = .ok (.iload_n 1, 1) := by decide +kernel
theorem dX5_minutes_33 : decode cX5_minutes 33 = .ok (.if_icmp .ge 13, 3) := by decide +kernel
theorem dX5_minutes_36 : decode cX5_minutes 36 = .ok (.aload_n 0, 1) := by decide +kernel
theorem dX5_minutes_37 : decode cX5_minutes 37 = .ok (.invokevirtual 139, 3) := by decide +kernel
theorem dX5_minutes_40 : decode cX5_minutes 40 = .ok (.iinc 2 1, 3) := by decide +kernel
theorem dX5_minutes_43 : decode cX5_minutes 43 = .ok (.goto (-12), 3) := by decide +kernel
theorem dX5_minutes_46 : decode cX5_minutes 46 = .ok (.aload_n 0, 1) := by decide +kernel
theorem dX5_minutes_47 : decode cX5_minutes 47 = .ok (.getfield 87, 3) := by decide +kernel
theorem dX5_minutes_50 : decode cX5_minutes 50 = .ok (.ireturn, 1) := by decide +kernel
theorem dX5_lateOf_0 : decode cX5_lateOf 0 = .ok (.aload_n 0, 1) := by decide +kernel
theorem dX5_lateOf_1 : decode cX5_lateOf 1 = .ok (.getfield 75, 3) := by decide +kernel
theorem dX5_lateOf_4 : decode cX5_lateOf 4 = .ok (.iload_n 1, 1) := by decide +kernel
theorem dX5_lateOf_5 : decode cX5_lateOf 5 = .ok (.iaload, 1) := by decide +kernel
theorem dX5_lateOf_6 : decode cX5_lateOf 6 = .ok (.aload_n 0, 1) := by decide +kernel
theorem dX5_lateOf_7 : decode cX5_lateOf 7 = .ok (.getfield 51, 3) := by decide +kernel
theorem dX5_lateOf_10 : decode cX5_lateOf 10 = .ok (.iload_n 1, 1) := by decide +kernel
theorem dX5_lateOf_11 : decode cX5_lateOf 11 = .ok (.iaload, 1) := by decide +kernel
theorem dX5_lateOf_12 : decode cX5_lateOf 12 = .ok (.isub, 1) := by decide +kernel
theorem dX5_lateOf_13 : decode cX5_lateOf 13 = .ok (.iconst 2, 1) := by decide +kernel
theorem dX5_lateOf_14 : decode cX5_lateOf 14 = .ok (.aload_n 0, 1) := by decide +kernel
theorem dX5_lateOf_15 : decode cX5_lateOf 15 = .ok (.getfield 48, 3) := by decide +kernel
theorem dX5_lateOf_18 : decode cX5_lateOf 18 = .ok (.iload_n 1, 1) := by decide +kernel
theorem dX5_lateOf_19 : decode cX5_lateOf 19 = .ok (.iaload, 1) := by decide +kernel
theorem dX5_lateOf_20 : decode cX5_lateOf 20 = .ok (.imul, 1) := by decide +kernel
theorem dX5_lateOf_21 : decode cX5_lateOf 21 = .ok (.isub, 1) := by decide +kernel
theorem dX5_lateOf_22 : decode cX5_lateOf 22 = .ok (.aload_n 0, 1) := by decide +kernel
theorem dX5_lateOf_23 : decode cX5_lateOf 23 = .ok (.getfield 57, 3) := by decide +kernel
theorem dX5_lateOf_26 : decode cX5_lateOf 26 = .ok (.iload_n 1, 1) := by decide +kernel
theorem dX5_lateOf_27 : decode cX5_lateOf 27 = .ok (.iaload, 1) := by decide +kernel
theorem dX5_lateOf_28 : decode cX5_lateOf 28 = .ok (.isub, 1) := by decide +kernel
theorem dX5_lateOf_29 : decode cX5_lateOf 29 = .ok (.ireturn, 1) := by decide +kernel
set_option maxRecDepth 20000 in
theorem ggX5_about_X5_in : GoodIn wsX5_about wsX5_in := goodIn_r _ [12] (by decide +kernel) (by decide +kernel)
set_option maxRecDepth 20000 in
theorem gX5_about_X5_in : GoodIn wsX5_about (va_wsS RX5 90 yX5_in wsX5_in) := goodIn_app (goodIn_of _ (by decide +kernel)) ggX5_about_X5_in
set_option maxRecDepth 20000 in
theorem ggX5_about_X5_lateOf : GoodIn wsX5_about wsX5_lateOf := goodIn_r _ [16, 8, 17, 18, 19, 20, 21, 22, 23, 24, 25, 26, 27, 28, 29, 30, 31, 32, 33, 34, 35, 36, 37, 38, 39, 40, 41, 42, 43, 44, 45, 46, 47, 48, 49, 50, 51] (by decide +kernel) (by decide +kernel)
set_option maxRecDepth 20000 in
theorem gX5_about_X5_lateOf : GoodIn wsX5_about (wsV RX5 142 RX5 yX5_lateOf wsX5_lateOf) := goodIn_app (goodIn_of _ (by decide +kernel)) ggX5_about_X5_lateOf
theorem dX5_about_0 : decode cX5_about 0 = .ok (.iload_n 1, 1) := by decide +kernel
theorem dX5_about_1 : decode cX5_about 1 = .ok (.iconst 0, 1) := by decide +kernel
theorem dX5_about_2 : decode cX5_about 2 = .ok (.aload_n 0, 1) := by decide +kernel
theorem dX5_about_3 : decode cX5_about 3 = .ok (.getfield 120, 3) := by decide +kernel
theorem dX5_about_6 : decode cX5_about 6 = .ok (.iconst 1, 1) := by decide +kernel
theorem dX5_about_7 : decode cX5_about 7 = .ok (.isub, 1) := by decide +kernel
theorem dX5_about_8 : decode cX5_about 8 = .ok (.invokestatic 90, 3) := by decide +kernel
theorem dX5_about_11 : decode cX5_about 11 = .ok (.ifCond .ne 6, 3) := by decide +kernel
theorem dX5_about_14 : decode cX5_about 14 = .ok (.bipush (-100), 2) := by decide +kernel
theorem dX5_about_16 : decode cX5_about 16 = .ok (.ireturn, 1) := by decide +kernel
theorem dX5_about_17 : decode cX5_about 17 = .ok (.sipush (-900), 3) := by decide +kernel
theorem dX5_about_20 : decode cX5_about 20 = .ok (.istore_n 3, 1) := by decide +kernel
theorem dX5_about_21 : decode cX5_about 21 = .ok (.iload_n 2, 1) := by decide +kernel
theorem dX5_about_22 : decode cX5_about 22 = .ok (.tableswitch 139 0 6 #[42, 49, 89, 96, 103, 110, 117], 42) := by decide +kernel
theorem dX5_about_64 : decode cX5_about 64 = .ok (.aload_n 0, 1) := by decide +kernel
theorem dX5_about_65 : decode cX5_about 65 = .ok (.getfield 63, 3) := by decide +kernel
theorem dX5_about_68 : decode cX5_about 68 = .ok (.iload_n 1, 1) := by decide +kernel
theorem dX5_about_69 : decode cX5_about 69 = .ok (.iaload, 1) := by decide +kernel
theorem dX5_about_70 : decode cX5_about 70 = .ok (.ireturn, 1) := by decide +kernel
theorem dX5_about_71 : decode cX5_about 71 = .ok (.iconst 0, 1) := by decide +kernel
theorem dX5_about_72 : decode cX5_about 72 = .ok (.istore 4, 2) := by decide +kernel
theorem dX5_about_74 : decode cX5_about 74 = .ok (.iload 4, 2) := by decide +kernel
theorem dX5_about_76 : decode cX5_about 76 = .ok (.aload_n 0, 1) := by decide +kernel
theorem dX5_about_77 : decode cX5_about 77 = .ok (.getfield 35, 3) := by decide +kernel
theorem dX5_about_80 : decode cX5_about 80 = .ok (.if_icmp .ge 29, 3) := by decide +kernel
theorem dX5_about_83 : decode cX5_about 83 = .ok (.aload_n 0, 1) := by decide +kernel
theorem dX5_about_84 : decode cX5_about 84 = .ok (.getfield 45, 3) := by decide +kernel
theorem dX5_about_87 : decode cX5_about 87 = .ok (.iload 4, 2) := by decide +kernel
theorem dX5_about_89 : decode cX5_about 89 = .ok (.iaload, 1) := by decide +kernel
theorem dX5_about_90 : decode cX5_about 90 = .ok (.iload_n 1, 1) := by decide +kernel
theorem dX5_about_91 : decode cX5_about 91 = .ok (.iconst 1, 1) := by decide +kernel
theorem dX5_about_92 : decode cX5_about 92 = .ok (.iadd, 1) := by decide +kernel
theorem dX5_about_93 : decode cX5_about 93 = .ok (.if_icmp .ne 8, 3) := by decide +kernel
theorem dX5_about_96 : decode cX5_about 96 = .ok (.iload 4, 2) := by decide +kernel
theorem dX5_about_98 : decode cX5_about 98 = .ok (.goto 4, 3) := by decide +kernel
theorem dX5_about_101 : decode cX5_about 101 = .ok (.iload_n 3, 1) := by decide +kernel
theorem dX5_about_102 : decode cX5_about 102 = .ok (.istore_n 3, 1) := by decide +kernel
theorem dX5_about_103 : decode cX5_about 103 = .ok (.iinc 4 1, 3) := by decide +kernel
theorem dX5_about_106 : decode cX5_about 106 = .ok (.goto (-32), 3) := by decide +kernel
theorem dX5_about_109 : decode cX5_about 109 = .ok (.iload_n 3, 1) := by decide +kernel
theorem dX5_about_110 : decode cX5_about 110 = .ok (.ireturn, 1) := by decide +kernel
theorem dX5_about_111 : decode cX5_about 111 = .ok (.aload_n 0, 1) := by decide +kernel
theorem dX5_about_112 : decode cX5_about 112 = .ok (.getfield 66, 3) := by decide +kernel
theorem dX5_about_115 : decode cX5_about 115 = .ok (.iload_n 1, 1) := by decide +kernel
theorem dX5_about_116 : decode cX5_about 116 = .ok (.iaload, 1) := by decide +kernel
theorem dX5_about_117 : decode cX5_about 117 = .ok (.ireturn, 1) := by decide +kernel
theorem dX5_about_118 : decode cX5_about 118 = .ok (.aload_n 0, 1) := by decide +kernel
theorem dX5_about_119 : decode cX5_about 119 = .ok (.getfield 54, 3) := by decide +kernel
theorem dX5_about_122 : decode cX5_about 122 = .ok (.iload_n 1, 1) := by decide +kernel
theorem dX5_about_123 : decode cX5_about 123 = .ok (.iaload, 1) := by decide +kernel
theorem dX5_about_124 : decode cX5_about 124 = .ok (.ireturn, 1) := by decide +kernel
theorem dX5_about_125 : decode cX5_about 125 = .ok (.aload_n 0, 1) := by decide +kernel
theorem dX5_about_126 : decode cX5_about 126 = .ok (.getfield 72, 3) := by decide +kernel
theorem dX5_about_129 : decode cX5_about 129 = .ok (.iload_n 1, 1) := by decide +kernel
theorem dX5_about_130 : decode cX5_about 130 = .ok (.iaload, 1) := by decide +kernel
theorem dX5_about_131 : decode cX5_about 131 = .ok (.ireturn, 1) := by decide +kernel
theorem dX5_about_132 : decode cX5_about 132 = .ok (.aload_n 0, 1) := by decide +kernel
theorem dX5_about_133 : decode cX5_about 133 = .ok (.getfield 75, 3) := by decide +kernel
theorem dX5_about_136 : decode cX5_about 136 = .ok (.iload_n 1, 1) := by decide +kernel
theorem dX5_about_137 : decode cX5_about 137 = .ok (.iaload, 1) := by decide +kernel
theorem dX5_about_138 : decode cX5_about 138 = .ok (.ireturn, 1) := by decide +kernel
theorem dX5_about_139 : decode cX5_about 139 = .ok (.aload_n 0, 1) := by decide +kernel
theorem dX5_about_140 : decode cX5_about 140 = .ok (.getfield 63, 3) := by decide +kernel
theorem dX5_about_143 : decode cX5_about 143 = .ok (.iload_n 1, 1) := by decide +kernel
theorem dX5_about_144 : decode cX5_about 144 = .ok (.iaload, 1) := by decide +kernel
theorem dX5_about_145 : decode cX5_about 145 = .ok (.iconst 2, 1) := by decide +kernel
theorem dX5_about_146 : decode cX5_about 146 = .ok (.if_icmp .ne 11, 3) := by decide +kernel
theorem dX5_about_149 : decode cX5_about 149 = .ok (.aload_n 0, 1) := by decide +kernel
theorem dX5_about_150 : decode cX5_about 150 = .ok (.iload_n 1, 1) := by decide +kernel
theorem dX5_about_151 : decode cX5_about 151 = .ok (.invokevirtual 142, 3) := by decide +kernel
theorem dX5_about_154 : decode cX5_about 154 = .ok (.goto 6, 3) := by decide +kernel
theorem dX5_about_157 : decode cX5_about 157 = .ok (.sipush (-900), 3) := by decide +kernel
theorem dX5_about_160 : decode cX5_about 160 = .ok (.ireturn, 1) := by decide +kernel
theorem dX5_about_161 : decode cX5_about 161 = .ok (.bipush (-100), 2) := by decide +kernel
theorem dX5_about_163 : decode cX5_about 163 = .ok (.ireturn, 1) := by decide +kernel
set_option maxRecDepth 20000 in
theorem ggX5_on_X5_in : GoodIn wsX5_on wsX5_in := goodIn_r _ [6] (by decide +kernel) (by decide +kernel)
set_option maxRecDepth 20000 in
theorem gX5_on_X5_in : GoodIn wsX5_on (va_wsS RX5 90 yX5_in wsX5_in) := goodIn_app (goodIn_of _ (by decide +kernel)) ggX5_on_X5_in
theorem dX5_on_0 : decode cX5_on 0 = .ok (.iload_n 1, 1) := by decide +kernel
theorem dX5_on_1 : decode cX5_on 1 = .ok (.iconst 0, 1) := by decide +kernel
theorem dX5_on_2 : decode cX5_on 2 = .ok (.aload_n 0, 1) := by decide +kernel
theorem dX5_on_3 : decode cX5_on 3 = .ok (.getfield 35, 3) := by decide +kernel
theorem dX5_on_6 : decode cX5_on 6 = .ok (.iconst 1, 1) := by decide +kernel
theorem dX5_on_7 : decode cX5_on 7 = .ok (.isub, 1) := by decide +kernel
theorem dX5_on_8 : decode cX5_on 8 = .ok (.invokestatic 90, 3) := by decide +kernel
theorem dX5_on_11 : decode cX5_on 11 = .ok (.ifCond .ne 8, 3) := by decide +kernel
theorem dX5_on_14 : decode cX5_on 14 = .ok (.bipush (-100), 2) := by decide +kernel
theorem dX5_on_16 : decode cX5_on 16 = .ok (.goto 26, 3) := by decide +kernel
theorem dX5_on_19 : decode cX5_on 19 = .ok (.aload_n 0, 1) := by decide +kernel
theorem dX5_on_20 : decode cX5_on 20 = .ok (.getfield 45, 3) := by decide +kernel
theorem dX5_on_23 : decode cX5_on 23 = .ok (.iload_n 1, 1) := by decide +kernel
theorem dX5_on_24 : decode cX5_on 24 = .ok (.iaload, 1) := by decide +kernel
theorem dX5_on_25 : decode cX5_on 25 = .ok (.ifCond .ne 9, 3) := by decide +kernel
theorem dX5_on_28 : decode cX5_on 28 = .ok (.sipush (-900), 3) := by decide +kernel
theorem dX5_on_31 : decode cX5_on 31 = .ok (.goto 11, 3) := by decide +kernel
theorem dX5_on_34 : decode cX5_on 34 = .ok (.aload_n 0, 1) := by decide +kernel
theorem dX5_on_35 : decode cX5_on 35 = .ok (.getfield 45, 3) := by decide +kernel
theorem dX5_on_38 : decode cX5_on 38 = .ok (.iload_n 1, 1) := by decide +kernel
theorem dX5_on_39 : decode cX5_on 39 = .ok (.iaload, 1) := by decide +kernel
theorem dX5_on_40 : decode cX5_on 40 = .ok (.iconst 1, 1) := by decide +kernel
theorem dX5_on_41 : decode cX5_on 41 = .ok (.isub, 1) := by decide +kernel
theorem dX5_on_42 : decode cX5_on 42 = .ok (.ireturn, 1) := by decide +kernel
theorem dX5_lates_0 : decode cX5_lates 0 = .ok (.iconst 0, 1) := by decide +kernel
theorem dX5_lates_1 : decode cX5_lates 1 = .ok (.istore_n 1, 1) := by decide +kernel
theorem dX5_lates_2 : decode cX5_lates 2 = .ok (.aload_n 0, 1) := by decide +kernel
theorem dX5_lates_3 : decode cX5_lates 3 = .ok (.getfield 87, 3) := by decide +kernel
theorem dX5_lates_6 : decode cX5_lates 6 = .ok (.istore_n 2, 1) := by decide +kernel
theorem dX5_lates_7 : decode cX5_lates 7 = .ok (.iconst 0, 1) := by decide +kernel
theorem dX5_lates_8 : decode cX5_lates 8 = .ok (.istore_n 3, 1) := by decide +kernel
theorem dX5_lates_9 : decode cX5_lates 9 = .ok (.iload_n 3, 1) := by decide +kernel
theorem dX5_lates_10 : decode cX5_lates 10 = .ok (.aload_n 0, 1) := by decide +kernel
theorem dX5_lates_11 : decode cX5_lates 11 = .ok (.getfield 145, 3) := by decide +kernel
theorem dX5_lates_14 : decode cX5_lates 14 = .ok (.if_icmp .ge 67, 3) := by decide +kernel
theorem dX5_lates_17 : decode cX5_lates 17 = .ok (.aload_n 0, 1) := by decide +kernel
theorem dX5_lates_18 : decode cX5_lates 18 = .ok (.getfield 81, 3) := by decide +kernel
theorem dX5_lates_21 : decode cX5_lates 21 = .ok (.iload_n 3, 1) := by decide +kernel
theorem dX5_lates_22 : decode cX5_lates 22 = .ok (.iaload, 1) := by decide +kernel
theorem dX5_lates_23 : decode cX5_lates 23 = .ok (.istore 4, 2) := by decide +kernel
theorem dX5_lates_25 : decode cX5_lates 25 = .ok (.aload_n 0, 1) := by decide +kernel
theorem dX5_lates_26 : decode cX5_lates 26 = .ok (.getfield 54, 3) := by decide +kernel
theorem dX5_lates_29 : decode cX5_lates 29 = .ok (.iload 4, 2) := by decide +kernel
theorem dX5_lates_31 : decode cX5_lates 31 = .ok (.iaload, 1) := by decide +kernel
theorem dX5_lates_32 : decode cX5_lates 32 = .ok (.iload_n 2, 1) := by decide +kernel
theorem dX5_lates_33 : decode cX5_lates 33 = .ok (.if_icmp .le 13, 3) := by decide +kernel
theorem dX5_lates_36 : decode cX5_lates 36 = .ok (.aload_n 0, 1) := by decide +kernel
theorem dX5_lates_37 : decode cX5_lates 37 = .ok (.getfield 54, 3) := by decide +kernel
theorem dX5_lates_40 : decode cX5_lates 40 = .ok (.iload 4, 2) := by decide +kernel
theorem dX5_lates_42 : decode cX5_lates 42 = .ok (.iaload, 1) := by decide +kernel
theorem dX5_lates_43 : decode cX5_lates 43 = .ok (.goto 4, 3) := by decide +kernel
theorem dX5_lates_46 : decode cX5_lates 46 = .ok (.iload_n 2, 1) := by decide +kernel
theorem dX5_lates_47 : decode cX5_lates 47 = .ok (.istore 5, 2) := by decide +kernel
theorem dX5_lates_49 : decode cX5_lates 49 = .ok (.iload_n 1, 1) := by decide +kernel
theorem dX5_lates_50 : decode cX5_lates 50 = .ok (.iload 5, 2) := by decide +kernel
theorem dX5_lates_52 : decode cX5_lates 52 = .ok (.aload_n 0, 1) := by decide +kernel
theorem dX5_lates_53 : decode cX5_lates 53 = .ok (.getfield 51, 3) := by decide +kernel
theorem dX5_lates_56 : decode cX5_lates 56 = .ok (.iload 4, 2) := by decide +kernel
theorem dX5_lates_58 : decode cX5_lates 58 = .ok (.iaload, 1) := by decide +kernel
theorem dX5_lates_59 : decode cX5_lates 59 = .ok (.isub, 1) := by decide +kernel
theorem dX5_lates_60 : decode cX5_lates 60 = .ok (.iadd, 1) := by decide +kernel
theorem dX5_lates_61 : decode cX5_lates 61 = .ok (.istore_n 1, 1) := by decide +kernel
theorem dX5_lates_62 : decode cX5_lates 62 = .ok (.iload 5, 2) := by decide +kernel
theorem dX5_lates_64 : decode cX5_lates 64 = .ok (.iconst 2, 1) := by decide +kernel
theorem dX5_lates_65 : decode cX5_lates 65 = .ok (.aload_n 0, 1) := by decide +kernel
theorem dX5_lates_66 : decode cX5_lates 66 = .ok (.getfield 48, 3) := by decide +kernel
theorem dX5_lates_69 : decode cX5_lates 69 = .ok (.iload 4, 2) := by decide +kernel
theorem dX5_lates_71 : decode cX5_lates 71 = .ok (.iaload, 1) := by decide +kernel
theorem dX5_lates_72 : decode cX5_lates 72 = .ok (.imul, 1) := by decide +kernel
theorem dX5_lates_73 : decode cX5_lates 73 = .ok (.iadd, 1) := by decide +kernel
theorem dX5_lates_74 : decode cX5_lates 74 = .ok (.istore_n 2, 1) := by decide +kernel
theorem dX5_lates_75 : decode cX5_lates 75 = .ok (.iinc 3 1, 3) := by decide +kernel
theorem dX5_lates_78 : decode cX5_lates 78 = .ok (.goto (-69), 3) := by decide +kernel
theorem dX5_lates_81 : decode cX5_lates 81 = .ok (.iload_n 1, 1) := by decide +kernel
theorem dX5_lates_82 : decode cX5_lates 82 = .ok (.ireturn, 1) := by decide +kernel
theorem dX5_take_0 : decode cX5_take 0 = .ok (.iload_n 1, 1) := by decide +kernel
theorem dX5_take_1 : decode cX5_take 1 = .ok (.istore_n 2, 1) := by decide +kernel
theorem dX5_take_2 : decode cX5_take 2 = .ok (.iconst 1, 1) := by decide +kernel
theorem dX5_take_3 : decode cX5_take 3 = .ok (.aload_n 0, 1) := by decide +kernel
theorem dX5_take_4 : decode cX5_take 4 = .ok (.getfield 145, 3) := by decide +kernel
theorem dX5_take_7 : decode cX5_take 7 = .ok (.ishl, 1) := by decide +kernel
theorem dX5_take_8 : decode cX5_take 8 = .ok (.iconst 1, 1) := by decide +kernel
theorem dX5_take_9 : decode cX5_take 9 = .ok (.isub, 1) := by decide +kernel
theorem dX5_take_10 : decode cX5_take 10 = .ok (.istore_n 3, 1) := by decide +kernel
theorem dX5_take_11 : decode cX5_take 11 = .ok (.iconst 1, 1) := by decide +kernel
theorem dX5_take_12 : decode cX5_take 12 = .ok (.istore 4, 2) := by decide +kernel
theorem dX5_take_14 : decode cX5_take 14 = .ok (.iconst 2, 1) := by decide +kernel
theorem dX5_take_15 : decode cX5_take 15 = .ok (.istore 5, 2) := by decide +kernel
theorem dX5_take_17 : decode cX5_take 17 = .ok (.iload 5, 2) := by decide +kernel
theorem dX5_take_19 : decode cX5_take 19 = .ok (.aload_n 0, 1) := by decide +kernel
theorem dX5_take_20 : decode cX5_take 20 = .ok (.getfield 145, 3) := by decide +kernel
theorem dX5_take_23 : decode cX5_take 23 = .ok (.if_icmp .ge 16, 3) := by decide +kernel
theorem dX5_take_26 : decode cX5_take 26 = .ok (.iload 4, 2) := by decide +kernel
theorem dX5_take_28 : decode cX5_take 28 = .ok (.iload 5, 2) := by decide +kernel
theorem dX5_take_30 : decode cX5_take 30 = .ok (.imul, 1) := by decide +kernel
theorem dX5_take_31 : decode cX5_take 31 = .ok (.istore 4, 2) := by decide +kernel
theorem dX5_take_33 : decode cX5_take 33 = .ok (.iinc 5 1, 3) := by decide +kernel
theorem dX5_take_36 : decode cX5_take 36 = .ok (.goto (-19), 3) := by decide +kernel
theorem dX5_take_39 : decode cX5_take 39 = .ok (.iconst 0, 1) := by decide +kernel
theorem dX5_take_40 : decode cX5_take 40 = .ok (.istore 5, 2) := by decide +kernel
theorem dX5_take_42 : decode cX5_take 42 = .ok (.iload 5, 2) := by decide +kernel
theorem dX5_take_44 : decode cX5_take 44 = .ok (.aload_n 0, 1) := by decide +kernel
theorem dX5_take_45 : decode cX5_take 45 = .ok (.getfield 145, 3) := by decide +kernel
theorem dX5_take_48 : decode cX5_take 48 = .ok (.if_icmp .ge 107, 3) := by decide +kernel
theorem dX5_take_51 : decode cX5_take 51 = .ok (.iload_n 2, 1) := by decide +kernel
theorem dX5_take_52 : decode cX5_take 52 = .ok (.iload 4, 2) := by decide +kernel
theorem dX5_take_54 : decode cX5_take 54 = .ok (.idiv, 1) := by decide +kernel
theorem dX5_take_55 : decode cX5_take 55 = .ok (.istore 6, 2) := by decide +kernel
theorem dX5_take_57 : decode cX5_take 57 = .ok (.iload_n 2, 1) := by decide +kernel
theorem dX5_take_58 : decode cX5_take 58 = .ok (.iload 4, 2) := by decide +kernel
theorem dX5_take_60 : decode cX5_take 60 = .ok (.irem, 1) := by decide +kernel
theorem dX5_take_61 : decode cX5_take 61 = .ok (.istore_n 2, 1) := by decide +kernel
theorem dX5_take_62 : decode cX5_take 62 = .ok (.aload_n 0, 1) := by decide +kernel
theorem dX5_take_63 : decode cX5_take 63 = .ok (.getfield 145, 3) := by decide +kernel
theorem dX5_take_66 : decode cX5_take 66 = .ok (.iconst 1, 1) := by decide +kernel
theorem dX5_take_67 : decode cX5_take 67 = .ok (.isub, 1) := by decide +kernel
theorem dX5_take_68 : decode cX5_take 68 = .ok (.iload 5, 2) := by decide +kernel
theorem dX5_take_70 : decode cX5_take 70 = .ok (.isub, 1) := by decide +kernel
theorem dX5_take_71 : decode cX5_take 71 = .ok (.ifCond .le 18, 3) := by decide +kernel
theorem dX5_take_74 : decode cX5_take 74 = .ok (.iload 4, 2) := by decide +kernel
theorem dX5_take_76 : decode cX5_take 76 = .ok (.aload_n 0, 1) := by decide +kernel
theorem dX5_take_77 : decode cX5_take 77 = .ok (.getfield 145, 3) := by decide +kernel
theorem dX5_take_80 : decode cX5_take 80 = .ok (.iconst 1, 1) := by decide +kernel
theorem dX5_take_81 : decode cX5_take 81 = .ok (.isub, 1) := by decide +kernel
theorem dX5_take_82 : decode cX5_take 82 = .ok (.iload 5, 2) := by decide +kernel
theorem dX5_take_84 : decode cX5_take 84 = .ok (.isub, 1) := by decide +kernel
theorem dX5_take_85 : decode cX5_take 85 = .ok (.idiv, 1) := by decide +kernel
theorem dX5_take_86 : decode cX5_take 86 = .ok (.goto 4, 3) := by decide +kernel
theorem dX5_take_89 : decode cX5_take 89 = .ok (.iconst 1, 1) := by decide +kernel
theorem dX5_take_90 : decode cX5_take 90 = .ok (.istore 4, 2) := by decide +kernel
theorem dX5_take_92 : decode cX5_take 92 = .ok (.iconst 0, 1) := by decide +kernel
theorem dX5_take_93 : decode cX5_take 93 = .ok (.istore 7, 2) := by decide +kernel
theorem dX5_take_95 : decode cX5_take 95 = .ok (.iload_n 3, 1) := by decide +kernel
theorem dX5_take_96 : decode cX5_take 96 = .ok (.iload 7, 2) := by decide +kernel
theorem dX5_take_98 : decode cX5_take 98 = .ok (.ishr, 1) := by decide +kernel
theorem dX5_take_99 : decode cX5_take 99 = .ok (.iconst 1, 1) := by decide +kernel
theorem dX5_take_100 : decode cX5_take 100 = .ok (.iand, 1) := by decide +kernel
theorem dX5_take_101 : decode cX5_take 101 = .ok (.ifCond .eq 8, 3) := by decide +kernel
theorem dX5_take_104 : decode cX5_take 104 = .ok (.iload 6, 2) := by decide +kernel
theorem dX5_take_106 : decode cX5_take 106 = .ok (.ifCond .le 20, 3) := by decide +kernel
theorem dX5_take_109 : decode cX5_take 109 = .ok (.iload 6, 2) := by decide +kernel
theorem dX5_take_111 : decode cX5_take 111 = .ok (.iload_n 3, 1) := by decide +kernel
theorem dX5_take_112 : decode cX5_take 112 = .ok (.iload 7, 2) := by decide +kernel
theorem dX5_take_114 : decode cX5_take 114 = .ok (.ishr, 1) := by decide +kernel
theorem dX5_take_115 : decode cX5_take 115 = .ok (.iconst 1, 1) := by decide +kernel
theorem dX5_take_116 : decode cX5_take 116 = .ok (.iand, 1) := by decide +kernel
theorem dX5_take_117 : decode cX5_take 117 = .ok (.isub, 1) := by decide +kernel
theorem dX5_take_118 : decode cX5_take 118 = .ok (.istore 6, 2) := by decide +kernel
theorem dX5_take_120 : decode cX5_take 120 = .ok (.iinc 7 1, 3) := by decide +kernel
theorem dX5_take_123 : decode cX5_take 123 = .ok (.goto (-28), 3) := by decide +kernel
theorem dX5_take_126 : decode cX5_take 126 = .ok (.iload_n 3, 1) := by decide +kernel
theorem dX5_take_127 : decode cX5_take 127 = .ok (.iconst 1, 1) := by decide +kernel
theorem dX5_take_128 : decode cX5_take 128 = .ok (.iload 7, 2) := by decide +kernel
theorem dX5_take_130 : decode cX5_take 130 = .ok (.ishl, 1) := by decide +kernel
theorem dX5_take_131 : decode cX5_take 131 = .ok (.iconst (-1), 1) := by decide +kernel
theorem dX5_take_132 : decode cX5_take 132 = .ok (.ixor, 1) := by decide +kernel
theorem dX5_take_133 : decode cX5_take 133 = .ok (.iand, 1) := by decide +kernel
theorem dX5_take_134 : decode cX5_take 134 = .ok (.istore_n 3, 1) := by decide +kernel
theorem dX5_take_135 : decode cX5_take 135 = .ok (.aload_n 0, 1) := by decide +kernel
theorem dX5_take_136 : decode cX5_take 136 = .ok (.getfield 81, 3) := by decide +kernel
theorem dX5_take_139 : decode cX5_take 139 = .ok (.iload 5, 2) := by decide +kernel
theorem dX5_take_141 : decode cX5_take 141 = .ok (.aload_n 0, 1) := by decide +kernel
theorem dX5_take_142 : decode cX5_take 142 = .ok (.getfield 78, 3) := by decide +kernel
theorem dX5_take_145 : decode cX5_take 145 = .ok (.iload 7, 2) := by decide +kernel
theorem dX5_take_147 : decode cX5_take 147 = .ok (.iaload, 1) := by decide +kernel
theorem dX5_take_148 : decode cX5_take 148 = .ok (.iastore, 1) := by decide +kernel
theorem dX5_take_149 : decode cX5_take 149 = .ok (.iinc 5 1, 3) := by decide +kernel
theorem dX5_take_152 : decode cX5_take 152 = .ok (.goto (-110), 3) := by decide +kernel
theorem dX5_take_155 : decode cX5_take 155 = .ok (.return_, 1) := by decide +kernel
set_option maxRecDepth 20000 in
theorem ggX5_findPlan_X5_take : GoodIn wsX5_findPlan wsX5_take := goodIn_r _ [11, 1, 6, 4, 20, 21, 22, 23, 24, 25, 26, 27, 28, 29, 30, 31, 32, 33, 34, 35, 36, 37, 38, 39, 40, 41, 42, 43, 44, 45, 46, 47, 48, 49, 50, 51] (by decide +kernel) (by decide +kernel)
set_option maxRecDepth 20000 in
theorem gX5_findPlan_X5_take : GoodIn wsX5_findPlan (wsV RX5 148 RX5 yX5_take wsX5_take) := goodIn_app (goodIn_of _ (by decide +kernel)) ggX5_findPlan_X5_take
set_option maxRecDepth 20000 in
theorem ggX5_findPlan_X5_lates : GoodIn wsX5_findPlan wsX5_lates := goodIn_r _ [15, 16, 1, 6, 17, 18, 19, 20, 21, 22, 23, 24, 25, 26, 27, 28, 29, 30, 31, 32, 33, 34, 35, 36, 37, 38, 39, 40, 41, 42, 43, 44, 45, 46, 47, 48, 49, 50, 51] (by decide +kernel) (by decide +kernel)
set_option maxRecDepth 20000 in
theorem gX5_findPlan_X5_lates : GoodIn wsX5_findPlan (wsV RX5 151 RX5 yX5_lates wsX5_lates) := goodIn_app (goodIn_of _ (by decide +kernel)) ggX5_findPlan_X5_lates
theorem dX5_findPlan_0 : decode cX5_findPlan 0 = .ok (.aload_n 0, 1) := by decide +kernel
theorem dX5_findPlan_1 : decode cX5_findPlan 1 = .ok (.iconst 0, 1) := by decide +kernel
theorem dX5_findPlan_2 : decode cX5_findPlan 2 = .ok (.putfield 145, 3) := by decide +kernel
theorem dX5_findPlan_5 : decode cX5_findPlan 5 = .ok (.iconst 0, 1) := by decide +kernel
theorem dX5_findPlan_6 : decode cX5_findPlan 6 = .ok (.istore_n 1, 1) := by decide +kernel
theorem dX5_findPlan_7 : decode cX5_findPlan 7 = .ok (.iload_n 1, 1) := by decide +kernel
theorem dX5_findPlan_8 : decode cX5_findPlan 8 = .ok (.aload_n 0, 1) := by decide +kernel
theorem dX5_findPlan_9 : decode cX5_findPlan 9 = .ok (.getfield 120, 3) := by decide +kernel
theorem dX5_findPlan_12 : decode cX5_findPlan 12 = .ok (.if_icmp .ge 46, 3) := by decide +kernel
theorem dX5_findPlan_15 : decode cX5_findPlan 15 = .ok (.aload_n 0, 1) := by decide +kernel
theorem dX5_findPlan_16 : decode cX5_findPlan 16 = .ok (.getfield 145, 3) := by decide +kernel
theorem dX5_findPlan_19 : decode cX5_findPlan 19 = .ok (.iconst 5, 1) := by decide +kernel
theorem dX5_findPlan_20 : decode cX5_findPlan 20 = .ok (.if_icmp .ge 38, 3) := by decide +kernel
theorem dX5_findPlan_23 : decode cX5_findPlan 23 = .ok (.aload_n 0, 1) := by decide +kernel
theorem dX5_findPlan_24 : decode cX5_findPlan 24 = .ok (.getfield 63, 3) := by decide +kernel
theorem dX5_findPlan_27 : decode cX5_findPlan 27 = .ok (.iload_n 1, 1) := by decide +kernel
theorem dX5_findPlan_28 : decode cX5_findPlan 28 = .ok (.iaload, 1) := by decide +kernel
theorem dX5_findPlan_29 : decode cX5_findPlan 29 = .ok (.ifCond .ne 23, 3) := by decide +kernel
theorem dX5_findPlan_32 : decode cX5_findPlan 32 = .ok (.aload_n 0, 1) := by decide +kernel
theorem dX5_findPlan_33 : decode cX5_findPlan 33 = .ok (.getfield 78, 3) := by decide +kernel
theorem dX5_findPlan_36 : decode cX5_findPlan 36 = .ok (.aload_n 0, 1) := by decide +kernel
theorem dX5_findPlan_37 : decode cX5_findPlan 37 = .ok (.getfield 145, 3) := by decide +kernel
theorem dX5_findPlan_40 : decode cX5_findPlan 40 = .ok (.iload_n 1, 1) := by decide +kernel
theorem dX5_findPlan_41 : decode cX5_findPlan 41 = .ok (.iastore, 1) := by decide +kernel
theorem dX5_findPlan_42 : decode cX5_findPlan 42 = .ok (.aload_n 0, 1) := by decide +kernel
theorem dX5_findPlan_43 : decode cX5_findPlan 43 = .ok (.dup, 1) := by decide +kernel
theorem dX5_findPlan_44 : decode cX5_findPlan 44 = .ok (.getfield 145, 3) := by decide +kernel
theorem dX5_findPlan_47 : decode cX5_findPlan 47 = .ok (.iconst 1, 1) := by decide +kernel
theorem dX5_findPlan_48 : decode cX5_findPlan 48 = .ok (.iadd, 1) := by decide +kernel
theorem dX5_findPlan_49 : decode cX5_findPlan 49 = .ok (.putfield 145, 3) := by decide +kernel
theorem dX5_findPlan_52 : decode cX5_findPlan 52 = .ok (.iinc 1 1, 3) := by decide +kernel
theorem dX5_findPlan_55 : decode cX5_findPlan 55 = .ok (.goto (-48), 3) := by decide +kernel
theorem dX5_findPlan_58 : decode cX5_findPlan 58 = .ok (.iconst 1, 1) := by decide +kernel
theorem dX5_findPlan_59 : decode cX5_findPlan 59 = .ok (.istore_n 1, 1) := by decide +kernel
theorem dX5_findPlan_60 : decode cX5_findPlan 60 = .ok (.iconst 2, 1) := by decide +kernel
theorem dX5_findPlan_61 : decode cX5_findPlan 61 = .ok (.istore_n 2, 1) := by decide +kernel
theorem dX5_findPlan_62 : decode cX5_findPlan 62 = .ok (.iload_n 2, 1) := by decide +kernel
theorem dX5_findPlan_63 : decode cX5_findPlan 63 = .ok (.aload_n 0, 1) := by decide +kernel
theorem dX5_findPlan_64 : decode cX5_findPlan 64 = .ok (.getfield 145, 3) := by decide +kernel
theorem dX5_findPlan_67 : decode cX5_findPlan 67 = .ok (.if_icmp .gt 13, 3) := by decide +kernel
theorem dX5_findPlan_70 : decode cX5_findPlan 70 = .ok (.iload_n 1, 1) := by decide +kernel
theorem dX5_findPlan_71 : decode cX5_findPlan 71 = .ok (.iload_n 2, 1) := by decide +kernel
theorem dX5_findPlan_72 : decode cX5_findPlan 72 = .ok (.imul, 1) := by decide +kernel
theorem dX5_findPlan_73 : decode cX5_findPlan 73 = .ok (.istore_n 1, 1) := by decide +kernel
theorem dX5_findPlan_74 : decode cX5_findPlan 74 = .ok (.iinc 2 1, 3) := by decide +kernel
theorem dX5_findPlan_77 : decode cX5_findPlan 77 = .ok (.goto (-15), 3) := by decide +kernel
theorem dX5_findPlan_80 : decode cX5_findPlan 80 = .ok (.iconst (-1), 1) := by decide +kernel
theorem dX5_findPlan_81 : decode cX5_findPlan 81 = .ok (.istore_n 2, 1) := by decide +kernel
theorem dX5_findPlan_82 : decode cX5_findPlan 82 = .ok (.iconst 0, 1) := by decide +kernel
theorem dX5_findPlan_83 : decode cX5_findPlan 83 = .ok (.istore_n 3, 1) := by decide +kernel
theorem dX5_findPlan_84 : decode cX5_findPlan 84 = .ok (.iload_n 3, 1) := by decide +kernel
theorem dX5_findPlan_85 : decode cX5_findPlan 85 = .ok (.iload_n 1, 1) := by decide +kernel
theorem dX5_findPlan_86 : decode cX5_findPlan 86 = .ok (.if_icmp .ge 65, 3) := by decide +kernel
theorem dX5_findPlan_89 : decode cX5_findPlan 89 = .ok (.aload_n 0, 1) := by decide +kernel
theorem dX5_findPlan_90 : decode cX5_findPlan 90 = .ok (.iload_n 3, 1) := by decide +kernel
theorem dX5_findPlan_91 : decode cX5_findPlan 91 = .ok (.invokevirtual 148, 3) := by decide +kernel
theorem dX5_findPlan_94 : decode cX5_findPlan 94 = .ok (.aload_n 0, 1) := by decide +kernel
theorem dX5_findPlan_95 : decode cX5_findPlan 95 = .ok (.invokevirtual 151, 3) := by decide +kernel
theorem dX5_findPlan_98 : decode cX5_findPlan 98 = .ok (.istore 4, 2) := by decide +kernel
theorem dX5_findPlan_100 : decode cX5_findPlan 100 = .ok (.iload_n 2, 1) := by decide +kernel
theorem dX5_findPlan_101 : decode cX5_findPlan 101 = .ok (.ifCond .lt 9, 3) := by decide +kernel
theorem dX5_findPlan_104 : decode cX5_findPlan 104 = .ok (.iload 4, 2) := by decide +kernel
theorem dX5_findPlan_106 : decode cX5_findPlan 106 = .ok (.iload_n 2, 1) := by decide +kernel
theorem dX5_findPlan_107 : decode cX5_findPlan 107 = .ok (.if_icmp .ge 38, 3) := by decide +kernel
theorem dX5_findPlan_110 : decode cX5_findPlan 110 = .ok (.iload 4, 2) := by decide +kernel
theorem dX5_findPlan_112 : decode cX5_findPlan 112 = .ok (.istore_n 2, 1) := by decide +kernel
theorem dX5_findPlan_113 : decode cX5_findPlan 113 = .ok (.iconst 0, 1) := by decide +kernel
theorem dX5_findPlan_114 : decode cX5_findPlan 114 = .ok (.istore 5, 2) := by decide +kernel
theorem dX5_findPlan_116 : decode cX5_findPlan 116 = .ok (.iload 5, 2) := by decide +kernel
theorem dX5_findPlan_118 : decode cX5_findPlan 118 = .ok (.aload_n 0, 1) := by decide +kernel
theorem dX5_findPlan_119 : decode cX5_findPlan 119 = .ok (.getfield 145, 3) := by decide +kernel
theorem dX5_findPlan_122 : decode cX5_findPlan 122 = .ok (.if_icmp .ge 23, 3) := by decide +kernel
theorem dX5_findPlan_125 : decode cX5_findPlan 125 = .ok (.aload_n 0, 1) := by decide +kernel
theorem dX5_findPlan_126 : decode cX5_findPlan 126 = .ok (.getfield 84, 3) := by decide +kernel
theorem dX5_findPlan_129 : decode cX5_findPlan 129 = .ok (.iload 5, 2) := by decide +kernel
theorem dX5_findPlan_131 : decode cX5_findPlan 131 = .ok (.aload_n 0, 1) := by decide +kernel
theorem dX5_findPlan_132 : decode cX5_findPlan 132 = .ok (.getfield 81, 3) := by decide +kernel
theorem dX5_findPlan_135 : decode cX5_findPlan 135 = .ok (.iload 5, 2) := by decide +kernel
theorem dX5_findPlan_137 : decode cX5_findPlan 137 = .ok (.iaload, 1) := by decide +kernel
theorem dX5_findPlan_138 : decode cX5_findPlan 138 = .ok (.iastore, 1) := by decide +kernel
theorem dX5_findPlan_139 : decode cX5_findPlan 139 = .ok (.iinc 5 1, 3) := by decide +kernel
theorem dX5_findPlan_142 : decode cX5_findPlan 142 = .ok (.goto (-26), 3) := by decide +kernel
theorem dX5_findPlan_145 : decode cX5_findPlan 145 = .ok (.iinc 3 1, 3) := by decide +kernel
theorem dX5_findPlan_148 : decode cX5_findPlan 148 = .ok (.goto (-64), 3) := by decide +kernel
theorem dX5_findPlan_151 : decode cX5_findPlan 151 = .ok (.iload_n 2, 1) := by decide +kernel
theorem dX5_findPlan_152 : decode cX5_findPlan 152 = .ok (.ifCond .ge 7, 3) := by decide +kernel
theorem dX5_findPlan_155 : decode cX5_findPlan 155 = .ok (.iconst 0, 1) := by decide +kernel
theorem dX5_findPlan_156 : decode cX5_findPlan 156 = .ok (.goto 4, 3) := by decide +kernel
theorem dX5_findPlan_159 : decode cX5_findPlan 159 = .ok (.iload_n 2, 1) := by decide +kernel
theorem dX5_findPlan_160 : decode cX5_findPlan 160 = .ok (.ireturn, 1) := by decide +kernel
set_option maxRecDepth 20000 in
theorem ggX5_plan_X5_in : GoodIn wsX5_plan wsX5_in := goodIn_r _ [6] (by decide +kernel) (by decide +kernel)
set_option maxRecDepth 20000 in
theorem gX5_plan_X5_in : GoodIn wsX5_plan (va_wsS RX5 90 yX5_in wsX5_in) := goodIn_app (goodIn_of _ (by decide +kernel)) ggX5_plan_X5_in
set_option maxRecDepth 20000 in
theorem ggX5_plan_X5_findPlan : GoodIn wsX5_plan wsX5_findPlan := goodIn_r _ [10, 1, 11, 12, 13, 2, 14, 15, 16, 17, 5, 18, 19, 20, 21, 22, 23, 24, 25, 26, 27, 28, 29, 30, 31, 32, 33, 34, 35, 36, 37, 38, 39, 40, 41, 42, 43, 44, 45, 46, 47, 48, 49, 50, 51, 52, 53, 54, 55, 56, 57, 58] (by decide +kernel) (by decide +kernel)
set_option maxRecDepth 20000 in
theorem gX5_plan_X5_findPlan : GoodIn wsX5_plan (wsV RX5 155 RX5 yX5_findPlan wsX5_findPlan) := goodIn_app (goodIn_of _ (by decide +kernel)) ggX5_plan_X5_findPlan
theorem dX5_plan_0 : decode cX5_plan 0 = .ok (.iload_n 1, 1) := by decide +kernel
theorem dX5_plan_1 : decode cX5_plan 1 = .ok (.iconst 0, 1) := by decide +kernel
theorem dX5_plan_2 : decode cX5_plan 2 = .ok (.iconst 2, 1) := by decide +kernel
theorem dX5_plan_3 : decode cX5_plan 3 = .ok (.invokestatic 90, 3) := by decide +kernel
theorem dX5_plan_6 : decode cX5_plan 6 = .ok (.ifCond .eq 17, 3) := by decide +kernel
theorem dX5_plan_9 : decode cX5_plan 9 = .ok (.iload_n 1, 1) := by decide +kernel
theorem dX5_plan_10 : decode cX5_plan 10 = .ok (.iconst 1, 1) := by decide +kernel
theorem dX5_plan_11 : decode cX5_plan 11 = .ok (.if_icmp .ne 15, 3) := by decide +kernel
theorem dX5_plan_14 : decode cX5_plan 14 = .ok (.iload_n 2, 1) := by decide +kernel
theorem dX5_plan_15 : decode cX5_plan 15 = .ok (.iconst 0, 1) := by decide +kernel
theorem dX5_plan_16 : decode cX5_plan 16 = .ok (.iconst 4, 1) := by decide +kernel
theorem dX5_plan_17 : decode cX5_plan 17 = .ok (.invokestatic 90, 3) := by decide +kernel
theorem dX5_plan_20 : decode cX5_plan 20 = .ok (.ifCond .ne 6, 3) := by decide +kernel
theorem dX5_plan_23 : decode cX5_plan 23 = .ok (.bipush (-100), 2) := by decide +kernel
theorem dX5_plan_25 : decode cX5_plan 25 = .ok (.ireturn, 1) := by decide +kernel
theorem dX5_plan_26 : decode cX5_plan 26 = .ok (.aload_n 0, 1) := by decide +kernel
theorem dX5_plan_27 : decode cX5_plan 27 = .ok (.invokevirtual 155, 3) := by decide +kernel
theorem dX5_plan_30 : decode cX5_plan 30 = .ok (.istore_n 3, 1) := by decide +kernel
theorem dX5_plan_31 : decode cX5_plan 31 = .ok (.iload_n 1, 1) := by decide +kernel
theorem dX5_plan_32 : decode cX5_plan 32 = .ok (.ifCond .ne 10, 3) := by decide +kernel
theorem dX5_plan_35 : decode cX5_plan 35 = .ok (.aload_n 0, 1) := by decide +kernel
theorem dX5_plan_36 : decode cX5_plan 36 = .ok (.getfield 145, 3) := by decide +kernel
theorem dX5_plan_39 : decode cX5_plan 39 = .ok (.goto 32, 3) := by decide +kernel
theorem dX5_plan_42 : decode cX5_plan 42 = .ok (.iload_n 1, 1) := by decide +kernel
theorem dX5_plan_43 : decode cX5_plan 43 = .ok (.iconst 2, 1) := by decide +kernel
theorem dX5_plan_44 : decode cX5_plan 44 = .ok (.if_icmp .ne 7, 3) := by decide +kernel
theorem dX5_plan_47 : decode cX5_plan 47 = .ok (.iload_n 3, 1) := by decide +kernel
theorem dX5_plan_48 : decode cX5_plan 48 = .ok (.goto 23, 3) := by decide +kernel
theorem dX5_plan_51 : decode cX5_plan 51 = .ok (.iload_n 2, 1) := by decide +kernel
theorem dX5_plan_52 : decode cX5_plan 52 = .ok (.aload_n 0, 1) := by decide +kernel
theorem dX5_plan_53 : decode cX5_plan 53 = .ok (.getfield 145, 3) := by decide +kernel
theorem dX5_plan_56 : decode cX5_plan 56 = .ok (.if_icmp .ge 12, 3) := by decide +kernel
theorem dX5_plan_59 : decode cX5_plan 59 = .ok (.aload_n 0, 1) := by decide +kernel
theorem dX5_plan_60 : decode cX5_plan 60 = .ok (.getfield 84, 3) := by decide +kernel
theorem dX5_plan_63 : decode cX5_plan 63 = .ok (.iload_n 2, 1) := by decide +kernel
theorem dX5_plan_64 : decode cX5_plan 64 = .ok (.iaload, 1) := by decide +kernel
theorem dX5_plan_65 : decode cX5_plan 65 = .ok (.goto 6, 3) := by decide +kernel
theorem dX5_plan_68 : decode cX5_plan 68 = .ok (.sipush (-900), 3) := by decide +kernel
theorem dX5_plan_71 : decode cX5_plan 71 = .ok (.ireturn, 1) := by decide +kernel
theorem dX5_ofState_0 : decode cX5_ofState 0 = .ok (.iconst 0, 1) := by decide +kernel
theorem dX5_ofState_1 : decode cX5_ofState 1 = .ok (.istore_n 2, 1) := by decide +kernel
theorem dX5_ofState_2 : decode cX5_ofState 2 = .ok (.iconst 0, 1) := by decide +kernel
theorem dX5_ofState_3 : decode cX5_ofState 3 = .ok (.istore_n 3, 1) := by decide +kernel
theorem dX5_ofState_4 : decode cX5_ofState 4 = .ok (.iload_n 3, 1) := by decide +kernel
theorem dX5_ofState_5 : decode cX5_ofState 5 = .ok (.aload_n 0, 1) := by decide +kernel
theorem dX5_ofState_6 : decode cX5_ofState 6 = .ok (.getfield 120, 3) := by decide +kernel
theorem dX5_ofState_9 : decode cX5_ofState 9 = .ok (.if_icmp .ge 27, 3) := by decide +kernel
theorem dX5_ofState_12 : decode cX5_ofState 12 = .ok (.iload_n 2, 1) := by decide +kernel
theorem dX5_ofState_13 : decode cX5_ofState 13 = .ok (.aload_n 0, 1) := by decide +kernel
theorem dX5_ofState_14 : decode cX5_ofState 14 = .ok (.getfield 63, 3) := by decide +kernel
theorem dX5_ofState_17 : decode cX5_ofState 17 = .ok (.iload_n 3, 1) := by decide +kernel
theorem dX5_ofState_18 : decode cX5_ofState 18 = .ok (.iaload, 1) := by decide +kernel
theorem dX5_ofState_19 : decode cX5_ofState 19 = .ok (.iload_n 1, 1) := by decide +kernel
theorem dX5_ofState_20 : decode cX5_ofState 20 = .ok (.if_icmp .ne 7, 3) := by decide +kernel
theorem dX5_ofState_23 : decode cX5_ofState 23 = .ok (.iconst 1, 1) := by decide +kernel
theorem dX5_ofState_24 : decode cX5_ofState 24 = .ok (.goto 4, 3) := by decide +kernel
theorem dX5_ofState_27 : decode cX5_ofState 27 = .ok (.iconst 0, 1) := by decide +kernel
theorem dX5_ofState_28 : decode cX5_ofState 28 = .ok (.iadd, 1) := by decide +kernel
theorem dX5_ofState_29 : decode cX5_ofState 29 = .ok (.istore_n 2, 1) := by decide +kernel
theorem dX5_ofState_30 : decode cX5_ofState 30 = .ok (.iinc 3 1, 3) := by decide +kernel
theorem dX5_ofState_33 : decode cX5_ofState 33 = .ok (.goto (-29), 3) := by decide +kernel
theorem dX5_ofState_36 : decode cX5_ofState 36 = .ok (.iload_n 2, 1) := by decide +kernel
theorem dX5_ofState_37 : decode cX5_ofState 37 = .ok (.ireturn, 1) := by decide +kernel
set_option maxRecDepth 20000 in
theorem ggX5_count_X5_ofState : GoodIn wsX5_count wsX5_ofState := goodIn_r _ [13, 4, 8, 22, 23, 24, 25, 26, 27, 28, 29, 30, 31, 32, 33, 34, 35, 36, 37, 38, 39, 40, 41, 42, 43, 44, 45, 46, 47, 48, 49, 50, 51, 52, 53] (by decide +kernel) (by decide +kernel)
set_option maxRecDepth 20000 in
theorem gX5_count_X5_ofState : GoodIn wsX5_count (wsV RX5 158 RX5 yX5_ofState wsX5_ofState) := goodIn_app (goodIn_of _ (by decide +kernel)) ggX5_count_X5_ofState
set_option maxRecDepth 20000 in
theorem ggX5_count_X5_lateOf : GoodIn wsX5_count wsX5_lateOf := goodIn_r _ [17, 18, 19, 20, 21, 22, 23, 24, 25, 26, 27, 28, 29, 30, 31, 32, 33, 34, 35, 36, 37, 38, 39, 40, 41, 42, 43, 44, 45, 46, 47, 48, 49, 50, 51, 52, 53] (by decide +kernel) (by decide +kernel)
set_option maxRecDepth 20000 in
theorem gX5_count_X5_lateOf : GoodIn wsX5_count (wsV RX5 142 RX5 yX5_lateOf wsX5_lateOf) := goodIn_app (goodIn_of _ (by decide +kernel)) ggX5_count_X5_lateOf
theorem dX5_count_0 : decode cX5_count 0 = .ok (.iconst 0, 1) := by decide +kernel
theorem dX5_count_1 : decode cX5_count 1 = .ok (.istore_n 2, 1) := by decide +kernel
theorem dX5_count_2 : decode cX5_count 2 = .ok (.iload_n 1, 1) := by decide +kernel
theorem dX5_count_3 : decode cX5_count 3 = .ok (.tableswitch 162 0 9 #[53, 58, 63, 68, 73, 79, 85, 90, 95, 122], 53) := by decide +kernel
theorem dX5_count_56 : decode cX5_count 56 = .ok (.aload_n 0, 1) := by decide +kernel
theorem dX5_count_57 : decode cX5_count 57 = .ok (.getfield 87, 3) := by decide +kernel
theorem dX5_count_60 : decode cX5_count 60 = .ok (.ireturn, 1) := by decide +kernel
theorem dX5_count_61 : decode cX5_count 61 = .ok (.aload_n 0, 1) := by decide +kernel
theorem dX5_count_62 : decode cX5_count 62 = .ok (.getfield 101, 3) := by decide +kernel
theorem dX5_count_65 : decode cX5_count 65 = .ok (.ireturn, 1) := by decide +kernel
theorem dX5_count_66 : decode cX5_count 66 = .ok (.aload_n 0, 1) := by decide +kernel
theorem dX5_count_67 : decode cX5_count 67 = .ok (.getfield 35, 3) := by decide +kernel
theorem dX5_count_70 : decode cX5_count 70 = .ok (.ireturn, 1) := by decide +kernel
theorem dX5_count_71 : decode cX5_count 71 = .ok (.aload_n 0, 1) := by decide +kernel
theorem dX5_count_72 : decode cX5_count 72 = .ok (.getfield 120, 3) := by decide +kernel
theorem dX5_count_75 : decode cX5_count 75 = .ok (.ireturn, 1) := by decide +kernel
theorem dX5_count_76 : decode cX5_count 76 = .ok (.aload_n 0, 1) := by decide +kernel
theorem dX5_count_77 : decode cX5_count 77 = .ok (.iconst 0, 1) := by decide +kernel
theorem dX5_count_78 : decode cX5_count 78 = .ok (.invokevirtual 158, 3) := by decide +kernel
theorem dX5_count_81 : decode cX5_count 81 = .ok (.ireturn, 1) := by decide +kernel
theorem dX5_count_82 : decode cX5_count 82 = .ok (.aload_n 0, 1) := by decide +kernel
theorem dX5_count_83 : decode cX5_count 83 = .ok (.iconst 2, 1) := by decide +kernel
theorem dX5_count_84 : decode cX5_count 84 = .ok (.invokevirtual 158, 3) := by decide +kernel
theorem dX5_count_87 : decode cX5_count 87 = .ok (.ireturn, 1) := by decide +kernel
theorem dX5_count_88 : decode cX5_count 88 = .ok (.aload_n 0, 1) := by decide +kernel
theorem dX5_count_89 : decode cX5_count 89 = .ok (.getfield 123, 3) := by decide +kernel
theorem dX5_count_92 : decode cX5_count 92 = .ok (.ireturn, 1) := by decide +kernel
theorem dX5_count_93 : decode cX5_count 93 = .ok (.aload_n 0, 1) := by decide +kernel
theorem dX5_count_94 : decode cX5_count 94 = .ok (.getfield 129, 3) := by decide +kernel
theorem dX5_count_97 : decode cX5_count 97 = .ok (.ireturn, 1) := by decide +kernel
theorem dX5_count_98 : decode cX5_count 98 = .ok (.iconst 0, 1) := by decide +kernel
theorem dX5_count_99 : decode cX5_count 99 = .ok (.istore_n 3, 1) := by decide +kernel
theorem dX5_count_100 : decode cX5_count 100 = .ok (.iload_n 3, 1) := by decide +kernel
theorem dX5_count_101 : decode cX5_count 101 = .ok (.aload_n 0, 1) := by decide +kernel
theorem dX5_count_102 : decode cX5_count 102 = .ok (.getfield 120, 3) := by decide +kernel
theorem dX5_count_105 : decode cX5_count 105 = .ok (.if_icmp .ge 18, 3) := by decide +kernel
theorem dX5_count_108 : decode cX5_count 108 = .ok (.iload_n 2, 1) := by decide +kernel
theorem dX5_count_109 : decode cX5_count 109 = .ok (.aload_n 0, 1) := by decide +kernel
theorem dX5_count_110 : decode cX5_count 110 = .ok (.getfield 72, 3) := by decide +kernel
theorem dX5_count_113 : decode cX5_count 113 = .ok (.iload_n 3, 1) := by decide +kernel
theorem dX5_count_114 : decode cX5_count 114 = .ok (.iaload, 1) := by decide +kernel
theorem dX5_count_115 : decode cX5_count 115 = .ok (.iadd, 1) := by decide +kernel
theorem dX5_count_116 : decode cX5_count 116 = .ok (.istore_n 2, 1) := by decide +kernel
theorem dX5_count_117 : decode cX5_count 117 = .ok (.iinc 3 1, 3) := by decide +kernel
theorem dX5_count_120 : decode cX5_count 120 = .ok (.goto (-20), 3) := by decide +kernel
theorem dX5_count_123 : decode cX5_count 123 = .ok (.iload_n 2, 1) := by decide +kernel
theorem dX5_count_124 : decode cX5_count 124 = .ok (.ireturn, 1) := by decide +kernel
theorem dX5_count_125 : decode cX5_count 125 = .ok (.iconst 0, 1) := by decide +kernel
theorem dX5_count_126 : decode cX5_count 126 = .ok (.istore_n 3, 1) := by decide +kernel
theorem dX5_count_127 : decode cX5_count 127 = .ok (.iload_n 3, 1) := by decide +kernel
theorem dX5_count_128 : decode cX5_count 128 = .ok (.aload_n 0, 1) := by decide +kernel
theorem dX5_count_129 : decode cX5_count 129 = .ok (.getfield 120, 3) := by decide +kernel
theorem dX5_count_132 : decode cX5_count 132 = .ok (.if_icmp .ge 31, 3) := by decide +kernel
theorem dX5_count_135 : decode cX5_count 135 = .ok (.iload_n 2, 1) := by decide +kernel
theorem dX5_count_136 : decode cX5_count 136 = .ok (.aload_n 0, 1) := by decide +kernel
theorem dX5_count_137 : decode cX5_count 137 = .ok (.getfield 63, 3) := by decide +kernel
theorem dX5_count_140 : decode cX5_count 140 = .ok (.iload_n 3, 1) := by decide +kernel
theorem dX5_count_141 : decode cX5_count 141 = .ok (.iaload, 1) := by decide +kernel
theorem dX5_count_142 : decode cX5_count 142 = .ok (.iconst 2, 1) := by decide +kernel
theorem dX5_count_143 : decode cX5_count 143 = .ok (.if_icmp .ne 11, 3) := by decide +kernel
theorem dX5_count_146 : decode cX5_count 146 = .ok (.aload_n 0, 1) := by decide +kernel
theorem dX5_count_147 : decode cX5_count 147 = .ok (.iload_n 3, 1) := by decide +kernel
theorem dX5_count_148 : decode cX5_count 148 = .ok (.invokevirtual 142, 3) := by decide +kernel
theorem dX5_count_151 : decode cX5_count 151 = .ok (.goto 4, 3) := by decide +kernel
theorem dX5_count_154 : decode cX5_count 154 = .ok (.iconst 0, 1) := by decide +kernel
theorem dX5_count_155 : decode cX5_count 155 = .ok (.iadd, 1) := by decide +kernel
theorem dX5_count_156 : decode cX5_count 156 = .ok (.istore_n 2, 1) := by decide +kernel
theorem dX5_count_157 : decode cX5_count 157 = .ok (.iinc 3 1, 3) := by decide +kernel
theorem dX5_count_160 : decode cX5_count 160 = .ok (.goto (-33), 3) := by decide +kernel
theorem dX5_count_163 : decode cX5_count 163 = .ok (.iload_n 2, 1) := by decide +kernel
theorem dX5_count_164 : decode cX5_count 164 = .ok (.ireturn, 1) := by decide +kernel
theorem dX5_count_165 : decode cX5_count 165 = .ok (.bipush (-100), 2) := by decide +kernel
theorem dX5_count_167 : decode cX5_count 167 = .ok (.ireturn, 1) := by decide +kernel
theorem dX5_trace_0 : decode cX5_trace 0 = .ok (.aload_n 0, 1) := by decide +kernel
theorem dX5_trace_1 : decode cX5_trace 1 = .ok (.getfield 108, 3) := by decide +kernel
theorem dX5_trace_4 : decode cX5_trace 4 = .ok (.lreturn, 1) := by decide +kernel
theorem dJ9_max_7cf53_0 : decode cJ9_max_7cf53 0 = .ok (.iload_n 0, 1) := by decide +kernel
theorem dJ9_max_7cf53_1 : decode cJ9_max_7cf53 1 = .ok (.iload_n 1, 1) := by decide +kernel
theorem dJ9_max_7cf53_2 : decode cJ9_max_7cf53 2 = .ok (.if_icmp .lt 7, 3) := by decide +kernel
theorem dJ9_max_7cf53_5 : decode cJ9_max_7cf53 5 = .ok (.iload_n 0, 1) := by decide +kernel
theorem dJ9_max_7cf53_6 : decode cJ9_max_7cf53 6 = .ok (.goto 4, 3) := by decide +kernel
theorem dJ9_max_7cf53_9 : decode cJ9_max_7cf53 9 = .ok (.iload_n 1, 1) := by decide +kernel
theorem dJ9_max_7cf53_10 : decode cJ9_max_7cf53 10 = .ok (.ireturn, 1) := by decide +kernel
theorem dJ9_min_7cf53_0 : decode cJ9_min_7cf53 0 = .ok (.iload_n 0, 1) := by decide +kernel
theorem dJ9_min_7cf53_1 : decode cJ9_min_7cf53 1 = .ok (.iload_n 1, 1) := by decide +kernel
theorem dJ9_min_7cf53_2 : decode cJ9_min_7cf53 2 = .ok (.if_icmp .gt 7, 3) := by decide +kernel
theorem dJ9_min_7cf53_5 : decode cJ9_min_7cf53 5 = .ok (.iload_n 0, 1) := by decide +kernel
theorem dJ9_min_7cf53_6 : decode cJ9_min_7cf53 6 = .ok (.goto 4, 3) := by decide +kernel
theorem dJ9_min_7cf53_9 : decode cJ9_min_7cf53 9 = .ok (.iload_n 1, 1) := by decide +kernel
theorem dJ9_min_7cf53_10 : decode cJ9_min_7cf53 10 = .ok (.ireturn, 1) := by decide +kernel
set_option maxRecDepth 20000 in
theorem ggL_law_X4_init : GoodIn wsL_law wsX4_init := goodIn_r _ [8, 9, 10, 11, 12, 13, 14, 15, 16, 17, 18, 19, 20, 21, 22, 23, 24, 25, 26, 27, 28, 29, 30, 31, 32, 33, 34, 35, 36, 37, 38, 39, 40, 41, 42, 43, 519, 520, 521, 473, 474, 475, 476, 477, 478, 479, 480, 481, 482, 483, 484, 485, 486, 522, 523, 524, 525, 526, 527] (by decide +kernel) (by decide +kernel)
set_option maxRecDepth 20000 in
theorem gL_law_X4_init : GoodIn wsL_law (wsX4_init) := ggL_law_X4_init
set_option maxRecDepth 20000 in
theorem ggL_law_X5_init : GoodIn wsL_law wsX5_init := goodIn_r _ [46, 47, 10, 11, 34, 48, 31, 49, 50, 51, 52, 53, 54, 55, 56, 57, 58, 59, 60, 61, 62, 63, 64, 65, 66, 67, 68, 69, 70, 71, 72, 73, 487, 488, 489, 490, 491, 492, 493, 494, 495, 496, 497, 498, 499, 500, 501, 502, 503, 504, 505, 506, 507, 508, 509, 510, 511, 512, 513, 514, 515, 516, 517, 518] (by decide +kernel) (by decide +kernel)
set_option maxRecDepth 20000 in
theorem gL_law_X5_init : GoodIn wsL_law (wsX5_init) := ggL_law_X5_init
set_option maxRecDepth 20000 in
theorem ggL_law_X4_weather : GoodIn wsL_law wsX4_weather := goodIn_r _ [77, 78, 15, 79, 80, 2, 81, 82, 83, 84, 85, 86, 87, 14, 88, 32, 33, 35, 473, 474, 475, 476, 477, 478, 479, 480, 481, 482, 483, 484, 485, 486, 519, 520, 521] (by decide +kernel) (by decide +kernel)
set_option maxRecDepth 20000 in
theorem gL_law_X4_weather : GoodIn wsL_law (wsV RL 13 RX4 yX4_weather wsX4_weather) := goodIn_app (goodIn_of _ (by decide +kernel)) ggL_law_X4_weather
set_option maxRecDepth 20000 in
theorem ggL_law_X5_weather : GoodIn wsL_law wsX5_weather := goodIn_r _ [92, 73, 48, 49, 50, 93, 94, 5, 95, 487, 488, 489, 490, 491, 492, 493, 494, 495, 496, 497, 498, 499, 500, 501, 502, 503, 504, 505, 506, 507, 508, 509, 510, 511, 512, 513, 514, 515, 516, 517, 518] (by decide +kernel) (by decide +kernel)
set_option maxRecDepth 20000 in
theorem gL_law_X5_weather : GoodIn wsL_law (wsV RL 17 RX5 yX5_weather wsX5_weather) := goodIn_app (goodIn_of _ (by decide +kernel)) ggL_law_X5_weather
set_option maxRecDepth 20000 in
theorem ggL_law_X4_loses : GoodIn wsL_law wsX4_loses := goodIn_r _ [99, 78, 15, 79, 80, 2, 81, 82, 83, 84, 100, 101, 102, 14, 103, 35, 104, 105, 106, 107, 108, 109, 110, 473, 474, 475, 476, 477, 478, 479, 480, 481, 482, 483, 484, 485, 486, 519, 520, 521] (by decide +kernel) (by decide +kernel)
set_option maxRecDepth 20000 in
theorem gL_law_X4_loses : GoodIn wsL_law (wsV RL 18 RX4 yX4_loses wsX4_loses) := goodIn_app (goodIn_of _ (by decide +kernel)) ggL_law_X4_loses
set_option maxRecDepth 20000 in
theorem ggL_law_X5_loses : GoodIn wsL_law wsX5_loses := goodIn_r _ [114, 73, 48, 93, 94, 5, 95, 487, 488, 489, 490, 491, 492, 493, 494, 495, 496, 497, 498, 499, 500, 501, 502, 503, 504, 505, 506, 507, 508, 509, 510, 511, 512, 513, 514, 515, 516, 517, 518] (by decide +kernel) (by decide +kernel)
set_option maxRecDepth 20000 in
theorem gL_law_X5_loses : GoodIn wsL_law (wsV RL 22 RX5 yX5_loses wsX5_loses) := goodIn_app (goodIn_of _ (by decide +kernel)) ggL_law_X5_loses
set_option maxRecDepth 20000 in
theorem ggL_law_X4_known : GoodIn wsL_law wsX4_known := goodIn_r _ [118, 15, 79, 80, 2, 81, 82, 83, 84, 119, 120, 121, 14, 122, 32, 123, 124, 125, 126, 127, 101, 102, 103, 35, 128, 129, 130, 131, 33, 132, 133, 134, 100, 104, 105, 106, 473, 474, 475, 476, 477, 478, 479, 480, 481, 482, 483, 484, 485, 486, 519, 520, 521] (by decide +kernel) (by decide +kernel)
set_option maxRecDepth 20000 in
theorem gL_law_X4_known : GoodIn wsL_law (wsV RL 23 RX4 yX4_known wsX4_known) := goodIn_app (goodIn_of _ (by decide +kernel)) ggL_law_X4_known
set_option maxRecDepth 20000 in
theorem ggL_law_X5_known : GoodIn wsL_law wsX5_known := goodIn_r _ [138, 48, 93, 94, 5, 95, 139, 140, 141, 142, 49, 143, 144, 145, 146, 50, 487, 488, 489, 490, 491, 492, 493, 494, 495, 496, 497, 498, 499, 500, 501, 502, 503, 504, 505, 506, 507, 508, 509, 510, 511, 512, 513, 514, 515, 516, 517, 518] (by decide +kernel) (by decide +kernel)
set_option maxRecDepth 20000 in
theorem gL_law_X5_known : GoodIn wsL_law (wsV RL 27 RX5 yX5_known wsX5_known) := goodIn_app (goodIn_of _ (by decide +kernel)) ggL_law_X5_known
set_option maxRecDepth 20000 in
theorem ggL_law_X4_fluid : GoodIn wsL_law wsX4_fluid := goodIn_r _ [150, 151, 17, 31, 16, 152, 153, 82, 83, 2, 84, 154, 155, 156, 157, 158, 159, 160, 10, 11, 161, 162, 163, 164, 165, 473, 474, 475, 476, 477, 478, 479, 480, 481, 482, 483, 484, 485, 486, 528, 529, 530, 531, 532] (by decide +kernel) (by decide +kernel)
set_option maxRecDepth 20000 in
theorem gL_law_X4_fluid : GoodIn wsL_law (wsV RL 28 RX4 yX4_fluid wsX4_fluid) := goodIn_app (goodIn_of _ (by decide +kernel)) ggL_law_X4_fluid
set_option maxRecDepth 20000 in
theorem ggL_law_X5_fluid : GoodIn wsL_law wsX5_fluid := goodIn_r _ [169, 170, 51, 52, 53, 54, 55, 93, 94, 5, 95, 487, 488, 489, 490, 491, 492, 493, 494, 495, 496, 497, 498, 499, 500, 501, 502, 503, 504, 505, 506, 507, 508, 509, 510, 511, 512, 513, 514, 515, 516, 517, 518] (by decide +kernel) (by decide +kernel)
set_option maxRecDepth 20000 in
theorem gL_law_X5_fluid : GoodIn wsL_law (wsV RL 32 RX5 yX5_fluid wsX5_fluid) := goodIn_app (goodIn_of _ (by decide +kernel)) ggL_law_X5_fluid
set_option maxRecDepth 20000 in
theorem ggL_law_X4_hold : GoodIn wsL_law wsX4_hold := goodIn_r _ [174, 175, 176, 177, 178, 2, 179, 17, 82, 83, 84, 79, 80, 81, 180, 181, 182, 153, 183, 161, 184, 185, 186, 187, 15, 119, 120, 121, 14, 122, 32, 123, 124, 125, 126, 127, 101, 102, 103, 35, 128, 129, 130, 131, 33, 132, 133, 134, 188, 189, 190, 191, 163, 164, 192, 193, 194, 195, 162, 473, 474, 475, 476, 477, 478, 479, 480, 481, 482, 483, 484, 485, 486, 528, 529, 530, 531, 532, 519, 520, 521] (by decide +kernel) (by decide +kernel)
set_option maxRecDepth 20000 in
theorem gL_law_X4_hold : GoodIn wsL_law (wsV RL 33 RX4 yX4_hold wsX4_hold) := goodIn_app (goodIn_of _ (by decide +kernel)) ggL_law_X4_hold
set_option maxRecDepth 20000 in
theorem ggL_law_X5_hold : GoodIn wsL_law wsX5_hold := goodIn_r _ [199, 200, 51, 201, 202, 203, 204, 205, 5, 206, 170, 93, 94, 95, 207, 208, 209, 210, 52, 53, 54, 143, 144, 145, 146, 48, 50, 139, 140, 141, 142, 49, 487, 488, 489, 490, 491, 492, 493, 494, 495, 496, 497, 498, 499, 500, 501, 502, 503, 504, 505, 506, 507, 508, 509, 510, 511, 512, 513, 514, 515, 516, 517, 518] (by decide +kernel) (by decide +kernel)
set_option maxRecDepth 20000 in
theorem gL_law_X5_hold : GoodIn wsL_law (wsV RL 36 RX5 yX5_hold wsX5_hold) := goodIn_app (goodIn_of _ (by decide +kernel)) ggL_law_X5_hold
set_option maxRecDepth 20000 in
theorem ggL_law_X4_fill : GoodIn wsL_law wsX4_fill := goodIn_r _ [214, 215, 176, 177, 178, 2, 179, 17, 82, 83, 84, 528, 529, 530, 531, 532, 473, 474, 475, 476, 477, 478, 479, 480, 481, 482, 483, 484, 485, 486] (by decide +kernel) (by decide +kernel)
set_option maxRecDepth 20000 in
theorem gL_law_X4_fill : GoodIn wsL_law (wsV RL 37 RX4 yX4_fill wsX4_fill) := goodIn_app (goodIn_of _ (by decide +kernel)) ggL_law_X4_fill
set_option maxRecDepth 20000 in
theorem ggL_law_X5_fill : GoodIn wsL_law wsX5_fill := goodIn_r _ [219, 55, 203, 204, 205, 5, 206, 170, 93, 94, 95, 487, 488, 489, 490, 491, 492, 493, 494, 495, 496, 497, 498, 499, 500, 501, 502, 503, 504, 505, 506, 507, 508, 509, 510, 511, 512, 513, 514, 515, 516, 517, 518] (by decide +kernel) (by decide +kernel)
set_option maxRecDepth 20000 in
theorem gL_law_X5_fill : GoodIn wsL_law (wsV RL 40 RX5 yX5_fill wsX5_fill) := goodIn_app (goodIn_of _ (by decide +kernel)) ggL_law_X5_fill
set_option maxRecDepth 20000 in
theorem ggL_law_X4_set : GoodIn wsL_law wsX4_set := goodIn_r _ [223, 224, 225, 226, 2, 227, 25, 82, 83, 84, 228, 229, 230, 231, 232, 19, 233, 234, 235, 236, 237, 238, 239, 240, 241, 242, 243, 244, 245, 246, 247, 26, 248, 249, 250, 251, 27, 473, 474, 475, 476, 477, 478, 479, 480, 481, 482, 483, 484, 485, 486, 533, 534, 535, 536, 537, 538, 539, 540, 541, 542, 543] (by decide +kernel) (by decide +kernel)
set_option maxRecDepth 20000 in
theorem gL_law_X4_set : GoodIn wsL_law (wsV RL 41 RX4 yX4_set wsX4_set) := goodIn_app (goodIn_of _ (by decide +kernel)) ggL_law_X4_set
set_option maxRecDepth 20000 in
theorem ggL_law_X5_set : GoodIn wsL_law wsX5_set := goodIn_r _ [255, 59, 56, 57, 58, 93, 94, 5, 95, 487, 488, 489, 490, 491, 492, 493, 494, 495, 496, 497, 498, 499, 500, 501, 502, 503, 504, 505, 506, 507, 508, 509, 510, 511, 512, 513, 514, 515, 516, 517, 518] (by decide +kernel) (by decide +kernel)
set_option maxRecDepth 20000 in
theorem gL_law_X5_set : GoodIn wsL_law (wsV RL 44 RX5 yX5_set wsX5_set) := goodIn_app (goodIn_of _ (by decide +kernel)) ggL_law_X5_set
set_option maxRecDepth 20000 in
theorem ggL_law_X4_jet : GoodIn wsL_law wsX4_jet := goodIn_r _ [259, 78, 232, 19, 18, 260, 236, 176, 177, 178, 2, 179, 17, 82, 83, 84, 79, 80, 81, 261, 262, 263, 264, 10, 11, 238, 265, 243, 266, 267, 268, 269, 270, 271, 473, 474, 475, 476, 477, 478, 479, 480, 481, 482, 483, 484, 485, 486, 533, 534, 535, 536, 537, 538, 539, 540, 541, 542, 543] (by decide +kernel) (by decide +kernel)
set_option maxRecDepth 20000 in
theorem gL_law_X4_jet : GoodIn wsL_law (wsV RL 45 RX4 yX4_jet wsX4_jet) := goodIn_app (goodIn_of _ (by decide +kernel)) ggL_law_X4_jet
set_option maxRecDepth 20000 in
theorem ggL_law_X5_jet : GoodIn wsL_law wsX5_jet := goodIn_r _ [275, 73, 276, 60, 61, 62, 63, 64, 65, 66, 68, 69, 93, 94, 5, 95, 203, 204, 205, 206, 170, 487, 488, 489, 490, 491, 492, 493, 494, 495, 496, 497, 498, 499, 500, 501, 502, 503, 504, 505, 506, 507, 508, 509, 510, 511, 512, 513, 514, 515, 516, 517, 518] (by decide +kernel) (by decide +kernel)
set_option maxRecDepth 20000 in
theorem gL_law_X5_jet : GoodIn wsL_law (wsV RL 49 RX5 yX5_jet wsX5_jet) := goodIn_app (goodIn_of _ (by decide +kernel)) ggL_law_X5_jet
set_option maxRecDepth 20000 in
theorem ggL_law_X4_minutes : GoodIn wsL_law wsX4_minutes := goodIn_r _ [280, 78, 82, 83, 2, 84, 281, 282, 283, 284, 285, 27, 286, 133, 125, 134, 25, 287, 288, 289, 290, 20, 291, 292, 293, 294, 236, 295, 267, 296, 297, 298, 299, 270, 238, 300, 243, 269, 301, 302, 303, 304, 305, 306, 215, 307, 308, 309, 310, 311, 232, 19, 312, 313, 314, 315, 316, 26, 233, 234, 235, 237, 239, 240, 241, 242, 317, 318, 319, 320, 321, 322, 323, 324, 184, 185, 186, 187, 15, 119, 120, 121, 14, 122, 32, 123, 124, 126, 127, 101, 102, 103, 35, 128, 129, 130, 131, 33, 132, 188, 189, 190, 153, 191, 161, 163, 164, 192, 193, 194, 195, 162, 325, 326, 327, 328, 265, 473, 474, 475, 476, 477, 478, 479, 480, 481, 482, 483, 484, 485, 486, 533, 534, 535, 536, 537, 538, 539, 540, 541, 542, 543, 528, 529, 530, 531, 532, 519, 520, 521] (by decide +kernel) (by decide +kernel)
set_option maxRecDepth 20000 in
theorem gL_law_X4_minutes : GoodIn wsL_law (wsV RL 50 RX4 yX4_minutes wsX4_minutes) := goodIn_app (goodIn_of _ (by decide +kernel)) ggL_law_X4_minutes
set_option maxRecDepth 20000 in
theorem ggL_law_X5_minutes : GoodIn wsL_law wsX5_minutes := goodIn_r _ [332, 73, 93, 94, 5, 95, 333, 334, 335, 336, 337, 58, 56, 338, 339, 340, 341, 59, 66, 60, 63, 67, 65, 69, 62, 68, 342, 343, 344, 345, 276, 64, 55, 346, 347, 348, 349, 350, 57, 207, 208, 209, 210, 52, 51, 53, 54, 143, 144, 145, 146, 48, 50, 139, 140, 141, 142, 49, 487, 488, 489, 490, 491, 492, 493, 494, 495, 496, 497, 498, 499, 500, 501, 502, 503, 504, 505, 506, 507, 508, 509, 510, 511, 512, 513, 514, 515, 516, 517, 518] (by decide +kernel) (by decide +kernel)
set_option maxRecDepth 20000 in
theorem gL_law_X5_minutes : GoodIn wsL_law (wsV RL 53 RX5 yX5_minutes wsX5_minutes) := goodIn_app (goodIn_of _ (by decide +kernel)) ggL_law_X5_minutes
set_option maxRecDepth 20000 in
theorem ggL_law_X4_about : GoodIn wsL_law wsX4_about := goodIn_r _ [354, 355, 291, 312, 356, 357, 358, 359, 360, 2, 361, 19, 82, 83, 84, 233, 234, 235, 236, 237, 238, 239, 240, 241, 242, 243, 362, 363, 364, 365, 366, 268, 270, 367, 293, 294, 295, 267, 533, 534, 535, 536, 537, 538, 539, 540, 541, 542, 543, 473, 474, 475, 476, 477, 478, 479, 480, 481, 482, 483, 484, 485, 486] (by decide +kernel) (by decide +kernel)
set_option maxRecDepth 20000 in
theorem gL_law_X4_about : GoodIn wsL_law (wsV RL 54 RX4 yX4_about wsX4_about) := goodIn_app (goodIn_of _ (by decide +kernel)) ggL_law_X4_about
set_option maxRecDepth 20000 in
theorem ggL_law_X5_about : GoodIn wsL_law wsX5_about := goodIn_r _ [371, 276, 65, 56, 59, 66, 62, 68, 69, 93, 94, 5, 95, 372, 373, 374, 375, 61, 60, 63, 487, 488, 489, 490, 491, 492, 493, 494, 495, 496, 497, 498, 499, 500, 501, 502, 503, 504, 505, 506, 507, 508, 509, 510, 511, 512, 513, 514, 515, 516, 517, 518] (by decide +kernel) (by decide +kernel)
set_option maxRecDepth 20000 in
theorem gL_law_X5_about : GoodIn wsL_law (wsV RL 57 RX5 yX5_about wsX5_about) := goodIn_app (goodIn_of _ (by decide +kernel)) ggL_law_X5_about
set_option maxRecDepth 20000 in
theorem ggL_law_X4_on : GoodIn wsL_law wsX4_on := goodIn_r _ [379, 25, 20, 380, 82, 83, 2, 84, 473, 474, 475, 476, 477, 478, 479, 480, 481, 482, 483, 484, 485, 486, 533, 534, 535, 536, 537, 538, 539, 540, 541, 542, 543] (by decide +kernel) (by decide +kernel)
set_option maxRecDepth 20000 in
theorem gL_law_X4_on : GoodIn wsL_law (wsV RL 58 RX4 yX4_on wsX4_on) := goodIn_app (goodIn_of _ (by decide +kernel)) ggL_law_X4_on
set_option maxRecDepth 20000 in
theorem ggL_law_X5_on : GoodIn wsL_law wsX5_on := goodIn_r _ [384, 56, 59, 93, 94, 5, 95, 487, 488, 489, 490, 491, 492, 493, 494, 495, 496, 497, 498, 499, 500, 501, 502, 503, 504, 505, 506, 507, 508, 509, 510, 511, 512, 513, 514, 515, 516, 517, 518] (by decide +kernel) (by decide +kernel)
set_option maxRecDepth 20000 in
theorem gL_law_X5_on : GoodIn wsL_law (wsV RL 61 RX5 yX5_on wsX5_on) := goodIn_app (goodIn_of _ (by decide +kernel)) ggL_law_X5_on
set_option maxRecDepth 20000 in
theorem ggL_law_X4_litres : GoodIn wsL_law wsX4_litres := goodIn_r _ [388, 215, 176, 177, 178, 2, 179, 17, 82, 83, 84, 528, 529, 530, 531, 532, 473, 474, 475, 476, 477, 478, 479, 480, 481, 482, 483, 484, 485, 486] (by decide +kernel) (by decide +kernel)
set_option maxRecDepth 20000 in
theorem gL_law_X4_litres : GoodIn wsL_law (wsV RL 62 RX4 yX4_litres wsX4_litres) := goodIn_app (goodIn_of _ (by decide +kernel)) ggL_law_X4_litres
set_option maxRecDepth 20000 in
theorem ggL_law_X5_litres : GoodIn wsL_law wsX5_litres := goodIn_r _ [392, 55, 203, 204, 205, 5, 206, 170, 93, 94, 95, 487, 488, 489, 490, 491, 492, 493, 494, 495, 496, 497, 498, 499, 500, 501, 502, 503, 504, 505, 506, 507, 508, 509, 510, 511, 512, 513, 514, 515, 516, 517, 518] (by decide +kernel) (by decide +kernel)
set_option maxRecDepth 20000 in
theorem gL_law_X5_litres : GoodIn wsL_law (wsV RL 65 RX5 yX5_litres wsX5_litres) := goodIn_app (goodIn_of _ (by decide +kernel)) ggL_law_X5_litres
set_option maxRecDepth 20000 in
theorem ggL_law_X4_plan : GoodIn wsL_law wsX4_plan := goodIn_r _ [396, 24, 19, 397, 78, 398, 82, 83, 2, 84, 399, 400, 401, 23, 402, 403, 40, 404, 234, 235, 236, 237, 238, 239, 240, 241, 242, 243, 405, 406, 407, 408, 409, 410, 411, 412, 413, 414, 41, 415, 416, 133, 125, 134, 42, 417, 418, 419, 420, 421, 422, 43, 423, 293, 294, 295, 267, 424, 425, 426, 427, 473, 474, 475, 476, 477, 478, 479, 480, 481, 482, 483, 484, 485, 486, 522, 523, 524, 525, 526, 527, 533, 534, 535, 536, 537, 538, 539, 540, 541, 542, 543] (by decide +kernel) (by decide +kernel)
set_option maxRecDepth 20000 in
theorem gL_law_X4_plan : GoodIn wsL_law (wsV RL 66 RX4 yX4_plan wsX4_plan) := goodIn_app (goodIn_of _ (by decide +kernel)) ggL_law_X4_plan
set_option maxRecDepth 20000 in
theorem ggL_law_X5_plan : GoodIn wsL_law wsX5_plan := goodIn_r _ [431, 432, 72, 93, 94, 5, 95, 433, 434, 435, 436, 276, 65, 70, 71, 437, 438, 439, 440, 441, 442, 443, 444, 73, 62, 61, 60, 487, 488, 489, 490, 491, 492, 493, 494, 495, 496, 497, 498, 499, 500, 501, 502, 503, 504, 505, 506, 507, 508, 509, 510, 511, 512, 513, 514, 515, 516, 517, 518] (by decide +kernel) (by decide +kernel)
set_option maxRecDepth 20000 in
theorem gL_law_X5_plan : GoodIn wsL_law (wsV RL 69 RX5 yX5_plan wsX5_plan) := goodIn_app (goodIn_of _ (by decide +kernel)) ggL_law_X5_plan
set_option maxRecDepth 20000 in
theorem ggL_law_X4_count : GoodIn wsL_law wsX4_count := goodIn_r _ [448, 78, 151, 25, 232, 285, 307, 228, 229, 230, 2, 231, 19, 233, 234, 235, 236, 237, 238, 239, 240, 241, 242, 243, 449, 450, 451, 452, 356, 453, 454, 455, 456, 362, 363, 364, 365, 366, 268, 270, 367, 293, 294, 295, 267, 473, 474, 475, 476, 477, 478, 479, 480, 481, 482, 483, 484, 485, 486, 533, 534, 535, 536, 537, 538, 539, 540, 541, 542, 543] (by decide +kernel) (by decide +kernel)
set_option maxRecDepth 20000 in
theorem gL_law_X4_count : GoodIn wsL_law (wsV RL 70 RX4 yX4_count wsX4_count) := goodIn_app (goodIn_of _ (by decide +kernel)) ggL_law_X4_count
set_option maxRecDepth 20000 in
theorem ggL_law_X5_count : GoodIn wsL_law wsX5_count := goodIn_r _ [460, 73, 170, 56, 276, 337, 346, 68, 65, 461, 462, 463, 5, 464, 372, 373, 374, 375, 69, 61, 60, 63, 487, 488, 489, 490, 491, 492, 493, 494, 495, 496, 497, 498, 499, 500, 501, 502, 503, 504, 505, 506, 507, 508, 509, 510, 511, 512, 513, 514, 515, 516, 517, 518] (by decide +kernel) (by decide +kernel)
set_option maxRecDepth 20000 in
theorem gL_law_X5_count : GoodIn wsL_law (wsV RL 73 RX5 yX5_count wsX5_count) := goodIn_app (goodIn_of _ (by decide +kernel)) ggL_law_X5_count
set_option maxRecDepth 20000 in
theorem ggL_law_X4_trace : GoodIn wsL_law wsX4_trace := goodIn_r _ [468, 175, 473, 474, 475, 476, 477, 478, 479, 480, 481, 482, 483, 484, 485, 486] (by decide +kernel) (by decide +kernel)
set_option maxRecDepth 20000 in
theorem gL_law_X4_trace : GoodIn wsL_law (wsV RL 74 RX4 yX4_trace wsX4_trace) := goodIn_app (goodIn_of _ (by decide +kernel)) ggL_law_X4_trace
set_option maxRecDepth 20000 in
theorem ggL_law_X5_trace : GoodIn wsL_law wsX5_trace := goodIn_r _ [472, 200, 487, 488, 489, 490, 491, 492, 493, 494, 495, 496, 497, 498, 499, 500, 501, 502, 503, 504, 505, 506, 507, 508, 509, 510, 511, 512, 513, 514, 515, 516, 517, 518] (by decide +kernel) (by decide +kernel)
set_option maxRecDepth 20000 in
theorem gL_law_X5_trace : GoodIn wsL_law (wsV RL 78 RX5 yX5_trace wsX5_trace) := goodIn_app (goodIn_of _ (by decide +kernel)) ggL_law_X5_trace
theorem dL_law_0 : decode cL_law 0 = .ok (.new 7, 3) := by decide +kernel
theorem dL_law_3 : decode cL_law 3 = .ok (.dup, 1) := by decide +kernel
theorem dL_law_4 : decode cL_law 4 = .ok (.invokespecial 9, 3) := by decide +kernel
theorem dL_law_7 : decode cL_law 7 = .ok (.astore_n 1, 1) := by decide +kernel
theorem dL_law_8 : decode cL_law 8 = .ok (.new 10, 3) := by decide +kernel
theorem dL_law_11 : decode cL_law 11 = .ok (.dup, 1) := by decide +kernel
theorem dL_law_12 : decode cL_law 12 = .ok (.invokespecial 12, 3) := by decide +kernel
theorem dL_law_15 : decode cL_law 15 = .ok (.astore_n 2, 1) := by decide +kernel
theorem dL_law_16 : decode cL_law 16 = .ok (.iconst 0, 1) := by decide +kernel
theorem dL_law_17 : decode cL_law 17 = .ok (.istore_n 3, 1) := by decide +kernel
theorem dL_law_18 : decode cL_law 18 = .ok (.iload_n 3, 1) := by decide +kernel
theorem dL_law_19 : decode cL_law 19 = .ok (.aload_n 0, 1) := by decide +kernel
theorem dL_law_20 : decode cL_law 20 = .ok (.arraylength, 1) := by decide +kernel
theorem dL_law_21 : decode cL_law 21 = .ok (.bipush 9, 2) := by decide +kernel
theorem dL_law_23 : decode cL_law 23 = .ok (.isub, 1) := by decide +kernel
theorem dL_law_24 : decode cL_law 24 = .ok (.if_icmp .gt 612, 3) := by decide +kernel
theorem dL_law_27 : decode cL_law 27 = .ok (.aload_n 0, 1) := by decide +kernel
theorem dL_law_28 : decode cL_law 28 = .ok (.iload_n 3, 1) := by decide +kernel
theorem dL_law_29 : decode cL_law 29 = .ok (.iaload, 1) := by decide +kernel
theorem dL_law_30 : decode cL_law 30 = .ok (.bipush 15, 2) := by decide +kernel
theorem dL_law_32 : decode cL_law 32 = .ok (.iand, 1) := by decide +kernel
theorem dL_law_33 : decode cL_law 33 = .ok (.tableswitch 597 0 14 #[75, 118, 141, 174, 273, 306, 339, 372, 425, 448, 481, 504, 527, 560, 583], 75) := by decide +kernel
theorem dL_law_108 : decode cL_law 108 = .ok (.aload_n 1, 1) := by decide +kernel
theorem dL_law_109 : decode cL_law 109 = .ok (.aload_n 0, 1) := by decide +kernel
theorem dL_law_110 : decode cL_law 110 = .ok (.iload_n 3, 1) := by decide +kernel
theorem dL_law_111 : decode cL_law 111 = .ok (.iconst 1, 1) := by decide +kernel
theorem dL_law_112 : decode cL_law 112 = .ok (.iadd, 1) := by decide +kernel
theorem dL_law_113 : decode cL_law 113 = .ok (.iaload, 1) := by decide +kernel
theorem dL_law_114 : decode cL_law 114 = .ok (.aload_n 0, 1) := by decide +kernel
theorem dL_law_115 : decode cL_law 115 = .ok (.iload_n 3, 1) := by decide +kernel
theorem dL_law_116 : decode cL_law 116 = .ok (.iconst 2, 1) := by decide +kernel
theorem dL_law_117 : decode cL_law 117 = .ok (.iadd, 1) := by decide +kernel
theorem dL_law_118 : decode cL_law 118 = .ok (.iaload, 1) := by decide +kernel
theorem dL_law_119 : decode cL_law 119 = .ok (.aload_n 0, 1) := by decide +kernel
theorem dL_law_120 : decode cL_law 120 = .ok (.iload_n 3, 1) := by decide +kernel
theorem dL_law_121 : decode cL_law 121 = .ok (.iconst 3, 1) := by decide +kernel
theorem dL_law_122 : decode cL_law 122 = .ok (.iadd, 1) := by decide +kernel
theorem dL_law_123 : decode cL_law 123 = .ok (.iaload, 1) := by decide +kernel
theorem dL_law_124 : decode cL_law 124 = .ok (.invokevirtual 13, 3) := by decide +kernel
theorem dL_law_127 : decode cL_law 127 = .ok (.aload_n 2, 1) := by decide +kernel
theorem dL_law_128 : decode cL_law 128 = .ok (.aload_n 0, 1) := by decide +kernel
theorem dL_law_129 : decode cL_law 129 = .ok (.iload_n 3, 1) := by decide +kernel
theorem dL_law_130 : decode cL_law 130 = .ok (.iconst 1, 1) := by decide +kernel
theorem dL_law_131 : decode cL_law 131 = .ok (.iadd, 1) := by decide +kernel
theorem dL_law_132 : decode cL_law 132 = .ok (.iaload, 1) := by decide +kernel
theorem dL_law_133 : decode cL_law 133 = .ok (.aload_n 0, 1) := by decide +kernel
theorem dL_law_134 : decode cL_law 134 = .ok (.iload_n 3, 1) := by decide +kernel
theorem dL_law_135 : decode cL_law 135 = .ok (.iconst 2, 1) := by decide +kernel
theorem dL_law_136 : decode cL_law 136 = .ok (.iadd, 1) := by decide +kernel
theorem dL_law_137 : decode cL_law 137 = .ok (.iaload, 1) := by decide +kernel
theorem dL_law_138 : decode cL_law 138 = .ok (.aload_n 0, 1) := by decide +kernel
theorem dL_law_139 : decode cL_law 139 = .ok (.iload_n 3, 1) := by decide +kernel
theorem dL_law_140 : decode cL_law 140 = .ok (.iconst 3, 1) := by decide +kernel
theorem dL_law_141 : decode cL_law 141 = .ok (.iadd, 1) := by decide +kernel
theorem dL_law_142 : decode cL_law 142 = .ok (.iaload, 1) := by decide +kernel
theorem dL_law_143 : decode cL_law 143 = .ok (.invokevirtual 17, 3) := by decide +kernel
theorem dL_law_146 : decode cL_law 146 = .ok (.if_icmp .eq 484, 3) := by decide +kernel
theorem dL_law_149 : decode cL_law 149 = .ok (.iconst 0, 1) := by decide +kernel
theorem dL_law_150 : decode cL_law 150 = .ok (.ireturn, 1) := by decide +kernel
theorem dL_law_151 : decode cL_law 151 = .ok (.aload_n 1, 1) := by decide +kernel
theorem dL_law_152 : decode cL_law 152 = .ok (.aload_n 0, 1) := by decide +kernel
theorem dL_law_153 : decode cL_law 153 = .ok (.iload_n 3, 1) := by decide +kernel
theorem dL_law_154 : decode cL_law 154 = .ok (.iconst 1, 1) := by decide +kernel
theorem dL_law_155 : decode cL_law 155 = .ok (.iadd, 1) := by decide +kernel
theorem dL_law_156 : decode cL_law 156 = .ok (.iaload, 1) := by decide +kernel
theorem dL_law_157 : decode cL_law 157 = .ok (.invokevirtual 18, 3) := by decide +kernel
theorem dL_law_160 : decode cL_law 160 = .ok (.aload_n 2, 1) := by decide +kernel
theorem dL_law_161 : decode cL_law 161 = .ok (.aload_n 0, 1) := by decide +kernel
theorem dL_law_162 : decode cL_law 162 = .ok (.iload_n 3, 1) := by decide +kernel
theorem dL_law_163 : decode cL_law 163 = .ok (.iconst 1, 1) := by decide +kernel
theorem dL_law_164 : decode cL_law 164 = .ok (.iadd, 1) := by decide +kernel
theorem dL_law_165 : decode cL_law 165 = .ok (.iaload, 1) := by decide +kernel
theorem dL_law_166 : decode cL_law 166 = .ok (.invokevirtual 22, 3) := by decide +kernel
theorem dL_law_169 : decode cL_law 169 = .ok (.if_icmp .eq 461, 3) := by decide +kernel
theorem dL_law_172 : decode cL_law 172 = .ok (.iconst 0, 1) := by decide +kernel
theorem dL_law_173 : decode cL_law 173 = .ok (.ireturn, 1) := by decide +kernel
theorem dL_law_174 : decode cL_law 174 = .ok (.aload_n 1, 1) := by decide +kernel
theorem dL_law_175 : decode cL_law 175 = .ok (.aload_n 0, 1) := by decide +kernel
theorem dL_law_176 : decode cL_law 176 = .ok (.iload_n 3, 1) := by decide +kernel
theorem dL_law_177 : decode cL_law 177 = .ok (.iconst 1, 1) := by decide +kernel
theorem dL_law_178 : decode cL_law 178 = .ok (.iadd, 1) := by decide +kernel
theorem dL_law_179 : decode cL_law 179 = .ok (.iaload, 1) := by decide +kernel
theorem dL_law_180 : decode cL_law 180 = .ok (.aload_n 0, 1) := by decide +kernel
theorem dL_law_181 : decode cL_law 181 = .ok (.iload_n 3, 1) := by decide +kernel
theorem dL_law_182 : decode cL_law 182 = .ok (.iconst 2, 1) := by decide +kernel
theorem dL_law_183 : decode cL_law 183 = .ok (.iadd, 1) := by decide +kernel
theorem dL_law_184 : decode cL_law 184 = .ok (.iaload, 1) := by decide +kernel
theorem dL_law_185 : decode cL_law 185 = .ok (.invokevirtual 23, 3) := by decide +kernel
theorem dL_law_188 : decode cL_law 188 = .ok (.aload_n 2, 1) := by decide +kernel
theorem dL_law_189 : decode cL_law 189 = .ok (.aload_n 0, 1) := by decide +kernel
theorem dL_law_190 : decode cL_law 190 = .ok (.iload_n 3, 1) := by decide +kernel
theorem dL_law_191 : decode cL_law 191 = .ok (.iconst 1, 1) := by decide +kernel
theorem dL_law_192 : decode cL_law 192 = .ok (.iadd, 1) := by decide +kernel
theorem dL_law_193 : decode cL_law 193 = .ok (.iaload, 1) := by decide +kernel
theorem dL_law_194 : decode cL_law 194 = .ok (.aload_n 0, 1) := by decide +kernel
theorem dL_law_195 : decode cL_law 195 = .ok (.iload_n 3, 1) := by decide +kernel
theorem dL_law_196 : decode cL_law 196 = .ok (.iconst 2, 1) := by decide +kernel
theorem dL_law_197 : decode cL_law 197 = .ok (.iadd, 1) := by decide +kernel
theorem dL_law_198 : decode cL_law 198 = .ok (.iaload, 1) := by decide +kernel
theorem dL_law_199 : decode cL_law 199 = .ok (.invokevirtual 27, 3) := by decide +kernel
theorem dL_law_202 : decode cL_law 202 = .ok (.if_icmp .eq 428, 3) := by decide +kernel
theorem dL_law_205 : decode cL_law 205 = .ok (.iconst 0, 1) := by decide +kernel
theorem dL_law_206 : decode cL_law 206 = .ok (.ireturn, 1) := by decide +kernel
theorem dL_law_207 : decode cL_law 207 = .ok (.aload_n 1, 1) := by decide +kernel
theorem dL_law_208 : decode cL_law 208 = .ok (.aload_n 0, 1) := by decide +kernel
theorem dL_law_209 : decode cL_law 209 = .ok (.iload_n 3, 1) := by decide +kernel
theorem dL_law_210 : decode cL_law 210 = .ok (.iconst 1, 1) := by decide +kernel
theorem dL_law_211 : decode cL_law 211 = .ok (.iadd, 1) := by decide +kernel
theorem dL_law_212 : decode cL_law 212 = .ok (.iaload, 1) := by decide +kernel
theorem dL_law_213 : decode cL_law 213 = .ok (.aload_n 0, 1) := by decide +kernel
theorem dL_law_214 : decode cL_law 214 = .ok (.iload_n 3, 1) := by decide +kernel
theorem dL_law_215 : decode cL_law 215 = .ok (.iconst 2, 1) := by decide +kernel
theorem dL_law_216 : decode cL_law 216 = .ok (.iadd, 1) := by decide +kernel
theorem dL_law_217 : decode cL_law 217 = .ok (.iaload, 1) := by decide +kernel
theorem dL_law_218 : decode cL_law 218 = .ok (.aload_n 0, 1) := by decide +kernel
theorem dL_law_219 : decode cL_law 219 = .ok (.iload_n 3, 1) := by decide +kernel
theorem dL_law_220 : decode cL_law 220 = .ok (.iconst 3, 1) := by decide +kernel
theorem dL_law_221 : decode cL_law 221 = .ok (.iadd, 1) := by decide +kernel
theorem dL_law_222 : decode cL_law 222 = .ok (.iaload, 1) := by decide +kernel
theorem dL_law_223 : decode cL_law 223 = .ok (.aload_n 0, 1) := by decide +kernel
theorem dL_law_224 : decode cL_law 224 = .ok (.iload_n 3, 1) := by decide +kernel
theorem dL_law_225 : decode cL_law 225 = .ok (.iconst 4, 1) := by decide +kernel
theorem dL_law_226 : decode cL_law 226 = .ok (.iadd, 1) := by decide +kernel
theorem dL_law_227 : decode cL_law 227 = .ok (.iaload, 1) := by decide +kernel
theorem dL_law_228 : decode cL_law 228 = .ok (.aload_n 0, 1) := by decide +kernel
theorem dL_law_229 : decode cL_law 229 = .ok (.iload_n 3, 1) := by decide +kernel
theorem dL_law_230 : decode cL_law 230 = .ok (.iconst 5, 1) := by decide +kernel
theorem dL_law_231 : decode cL_law 231 = .ok (.iadd, 1) := by decide +kernel
theorem dL_law_232 : decode cL_law 232 = .ok (.iaload, 1) := by decide +kernel
theorem dL_law_233 : decode cL_law 233 = .ok (.aload_n 0, 1) := by decide +kernel
theorem dL_law_234 : decode cL_law 234 = .ok (.iload_n 3, 1) := by decide +kernel
theorem dL_law_235 : decode cL_law 235 = .ok (.bipush 6, 2) := by decide +kernel
theorem dL_law_237 : decode cL_law 237 = .ok (.iadd, 1) := by decide +kernel
theorem dL_law_238 : decode cL_law 238 = .ok (.iaload, 1) := by decide +kernel
theorem dL_law_239 : decode cL_law 239 = .ok (.aload_n 0, 1) := by decide +kernel
theorem dL_law_240 : decode cL_law 240 = .ok (.iload_n 3, 1) := by decide +kernel
theorem dL_law_241 : decode cL_law 241 = .ok (.bipush 7, 2) := by decide +kernel
theorem dL_law_243 : decode cL_law 243 = .ok (.iadd, 1) := by decide +kernel
theorem dL_law_244 : decode cL_law 244 = .ok (.iaload, 1) := by decide +kernel
theorem dL_law_245 : decode cL_law 245 = .ok (.aload_n 0, 1) := by decide +kernel
theorem dL_law_246 : decode cL_law 246 = .ok (.iload_n 3, 1) := by decide +kernel
theorem dL_law_247 : decode cL_law 247 = .ok (.bipush 8, 2) := by decide +kernel
theorem dL_law_249 : decode cL_law 249 = .ok (.iadd, 1) := by decide +kernel
theorem dL_law_250 : decode cL_law 250 = .ok (.iaload, 1) := by decide +kernel
theorem dL_law_251 : decode cL_law 251 = .ok (.invokevirtual 28, 3) := by decide +kernel
theorem dL_law_254 : decode cL_law 254 = .ok (.aload_n 2, 1) := by decide +kernel
theorem dL_law_255 : decode cL_law 255 = .ok (.aload_n 0, 1) := by decide +kernel
theorem dL_law_256 : decode cL_law 256 = .ok (.iload_n 3, 1) := by decide +kernel
theorem dL_law_257 : decode cL_law 257 = .ok (.iconst 1, 1) := by decide +kernel
theorem dL_law_258 : decode cL_law 258 = .ok (.iadd, 1) := by decide +kernel
theorem dL_law_259 : decode cL_law 259 = .ok (.iaload, 1) := by decide +kernel
theorem dL_law_260 : decode cL_law 260 = .ok (.aload_n 0, 1) := by decide +kernel
theorem dL_law_261 : decode cL_law 261 = .ok (.iload_n 3, 1) := by decide +kernel
theorem dL_law_262 : decode cL_law 262 = .ok (.iconst 2, 1) := by decide +kernel
theorem dL_law_263 : decode cL_law 263 = .ok (.iadd, 1) := by decide +kernel
theorem dL_law_264 : decode cL_law 264 = .ok (.iaload, 1) := by decide +kernel
theorem dL_law_265 : decode cL_law 265 = .ok (.aload_n 0, 1) := by decide +kernel
theorem dL_law_266 : decode cL_law 266 = .ok (.iload_n 3, 1) := by decide +kernel
theorem dL_law_267 : decode cL_law 267 = .ok (.iconst 3, 1) := by decide +kernel
theorem dL_law_268 : decode cL_law 268 = .ok (.iadd, 1) := by decide +kernel
theorem dL_law_269 : decode cL_law 269 = .ok (.iaload, 1) := by decide +kernel
theorem dL_law_270 : decode cL_law 270 = .ok (.aload_n 0, 1) := by decide +kernel
theorem dL_law_271 : decode cL_law 271 = .ok (.iload_n 3, 1) := by decide +kernel
theorem dL_law_272 : decode cL_law 272 = .ok (.iconst 4, 1) := by decide +kernel
theorem dL_law_273 : decode cL_law 273 = .ok (.iadd, 1) := by decide +kernel
theorem dL_law_274 : decode cL_law 274 = .ok (.iaload, 1) := by decide +kernel
theorem dL_law_275 : decode cL_law 275 = .ok (.aload_n 0, 1) := by decide +kernel
theorem dL_law_276 : decode cL_law 276 = .ok (.iload_n 3, 1) := by decide +kernel
theorem dL_law_277 : decode cL_law 277 = .ok (.iconst 5, 1) := by decide +kernel
theorem dL_law_278 : decode cL_law 278 = .ok (.iadd, 1) := by decide +kernel
theorem dL_law_279 : decode cL_law 279 = .ok (.iaload, 1) := by decide +kernel
theorem dL_law_280 : decode cL_law 280 = .ok (.aload_n 0, 1) := by decide +kernel
theorem dL_law_281 : decode cL_law 281 = .ok (.iload_n 3, 1) := by decide +kernel
theorem dL_law_282 : decode cL_law 282 = .ok (.bipush 6, 2) := by decide +kernel
theorem dL_law_284 : decode cL_law 284 = .ok (.iadd, 1) := by decide +kernel
theorem dL_law_285 : decode cL_law 285 = .ok (.iaload, 1) := by decide +kernel
theorem dL_law_286 : decode cL_law 286 = .ok (.aload_n 0, 1) := by decide +kernel
theorem dL_law_287 : decode cL_law 287 = .ok (.iload_n 3, 1) := by decide +kernel
theorem dL_law_288 : decode cL_law 288 = .ok (.bipush 7, 2) := by decide +kernel
theorem dL_law_290 : decode cL_law 290 = .ok (.iadd, 1) := by decide +kernel
theorem dL_law_291 : decode cL_law 291 = .ok (.iaload, 1) := by decide +kernel
theorem dL_law_292 : decode cL_law 292 = .ok (.aload_n 0, 1) := by decide +kernel
theorem dL_law_293 : decode cL_law 293 = .ok (.iload_n 3, 1) := by decide +kernel
theorem dL_law_294 : decode cL_law 294 = .ok (.bipush 8, 2) := by decide +kernel
theorem dL_law_296 : decode cL_law 296 = .ok (.iadd, 1) := by decide +kernel
theorem dL_law_297 : decode cL_law 297 = .ok (.iaload, 1) := by decide +kernel
theorem dL_law_298 : decode cL_law 298 = .ok (.invokevirtual 32, 3) := by decide +kernel
theorem dL_law_301 : decode cL_law 301 = .ok (.if_icmp .eq 329, 3) := by decide +kernel
theorem dL_law_304 : decode cL_law 304 = .ok (.iconst 0, 1) := by decide +kernel
theorem dL_law_305 : decode cL_law 305 = .ok (.ireturn, 1) := by decide +kernel
theorem dL_law_306 : decode cL_law 306 = .ok (.aload_n 1, 1) := by decide +kernel
theorem dL_law_307 : decode cL_law 307 = .ok (.aload_n 0, 1) := by decide +kernel
theorem dL_law_308 : decode cL_law 308 = .ok (.iload_n 3, 1) := by decide +kernel
theorem dL_law_309 : decode cL_law 309 = .ok (.iconst 1, 1) := by decide +kernel
theorem dL_law_310 : decode cL_law 310 = .ok (.iadd, 1) := by decide +kernel
theorem dL_law_311 : decode cL_law 311 = .ok (.iaload, 1) := by decide +kernel
theorem dL_law_312 : decode cL_law 312 = .ok (.aload_n 0, 1) := by decide +kernel
theorem dL_law_313 : decode cL_law 313 = .ok (.iload_n 3, 1) := by decide +kernel
theorem dL_law_314 : decode cL_law 314 = .ok (.iconst 2, 1) := by decide +kernel
theorem dL_law_315 : decode cL_law 315 = .ok (.iadd, 1) := by decide +kernel
theorem dL_law_316 : decode cL_law 316 = .ok (.iaload, 1) := by decide +kernel
theorem dL_law_317 : decode cL_law 317 = .ok (.invokevirtual 33, 3) := by decide +kernel
theorem dL_law_320 : decode cL_law 320 = .ok (.aload_n 2, 1) := by decide +kernel
theorem dL_law_321 : decode cL_law 321 = .ok (.aload_n 0, 1) := by decide +kernel
theorem dL_law_322 : decode cL_law 322 = .ok (.iload_n 3, 1) := by decide +kernel
theorem dL_law_323 : decode cL_law 323 = .ok (.iconst 1, 1) := by decide +kernel
theorem dL_law_324 : decode cL_law 324 = .ok (.iadd, 1) := by decide +kernel
theorem dL_law_325 : decode cL_law 325 = .ok (.iaload, 1) := by decide +kernel
theorem dL_law_326 : decode cL_law 326 = .ok (.aload_n 0, 1) := by decide +kernel
theorem dL_law_327 : decode cL_law 327 = .ok (.iload_n 3, 1) := by decide +kernel
theorem dL_law_328 : decode cL_law 328 = .ok (.iconst 2, 1) := by decide +kernel
theorem dL_law_329 : decode cL_law 329 = .ok (.iadd, 1) := by decide +kernel
theorem dL_law_330 : decode cL_law 330 = .ok (.iaload, 1) := by decide +kernel
theorem dL_law_331 : decode cL_law 331 = .ok (.invokevirtual 36, 3) := by decide +kernel
theorem dL_law_334 : decode cL_law 334 = .ok (.if_icmp .eq 296, 3) := by decide +kernel
theorem dL_law_337 : decode cL_law 337 = .ok (.iconst 0, 1) := by decide +kernel
theorem dL_law_338 : decode cL_law 338 = .ok (.ireturn, 1) := by decide +kernel
theorem dL_law_339 : decode cL_law 339 = .ok (.aload_n 1, 1) := by decide +kernel
theorem dL_law_340 : decode cL_law 340 = .ok (.aload_n 0, 1) := by decide +kernel
theorem dL_law_341 : decode cL_law 341 = .ok (.iload_n 3, 1) := by decide +kernel
theorem dL_law_342 : decode cL_law 342 = .ok (.iconst 1, 1) := by decide +kernel
theorem dL_law_343 : decode cL_law 343 = .ok (.iadd, 1) := by decide +kernel
theorem dL_law_344 : decode cL_law 344 = .ok (.iaload, 1) := by decide +kernel
theorem dL_law_345 : decode cL_law 345 = .ok (.aload_n 0, 1) := by decide +kernel
theorem dL_law_346 : decode cL_law 346 = .ok (.iload_n 3, 1) := by decide +kernel
theorem dL_law_347 : decode cL_law 347 = .ok (.iconst 2, 1) := by decide +kernel
theorem dL_law_348 : decode cL_law 348 = .ok (.iadd, 1) := by decide +kernel
theorem dL_law_349 : decode cL_law 349 = .ok (.iaload, 1) := by decide +kernel
theorem dL_law_350 : decode cL_law 350 = .ok (.invokevirtual 37, 3) := by decide +kernel
theorem dL_law_353 : decode cL_law 353 = .ok (.aload_n 2, 1) := by decide +kernel
theorem dL_law_354 : decode cL_law 354 = .ok (.aload_n 0, 1) := by decide +kernel
theorem dL_law_355 : decode cL_law 355 = .ok (.iload_n 3, 1) := by decide +kernel
theorem dL_law_356 : decode cL_law 356 = .ok (.iconst 1, 1) := by decide +kernel
theorem dL_law_357 : decode cL_law 357 = .ok (.iadd, 1) := by decide +kernel
theorem dL_law_358 : decode cL_law 358 = .ok (.iaload, 1) := by decide +kernel
theorem dL_law_359 : decode cL_law 359 = .ok (.aload_n 0, 1) := by decide +kernel
theorem dL_law_360 : decode cL_law 360 = .ok (.iload_n 3, 1) := by decide +kernel
theorem dL_law_361 : decode cL_law 361 = .ok (.iconst 2, 1) := by decide +kernel
theorem dL_law_362 : decode cL_law 362 = .ok (.iadd, 1) := by decide +kernel
theorem dL_law_363 : decode cL_law 363 = .ok (.iaload, 1) := by decide +kernel
theorem dL_law_364 : decode cL_law 364 = .ok (.invokevirtual 40, 3) := by decide +kernel
theorem dL_law_367 : decode cL_law 367 = .ok (.if_icmp .eq 263, 3) := by decide +kernel
theorem dL_law_370 : decode cL_law 370 = .ok (.iconst 0, 1) := by decide +kernel
theorem dL_law_371 : decode cL_law 371 = .ok (.ireturn, 1) := by decide +kernel
theorem dL_law_372 : decode cL_law 372 = .ok (.aload_n 1, 1) := by decide +kernel
theorem dL_law_373 : decode cL_law 373 = .ok (.aload_n 0, 1) := by decide +kernel
theorem dL_law_374 : decode cL_law 374 = .ok (.iload_n 3, 1) := by decide +kernel
theorem dL_law_375 : decode cL_law 375 = .ok (.iconst 1, 1) := by decide +kernel
theorem dL_law_376 : decode cL_law 376 = .ok (.iadd, 1) := by decide +kernel
theorem dL_law_377 : decode cL_law 377 = .ok (.iaload, 1) := by decide +kernel
theorem dL_law_378 : decode cL_law 378 = .ok (.aload_n 0, 1) := by decide +kernel
theorem dL_law_379 : decode cL_law 379 = .ok (.iload_n 3, 1) := by decide +kernel
theorem dL_law_380 : decode cL_law 380 = .ok (.iconst 2, 1) := by decide +kernel
theorem dL_law_381 : decode cL_law 381 = .ok (.iadd, 1) := by decide +kernel
theorem dL_law_382 : decode cL_law 382 = .ok (.iaload, 1) := by decide +kernel
theorem dL_law_383 : decode cL_law 383 = .ok (.invokevirtual 41, 3) := by decide +kernel
theorem dL_law_386 : decode cL_law 386 = .ok (.aload_n 2, 1) := by decide +kernel
theorem dL_law_387 : decode cL_law 387 = .ok (.aload_n 0, 1) := by decide +kernel
theorem dL_law_388 : decode cL_law 388 = .ok (.iload_n 3, 1) := by decide +kernel
theorem dL_law_389 : decode cL_law 389 = .ok (.iconst 1, 1) := by decide +kernel
theorem dL_law_390 : decode cL_law 390 = .ok (.iadd, 1) := by decide +kernel
theorem dL_law_391 : decode cL_law 391 = .ok (.iaload, 1) := by decide +kernel
theorem dL_law_392 : decode cL_law 392 = .ok (.aload_n 0, 1) := by decide +kernel
theorem dL_law_393 : decode cL_law 393 = .ok (.iload_n 3, 1) := by decide +kernel
theorem dL_law_394 : decode cL_law 394 = .ok (.iconst 2, 1) := by decide +kernel
theorem dL_law_395 : decode cL_law 395 = .ok (.iadd, 1) := by decide +kernel
theorem dL_law_396 : decode cL_law 396 = .ok (.iaload, 1) := by decide +kernel
theorem dL_law_397 : decode cL_law 397 = .ok (.invokevirtual 44, 3) := by decide +kernel
theorem dL_law_400 : decode cL_law 400 = .ok (.if_icmp .eq 230, 3) := by decide +kernel
theorem dL_law_403 : decode cL_law 403 = .ok (.iconst 0, 1) := by decide +kernel
theorem dL_law_404 : decode cL_law 404 = .ok (.ireturn, 1) := by decide +kernel
theorem dL_law_405 : decode cL_law 405 = .ok (.aload_n 1, 1) := by decide +kernel
theorem dL_law_406 : decode cL_law 406 = .ok (.aload_n 0, 1) := by decide +kernel
theorem dL_law_407 : decode cL_law 407 = .ok (.iload_n 3, 1) := by decide +kernel
theorem dL_law_408 : decode cL_law 408 = .ok (.iconst 1, 1) := by decide +kernel
theorem dL_law_409 : decode cL_law 409 = .ok (.iadd, 1) := by decide +kernel
theorem dL_law_410 : decode cL_law 410 = .ok (.iaload, 1) := by decide +kernel
theorem dL_law_411 : decode cL_law 411 = .ok (.aload_n 0, 1) := by decide +kernel
theorem dL_law_412 : decode cL_law 412 = .ok (.iload_n 3, 1) := by decide +kernel
theorem dL_law_413 : decode cL_law 413 = .ok (.iconst 2, 1) := by decide +kernel
theorem dL_law_414 : decode cL_law 414 = .ok (.iadd, 1) := by decide +kernel
theorem dL_law_415 : decode cL_law 415 = .ok (.iaload, 1) := by decide +kernel
theorem dL_law_416 : decode cL_law 416 = .ok (.aload_n 0, 1) := by decide +kernel
theorem dL_law_417 : decode cL_law 417 = .ok (.iload_n 3, 1) := by decide +kernel
theorem dL_law_418 : decode cL_law 418 = .ok (.iconst 3, 1) := by decide +kernel
theorem dL_law_419 : decode cL_law 419 = .ok (.iadd, 1) := by decide +kernel
theorem dL_law_420 : decode cL_law 420 = .ok (.iaload, 1) := by decide +kernel
theorem dL_law_421 : decode cL_law 421 = .ok (.aload_n 0, 1) := by decide +kernel
theorem dL_law_422 : decode cL_law 422 = .ok (.iload_n 3, 1) := by decide +kernel
theorem dL_law_423 : decode cL_law 423 = .ok (.iconst 4, 1) := by decide +kernel
theorem dL_law_424 : decode cL_law 424 = .ok (.iadd, 1) := by decide +kernel
theorem dL_law_425 : decode cL_law 425 = .ok (.iaload, 1) := by decide +kernel
theorem dL_law_426 : decode cL_law 426 = .ok (.invokevirtual 45, 3) := by decide +kernel
theorem dL_law_429 : decode cL_law 429 = .ok (.aload_n 2, 1) := by decide +kernel
theorem dL_law_430 : decode cL_law 430 = .ok (.aload_n 0, 1) := by decide +kernel
theorem dL_law_431 : decode cL_law 431 = .ok (.iload_n 3, 1) := by decide +kernel
theorem dL_law_432 : decode cL_law 432 = .ok (.iconst 1, 1) := by decide +kernel
theorem dL_law_433 : decode cL_law 433 = .ok (.iadd, 1) := by decide +kernel
theorem dL_law_434 : decode cL_law 434 = .ok (.iaload, 1) := by decide +kernel
theorem dL_law_435 : decode cL_law 435 = .ok (.aload_n 0, 1) := by decide +kernel
theorem dL_law_436 : decode cL_law 436 = .ok (.iload_n 3, 1) := by decide +kernel
theorem dL_law_437 : decode cL_law 437 = .ok (.iconst 2, 1) := by decide +kernel
theorem dL_law_438 : decode cL_law 438 = .ok (.iadd, 1) := by decide +kernel
theorem dL_law_439 : decode cL_law 439 = .ok (.iaload, 1) := by decide +kernel
theorem dL_law_440 : decode cL_law 440 = .ok (.aload_n 0, 1) := by decide +kernel
theorem dL_law_441 : decode cL_law 441 = .ok (.iload_n 3, 1) := by decide +kernel
theorem dL_law_442 : decode cL_law 442 = .ok (.iconst 3, 1) := by decide +kernel
theorem dL_law_443 : decode cL_law 443 = .ok (.iadd, 1) := by decide +kernel
theorem dL_law_444 : decode cL_law 444 = .ok (.iaload, 1) := by decide +kernel
theorem dL_law_445 : decode cL_law 445 = .ok (.aload_n 0, 1) := by decide +kernel
theorem dL_law_446 : decode cL_law 446 = .ok (.iload_n 3, 1) := by decide +kernel
theorem dL_law_447 : decode cL_law 447 = .ok (.iconst 4, 1) := by decide +kernel
theorem dL_law_448 : decode cL_law 448 = .ok (.iadd, 1) := by decide +kernel
theorem dL_law_449 : decode cL_law 449 = .ok (.iaload, 1) := by decide +kernel
theorem dL_law_450 : decode cL_law 450 = .ok (.invokevirtual 49, 3) := by decide +kernel
theorem dL_law_453 : decode cL_law 453 = .ok (.if_icmp .eq 177, 3) := by decide +kernel
theorem dL_law_456 : decode cL_law 456 = .ok (.iconst 0, 1) := by decide +kernel
theorem dL_law_457 : decode cL_law 457 = .ok (.ireturn, 1) := by decide +kernel
theorem dL_law_458 : decode cL_law 458 = .ok (.aload_n 1, 1) := by decide +kernel
theorem dL_law_459 : decode cL_law 459 = .ok (.aload_n 0, 1) := by decide +kernel
theorem dL_law_460 : decode cL_law 460 = .ok (.iload_n 3, 1) := by decide +kernel
theorem dL_law_461 : decode cL_law 461 = .ok (.iconst 1, 1) := by decide +kernel
theorem dL_law_462 : decode cL_law 462 = .ok (.iadd, 1) := by decide +kernel
theorem dL_law_463 : decode cL_law 463 = .ok (.iaload, 1) := by decide +kernel
theorem dL_law_464 : decode cL_law 464 = .ok (.invokevirtual 50, 3) := by decide +kernel
theorem dL_law_467 : decode cL_law 467 = .ok (.aload_n 2, 1) := by decide +kernel
theorem dL_law_468 : decode cL_law 468 = .ok (.aload_n 0, 1) := by decide +kernel
theorem dL_law_469 : decode cL_law 469 = .ok (.iload_n 3, 1) := by decide +kernel
theorem dL_law_470 : decode cL_law 470 = .ok (.iconst 1, 1) := by decide +kernel
theorem dL_law_471 : decode cL_law 471 = .ok (.iadd, 1) := by decide +kernel
theorem dL_law_472 : decode cL_law 472 = .ok (.iaload, 1) := by decide +kernel
theorem dL_law_473 : decode cL_law 473 = .ok (.invokevirtual 53, 3) := by decide +kernel
theorem dL_law_476 : decode cL_law 476 = .ok (.if_icmp .eq 154, 3) := by decide +kernel
theorem dL_law_479 : decode cL_law 479 = .ok (.iconst 0, 1) := by decide +kernel
theorem dL_law_480 : decode cL_law 480 = .ok (.ireturn, 1) := by decide +kernel
theorem dL_law_481 : decode cL_law 481 = .ok (.aload_n 1, 1) := by decide +kernel
theorem dL_law_482 : decode cL_law 482 = .ok (.aload_n 0, 1) := by decide +kernel
theorem dL_law_483 : decode cL_law 483 = .ok (.iload_n 3, 1) := by decide +kernel
theorem dL_law_484 : decode cL_law 484 = .ok (.iconst 1, 1) := by decide +kernel
theorem dL_law_485 : decode cL_law 485 = .ok (.iadd, 1) := by decide +kernel
theorem dL_law_486 : decode cL_law 486 = .ok (.iaload, 1) := by decide +kernel
theorem dL_law_487 : decode cL_law 487 = .ok (.aload_n 0, 1) := by decide +kernel
theorem dL_law_488 : decode cL_law 488 = .ok (.iload_n 3, 1) := by decide +kernel
theorem dL_law_489 : decode cL_law 489 = .ok (.iconst 2, 1) := by decide +kernel
theorem dL_law_490 : decode cL_law 490 = .ok (.iadd, 1) := by decide +kernel
theorem dL_law_491 : decode cL_law 491 = .ok (.iaload, 1) := by decide +kernel
theorem dL_law_492 : decode cL_law 492 = .ok (.invokevirtual 54, 3) := by decide +kernel
theorem dL_law_495 : decode cL_law 495 = .ok (.aload_n 2, 1) := by decide +kernel
theorem dL_law_496 : decode cL_law 496 = .ok (.aload_n 0, 1) := by decide +kernel
theorem dL_law_497 : decode cL_law 497 = .ok (.iload_n 3, 1) := by decide +kernel
theorem dL_law_498 : decode cL_law 498 = .ok (.iconst 1, 1) := by decide +kernel
theorem dL_law_499 : decode cL_law 499 = .ok (.iadd, 1) := by decide +kernel
theorem dL_law_500 : decode cL_law 500 = .ok (.iaload, 1) := by decide +kernel
theorem dL_law_501 : decode cL_law 501 = .ok (.aload_n 0, 1) := by decide +kernel
theorem dL_law_502 : decode cL_law 502 = .ok (.iload_n 3, 1) := by decide +kernel
theorem dL_law_503 : decode cL_law 503 = .ok (.iconst 2, 1) := by decide +kernel
theorem dL_law_504 : decode cL_law 504 = .ok (.iadd, 1) := by decide +kernel
theorem dL_law_505 : decode cL_law 505 = .ok (.iaload, 1) := by decide +kernel
theorem dL_law_506 : decode cL_law 506 = .ok (.invokevirtual 57, 3) := by decide +kernel
theorem dL_law_509 : decode cL_law 509 = .ok (.if_icmp .eq 121, 3) := by decide +kernel
theorem dL_law_512 : decode cL_law 512 = .ok (.iconst 0, 1) := by decide +kernel
theorem dL_law_513 : decode cL_law 513 = .ok (.ireturn, 1) := by decide +kernel
theorem dL_law_514 : decode cL_law 514 = .ok (.aload_n 1, 1) := by decide +kernel
theorem dL_law_515 : decode cL_law 515 = .ok (.aload_n 0, 1) := by decide +kernel
theorem dL_law_516 : decode cL_law 516 = .ok (.iload_n 3, 1) := by decide +kernel
theorem dL_law_517 : decode cL_law 517 = .ok (.iconst 1, 1) := by decide +kernel
theorem dL_law_518 : decode cL_law 518 = .ok (.iadd, 1) := by decide +kernel
theorem dL_law_519 : decode cL_law 519 = .ok (.iaload, 1) := by decide +kernel
theorem dL_law_520 : decode cL_law 520 = .ok (.invokevirtual 58, 3) := by decide +kernel
theorem dL_law_523 : decode cL_law 523 = .ok (.aload_n 2, 1) := by decide +kernel
theorem dL_law_524 : decode cL_law 524 = .ok (.aload_n 0, 1) := by decide +kernel
theorem dL_law_525 : decode cL_law 525 = .ok (.iload_n 3, 1) := by decide +kernel
theorem dL_law_526 : decode cL_law 526 = .ok (.iconst 1, 1) := by decide +kernel
theorem dL_law_527 : decode cL_law 527 = .ok (.iadd, 1) := by decide +kernel
theorem dL_law_528 : decode cL_law 528 = .ok (.iaload, 1) := by decide +kernel
theorem dL_law_529 : decode cL_law 529 = .ok (.invokevirtual 61, 3) := by decide +kernel
theorem dL_law_532 : decode cL_law 532 = .ok (.if_icmp .eq 98, 3) := by decide +kernel
theorem dL_law_535 : decode cL_law 535 = .ok (.iconst 0, 1) := by decide +kernel
theorem dL_law_536 : decode cL_law 536 = .ok (.ireturn, 1) := by decide +kernel
theorem dL_law_537 : decode cL_law 537 = .ok (.aload_n 1, 1) := by decide +kernel
theorem dL_law_538 : decode cL_law 538 = .ok (.aload_n 0, 1) := by decide +kernel
theorem dL_law_539 : decode cL_law 539 = .ok (.iload_n 3, 1) := by decide +kernel
theorem dL_law_540 : decode cL_law 540 = .ok (.iconst 1, 1) := by decide +kernel
theorem dL_law_541 : decode cL_law 541 = .ok (.iadd, 1) := by decide +kernel
theorem dL_law_542 : decode cL_law 542 = .ok (.iaload, 1) := by decide +kernel
theorem dL_law_543 : decode cL_law 543 = .ok (.invokevirtual 62, 3) := by decide +kernel
theorem dL_law_546 : decode cL_law 546 = .ok (.aload_n 2, 1) := by decide +kernel
theorem dL_law_547 : decode cL_law 547 = .ok (.aload_n 0, 1) := by decide +kernel
theorem dL_law_548 : decode cL_law 548 = .ok (.iload_n 3, 1) := by decide +kernel
theorem dL_law_549 : decode cL_law 549 = .ok (.iconst 1, 1) := by decide +kernel
theorem dL_law_550 : decode cL_law 550 = .ok (.iadd, 1) := by decide +kernel
theorem dL_law_551 : decode cL_law 551 = .ok (.iaload, 1) := by decide +kernel
theorem dL_law_552 : decode cL_law 552 = .ok (.invokevirtual 65, 3) := by decide +kernel
theorem dL_law_555 : decode cL_law 555 = .ok (.if_icmp .eq 75, 3) := by decide +kernel
theorem dL_law_558 : decode cL_law 558 = .ok (.iconst 0, 1) := by decide +kernel
theorem dL_law_559 : decode cL_law 559 = .ok (.ireturn, 1) := by decide +kernel
theorem dL_law_560 : decode cL_law 560 = .ok (.aload_n 1, 1) := by decide +kernel
theorem dL_law_561 : decode cL_law 561 = .ok (.aload_n 0, 1) := by decide +kernel
theorem dL_law_562 : decode cL_law 562 = .ok (.iload_n 3, 1) := by decide +kernel
theorem dL_law_563 : decode cL_law 563 = .ok (.iconst 1, 1) := by decide +kernel
theorem dL_law_564 : decode cL_law 564 = .ok (.iadd, 1) := by decide +kernel
theorem dL_law_565 : decode cL_law 565 = .ok (.iaload, 1) := by decide +kernel
theorem dL_law_566 : decode cL_law 566 = .ok (.aload_n 0, 1) := by decide +kernel
theorem dL_law_567 : decode cL_law 567 = .ok (.iload_n 3, 1) := by decide +kernel
theorem dL_law_568 : decode cL_law 568 = .ok (.iconst 2, 1) := by decide +kernel
theorem dL_law_569 : decode cL_law 569 = .ok (.iadd, 1) := by decide +kernel
theorem dL_law_570 : decode cL_law 570 = .ok (.iaload, 1) := by decide +kernel
theorem dL_law_571 : decode cL_law 571 = .ok (.invokevirtual 66, 3) := by decide +kernel
theorem dL_law_574 : decode cL_law 574 = .ok (.aload_n 2, 1) := by decide +kernel
theorem dL_law_575 : decode cL_law 575 = .ok (.aload_n 0, 1) := by decide +kernel
theorem dL_law_576 : decode cL_law 576 = .ok (.iload_n 3, 1) := by decide +kernel
theorem dL_law_577 : decode cL_law 577 = .ok (.iconst 1, 1) := by decide +kernel
theorem dL_law_578 : decode cL_law 578 = .ok (.iadd, 1) := by decide +kernel
theorem dL_law_579 : decode cL_law 579 = .ok (.iaload, 1) := by decide +kernel
theorem dL_law_580 : decode cL_law 580 = .ok (.aload_n 0, 1) := by decide +kernel
theorem dL_law_581 : decode cL_law 581 = .ok (.iload_n 3, 1) := by decide +kernel
theorem dL_law_582 : decode cL_law 582 = .ok (.iconst 2, 1) := by decide +kernel
theorem dL_law_583 : decode cL_law 583 = .ok (.iadd, 1) := by decide +kernel
theorem dL_law_584 : decode cL_law 584 = .ok (.iaload, 1) := by decide +kernel
theorem dL_law_585 : decode cL_law 585 = .ok (.invokevirtual 69, 3) := by decide +kernel
theorem dL_law_588 : decode cL_law 588 = .ok (.if_icmp .eq 42, 3) := by decide +kernel
theorem dL_law_591 : decode cL_law 591 = .ok (.iconst 0, 1) := by decide +kernel
theorem dL_law_592 : decode cL_law 592 = .ok (.ireturn, 1) := by decide +kernel
theorem dL_law_593 : decode cL_law 593 = .ok (.aload_n 1, 1) := by decide +kernel
theorem dL_law_594 : decode cL_law 594 = .ok (.aload_n 0, 1) := by decide +kernel
theorem dL_law_595 : decode cL_law 595 = .ok (.iload_n 3, 1) := by decide +kernel
theorem dL_law_596 : decode cL_law 596 = .ok (.iconst 1, 1) := by decide +kernel
theorem dL_law_597 : decode cL_law 597 = .ok (.iadd, 1) := by decide +kernel
theorem dL_law_598 : decode cL_law 598 = .ok (.iaload, 1) := by decide +kernel
theorem dL_law_599 : decode cL_law 599 = .ok (.invokevirtual 70, 3) := by decide +kernel
theorem dL_law_602 : decode cL_law 602 = .ok (.aload_n 2, 1) := by decide +kernel
theorem dL_law_603 : decode cL_law 603 = .ok (.aload_n 0, 1) := by decide +kernel
theorem dL_law_604 : decode cL_law 604 = .ok (.iload_n 3, 1) := by decide +kernel
theorem dL_law_605 : decode cL_law 605 = .ok (.iconst 1, 1) := by decide +kernel
theorem dL_law_606 : decode cL_law 606 = .ok (.iadd, 1) := by decide +kernel
theorem dL_law_607 : decode cL_law 607 = .ok (.iaload, 1) := by decide +kernel
theorem dL_law_608 : decode cL_law 608 = .ok (.invokevirtual 73, 3) := by decide +kernel
theorem dL_law_611 : decode cL_law 611 = .ok (.if_icmp .eq 19, 3) := by decide +kernel
theorem dL_law_614 : decode cL_law 614 = .ok (.iconst 0, 1) := by decide +kernel
theorem dL_law_615 : decode cL_law 615 = .ok (.ireturn, 1) := by decide +kernel
theorem dL_law_616 : decode cL_law 616 = .ok (.aload_n 1, 1) := by decide +kernel
theorem dL_law_617 : decode cL_law 617 = .ok (.invokevirtual 74, 3) := by decide +kernel
theorem dL_law_620 : decode cL_law 620 = .ok (.aload_n 2, 1) := by decide +kernel
theorem dL_law_621 : decode cL_law 621 = .ok (.invokevirtual 78, 3) := by decide +kernel
theorem dL_law_624 : decode cL_law 624 = .ok (.lcmp, 1) := by decide +kernel
theorem dL_law_625 : decode cL_law 625 = .ok (.ifCond .eq 5, 3) := by decide +kernel
theorem dL_law_628 : decode cL_law 628 = .ok (.iconst 0, 1) := by decide +kernel
theorem dL_law_629 : decode cL_law 629 = .ok (.ireturn, 1) := by decide +kernel
theorem dL_law_630 : decode cL_law 630 = .ok (.iinc 3 9, 3) := by decide +kernel
theorem dL_law_633 : decode cL_law 633 = .ok (.goto (-615), 3) := by decide +kernel
theorem dL_law_636 : decode cL_law 636 = .ok (.iconst 1, 1) := by decide +kernel
theorem dL_law_637 : decode cL_law 637 = .ok (.ireturn, 1) := by decide +kernel
abbrev vwCl : List vw_C := [(RX0, TX0, 5), (RX1, TX1, 11), (RX2, TX2, 6), (RX3, TX3, 3), (RX4, TX4, 14), (RX5, TX5, 32)]
end
section
/-! THE PICTURE: places instead of addresses; ints, references, longs and kinds by place and slot -/
abbrev ip_V : Type := Int32 ⊕ (Option Nat ⊕ Int64)
abbrev ip_S : Type := (Nat → Nat → Int32) × (Nat → Nat → Option Nat) × (Nat → Nat → Int64) × (Nat → Nat × Nat)
def ip_cv (ad : Nat → Nat) : ip_V → Value
  | .inl x => .int x
  | .inr (.inl r) => va_rf (r.map ad)
  | .inr (.inr x) => .long x
def ip_al (S : ip_S) (p : Nat) : Prop := (S.2.2.2 p).1 < 10
def ip_ax (S : ip_S) (p : Nat) : Prop := ip_al S p ∨ p = 99
def ip_ok (S : ip_S) (v : ip_V) : Prop := ∀ p, v = .inr (.inl (some p)) → ip_ax S p
def ip_cl (S : ip_S) : Prop := ∀ p k q, S.2.1 p k = some q → ip_ax S q
/-- the fields' types, class by class: 0 int, 1 reference, 2 long -/
def ip_ty : Nat → List Nat
  | 0 => [0, 1, 0, 0, 0]
  | 1 => [0, 0, 1, 0, 0, 0, 0, 0, 0, 0, 0]
  | 2 => [1, 1, 1, 1, 0, 0]
  | 3 => [1, 1, 1]
  | 4 => [1, 1, 0, 1, 0, 1, 0, 1, 0, 0, 0, 0, 0, 2]
  | 5 => [0, 1, 1, 1, 0, 1, 1, 1, 1, 1, 0, 0, 0, 0, 1, 0, 1, 1, 1, 1, 1, 1, 1, 1, 1, 1, 0, 2, 0, 1, 1, 1]
  | _ => []
def ip_fv (ad : Nat → Nat) (S : ip_S) (p k t : Nat) : Value := match t with
  | 0 => .int (S.1 p k)
  | 1 => va_rf ((S.2.1 p k).map ad)
  | _ => .long (S.2.2.1 p k)
def ip_fs (ad : Nat → Nat) (S : ip_S) (p : Nat) : List Nat → Nat → List Value
  | [], _ => []
  | t :: ts, k => ip_fv ad S p k t :: ip_fs ad S p ts (k + 1)
theorem ip_fs_at (ad : Nat → Nat) (S : ip_S) (p : Nat) : ∀ (ts : List Nat) (k j : Nat), (ip_fs ad S p ts k)[j]? = (ts[j]?).map (fun t => ip_fv ad S p (k + j) t)
  | [], k, j => by simp [ip_fs]
  | t :: ts, k, 0 => by simp [ip_fs]
  | t :: ts, k, j + 1 => by
    simp only [ip_fs, List.getElem?_cons_succ]
    rw [ip_fs_at ad S p ts (k + 1) j, show k + 1 + j = k + (j + 1) by omega]
theorem ip_fs_len (ad : Nat → Nat) (S : ip_S) (p : Nat) : ∀ (ts : List Nat) (k : Nat), (ip_fs ad S p ts k).length = ts.length
  | [], k => rfl
  | t :: ts, k => by simp [ip_fs, ip_fs_len ad S p ts (k + 1)]
def ip_E (cA : Nat → ClassId) (ad : Nat → Nat) (S : ip_S) (p : Nat) : va_E :=
  if (S.2.2.2 p).1 < 6 then .inr ((S.2.2.2 p).1, ip_fs ad S p (ip_ty (S.2.2.2 p).1) 0)
  else if (S.2.2.2 p).1 < 8 then .inl (cA (S.2.2.2 p).1, (S.2.2.2 p).2, .inl (S.1 p))
  else .inl (cA (S.2.2.2 p).1, (S.2.2.2 p).2, .inr (.inr (.inr (.inr (fun i => (S.2.1 p i).map ad)))))
def ip_wl (cA : Nat → ClassId) (ad : Nat → Nat) (L : List Nat) (S : ip_S) : va_W := L.map (fun p => (ad p, ip_E cA ad S p))
def ip_tys (cA : Nat → ClassId) : List (ClassId × FieldType) := [(cA 6, .int), (cA 7, .boolean), (cA 8, .object RX0), (cA 9, .object RX1)]
/-- writes -/
def ip_sI (S : ip_S) (p k : Nat) (v : Int32) : ip_S := (fun q j => if q = p ∧ j = k then v else S.1 q j, S.2)
def ip_sR (S : ip_S) (p k : Nat) (v : Option Nat) : ip_S := (S.1, fun q j => if q = p ∧ j = k then v else S.2.1 q j, S.2.2)
def ip_sJ (S : ip_S) (p k : Nat) (v : Int64) : ip_S := (S.1, S.2.1, fun q j => if q = p ∧ j = k then v else S.2.2.1 q j, S.2.2.2)
def ip_nw (S : ip_S) (p : Nat) (kd : Nat × Nat) : ip_S := (fun q j => if q = p then 0 else S.1 q j, fun q j => if q = p then none else S.2.1 q j, fun q j => if q = p then 0 else S.2.2.1 q j, fun q => if q = p then kd else S.2.2.2 q)
theorem ip_wl_at {cA : Nat → ClassId} {ad : Nat → Nat} {L : List Nat} {S : ip_S} {p : Nat} (h : p ∈ L) : ∃ k : Nat, L[k]? = some p ∧ (ip_wl cA ad L S)[k]? = some (ad p, ip_E cA ad S p) := by
  obtain ⟨k, hk⟩ := List.getElem?_of_mem h
  exact ⟨k, hk, by simp [ip_wl, hk]⟩
theorem ip_wl_set {cA : Nat → ClassId} {ad : Nat → Nat} {L : List Nat} {S S' : ip_S} {A : Nat → Prop} {p k : Nat} (hD : va_D A (ip_wl cA ad L S)) (hk : L[k]? = some p) (hne : ∀ q, q ≠ p → ip_E cA ad S' q = ip_E cA ad S q) : (ip_wl cA ad L S).set k (ad p, ip_E cA ad S' p) = ip_wl cA ad L S' := by
  have hkl : k < L.length := (List.getElem?_eq_some_iff.mp hk).1
  apply List.ext_getElem?
  intro i
  by_cases hi : i = k
  · subst hi
    rw [List.getElem?_set_self (by simpa [ip_wl] using hkl)]
    simp [ip_wl, hk]
  · rw [List.getElem?_set_ne (Ne.symm hi)]
    simp only [ip_wl, List.getElem?_map]
    cases hq : L[i]? with
    | none => rfl
    | some q =>
      have hqp : q ≠ p := by
        intro e
        subst e
        exact hi (hD.1 i k (ad q, ip_E cA ad S q) (ad q, ip_E cA ad S q) (by simp [ip_wl, hq]) (by simp [ip_wl, hk]) rfl)
      simp [hne q hqp]
theorem ip_E_obj {cA : Nat → ClassId} {ad : Nat → Nat} {S : ip_S} {p ci : Nat} (h : (S.2.2.2 p).1 = ci) (hc : ci < 6) : ip_E cA ad S p = .inr (ci, ip_fs ad S p (ip_ty ci) 0) := by
  unfold ip_E
  rw [h, if_pos hc]
theorem ip_E_ints {cA : Nat → ClassId} {ad : Nat → Nat} {S : ip_S} {p k n : Nat} (h : S.2.2.2 p = (k, n)) (h1 : 6 ≤ k) (h2 : k < 8) : ip_E cA ad S p = .inl (cA k, n, .inl (S.1 p)) := by
  unfold ip_E
  rw [h, if_neg (by show ¬ k < 6; omega), if_pos h2]
theorem ip_E_refs {cA : Nat → ClassId} {ad : Nat → Nat} {S : ip_S} {p k n : Nat} (h : S.2.2.2 p = (k, n)) (h1 : 8 ≤ k) : ip_E cA ad S p = .inl (cA k, n, .inr (.inr (.inr (.inr (fun i => (S.2.1 p i).map ad))))) := by
  unfold ip_E
  rw [h, if_neg (by show ¬ k < 6; omega), if_neg (by show ¬ k < 8; omega)]
theorem ip_E_ne {cA : Nat → ClassId} {ad : Nat → Nat} {S S' : ip_S} {q : Nat} (h1 : S'.1 q = S.1 q) (h2 : S'.2.1 q = S.2.1 q) (h3 : S'.2.2.1 q = S.2.2.1 q) (h4 : S'.2.2.2 q = S.2.2.2 q) : ip_E cA ad S' q = ip_E cA ad S q := by
  have hf : ∀ (ts : List Nat) (k : Nat), ip_fs ad S' q ts k = ip_fs ad S q ts k := by
    intro ts
    induction ts with
    | nil => intro k; rfl
    | cons t ts ih => intro k; simp only [ip_fs, ih, ip_fv, h1, h2, h3]
  unfold ip_E
  rw [h4, hf, h1, h2]
theorem ip_E_sI {cA : Nat → ClassId} {ad : Nat → Nat} {S : ip_S} {p k q : Nat} {v : Int32} (h : q ≠ p) : ip_E cA ad (ip_sI S p k v) q = ip_E cA ad S q := ip_E_ne (by funext j; simp [ip_sI, h]) rfl rfl rfl
theorem ip_E_sR {cA : Nat → ClassId} {ad : Nat → Nat} {S : ip_S} {p k q : Nat} {v : Option Nat} (h : q ≠ p) : ip_E cA ad (ip_sR S p k v) q = ip_E cA ad S q := ip_E_ne rfl (by funext j; simp [ip_sR, h]) rfl rfl
theorem ip_E_sJ {cA : Nat → ClassId} {ad : Nat → Nat} {S : ip_S} {p k q : Nat} {v : Int64} (h : q ≠ p) : ip_E cA ad (ip_sJ S p k v) q = ip_E cA ad S q := ip_E_ne rfl rfl (by funext j; simp [ip_sJ, h]) rfl
theorem ip_E_nw {cA : Nat → ClassId} {ad : Nat → Nat} {S : ip_S} {p q : Nat} {kd : Nat × Nat} (h : q ≠ p) : ip_E cA ad (ip_nw S p kd) q = ip_E cA ad S q := ip_E_ne (by funext j; simp [ip_nw, h]) (by funext j; simp [ip_nw, h]) (by funext j; simp [ip_nw, h]) (by simp [ip_nw, h])
theorem ip_fs_sI {ad : Nat → Nat} {S : ip_S} {p k : Nat} {v : Int32} {ts : List Nat} (h : ts[k]? = some 0) : (ip_fs ad S p ts 0).set k (.int v) = ip_fs ad (ip_sI S p k v) p ts 0 := by
  apply List.ext_getElem?
  intro i
  have hl : k < (ip_fs ad S p ts 0).length := by rw [ip_fs_len]; exact (List.getElem?_eq_some_iff.mp h).1
  by_cases hi : i = k
  · subst hi
    rw [List.getElem?_set_self hl, ip_fs_at, h]
    simp [ip_fv, ip_sI]
  · rw [List.getElem?_set_ne (Ne.symm hi), ip_fs_at, ip_fs_at]
    cases ts[i]? with
    | none => rfl
    | some t =>
      simp only [Option.map_some, ip_fv, ip_sI]
      rw [if_neg (fun z => hi (by omega))]
theorem ip_fs_sR {ad : Nat → Nat} {S : ip_S} {p k : Nat} {v : Option Nat} {ts : List Nat} (h : ts[k]? = some 1) : (ip_fs ad S p ts 0).set k (va_rf (v.map ad)) = ip_fs ad (ip_sR S p k v) p ts 0 := by
  apply List.ext_getElem?
  intro i
  have hl : k < (ip_fs ad S p ts 0).length := by rw [ip_fs_len]; exact (List.getElem?_eq_some_iff.mp h).1
  by_cases hi : i = k
  · subst hi
    rw [List.getElem?_set_self hl, ip_fs_at, h]
    simp [ip_fv, ip_sR]
  · rw [List.getElem?_set_ne (Ne.symm hi), ip_fs_at, ip_fs_at]
    cases ts[i]? with
    | none => rfl
    | some t =>
      simp only [Option.map_some, ip_fv, ip_sR]
      rw [if_neg (fun z => hi (by omega))]
theorem ip_fs_sJ {ad : Nat → Nat} {S : ip_S} {p k : Nat} {v : Int64} {ts : List Nat} (h : ts[k]? = some 2) : (ip_fs ad S p ts 0).set k (.long v) = ip_fs ad (ip_sJ S p k v) p ts 0 := by
  apply List.ext_getElem?
  intro i
  have hl : k < (ip_fs ad S p ts 0).length := by rw [ip_fs_len]; exact (List.getElem?_eq_some_iff.mp h).1
  by_cases hi : i = k
  · subst hi
    rw [List.getElem?_set_self hl, ip_fs_at, h]
    simp [ip_fv, ip_sJ]
  · rw [List.getElem?_set_ne (Ne.symm hi), ip_fs_at, ip_fs_at]
    cases ts[i]? with
    | none => rfl
    | some t =>
      simp only [Option.map_some, ip_fv, ip_sJ]
      rw [if_neg (fun z => hi (by omega))]
theorem ip_upd_I (S : ip_S) (p i : Nat) (v : Int32) : upd (S.1 p) i v = (ip_sI S p i v).1 p := by
  funext j
  by_cases h : j = i <;> simp [upd, ip_sI, h]
theorem ip_upd_R (ad : Nat → Nat) (S : ip_S) (p i : Nat) (v : Option Nat) : va_up (fun j => (S.2.1 p j).map ad) i (v.map ad) = fun j => ((ip_sR S p i v).2.1 p j).map ad := by
  funext j
  by_cases h : j = i <;> simp [va_up, ip_sR, h]
/-- what stands of the heap -/
def ip_W (D : va_G) (cA : Nat → ClassId) (A : Nat → Prop) (ad : Nat → Nat) (L : List Nat) (S : ip_S) (s : State) (H : Heap) (locs : List Loc) : Prop :=
  (∀ p, p ∈ L ↔ ip_al S p) ∧ ip_cl S ∧ va_K D vwCl (ip_tys cA) s ∧ va_P D vwCl (ip_wl cA ad L S) H ∧ va_D A (ip_wl cA ad L S) ∧ va_S A s.heap H locs
/-- the locals -/
def ip_LH (ad : Nat → Nat) (ls : Array Slot) (nL : Nat) (loc : List (Option ip_V)) : Prop := loc.length = nL ∧ ∃ lv, lv_has ls nL lv ∧ ∀ (i : Nat) (v : ip_V), loc[i]? = some (some v) → (i, ip_cv ad v) ∈ lv ∧ (ip_cv ad v).category = 1
theorem ip_rf_cat (r : Option Nat) : (va_rf r).category = 1 := by cases r <;> rfl
theorem ip_LH.get {ad : Nat → Nat} {ls : Array Slot} {nL : Nat} {loc : List (Option ip_V)} (h : ip_LH ad ls nL loc) {i : Nat} {v : ip_V} (hv : loc[i]? = some (some v)) : ls[i]? = some (.val (ip_cv ad v)) := by
  obtain ⟨-, lv, h1, h2⟩ := h
  exact h1.2.2 _ (h2 i v hv).1
theorem ip_LH.set {ad : Nat → Nat} {nL : Nat} {loc : List (Option ip_V)} {ls' : Array Slot} {i : Nat} {v : ip_V} {lv : List (Nat × Value)} (hlen : loc.length = nL) (h2 : ∀ (i : Nat) (v : ip_V), loc[i]? = some (some v) → (i, ip_cv ad v) ∈ lv ∧ (ip_cv ad v).category = 1)
    (hc : (ip_cv ad v).category = 1) (h : lv_has ls' nL ((i, ip_cv ad v) :: lv.filter (fun q => !(q.1 == i) && !(q.1 + 1 == i && q.2.category == 2)))) : ip_LH ad ls' nL (loc.set i (some v)) := by
  refine ⟨by simpa using hlen, _, h, fun j w hw => ?_⟩
  by_cases hj : j = i
  · subst hj
    by_cases hl : j < loc.length
    · rw [List.getElem?_set_self hl] at hw
      cases hw
      exact ⟨List.mem_cons_self, hc⟩
    · rw [List.getElem?_eq_none (by simp; omega)] at hw
      cases hw
  · rw [List.getElem?_set_ne (Ne.symm hj)] at hw
    obtain ⟨h3, h4⟩ := h2 j w hw
    refine ⟨List.mem_cons_of_mem _ (List.mem_filter.mpr ⟨h3, ?_⟩), h4⟩
    simp [hj, h4]
/-- another naming of the addresses that agrees where it counts -/
theorem ip_cv_ext {ad ad' : Nat → Nat} {S : ip_S} (he : ∀ q, ip_ax S q → ad' q = ad q) {v : ip_V} (hv : ip_ok S v) : ip_cv ad' v = ip_cv ad v := by
  match v, hv with
  | .inl x, _ => rfl
  | .inr (.inl none), _ => rfl
  | .inr (.inl (some q)), hv => simp only [ip_cv, Option.map_some]; rw [he q (hv q rfl)]
  | .inr (.inr x), _ => rfl
theorem ip_st_ext {ad ad' : Nat → Nat} {S : ip_S} (he : ∀ q, ip_ax S q → ad' q = ad q) {st : List ip_V} (hv : ∀ v ∈ st, ip_ok S v) : st.map (ip_cv ad') = st.map (ip_cv ad) := List.map_congr_left (fun v h => ip_cv_ext he (hv v h))
theorem ip_LH.ext {ad ad' : Nat → Nat} {S : ip_S} {ls : Array Slot} {nL : Nat} {loc : List (Option ip_V)} (h : ip_LH ad ls nL loc) (he : ∀ q, ip_ax S q → ad' q = ad q) (hv : ∀ v, some v ∈ loc → ip_ok S v) : ip_LH ad' ls nL loc := by
  obtain ⟨h0, lv, h1, h2⟩ := h
  refine ⟨h0, lv, h1, fun i v hi => ?_⟩
  rw [ip_cv_ext he (hv v (List.mem_of_getElem? hi))]
  exact h2 i v hi
theorem ip_ok_i {S : ip_S} {x : Int32} : ip_ok S (.inl x) := fun p h => nomatch h
theorem ip_ok_l {S : ip_S} {x : Int64} : ip_ok S (.inr (.inr x)) := fun p h => nomatch h
theorem ip_ok_n {S : ip_S} : ip_ok S (.inr (.inl none)) := fun p h => nomatch h
theorem ip_ok_r {S : ip_S} {q : Nat} (h : ip_ax S q) : ip_ok S (.inr (.inl (some q))) := fun p e => by cases e; exact h
theorem ip_ok_c {S : ip_S} (h : ip_cl S) {p k : Nat} {o : Option Nat} (ho : S.2.1 p k = o) : ip_ok S (.inr (.inl o)) := fun q e => by
  cases e
  exact h p k q ho
theorem ip_tl {S : ip_S} {v : ip_V} {r : List ip_V} (h : ∀ w ∈ v :: r, ip_ok S w) : ∀ w ∈ r, ip_ok S w := fun w hw => h w (List.mem_cons_of_mem _ hw)
theorem ip_hd {S : ip_S} {v : ip_V} {r : List ip_V} (h : ∀ w ∈ v :: r, ip_ok S w) : ip_ok S v := h v List.mem_cons_self
theorem ip_cs {S : ip_S} {v : ip_V} {r : List ip_V} (h1 : ip_ok S v) (h : ∀ w ∈ r, ip_ok S w) : ∀ w ∈ v :: r, ip_ok S w := List.forall_mem_cons.mpr ⟨h1, h⟩
theorem ip_lset {S : ip_S} {loc : List (Option ip_V)} {i : Nat} {v : ip_V} (h1 : ip_ok S v) (h : ∀ w, some w ∈ loc → ip_ok S w) : ∀ w, some w ∈ loc.set i (some v) → ip_ok S w := by
  intro w hw
  rcases List.mem_or_eq_of_mem_set hw with h2 | h2
  · exact h w h2
  · cases h2; exact h1
end
section
/-! THE JUDGEMENT: from this place of the code, in this picture, the machine comes to Q -/
def ip_K (p : Program) (l : Launch) (e : Env) (R : Room) (s : State) (m : MethodId) (args : Array Value) (below : List Frame) (meth : Method) (c : Code) (D : va_G) (cA : Nat → ClassId) (A : Nat → Prop) (Q : State → Prop) (nL : Nat) (cnt : Nat → Nat × Nat) (I : ip_S → Prop) (ad0 : Nat → Nat) (S0 : ip_S) (pc : Nat) (loc : List (Option ip_V)) (st : List ip_V) (S : ip_S) : Prop :=
  ∀ (ad : Nat → Nat) (L : List Nat) (H : Heap) (locs : List Loc) (ls : Array Slot), I S → ip_LH ad ls nL loc → (∀ v ∈ st, ip_ok S v) → (∀ v, some v ∈ loc → ip_ok S v) → (∀ q, ip_ax S0 q → ip_ax S q ∧ ad q = ad0 q) → ip_W D cA A ad L S s H locs →
    W p l e R s m args below meth c H locs (cnt pc).1 (cnt pc).2 Q (F0 m pc ls (st.map (ip_cv ad)))
abbrev ip_N : Type := Nat → List (Option ip_V) → List ip_V → ip_S → Prop
abbrev ip_T : Type := ip_N → List (Option ip_V) → List ip_V → ip_S → Prop
def ip_snd (p : Program) (l : Launch) (e : Env) (R : Room) (s : State) (m : MethodId) (args : Array Value) (below : List Frame) (meth : Method) (c : Code) (D : va_G) (cA : Nat → ClassId) (A : Nat → Prop) (Q : State → Prop) (nL : Nat) (cnt : Nat → Nat × Nat) (I : ip_S → Prop) (ad0 : Nat → Nat) (S0 : ip_S) (pc : Nat) (τ : ip_T) : Prop :=
  ∀ N : ip_N, (∀ pc loc st S, N pc loc st S → ip_K p l e R s m args below meth c D cA A Q nL cnt I ad0 S0 pc loc st S) → ∀ loc st S, τ N loc st S → ip_K p l e R s m args below meth c D cA A Q nL cnt I ad0 S0 pc loc st S
def ip_at : List (Nat × ip_T) → Nat → ip_T
  | [], _ => fun _ _ _ _ => False
  | (k, t) :: r, pc => bif Nat.beq pc k then t else ip_at r pc
def ip_run (P : List (Nat × ip_T)) (stop : Nat → Bool) (Z : ip_N) : Nat → ip_N
  | 0 => fun _ _ _ _ => False
  | n + 1 => fun pc loc st S => ip_at P pc (fun pc' loc' st' S' => bif stop pc' then Z pc' loc' st' S' else ip_run P stop Z n pc' loc' st' S') loc st S
/-- the static part: kinds of the fixed places, their final references -/
def ip_kt : Nat → Nat × Nat
  | 0 => (4, 0)
  | 1 => (3, 0)
  | 2 => (6, 300)
  | 3 => (6, 300)
  | 4 => (7, 300)
  | 5 => (8, 4)
  | 6 => (9, 12)
  | 7 => (9, 3)
  | 8 => (2, 0)
  | 9 => (9, 5)
  | 10 => (7, 5)
  | 11 => (6, 5)
  | 12 => (6, 5)
  | 50 => (5, 0)
  | 51 => (7, 300)
  | 52 => (6, 300)
  | 53 => (6, 300)
  | 55 => (6, 4)
  | 56 => (6, 16)
  | 57 => (6, 4)
  | 58 => (6, 4)
  | 59 => (6, 4)
  | 64 => (6, 3)
  | 66 => (6, 12)
  | 67 => (6, 12)
  | 68 => (6, 12)
  | 69 => (6, 12)
  | 70 => (6, 12)
  | 71 => (6, 12)
  | 72 => (6, 12)
  | 73 => (6, 12)
  | 74 => (6, 12)
  | 75 => (6, 12)
  | 79 => (6, 5)
  | 80 => (6, 5)
  | 81 => (6, 5)
  | _ => (99, 0)
def ip_rt : List (Nat × Nat × Nat) := [(0, 0, 1), (0, 1, 5), (0, 3, 6), (0, 5, 7), (0, 7, 8), (1, 0, 2), (1, 1, 3), (1, 2, 4), (8, 0, 9), (8, 1, 10), (8, 2, 11), (8, 3, 12), (50, 1, 51), (50, 2, 52), (50, 3, 53), (50, 5, 55), (50, 6, 56), (50, 7, 57), (50, 8, 58), (50, 9, 59), (50, 14, 64), (50, 16, 66), (50, 17, 67), (50, 18, 68), (50, 19, 69), (50, 20, 70), (50, 21, 71), (50, 22, 72), (50, 23, 73), (50, 24, 74), (50, 25, 75), (50, 29, 79), (50, 30, 80), (50, 31, 81)]
def ip_Sta (S : ip_S) : Prop := (∀ p, (ip_kt p).1 < 10 → S.2.2.2 p = ip_kt p) ∧ ∀ q ∈ ip_rt, S.2.1 q.1 q.2.1 = some q.2.2
theorem ip_rt_kt : ∀ q ∈ ip_rt, 2 ≤ (ip_kt q.1).1 ∧ (ip_kt q.1).1 < 6 := by decide +kernel
theorem ip_Sta.sI {S : ip_S} (h : ip_Sta S) (p k : Nat) (v : Int32) : ip_Sta (ip_sI S p k v) := h
theorem ip_Sta.sJ {S : ip_S} (h : ip_Sta S) (p k : Nat) (v : Int64) : ip_Sta (ip_sJ S p k v) := h
theorem ip_Sta.sR {S : ip_S} (h : ip_Sta S) (p k : Nat) (v : Option Nat) (hk : (S.2.2.2 p).1 < 2 ∨ 6 ≤ (S.2.2.2 p).1) : ip_Sta (ip_sR S p k v) := by
  refine ⟨h.1, fun q hq => ?_⟩
  have h1 := ip_rt_kt q hq
  have h2 := h.1 q.1 (by omega)
  show (if q.1 = p ∧ q.2.1 = k then v else S.2.1 q.1 q.2.1) = some q.2.2
  rw [if_neg]
  · exact h.2 q hq
  · rintro ⟨e, -⟩
    rw [← e, h2] at hk
    omega
theorem ip_Sta.nw {S : ip_S} (h : ip_Sta S) (p : Nat) (kd : Nat × Nat) (hp : 10 ≤ (S.2.2.2 p).1) : ip_Sta (ip_nw S p kd) := by
  have hn : ∀ q, (ip_kt q).1 < 10 → q ≠ p := by
    intro q hq e
    subst e
    rw [h.1 q hq] at hp
    omega
  refine ⟨fun q hq => ?_, fun q hq => ?_⟩
  · show (if q = p then kd else S.2.2.2 q) = ip_kt q
    rw [if_neg (hn q hq)]
    exact h.1 q hq
  · have h1 := ip_rt_kt q hq
    show (if q.1 = p then none else S.2.1 q.1 q.2.1) = some q.2.2
    rw [if_neg (hn q.1 (by omega))]
    exact h.2 q hq
/-- what a method's own invariant must stand -/
def ip_In (I : ip_S → Prop) : Prop := (∀ S p k v, I S → I (ip_sI S p k v)) ∧ (∀ S p k v, I S → I (ip_sJ S p k v)) ∧ (∀ S p k v, I S → ((S.2.2.2 p).1 < 2 ∨ 6 ≤ (S.2.2.2 p).1) → I (ip_sR S p k v)) ∧ ∀ S p kd, I S → 10 ≤ (S.2.2.2 p).1 → I (ip_nw S p kd)
theorem ip_In_Sta : ip_In ip_Sta := ⟨fun _ p k v h => h.sI p k v, fun _ p k v h => h.sJ p k v, fun _ p k v h hk => h.sR p k v hk, fun _ p kd h hp => h.nw p kd hp⟩
def ip_Tr (_ : ip_S) : Prop := True
theorem ip_In_Tr : ip_In ip_Tr := ⟨fun _ _ _ _ _ => trivial, fun _ _ _ _ _ => trivial, fun _ _ _ _ _ _ => trivial, fun _ _ _ _ _ => trivial⟩
def ip_i32 : Nat → Int32
  | 3 => 3
  | 4 => 4
  | 5 => 5
  | 12 => 12
  | 16 => 16
  | 300 => 300
  | n => Int32.ofNat n
theorem ip_i32_eq (n : Nat) : Int32.ofNat n = ip_i32 n := by
  unfold ip_i32
  split <;> rfl
section IPV
variable {p : Program} {l : Launch} {e : Env} {R : Room} {s : State} {m : MethodId} {args : Array Value} {below : List Frame} {meth : Method} {c : Code} {D : va_G} {cA : Nat → ClassId} {A : Nat → Prop} {Q : State → Prop} {nL : Nat} {cnt : Nat → Nat × Nat} {I : ip_S → Prop} {ad0 : Nat → Nat} {S0 : ip_S}
theorem ip_at_ok {P : List (Nat × ip_T)} (hP : ∀ q ∈ P, ip_snd p l e R s m args below meth c D cA A Q nL cnt I ad0 S0 q.1 q.2) (pc : Nat) : ip_snd p l e R s m args below meth c D cA A Q nL cnt I ad0 S0 pc (ip_at P pc) := by
  induction P with
  | nil => exact fun N hN loc st S h => h.elim
  | cons q r ih =>
    obtain ⟨k, t⟩ := q
    show ip_snd p l e R s m args below meth c D cA A Q nL cnt I ad0 S0 pc (bif Nat.beq pc k then t else ip_at r pc)
    cases hk : Nat.beq pc k with
    | false => exact ih (fun q hq => hP q (List.mem_cons_of_mem _ hq))
    | true =>
      have := Nat.eq_of_beq_eq_true hk
      subst this
      exact hP (pc, t) List.mem_cons_self
theorem ip_run_ok {P : List (Nat × ip_T)} (hP : ∀ q ∈ P, ip_snd p l e R s m args below meth c D cA A Q nL cnt I ad0 S0 q.1 q.2) {stop : Nat → Bool} {Z : ip_N} (hZ : ∀ pc loc st S, Z pc loc st S → ip_K p l e R s m args below meth c D cA A Q nL cnt I ad0 S0 pc loc st S) : ∀ (n pc : Nat) (loc : List (Option ip_V)) (st : List ip_V) (S : ip_S), ip_run P stop Z n pc loc st S → ip_K p l e R s m args below meth c D cA A Q nL cnt I ad0 S0 pc loc st S := by
  intro n
  induction n with
  | zero => intro pc loc st S h; exact h.elim
  | succ n ih =>
    intro pc loc st S h
    refine ip_at_ok hP pc _ ?_ loc st S h
    intro pc' loc' st' S' h'
    cases hs : stop pc' with
    | true => rw [hs] at h'; exact hZ _ _ _ _ h'
    | false => rw [hs] at h'; exact ih _ _ _ _ h'
theorem ip_loop {P : List (Nat × ip_T)} (hP : ∀ q ∈ P, ip_snd p l e R s m args below meth c D cA A Q nL cnt I ad0 S0 q.1 q.2) {stop : Nat → Bool} {n : Nat} (Inv : Nat → ip_N) (h : ∀ k pc loc st S, Inv k pc loc st S → ip_run P stop (fun pc loc st S => ∃ k', k' < k ∧ Inv k' pc loc st S) n pc loc st S) : ∀ k pc loc st S, Inv k pc loc st S → ip_K p l e R s m args below meth c D cA A Q nL cnt I ad0 S0 pc loc st S := by
  intro k
  induction k using Nat.strongRecOn with
  | _ k ih =>
    intro pc loc st S hI
    exact ip_run_ok hP (fun pc loc st S ⟨k', hk, hI'⟩ => ih k' hk pc loc st S hI') n pc loc st S (h k pc loc st S hI)
variable {cc : ByteArray} {pc : Nat}
def ip_t_ci (v : Int32) (n : Nat) : ip_T := fun N loc st S => N n loc (.inl v :: st) S
def ip_t_cl (v : Int64) (n : Nat) : ip_T := fun N loc st S => N n loc (.inr (.inr v) :: st) S
def ip_t_nul (n : Nat) : ip_T := fun N loc st S => N n loc (.inr (.inl none) :: st) S
theorem ip_s_iconst (hx : p.tables.exec = Jvm.exec) (hb : c.code = cc) {k : Int} {v : Int32} (hd : decode cc pc = .ok (.iconst k, 1)) (hv : Int32.ofInt k = v) (hc : cnt (pc + 1) = cnt pc) : ip_snd p l e R s m args below meth c D cA A Q nL cnt I ad0 S0 pc (ip_t_ci v (pc + 1)) := by
  intro N hN loc st S h ad L H locs ls hI hl hst hlo hex hW
  have k := hN _ _ _ _ h ad L H locs ls hI hl (ip_cs ip_ok_i hst) hlo hex hW
  rw [hc] at k
  exact lv_iconst hx hb hd hv k
theorem ip_s_bipush (hx : p.tables.exec = Jvm.exec) (hb : c.code = cc) {k : Int} {v : Int32} (hd : decode cc pc = .ok (.bipush k, 2)) (hv : (Int8.ofInt k).toInt32 = v) (hc : cnt (pc + 2) = cnt pc) : ip_snd p l e R s m args below meth c D cA A Q nL cnt I ad0 S0 pc (ip_t_ci v (pc + 2)) := by
  intro N hN loc st S h ad L H locs ls hI hl hst hlo hex hW
  have k := hN _ _ _ _ h ad L H locs ls hI hl (ip_cs ip_ok_i hst) hlo hex hW
  rw [hc] at k
  exact lv_bipush hx hb hd hv k
theorem ip_s_sipush (hx : p.tables.exec = Jvm.exec) (hb : c.code = cc) {k : Int} {v : Int32} (hd : decode cc pc = .ok (.sipush k, 3)) (hv : (Int16.ofInt k).toInt32 = v) (hc : cnt (pc + 3) = cnt pc) : ip_snd p l e R s m args below meth c D cA A Q nL cnt I ad0 S0 pc (ip_t_ci v (pc + 3)) := by
  intro N hN loc st S h ad L H locs ls hI hl hst hlo hex hW
  have k := hN _ _ _ _ h ad L H locs ls hI hl (ip_cs ip_ok_i hst) hlo hex hW
  rw [hc] at k
  exact lv_sipush hx hb hd hv k
theorem ip_s_lconst (hx : p.tables.exec = Jvm.exec) (hb : c.code = cc) {k : Fin 2} {v : Int64} (hd : decode cc pc = .ok (.lconst k, 1)) (hv : Int64.ofNat (k : Nat) = v) (hc : cnt (pc + 1) = cnt pc) : ip_snd p l e R s m args below meth c D cA A Q nL cnt I ad0 S0 pc (ip_t_cl v (pc + 1)) := by
  intro N hN loc st S h ad L H locs ls hI hl hst hlo hex hW
  have k := hN _ _ _ _ h ad L H locs ls hI hl (ip_cs ip_ok_l hst) hlo hex hW
  rw [hc] at k
  exact lv_lconst hx hb hd hv k
theorem ip_s_ldc (hx : p.tables.exec = Jvm.exec) (hb : c.code = cc) {own : String} {index : Nat} {v : Int32} (hown : s.vm.findClass own = some m.cls) (hk : (Jvm.Cond.constant own index v).before args s = true) (hd : decode cc pc = .ok (.ldc index, 2)) (hc : cnt (pc + 2) = cnt pc) : ip_snd p l e R s m args below meth c D cA A Q nL cnt I ad0 S0 pc (ip_t_ci v (pc + 2)) := by
  intro N hN loc st S h ad L H locs ls hI hl hst hlo hex hW
  have k := hN _ _ _ _ h ad L H locs ls hI hl (ip_cs ip_ok_i hst) hlo hex hW
  rw [hc] at k
  exact lv_ldc hx hb hown hk hd k
theorem ip_s_ldc2 (hx : p.tables.exec = Jvm.exec) (hb : c.code = cc) {own : String} {index : Nat} {v : Int64} (hown : s.vm.findClass own = some m.cls) (hk : (Jvm.Cond.constantLong own index v).before args s = true) (hd : decode cc pc = .ok (.ldc2_w index, 3)) (hc : cnt (pc + 3) = cnt pc) : ip_snd p l e R s m args below meth c D cA A Q nL cnt I ad0 S0 pc (ip_t_cl v (pc + 3)) := by
  intro N hN loc st S h ad L H locs ls hI hl hst hlo hex hW
  have k := hN _ _ _ _ h ad L H locs ls hI hl (ip_cs ip_ok_l hst) hlo hex hW
  rw [hc] at k
  exact lv_ldc2 hx hb hown hk hd k
theorem ip_s_nul (hx : p.tables.exec = Jvm.exec) (hb : c.code = cc) (hd : decode cc pc = .ok (.aconst_null, 1)) (hc : cnt (pc + 1) = cnt pc) : ip_snd p l e R s m args below meth c D cA A Q nL cnt I ad0 S0 pc (ip_t_nul (pc + 1)) := by
  intro N hN loc st S h ad L H locs ls hI hl hst hlo hex hW
  have k := hN _ _ _ _ h ad L H locs ls hI hl (ip_cs ip_ok_n hst) hlo hex hW
  rw [hc] at k
  exact lv_null hx hb hd k
def ip_t_il (i n : Nat) : ip_T := fun N loc st S => match loc[i]? with
  | some (some (.inl x)) => N n loc (.inl x :: st) S
  | _ => False
def ip_t_ar (i n : Nat) : ip_T := fun N loc st S => match loc[i]? with
  | some (some (.inr (.inl r))) => N n loc (.inr (.inl r) :: st) S
  | _ => False
theorem ip_s_iload_n (hx : p.tables.exec = Jvm.exec) (hb : c.code = cc) {k : Fin 4} {i : Nat} (hd : decode cc pc = .ok (.iload_n k, 1)) (hi : (k : Nat) = i) (hc : cnt (pc + 1) = cnt pc) : ip_snd p l e R s m args below meth c D cA A Q nL cnt I ad0 S0 pc (ip_t_il i (pc + 1)) := by
  intro N hN loc st S h ad L H locs ls hI hl hst hlo hex hW
  unfold ip_t_il at h
  split at h
  · rename_i x hq
    have k := hN _ _ _ _ h ad L H locs ls hI hl (ip_cs ip_ok_i hst) hlo hex hW
    rw [hc] at k
    exact lv_iload_n hx hb hd hi (hl.get hq) k
  · exact h.elim
theorem ip_s_iload (hx : p.tables.exec = Jvm.exec) (hb : c.code = cc) {i : Nat} (hd : decode cc pc = .ok (.iload i, 2)) (hc : cnt (pc + 2) = cnt pc) : ip_snd p l e R s m args below meth c D cA A Q nL cnt I ad0 S0 pc (ip_t_il i (pc + 2)) := by
  intro N hN loc st S h ad L H locs ls hI hl hst hlo hex hW
  unfold ip_t_il at h
  split at h
  · rename_i x hq
    have k := hN _ _ _ _ h ad L H locs ls hI hl (ip_cs ip_ok_i hst) hlo hex hW
    rw [hc] at k
    exact lv_iload hx hb hd (hl.get hq) k
  · exact h.elim
theorem ip_s_aload_n (hx : p.tables.exec = Jvm.exec) (hb : c.code = cc) {k : Fin 4} {i : Nat} (hd : decode cc pc = .ok (.aload_n k, 1)) (hi : (k : Nat) = i) (hc : cnt (pc + 1) = cnt pc) : ip_snd p l e R s m args below meth c D cA A Q nL cnt I ad0 S0 pc (ip_t_ar i (pc + 1)) := by
  intro N hN loc st S h ad L H locs ls hI hl hst hlo hex hW
  unfold ip_t_ar at h
  split at h
  · rename_i r hq
    have k := hN _ _ _ _ h ad L H locs ls hI hl (ip_cs (hlo _ (List.mem_of_getElem? hq)) hst) hlo hex hW
    rw [hc] at k
    cases r with
    | none => exact lv_aload_nN hx hb hd hi (hl.get hq) k
    | some a => exact lv_aload_n hx hb hd hi (hl.get hq) k
  · exact h.elim
theorem ip_s_aload (hx : p.tables.exec = Jvm.exec) (hb : c.code = cc) {i : Nat} (hd : decode cc pc = .ok (.aload i, 2)) (hc : cnt (pc + 2) = cnt pc) : ip_snd p l e R s m args below meth c D cA A Q nL cnt I ad0 S0 pc (ip_t_ar i (pc + 2)) := by
  intro N hN loc st S h ad L H locs ls hI hl hst hlo hex hW
  unfold ip_t_ar at h
  split at h
  · rename_i r hq
    have k := hN _ _ _ _ h ad L H locs ls hI hl (ip_cs (hlo _ (List.mem_of_getElem? hq)) hst) hlo hex hW
    rw [hc] at k
    cases r with
    | none => exact lv_aloadN hx hb hd (hl.get hq) k
    | some a => exact lv_aload hx hb hd (hl.get hq) k
  · exact h.elim
def ip_t_is (i n : Nat) : ip_T := fun N loc st S => match st with
  | .inl x :: r => N n (loc.set i (some (.inl x))) r S
  | _ => False
def ip_t_as (i n : Nat) : ip_T := fun N loc st S => match st with
  | .inr (.inl o) :: r => N n (loc.set i (some (.inr (.inl o)))) r S
  | _ => False
def ip_t_inc (i : Nat) (v : Int32) (n : Nat) : ip_T := fun N loc st S => match loc[i]? with
  | some (some (.inl x)) => N n (loc.set i (some (.inl (x + v)))) st S
  | _ => False
theorem ip_s_istore_n (hx : p.tables.exec = Jvm.exec) (hb : c.code = cc) {k : Fin 4} {i : Nat} (hd : decode cc pc = .ok (.istore_n k, 1)) (hi : (k : Nat) = i) (hn : i < nL) (hc : cnt (pc + 1) = cnt pc) : ip_snd p l e R s m args below meth c D cA A Q nL cnt I ad0 S0 pc (ip_t_is i (pc + 1)) := by
  intro N hN loc st S h ad L H locs ls hI hl hst hlo hex hW
  unfold ip_t_is at h
  split at h
  · rename_i x r
    obtain ⟨h0, lv, h1, h2⟩ := hl
    refine lv_istore_n hx hb hd hi h1 hn rfl (fun ls' h' => ?_)
    have k := hN _ _ _ _ h ad L H locs ls' hI (ip_LH.set (v := .inl x) h0 h2 rfl h') (ip_tl hst) (ip_lset ip_ok_i hlo) hex hW
    rw [hc] at k
    exact k
  · exact h.elim
theorem ip_s_istore (hx : p.tables.exec = Jvm.exec) (hb : c.code = cc) {i : Nat} (hd : decode cc pc = .ok (.istore i, 2)) (hn : i < nL) (hc : cnt (pc + 2) = cnt pc) : ip_snd p l e R s m args below meth c D cA A Q nL cnt I ad0 S0 pc (ip_t_is i (pc + 2)) := by
  intro N hN loc st S h ad L H locs ls hI hl hst hlo hex hW
  unfold ip_t_is at h
  split at h
  · rename_i x r
    obtain ⟨h0, lv, h1, h2⟩ := hl
    refine lv_istore hx hb hd h1 hn rfl (fun ls' h' => ?_)
    have k := hN _ _ _ _ h ad L H locs ls' hI (ip_LH.set (v := .inl x) h0 h2 rfl h') (ip_tl hst) (ip_lset ip_ok_i hlo) hex hW
    rw [hc] at k
    exact k
  · exact h.elim
theorem ip_s_astore_n (hx : p.tables.exec = Jvm.exec) (hb : c.code = cc) {k : Fin 4} {i : Nat} (hd : decode cc pc = .ok (.astore_n k, 1)) (hi : (k : Nat) = i) (hn : i < nL) (hc : cnt (pc + 1) = cnt pc) : ip_snd p l e R s m args below meth c D cA A Q nL cnt I ad0 S0 pc (ip_t_as i (pc + 1)) := by
  intro N hN loc st S h ad L H locs ls hI hl hst hlo hex hW
  unfold ip_t_as at h
  split at h
  · rename_i r rest
    obtain ⟨h0, lv, h1, h2⟩ := hl
    have k := fun ls' h' => hN _ _ _ _ h ad L H locs ls' hI (ip_LH.set (v := .inr (.inl r)) h0 h2 (ip_rf_cat _) h') (ip_tl hst) (ip_lset (ip_hd hst) hlo) hex hW
    rw [hc] at k
    cases r with
    | none => exact lv_astore_nN hx hb hd hi h1 hn rfl (fun ls' h' => k ls' h')
    | some a => exact lv_astore_n hx hb hd hi h1 hn rfl (fun ls' h' => k ls' h')
  · exact h.elim
theorem ip_s_astore (hx : p.tables.exec = Jvm.exec) (hb : c.code = cc) {i : Nat} (hd : decode cc pc = .ok (.astore i, 2)) (hn : i < nL) (hc : cnt (pc + 2) = cnt pc) : ip_snd p l e R s m args below meth c D cA A Q nL cnt I ad0 S0 pc (ip_t_as i (pc + 2)) := by
  intro N hN loc st S h ad L H locs ls hI hl hst hlo hex hW
  unfold ip_t_as at h
  split at h
  · rename_i r rest
    obtain ⟨h0, lv, h1, h2⟩ := hl
    have k := fun ls' h' => hN _ _ _ _ h ad L H locs ls' hI (ip_LH.set (v := .inr (.inl r)) h0 h2 (ip_rf_cat _) h') (ip_tl hst) (ip_lset (ip_hd hst) hlo) hex hW
    rw [hc] at k
    cases r with
    | none => exact lv_astoreN hx hb hd h1 hn rfl (fun ls' h' => k ls' h')
    | some a => exact lv_astore hx hb hd h1 hn rfl (fun ls' h' => k ls' h')
  · exact h.elim
theorem ip_s_iinc (hx : p.tables.exec = Jvm.exec) (hb : c.code = cc) {i : Nat} {z : Int} {v : Int32} (hd : decode cc pc = .ok (.iinc i z, 3)) (hv : Int32.ofInt z = v) (hn : i < nL) (hc : cnt (pc + 3) = cnt pc) : ip_snd p l e R s m args below meth c D cA A Q nL cnt I ad0 S0 pc (ip_t_inc i v (pc + 3)) := by
  intro N hN loc st S h ad L H locs ls hI hl hst hlo hex hW
  unfold ip_t_inc at h
  split at h
  · rename_i x hq
    obtain ⟨h0, lv, h1, h2⟩ := hl
    obtain ⟨k0, hk0⟩ := List.getElem?_of_mem (h2 i _ hq).1
    refine lv_iinc hx hb hd h1 hk0 (by rw [hv]) hn rfl (fun ls' h' => ?_)
    have k := hN _ _ _ _ h ad L H locs ls' hI (ip_LH.set (v := .inl (x + v)) h0 h2 rfl h') hst (ip_lset ip_ok_i hlo) hex hW
    rw [hc] at k
    exact k
  · exact h.elim
def ip_t_iadd (n : Nat) : ip_T := fun N loc st S => match st with
  | .inl y :: .inl x :: r => N n loc (.inl (x + y) :: r) S
  | _ => False
theorem ip_s_iadd (hx : p.tables.exec = Jvm.exec) (hb : c.code = cc) (hd : decode cc pc = .ok (.iadd, 1)) (hc : cnt (pc + 1) = cnt pc) : ip_snd p l e R s m args below meth c D cA A Q nL cnt I ad0 S0 pc (ip_t_iadd (pc + 1)) := by
  intro N hN loc st S h ad L H locs ls hI hl hst hlo hex hW
  unfold ip_t_iadd at h
  split at h
  · have k := hN _ _ _ _ h ad L H locs ls hI hl (ip_cs ip_ok_i (ip_tl (ip_tl hst))) hlo hex hW
    rw [hc] at k
    exact lv_iadd hx hb hd k
  · exact h.elim
def ip_t_isub (n : Nat) : ip_T := fun N loc st S => match st with
  | .inl y :: .inl x :: r => N n loc (.inl (x - y) :: r) S
  | _ => False
theorem ip_s_isub (hx : p.tables.exec = Jvm.exec) (hb : c.code = cc) (hd : decode cc pc = .ok (.isub, 1)) (hc : cnt (pc + 1) = cnt pc) : ip_snd p l e R s m args below meth c D cA A Q nL cnt I ad0 S0 pc (ip_t_isub (pc + 1)) := by
  intro N hN loc st S h ad L H locs ls hI hl hst hlo hex hW
  unfold ip_t_isub at h
  split at h
  · have k := hN _ _ _ _ h ad L H locs ls hI hl (ip_cs ip_ok_i (ip_tl (ip_tl hst))) hlo hex hW
    rw [hc] at k
    exact lv_isub hx hb hd k
  · exact h.elim
def ip_t_imul (n : Nat) : ip_T := fun N loc st S => match st with
  | .inl y :: .inl x :: r => N n loc (.inl (x * y) :: r) S
  | _ => False
theorem ip_s_imul (hx : p.tables.exec = Jvm.exec) (hb : c.code = cc) (hd : decode cc pc = .ok (.imul, 1)) (hc : cnt (pc + 1) = cnt pc) : ip_snd p l e R s m args below meth c D cA A Q nL cnt I ad0 S0 pc (ip_t_imul (pc + 1)) := by
  intro N hN loc st S h ad L H locs ls hI hl hst hlo hex hW
  unfold ip_t_imul at h
  split at h
  · have k := hN _ _ _ _ h ad L H locs ls hI hl (ip_cs ip_ok_i (ip_tl (ip_tl hst))) hlo hex hW
    rw [hc] at k
    exact lv_imul hx hb hd k
  · exact h.elim
def ip_t_iand (n : Nat) : ip_T := fun N loc st S => match st with
  | .inl y :: .inl x :: r => N n loc (.inl (x &&& y) :: r) S
  | _ => False
theorem ip_s_iand (hx : p.tables.exec = Jvm.exec) (hb : c.code = cc) (hd : decode cc pc = .ok (.iand, 1)) (hc : cnt (pc + 1) = cnt pc) : ip_snd p l e R s m args below meth c D cA A Q nL cnt I ad0 S0 pc (ip_t_iand (pc + 1)) := by
  intro N hN loc st S h ad L H locs ls hI hl hst hlo hex hW
  unfold ip_t_iand at h
  split at h
  · have k := hN _ _ _ _ h ad L H locs ls hI hl (ip_cs ip_ok_i (ip_tl (ip_tl hst))) hlo hex hW
    rw [hc] at k
    exact lv_iand hx hb hd k
  · exact h.elim
def ip_t_ixor (n : Nat) : ip_T := fun N loc st S => match st with
  | .inl y :: .inl x :: r => N n loc (.inl (x ^^^ y) :: r) S
  | _ => False
theorem ip_s_ixor (hx : p.tables.exec = Jvm.exec) (hb : c.code = cc) (hd : decode cc pc = .ok (.ixor, 1)) (hc : cnt (pc + 1) = cnt pc) : ip_snd p l e R s m args below meth c D cA A Q nL cnt I ad0 S0 pc (ip_t_ixor (pc + 1)) := by
  intro N hN loc st S h ad L H locs ls hI hl hst hlo hex hW
  unfold ip_t_ixor at h
  split at h
  · have k := hN _ _ _ _ h ad L H locs ls hI hl (ip_cs ip_ok_i (ip_tl (ip_tl hst))) hlo hex hW
    rw [hc] at k
    exact lv_ixor hx hb hd k
  · exact h.elim
def ip_t_ishl (n : Nat) : ip_T := fun N loc st S => match st with
  | .inl y :: .inl x :: r => N n loc (.inl (x <<< (y &&& 31)) :: r) S
  | _ => False
theorem ip_s_ishl (hx : p.tables.exec = Jvm.exec) (hb : c.code = cc) (hd : decode cc pc = .ok (.ishl, 1)) (hc : cnt (pc + 1) = cnt pc) : ip_snd p l e R s m args below meth c D cA A Q nL cnt I ad0 S0 pc (ip_t_ishl (pc + 1)) := by
  intro N hN loc st S h ad L H locs ls hI hl hst hlo hex hW
  unfold ip_t_ishl at h
  split at h
  · have k := hN _ _ _ _ h ad L H locs ls hI hl (ip_cs ip_ok_i (ip_tl (ip_tl hst))) hlo hex hW
    rw [hc] at k
    exact lv_ishl hx hb hd k
  · exact h.elim
def ip_t_ishr (n : Nat) : ip_T := fun N loc st S => match st with
  | .inl y :: .inl x :: r => N n loc (.inl (x >>> (y &&& 31)) :: r) S
  | _ => False
theorem ip_s_ishr (hx : p.tables.exec = Jvm.exec) (hb : c.code = cc) (hd : decode cc pc = .ok (.ishr, 1)) (hc : cnt (pc + 1) = cnt pc) : ip_snd p l e R s m args below meth c D cA A Q nL cnt I ad0 S0 pc (ip_t_ishr (pc + 1)) := by
  intro N hN loc st S h ad L H locs ls hI hl hst hlo hex hW
  unfold ip_t_ishr at h
  split at h
  · have k := hN _ _ _ _ h ad L H locs ls hI hl (ip_cs ip_ok_i (ip_tl (ip_tl hst))) hlo hex hW
    rw [hc] at k
    exact lv_ishr hx hb hd k
  · exact h.elim
def ip_t_idiv (n : Nat) : ip_T := fun N loc st S => match st with
  | .inl y :: .inl x :: r => ¬ y = 0 ∧ N n loc (.inl (x / y) :: r) S
  | _ => False
theorem ip_s_idiv (hx : p.tables.exec = Jvm.exec) (hb : c.code = cc) (hd : decode cc pc = .ok (.idiv, 1)) (hc : cnt (pc + 1) = cnt pc) : ip_snd p l e R s m args below meth c D cA A Q nL cnt I ad0 S0 pc (ip_t_idiv (pc + 1)) := by
  intro N hN loc st S h ad L H locs ls hI hl hst hlo hex hW
  unfold ip_t_idiv at h
  split at h
  · have k := hN _ _ _ _ h.2 ad L H locs ls hI hl (ip_cs ip_ok_i (ip_tl (ip_tl hst))) hlo hex hW
    rw [hc] at k
    exact lv_idiv hx hb hd h.1 k
  · exact h.elim
def ip_t_irem (n : Nat) : ip_T := fun N loc st S => match st with
  | .inl y :: .inl x :: r => ¬ y = 0 ∧ N n loc (.inl (x - x / y * y) :: r) S
  | _ => False
theorem ip_s_irem (hx : p.tables.exec = Jvm.exec) (hb : c.code = cc) (hd : decode cc pc = .ok (.irem, 1)) (hc : cnt (pc + 1) = cnt pc) : ip_snd p l e R s m args below meth c D cA A Q nL cnt I ad0 S0 pc (ip_t_irem (pc + 1)) := by
  intro N hN loc st S h ad L H locs ls hI hl hst hlo hex hW
  unfold ip_t_irem at h
  split at h
  · have k := hN _ _ _ _ h.2 ad L H locs ls hI hl (ip_cs ip_ok_i (ip_tl (ip_tl hst))) hlo hex hW
    rw [hc] at k
    exact lv_irem hx hb hd h.1 k
  · exact h.elim
def ip_t_ladd (n : Nat) : ip_T := fun N loc st S => match st with
  | .inr (.inr y) :: .inr (.inr x) :: r => N n loc (.inr (.inr (x + y)) :: r) S
  | _ => False
theorem ip_s_ladd (hx : p.tables.exec = Jvm.exec) (hb : c.code = cc) (hd : decode cc pc = .ok (.ladd, 1)) (hc : cnt (pc + 1) = cnt pc) : ip_snd p l e R s m args below meth c D cA A Q nL cnt I ad0 S0 pc (ip_t_ladd (pc + 1)) := by
  intro N hN loc st S h ad L H locs ls hI hl hst hlo hex hW
  unfold ip_t_ladd at h
  split at h
  · have k := hN _ _ _ _ h ad L H locs ls hI hl (ip_cs ip_ok_l (ip_tl (ip_tl hst))) hlo hex hW
    rw [hc] at k
    exact lv_ladd hx hb hd k
  · exact h.elim
def ip_t_lcmp (n : Nat) : ip_T := fun N loc st S => match st with
  | .inr (.inr y) :: .inr (.inr x) :: r => N n loc (.inl (lg_cmp x y) :: r) S
  | _ => False
theorem ip_s_lcmp (hx : p.tables.exec = Jvm.exec) (hb : c.code = cc) (hd : decode cc pc = .ok (.lcmp, 1)) (hc : cnt (pc + 1) = cnt pc) : ip_snd p l e R s m args below meth c D cA A Q nL cnt I ad0 S0 pc (ip_t_lcmp (pc + 1)) := by
  intro N hN loc st S h ad L H locs ls hI hl hst hlo hex hW
  unfold ip_t_lcmp at h
  split at h
  · have k := hN _ _ _ _ h ad L H locs ls hI hl (ip_cs ip_ok_i (ip_tl (ip_tl hst))) hlo hex hW
    rw [hc] at k
    exact W.lcmp hx hb hd k
  · exact h.elim
def ip_t_i2l (n : Nat) : ip_T := fun N loc st S => match st with
  | .inl x :: r => N n loc (.inr (.inr x.toInt64) :: r) S
  | _ => False
theorem ip_s_i2l (hx : p.tables.exec = Jvm.exec) (hb : c.code = cc) (hd : decode cc pc = .ok (.i2l, 1)) (hc : cnt (pc + 1) = cnt pc) : ip_snd p l e R s m args below meth c D cA A Q nL cnt I ad0 S0 pc (ip_t_i2l (pc + 1)) := by
  intro N hN loc st S h ad L H locs ls hI hl hst hlo hex hW
  unfold ip_t_i2l at h
  split at h
  · have k := hN _ _ _ _ h ad L H locs ls hI hl (ip_cs ip_ok_l (ip_tl hst)) hlo hex hW
    rw [hc] at k
    exact lv_i2l hx hb hd rfl k
  · exact h.elim
def ip_t_dup (n : Nat) : ip_T := fun N loc st S => match st with
  | .inl x :: r => N n loc (.inl x :: .inl x :: r) S
  | .inr (.inl o) :: r => N n loc (.inr (.inl o) :: .inr (.inl o) :: r) S
  | _ => False
theorem ip_s_dup (hx : p.tables.exec = Jvm.exec) (hb : c.code = cc) (hd : decode cc pc = .ok (.dup, 1)) (hc : cnt (pc + 1) = cnt pc) : ip_snd p l e R s m args below meth c D cA A Q nL cnt I ad0 S0 pc (ip_t_dup (pc + 1)) := by
  intro N hN loc st S h ad L H locs ls hI hl hst hlo hex hW
  unfold ip_t_dup at h
  split at h
  · have k := hN _ _ _ _ h ad L H locs ls hI hl (ip_cs ip_ok_i hst) hlo hex hW
    rw [hc] at k
    exact lv_dup hx hb hd rfl k
  · have k := hN _ _ _ _ h ad L H locs ls hI hl (ip_cs (ip_hd hst) hst) hlo hex hW
    rw [hc] at k
    exact lv_dup hx hb hd (ip_rf_cat _) k
  · exact h.elim
/-- dup2 of an int above a reference (array and index) -/
def ip_t_dup2 (n : Nat) : ip_T := fun N loc st S => match st with
  | .inl x :: .inr (.inl o) :: r => N n loc (.inl x :: .inr (.inl o) :: .inl x :: .inr (.inl o) :: r) S
  | _ => False
theorem ip_s_dup2 (hx : p.tables.exec = Jvm.exec) (hb : c.code = cc) (hd : decode cc pc = .ok (.dup2, 1)) (hc : cnt (pc + 1) = cnt pc) : ip_snd p l e R s m args below meth c D cA A Q nL cnt I ad0 S0 pc (ip_t_dup2 (pc + 1)) := by
  intro N hN loc st S h ad L H locs ls hI hl hst hlo hex hW
  unfold ip_t_dup2 at h
  split at h
  · have k := hN _ _ _ _ h ad L H locs ls hI hl (ip_cs ip_ok_i (ip_cs (ip_hd (ip_tl hst)) hst)) hlo hex hW
    rw [hc] at k
    exact lv_dup2_11 hx hb hd rfl (ip_rf_cat _) k
  · exact h.elim
def ip_t_ifeq (t n : Nat) : ip_T := fun N loc st S => match st with
  | .inl x :: r => (x = 0 → N t loc r S) ∧ (¬ x = 0 → N n loc r S)
  | _ => False
theorem ip_s_ifeq (hx : p.tables.exec = Jvm.exec) (hb : c.code = cc) {off : Int} {t : Nat} (hd : decode cc pc = .ok (.ifCond .eq off, 3)) (ht : (pc : Int) + off = (t : Int)) (hc : cnt (pc + 3) = cnt pc) (hc2 : cnt t = cnt pc) : ip_snd p l e R s m args below meth c D cA A Q nL cnt I ad0 S0 pc (ip_t_ifeq t (pc + 3)) := by
  intro N hN loc st S h ad L H locs ls hI hl hst hlo hex hW
  unfold ip_t_ifeq at h
  split at h
  · refine lv_if_eq hx hb hd ht (fun q => ?_) (fun q => ?_)
    · have k := hN _ _ _ _ (h.1 q) ad L H locs ls hI hl (ip_tl hst) hlo hex hW
      rw [hc2] at k
      exact k
    · have k := hN _ _ _ _ (h.2 q) ad L H locs ls hI hl (ip_tl hst) hlo hex hW
      rw [hc] at k
      exact k
  · exact h.elim
def ip_t_ifne (t n : Nat) : ip_T := fun N loc st S => match st with
  | .inl x :: r => (¬ x = 0 → N t loc r S) ∧ (x = 0 → N n loc r S)
  | _ => False
theorem ip_s_ifne (hx : p.tables.exec = Jvm.exec) (hb : c.code = cc) {off : Int} {t : Nat} (hd : decode cc pc = .ok (.ifCond .ne off, 3)) (ht : (pc : Int) + off = (t : Int)) (hc : cnt (pc + 3) = cnt pc) (hc2 : cnt t = cnt pc) : ip_snd p l e R s m args below meth c D cA A Q nL cnt I ad0 S0 pc (ip_t_ifne t (pc + 3)) := by
  intro N hN loc st S h ad L H locs ls hI hl hst hlo hex hW
  unfold ip_t_ifne at h
  split at h
  · refine lv_if_ne hx hb hd ht (fun q => ?_) (fun q => ?_)
    · have k := hN _ _ _ _ (h.1 q) ad L H locs ls hI hl (ip_tl hst) hlo hex hW
      rw [hc2] at k
      exact k
    · have k := hN _ _ _ _ (h.2 q) ad L H locs ls hI hl (ip_tl hst) hlo hex hW
      rw [hc] at k
      exact k
  · exact h.elim
def ip_t_iflt (t n : Nat) : ip_T := fun N loc st S => match st with
  | .inl x :: r => (x < 0 → N t loc r S) ∧ (¬ x < 0 → N n loc r S)
  | _ => False
theorem ip_s_iflt (hx : p.tables.exec = Jvm.exec) (hb : c.code = cc) {off : Int} {t : Nat} (hd : decode cc pc = .ok (.ifCond .lt off, 3)) (ht : (pc : Int) + off = (t : Int)) (hc : cnt (pc + 3) = cnt pc) (hc2 : cnt t = cnt pc) : ip_snd p l e R s m args below meth c D cA A Q nL cnt I ad0 S0 pc (ip_t_iflt t (pc + 3)) := by
  intro N hN loc st S h ad L H locs ls hI hl hst hlo hex hW
  unfold ip_t_iflt at h
  split at h
  · refine lv_if_lt hx hb hd ht (fun q => ?_) (fun q => ?_)
    · have k := hN _ _ _ _ (h.1 q) ad L H locs ls hI hl (ip_tl hst) hlo hex hW
      rw [hc2] at k
      exact k
    · have k := hN _ _ _ _ (h.2 q) ad L H locs ls hI hl (ip_tl hst) hlo hex hW
      rw [hc] at k
      exact k
  · exact h.elim
def ip_t_ifge (t n : Nat) : ip_T := fun N loc st S => match st with
  | .inl x :: r => (0 ≤ x → N t loc r S) ∧ (¬ 0 ≤ x → N n loc r S)
  | _ => False
theorem ip_s_ifge (hx : p.tables.exec = Jvm.exec) (hb : c.code = cc) {off : Int} {t : Nat} (hd : decode cc pc = .ok (.ifCond .ge off, 3)) (ht : (pc : Int) + off = (t : Int)) (hc : cnt (pc + 3) = cnt pc) (hc2 : cnt t = cnt pc) : ip_snd p l e R s m args below meth c D cA A Q nL cnt I ad0 S0 pc (ip_t_ifge t (pc + 3)) := by
  intro N hN loc st S h ad L H locs ls hI hl hst hlo hex hW
  unfold ip_t_ifge at h
  split at h
  · refine lv_if_ge hx hb hd ht (fun q => ?_) (fun q => ?_)
    · have k := hN _ _ _ _ (h.1 q) ad L H locs ls hI hl (ip_tl hst) hlo hex hW
      rw [hc2] at k
      exact k
    · have k := hN _ _ _ _ (h.2 q) ad L H locs ls hI hl (ip_tl hst) hlo hex hW
      rw [hc] at k
      exact k
  · exact h.elim
def ip_t_ifgt (t n : Nat) : ip_T := fun N loc st S => match st with
  | .inl x :: r => (0 < x → N t loc r S) ∧ (¬ 0 < x → N n loc r S)
  | _ => False
theorem ip_s_ifgt (hx : p.tables.exec = Jvm.exec) (hb : c.code = cc) {off : Int} {t : Nat} (hd : decode cc pc = .ok (.ifCond .gt off, 3)) (ht : (pc : Int) + off = (t : Int)) (hc : cnt (pc + 3) = cnt pc) (hc2 : cnt t = cnt pc) : ip_snd p l e R s m args below meth c D cA A Q nL cnt I ad0 S0 pc (ip_t_ifgt t (pc + 3)) := by
  intro N hN loc st S h ad L H locs ls hI hl hst hlo hex hW
  unfold ip_t_ifgt at h
  split at h
  · refine lv_if_gt hx hb hd ht (fun q => ?_) (fun q => ?_)
    · have k := hN _ _ _ _ (h.1 q) ad L H locs ls hI hl (ip_tl hst) hlo hex hW
      rw [hc2] at k
      exact k
    · have k := hN _ _ _ _ (h.2 q) ad L H locs ls hI hl (ip_tl hst) hlo hex hW
      rw [hc] at k
      exact k
  · exact h.elim
def ip_t_ifle (t n : Nat) : ip_T := fun N loc st S => match st with
  | .inl x :: r => (x ≤ 0 → N t loc r S) ∧ (¬ x ≤ 0 → N n loc r S)
  | _ => False
theorem ip_s_ifle (hx : p.tables.exec = Jvm.exec) (hb : c.code = cc) {off : Int} {t : Nat} (hd : decode cc pc = .ok (.ifCond .le off, 3)) (ht : (pc : Int) + off = (t : Int)) (hc : cnt (pc + 3) = cnt pc) (hc2 : cnt t = cnt pc) : ip_snd p l e R s m args below meth c D cA A Q nL cnt I ad0 S0 pc (ip_t_ifle t (pc + 3)) := by
  intro N hN loc st S h ad L H locs ls hI hl hst hlo hex hW
  unfold ip_t_ifle at h
  split at h
  · refine lv_if_le hx hb hd ht (fun q => ?_) (fun q => ?_)
    · have k := hN _ _ _ _ (h.1 q) ad L H locs ls hI hl (ip_tl hst) hlo hex hW
      rw [hc2] at k
      exact k
    · have k := hN _ _ _ _ (h.2 q) ad L H locs ls hI hl (ip_tl hst) hlo hex hW
      rw [hc] at k
      exact k
  · exact h.elim
def ip_t_iceq (t n : Nat) : ip_T := fun N loc st S => match st with
  | .inl y :: .inl x :: r => (x = y → N t loc r S) ∧ (¬ x = y → N n loc r S)
  | _ => False
theorem ip_s_iceq (hx : p.tables.exec = Jvm.exec) (hb : c.code = cc) {off : Int} {t : Nat} (hd : decode cc pc = .ok (.if_icmp .eq off, 3)) (ht : (pc : Int) + off = (t : Int)) (hc : cnt (pc + 3) = cnt pc) (hc2 : cnt t = cnt pc) : ip_snd p l e R s m args below meth c D cA A Q nL cnt I ad0 S0 pc (ip_t_iceq t (pc + 3)) := by
  intro N hN loc st S h ad L H locs ls hI hl hst hlo hex hW
  unfold ip_t_iceq at h
  split at h
  · refine lv_icmp_eq hx hb hd ht (fun q => ?_) (fun q => ?_)
    · have k := hN _ _ _ _ (h.1 q) ad L H locs ls hI hl (ip_tl (ip_tl hst)) hlo hex hW
      rw [hc2] at k
      exact k
    · have k := hN _ _ _ _ (h.2 q) ad L H locs ls hI hl (ip_tl (ip_tl hst)) hlo hex hW
      rw [hc] at k
      exact k
  · exact h.elim
def ip_t_icne (t n : Nat) : ip_T := fun N loc st S => match st with
  | .inl y :: .inl x :: r => (¬ x = y → N t loc r S) ∧ (x = y → N n loc r S)
  | _ => False
theorem ip_s_icne (hx : p.tables.exec = Jvm.exec) (hb : c.code = cc) {off : Int} {t : Nat} (hd : decode cc pc = .ok (.if_icmp .ne off, 3)) (ht : (pc : Int) + off = (t : Int)) (hc : cnt (pc + 3) = cnt pc) (hc2 : cnt t = cnt pc) : ip_snd p l e R s m args below meth c D cA A Q nL cnt I ad0 S0 pc (ip_t_icne t (pc + 3)) := by
  intro N hN loc st S h ad L H locs ls hI hl hst hlo hex hW
  unfold ip_t_icne at h
  split at h
  · refine lv_icmp_ne hx hb hd ht (fun q => ?_) (fun q => ?_)
    · have k := hN _ _ _ _ (h.1 q) ad L H locs ls hI hl (ip_tl (ip_tl hst)) hlo hex hW
      rw [hc2] at k
      exact k
    · have k := hN _ _ _ _ (h.2 q) ad L H locs ls hI hl (ip_tl (ip_tl hst)) hlo hex hW
      rw [hc] at k
      exact k
  · exact h.elim
def ip_t_iclt (t n : Nat) : ip_T := fun N loc st S => match st with
  | .inl y :: .inl x :: r => (x < y → N t loc r S) ∧ (¬ x < y → N n loc r S)
  | _ => False
theorem ip_s_iclt (hx : p.tables.exec = Jvm.exec) (hb : c.code = cc) {off : Int} {t : Nat} (hd : decode cc pc = .ok (.if_icmp .lt off, 3)) (ht : (pc : Int) + off = (t : Int)) (hc : cnt (pc + 3) = cnt pc) (hc2 : cnt t = cnt pc) : ip_snd p l e R s m args below meth c D cA A Q nL cnt I ad0 S0 pc (ip_t_iclt t (pc + 3)) := by
  intro N hN loc st S h ad L H locs ls hI hl hst hlo hex hW
  unfold ip_t_iclt at h
  split at h
  · refine lv_icmp_lt hx hb hd ht (fun q => ?_) (fun q => ?_)
    · have k := hN _ _ _ _ (h.1 q) ad L H locs ls hI hl (ip_tl (ip_tl hst)) hlo hex hW
      rw [hc2] at k
      exact k
    · have k := hN _ _ _ _ (h.2 q) ad L H locs ls hI hl (ip_tl (ip_tl hst)) hlo hex hW
      rw [hc] at k
      exact k
  · exact h.elim
def ip_t_icge (t n : Nat) : ip_T := fun N loc st S => match st with
  | .inl y :: .inl x :: r => (y ≤ x → N t loc r S) ∧ (¬ y ≤ x → N n loc r S)
  | _ => False
theorem ip_s_icge (hx : p.tables.exec = Jvm.exec) (hb : c.code = cc) {off : Int} {t : Nat} (hd : decode cc pc = .ok (.if_icmp .ge off, 3)) (ht : (pc : Int) + off = (t : Int)) (hc : cnt (pc + 3) = cnt pc) (hc2 : cnt t = cnt pc) : ip_snd p l e R s m args below meth c D cA A Q nL cnt I ad0 S0 pc (ip_t_icge t (pc + 3)) := by
  intro N hN loc st S h ad L H locs ls hI hl hst hlo hex hW
  unfold ip_t_icge at h
  split at h
  · refine lv_icmp_ge hx hb hd ht (fun q => ?_) (fun q => ?_)
    · have k := hN _ _ _ _ (h.1 q) ad L H locs ls hI hl (ip_tl (ip_tl hst)) hlo hex hW
      rw [hc2] at k
      exact k
    · have k := hN _ _ _ _ (h.2 q) ad L H locs ls hI hl (ip_tl (ip_tl hst)) hlo hex hW
      rw [hc] at k
      exact k
  · exact h.elim
def ip_t_icgt (t n : Nat) : ip_T := fun N loc st S => match st with
  | .inl y :: .inl x :: r => (y < x → N t loc r S) ∧ (¬ y < x → N n loc r S)
  | _ => False
theorem ip_s_icgt (hx : p.tables.exec = Jvm.exec) (hb : c.code = cc) {off : Int} {t : Nat} (hd : decode cc pc = .ok (.if_icmp .gt off, 3)) (ht : (pc : Int) + off = (t : Int)) (hc : cnt (pc + 3) = cnt pc) (hc2 : cnt t = cnt pc) : ip_snd p l e R s m args below meth c D cA A Q nL cnt I ad0 S0 pc (ip_t_icgt t (pc + 3)) := by
  intro N hN loc st S h ad L H locs ls hI hl hst hlo hex hW
  unfold ip_t_icgt at h
  split at h
  · refine lv_icmp_gt hx hb hd ht (fun q => ?_) (fun q => ?_)
    · have k := hN _ _ _ _ (h.1 q) ad L H locs ls hI hl (ip_tl (ip_tl hst)) hlo hex hW
      rw [hc2] at k
      exact k
    · have k := hN _ _ _ _ (h.2 q) ad L H locs ls hI hl (ip_tl (ip_tl hst)) hlo hex hW
      rw [hc] at k
      exact k
  · exact h.elim
def ip_t_icle (t n : Nat) : ip_T := fun N loc st S => match st with
  | .inl y :: .inl x :: r => (x ≤ y → N t loc r S) ∧ (¬ x ≤ y → N n loc r S)
  | _ => False
theorem ip_s_icle (hx : p.tables.exec = Jvm.exec) (hb : c.code = cc) {off : Int} {t : Nat} (hd : decode cc pc = .ok (.if_icmp .le off, 3)) (ht : (pc : Int) + off = (t : Int)) (hc : cnt (pc + 3) = cnt pc) (hc2 : cnt t = cnt pc) : ip_snd p l e R s m args below meth c D cA A Q nL cnt I ad0 S0 pc (ip_t_icle t (pc + 3)) := by
  intro N hN loc st S h ad L H locs ls hI hl hst hlo hex hW
  unfold ip_t_icle at h
  split at h
  · refine lv_icmp_le hx hb hd ht (fun q => ?_) (fun q => ?_)
    · have k := hN _ _ _ _ (h.1 q) ad L H locs ls hI hl (ip_tl (ip_tl hst)) hlo hex hW
      rw [hc2] at k
      exact k
    · have k := hN _ _ _ _ (h.2 q) ad L H locs ls hI hl (ip_tl (ip_tl hst)) hlo hex hW
      rw [hc] at k
      exact k
  · exact h.elim
def ip_t_go (t : Nat) : ip_T := fun N loc st S => N t loc st S
theorem ip_s_go (hx : p.tables.exec = Jvm.exec) (hb : c.code = cc) {off : Int} {t : Nat} (hd : decode cc pc = .ok (.goto off, 3)) (ht : (pc : Int) + off = (t : Int)) (h1 : (cnt pc).1 ≤ (cnt t).1) (h2 : (cnt pc).2 ≤ (cnt t).2) : ip_snd p l e R s m args below meth c D cA A Q nL cnt I ad0 S0 pc (ip_t_go t) := by
  intro N hN loc st S h ad L H locs ls hI hl hst hlo hex hW
  have k := hN _ _ _ _ h ad L H locs ls hI hl hst hlo hex hW
  exact lv_goto hx hb hd ht (W.widen h1 h2 k)
def ip_t_null (t n : Nat) : ip_T := fun N loc st S => match st with
  | .inr (.inl none) :: r => N t loc r S
  | .inr (.inl (some _)) :: r => N n loc r S
  | _ => False
theorem ip_s_ifnull (hx : p.tables.exec = Jvm.exec) (hb : c.code = cc) {off : Int} {t : Nat} (hd : decode cc pc = .ok (.ifnull off, 3)) (ht : (pc : Int) + off = (t : Int)) (hc : cnt (pc + 3) = cnt pc) (hc2 : cnt t = cnt pc) : ip_snd p l e R s m args below meth c D cA A Q nL cnt I ad0 S0 pc (ip_t_null t (pc + 3)) := by
  intro N hN loc st S h ad L H locs ls hI hl hst hlo hex hW
  unfold ip_t_null at h
  split at h
  · have k := hN _ _ _ _ h ad L H locs ls hI hl (ip_tl hst) hlo hex hW
    rw [hc2] at k
    exact lv_ifnullN hx hb hd ht k
  · have k := hN _ _ _ _ h ad L H locs ls hI hl (ip_tl hst) hlo hex hW
    rw [hc] at k
    exact lv_ifnull hx hb hd k
  · exact h.elim
theorem ip_s_ifnonnull (hx : p.tables.exec = Jvm.exec) (hb : c.code = cc) {off : Int} {t : Nat} (hd : decode cc pc = .ok (.ifnonnull off, 3)) (ht : (pc : Int) + off = (t : Int)) (hc : cnt (pc + 3) = cnt pc) (hc2 : cnt t = cnt pc) : ip_snd p l e R s m args below meth c D cA A Q nL cnt I ad0 S0 pc (ip_t_null (pc + 3) t) := by
  intro N hN loc st S h ad L H locs ls hI hl hst hlo hex hW
  unfold ip_t_null at h
  split at h
  · have k := hN _ _ _ _ h ad L H locs ls hI hl (ip_tl hst) hlo hex hW
    rw [hc] at k
    exact lv_ifnonnullN hx hb hd k
  · have k := hN _ _ _ _ h ad L H locs ls hI hl (ip_tl hst) hlo hex hW
    rw [hc2] at k
    exact lv_ifnonnull hx hb hd ht k
  · exact h.elim
/-- a switch: a chain of tests -/
def ip_sw (N : Nat → Prop) (x : Int32) (d : Nat) : List (Int32 × Nat) → Prop
  | [] => N d
  | q :: r => (x = q.1 → N q.2) ∧ (¬ x = q.1 → ip_sw N x d r)
theorem ip_sw_or {N : Nat → Prop} {x : Int32} {d : Nat} : ∀ {ts : List (Int32 × Nat)}, ip_sw N x d ts → (∃ q ∈ ts, x = q.1 ∧ N q.2) ∨ ((∀ q ∈ ts, ¬ x = q.1) ∧ N d)
  | [], h => Or.inr ⟨fun q hq => (by cases hq), h⟩
  | q :: r, h => by
    by_cases hx : x = q.1
    · exact Or.inl ⟨q, List.mem_cons_self, hx, h.1 hx⟩
    · rcases ip_sw_or (h.2 hx) with ⟨q', h1, h2⟩ | ⟨h1, h2⟩
      · exact Or.inl ⟨q', List.mem_cons_of_mem _ h1, h2⟩
      · exact Or.inr ⟨List.forall_mem_cons.mpr ⟨hx, h1⟩, h2⟩
def ip_t_sw (ts : List (Int32 × Nat)) (d : Nat) : ip_T := fun N loc st S => match st with
  | .inl x :: r => ip_sw (fun n => N n loc r S) x d ts
  | _ => False
theorem ip_s_sw (hx : p.tables.exec = Jvm.exec) (hb : c.code = cc) {dflt lo hi : Int} {offs : Array Int} {len d : Nat} {ts : List (Int32 × Nat)} (n : Nat) (hd : decode cc pc = .ok (.tableswitch dflt lo hi offs, len)) (hdt : (pc : Int) + dflt = (d : Int)) (h1 : ∀ q ∈ ts, lo ≤ q.1.toInt ∧ q.1.toInt ≤ hi ∧ offs[(q.1.toInt - lo).toNat]? = some ((q.2 : Int) - pc)) (h2 : ∀ j, j < n → ∃ q ∈ ts, q.1.toInt = lo + (j : Int)) (hn : hi < lo + n) (hcd : cnt d = cnt pc) (hct : ∀ q ∈ ts, cnt q.2 = cnt pc) : ip_snd p l e R s m args below meth c D cA A Q nL cnt I ad0 S0 pc (ip_t_sw ts d) := by
  intro N hN loc st S h ad L H locs ls hI hl hst hlo hex hW
  unfold ip_t_sw at h
  split at h
  · rename_i x r
    rcases ip_sw_or h with ⟨q, hq, hxq, hk⟩ | ⟨hno, hk⟩
    · obtain ⟨a1, a2, a3⟩ := h1 q hq
      have k := hN _ _ _ _ hk ad L H locs ls hI hl (ip_tl hst) hlo hex hW
      rw [hct q hq] at k
      subst hxq
      exact lv_tableIn hx hb hd (by omega) (by omega) a3 (by omega) k
    · have k := hN _ _ _ _ hk ad L H locs ls hI hl (ip_tl hst) hlo hex hW
      rw [hcd] at k
      refine lv_tableOut hx hb hd ?_ hdt k
      by_cases hlo : x.toInt < lo
      · exact Or.inl hlo
      · right
        refine Int.lt_of_not_ge (fun hge => ?_)
        obtain ⟨q, hq, hqe⟩ := h2 (x.toInt - lo).toNat (by omega)
        exact hno q hq (Int32.toInt_inj.mp (by rw [hqe]; omega))
  · exact h.elim
end IPV
end
section
section IPF
variable {p : Program} {l : Launch} {e : Env} {R : Room} {s : State} {m : MethodId} {args : Array Value} {below : List Frame} {meth : Method} {c : Code} {D : va_G} {cA : Nat → ClassId} {A : Nat → Prop} {Q : State → Prop} {nL : Nat} {cnt : Nat → Nat × Nat} {I : ip_S → Prop} {ad0 : Nat → Nat} {S0 : ip_S}
variable {cc : ByteArray} {pc : Nat}
theorem ip_fat {ad : Nat → Nat} {S : ip_S} {q ci k t : Nat} (h : (ip_ty ci)[k]? = some t) : (ip_fs ad S q (ip_ty ci) 0)[k]? = some (ip_fv ad S q k t) := by
  rw [ip_fs_at, h, Option.map_some, Nat.zero_add]
theorem ip_Wat {ad : Nat → Nat} {L : List Nat} {S : ip_S} {H : Heap} {locs : List Loc} (hW : ip_W D cA A ad L S s H locs) {q ci : Nat} (h : (S.2.2.2 q).1 = ci) (hci : ci < 6) : ∃ k0 : Nat, L[k0]? = some q ∧ (ip_wl cA ad L S)[k0]? = some (ad q, .inr (ci, ip_fs ad S q (ip_ty ci) 0)) := by
  obtain ⟨k0, h1, h2⟩ := ip_wl_at (cA := cA) (ad := ad) (S := S) ((hW.1 q).mpr (by show (S.2.2.2 q).1 < 10; omega))
  exact ⟨k0, h1, by rw [h2, ip_E_obj h hci]⟩
/-- behind a write -/
theorem ip_W.put {ad : Nat → Nat} {L : List Nat} {S S' : ip_S} {H H1 : Heap} {locs locs1 : List Loc} (hW : ip_W D cA A ad L S s H locs) (hk : S'.2.2.2 = S.2.2.2) (hc : ip_cl S') {q k0 : Nat} (hq : L[k0]? = some q) (hne : ∀ q', q' ≠ q → ip_E cA ad S' q' = ip_E cA ad S q') {en : va_E} (hen : en = ip_E cA ad S' q)
    (hP : va_P D vwCl ((ip_wl cA ad L S).set k0 (ad q, en)) H1) (hD : va_D A ((ip_wl cA ad L S).set k0 (ad q, en))) (hS : va_S A s.heap H1 locs1) : ip_W D cA A ad L S' s H1 locs1 := by
  obtain ⟨h1, h2, h3, h4, h5, h6⟩ := hW
  subst hen
  rw [ip_wl_set h5 hq hne] at hP hD
  refine ⟨fun r => ?_, hc, h3, hP, hD, hS⟩
  rw [h1 r]
  show (S.2.2.2 r).1 < 10 ↔ (S'.2.2.2 r).1 < 10
  rw [hk]
theorem ip_ax_k {S S' : ip_S} (hk : S'.2.2.2 = S.2.2.2) {q : Nat} : ip_ax S' q ↔ ip_ax S q := by
  show (S'.2.2.2 q).1 < 10 ∨ q = 99 ↔ (S.2.2.2 q).1 < 10 ∨ q = 99
  rw [hk]
theorem ip_ok_k {S S' : ip_S} (hk : S'.2.2.2 = S.2.2.2) {v : ip_V} (h : ip_ok S v) : ip_ok S' v := fun q e => (ip_ax_k hk).mpr (h q e)
theorem ip_cl_R {S : ip_S} (h : ip_cl S) {p k : Nat} {v : Option Nat} (hv : ip_ok S (.inr (.inl v))) : ip_cl (ip_sR S p k v) := by
  intro q j r hr
  have hr' : (if q = p ∧ j = k then v else S.2.1 q j) = some r := hr
  split at hr'
  · exact hv r (by rw [hr'])
  · exact h q j r hr'
def ip_t_gI (ci k n : Nat) : ip_T := fun N loc st S => match st with
  | .inr (.inl (some q)) :: r => (S.2.2.2 q).1 = ci ∧ N n loc (.inl (S.1 q k) :: r) S
  | _ => False
def ip_t_gI0 (p0 k n : Nat) : ip_T := fun N loc st S => match st with
  | .inr (.inl (some q)) :: r => bif Nat.beq q p0 then N n loc (.inl (S.1 p0 k) :: r) S else False
  | _ => False
def ip_t_gR (ci k n : Nat) : ip_T := fun N loc st S => match st with
  | .inr (.inl (some q)) :: r => (S.2.2.2 q).1 = ci ∧ ∀ o, S.2.1 q k = o → N n loc (.inr (.inl o) :: r) S
  | _ => False
def ip_t_gR0 (p0 v n : Nat) : ip_T := fun N loc st S => match st with
  | .inr (.inl (some q)) :: r => bif Nat.beq q p0 then N n loc (.inr (.inl (some v)) :: r) S else False
  | _ => False
def ip_t_gJ0 (p0 k n : Nat) : ip_T := fun N loc st S => match st with
  | .inr (.inl (some q)) :: r => bif Nat.beq q p0 then N n loc (.inr (.inr (S.2.2.1 p0 k)) :: r) S else False
  | _ => False
def ip_t_pI (ci k n : Nat) : ip_T := fun N loc st S => match st with
  | .inl x :: .inr (.inl (some q)) :: r => (S.2.2.2 q).1 = ci ∧ N n loc r (ip_sI S q k x)
  | _ => False
def ip_t_pI0 (p0 k n : Nat) : ip_T := fun N loc st S => match st with
  | .inl x :: .inr (.inl (some q)) :: r => bif Nat.beq q p0 then N n loc r (ip_sI S p0 k x) else False
  | _ => False
def ip_t_pR (ci k n : Nat) : ip_T := fun N loc st S => match st with
  | .inr (.inl o) :: .inr (.inl (some q)) :: r => (S.2.2.2 q).1 = ci ∧ N n loc r (ip_sR S q k o)
  | _ => False
def ip_t_pJ0 (p0 k n : Nat) : ip_T := fun N loc st S => match st with
  | .inr (.inr x) :: .inr (.inl (some q)) :: r => bif Nat.beq q p0 then N n loc r (ip_sJ S p0 k x) else False
  | _ => False
theorem ip_s_gI (hx : p.tables.exec = Jvm.exec) (hb : c.code = cc) {own ref C : String} {T : u_T} {N ci index : Nat} {Ts : List Cond} (hts : ∀ w ∈ Ts, w.before args s = true) (hin : ∀ w ∈ u_ws C T N, w ∈ Ts) (hown : s.vm.findClass own = some m.cls) (hcl : vwCl[ci]? = some (C, T, N)) (hci : ci < 6) (k : Nat) (hk : k < N) (hlink : (Cond.fieldLink own index ref (T k).2.1 (T k).2.2.1).before args s = true) (hsame : ∀ x, s.fieldFound? (T k).1 (T k).2.1 (T k).2.2.1 = some x → s.fieldFound? ref (T k).2.1 (T k).2.2.1 = some x) (ht : (ip_ty ci)[k]? = some 0) (hd : decode cc pc = .ok (.getfield index, 3)) (hc : cnt (pc + 3) = cnt pc) : ip_snd p l e R s m args below meth c D cA A Q nL cnt I ad0 S0 pc (ip_t_gI ci k (pc + 3)) := by
  intro N hN loc st S h ad L H locs ls hI hl hst hlo hex hW
  unfold ip_t_gI at h
  split at h
  · rename_i q r
    obtain ⟨k0, h1, h2⟩ := ip_Wat hW h.1 hci
    have kk := hN _ _ _ _ h.2 ad L H locs ls hI hl (ip_cs ip_ok_i (ip_tl hst)) hlo hex hW
    rw [hc] at kk
    exact va_get hx hb hts hin hown hW.2.2.1 hW.2.2.2.1 k0 h2 hcl k hk hlink hsame (ip_fat ht) hd kk
  · exact h.elim
theorem ip_s_gI0 (hx : p.tables.exec = Jvm.exec) (hb : c.code = cc) {own ref C : String} {T : u_T} {N ci index : Nat} {Ts : List Cond} (hts : ∀ w ∈ Ts, w.before args s = true) (hin : ∀ w ∈ u_ws C T N, w ∈ Ts) (hown : s.vm.findClass own = some m.cls) (hcl : vwCl[ci]? = some (C, T, N)) (hci : ci < 6) (k : Nat) (hk : k < N) (hlink : (Cond.fieldLink own index ref (T k).2.1 (T k).2.2.1).before args s = true) (hsame : ∀ x, s.fieldFound? (T k).1 (T k).2.1 (T k).2.2.1 = some x → s.fieldFound? ref (T k).2.1 (T k).2.2.1 = some x) (hIs : ∀ S, I S → ip_Sta S) (p0 : Nat) (hp0 : (ip_kt p0).1 = ci) (ht : (ip_ty ci)[k]? = some 0) (hd : decode cc pc = .ok (.getfield index, 3)) (hc : cnt (pc + 3) = cnt pc) : ip_snd p l e R s m args below meth c D cA A Q nL cnt I ad0 S0 pc (ip_t_gI0 p0 k (pc + 3)) := by
  intro N hN loc st S h ad L H locs ls hI hl hst hlo hex hW
  unfold ip_t_gI0 at h
  split at h
  · rename_i q r
    cases hq : Nat.beq q p0 with
    | false => rw [hq] at h; exact h.elim
    | true =>
      rw [hq] at h
      have := Nat.eq_of_beq_eq_true hq
      subst this
      obtain ⟨k0, h1, h2⟩ := ip_Wat hW (q := q) (ci := ci) (by rw [(hIs S hI).1 q (by omega)]; exact hp0) hci
      have kk := hN _ _ _ _ h ad L H locs ls hI hl (ip_cs ip_ok_i (ip_tl hst)) hlo hex hW
      rw [hc] at kk
      exact va_get hx hb hts hin hown hW.2.2.1 hW.2.2.2.1 k0 h2 hcl k hk hlink hsame (ip_fat ht) hd kk
  · exact h.elim
theorem ip_s_gJ0 (hx : p.tables.exec = Jvm.exec) (hb : c.code = cc) {own ref C : String} {T : u_T} {N ci index : Nat} {Ts : List Cond} (hts : ∀ w ∈ Ts, w.before args s = true) (hin : ∀ w ∈ u_ws C T N, w ∈ Ts) (hown : s.vm.findClass own = some m.cls) (hcl : vwCl[ci]? = some (C, T, N)) (hci : ci < 6) (k : Nat) (hk : k < N) (hlink : (Cond.fieldLink own index ref (T k).2.1 (T k).2.2.1).before args s = true) (hsame : ∀ x, s.fieldFound? (T k).1 (T k).2.1 (T k).2.2.1 = some x → s.fieldFound? ref (T k).2.1 (T k).2.2.1 = some x) (hIs : ∀ S, I S → ip_Sta S) (p0 : Nat) (hp0 : (ip_kt p0).1 = ci) (ht : (ip_ty ci)[k]? = some 2) (hd : decode cc pc = .ok (.getfield index, 3)) (hc : cnt (pc + 3) = cnt pc) : ip_snd p l e R s m args below meth c D cA A Q nL cnt I ad0 S0 pc (ip_t_gJ0 p0 k (pc + 3)) := by
  intro N hN loc st S h ad L H locs ls hI hl hst hlo hex hW
  unfold ip_t_gJ0 at h
  split at h
  · rename_i q r
    cases hq : Nat.beq q p0 with
    | false => rw [hq] at h; exact h.elim
    | true =>
      rw [hq] at h
      have := Nat.eq_of_beq_eq_true hq
      subst this
      obtain ⟨k0, h1, h2⟩ := ip_Wat hW (q := q) (ci := ci) (by rw [(hIs S hI).1 q (by omega)]; exact hp0) hci
      have kk := hN _ _ _ _ h ad L H locs ls hI hl (ip_cs ip_ok_l (ip_tl hst)) hlo hex hW
      rw [hc] at kk
      exact va_get hx hb hts hin hown hW.2.2.1 hW.2.2.2.1 k0 h2 hcl k hk hlink hsame (ip_fat ht) hd kk
  · exact h.elim
theorem ip_s_gR0 (hx : p.tables.exec = Jvm.exec) (hb : c.code = cc) {own ref C : String} {T : u_T} {N ci index : Nat} {Ts : List Cond} (hts : ∀ w ∈ Ts, w.before args s = true) (hin : ∀ w ∈ u_ws C T N, w ∈ Ts) (hown : s.vm.findClass own = some m.cls) (hcl : vwCl[ci]? = some (C, T, N)) (hci : ci < 6) (k : Nat) (hk : k < N) (hlink : (Cond.fieldLink own index ref (T k).2.1 (T k).2.2.1).before args s = true) (hsame : ∀ x, s.fieldFound? (T k).1 (T k).2.1 (T k).2.2.1 = some x → s.fieldFound? ref (T k).2.1 (T k).2.2.1 = some x) (hIs : ∀ S, I S → ip_Sta S) (p0 v : Nat) (hp0 : (ip_kt p0).1 = ci) (hv : (p0, k, v) ∈ ip_rt) (ht : (ip_ty ci)[k]? = some 1) (hd : decode cc pc = .ok (.getfield index, 3)) (hc : cnt (pc + 3) = cnt pc) : ip_snd p l e R s m args below meth c D cA A Q nL cnt I ad0 S0 pc (ip_t_gR0 p0 v (pc + 3)) := by
  intro N hN loc st S h ad L H locs ls hI hl hst hlo hex hW
  unfold ip_t_gR0 at h
  split at h
  · rename_i q r
    cases hq : Nat.beq q p0 with
    | false => rw [hq] at h; exact h.elim
    | true =>
      rw [hq] at h
      have := Nat.eq_of_beq_eq_true hq
      subst this
      obtain ⟨k0, h1, h2⟩ := ip_Wat hW (q := q) (ci := ci) (by rw [(hIs S hI).1 q (by omega)]; exact hp0) hci
      have hv' := (hIs S hI).2 _ hv
      have kk := hN _ _ _ _ h ad L H locs ls hI hl (ip_cs (ip_ok_c hW.2.1 hv') (ip_tl hst)) hlo hex hW
      rw [hc] at kk
      have hf := ip_fat (ad := ad) (S := S) (q := q) ht
      simp only [ip_fv] at hf
      rw [show S.2.1 q k = some v from hv'] at hf
      exact va_get hx hb hts hin hown hW.2.2.1 hW.2.2.2.1 k0 h2 hcl k hk hlink hsame hf hd kk
  · exact h.elim
theorem ip_s_gR (hx : p.tables.exec = Jvm.exec) (hb : c.code = cc) {own ref C : String} {T : u_T} {N ci index : Nat} {Ts : List Cond} (hts : ∀ w ∈ Ts, w.before args s = true) (hin : ∀ w ∈ u_ws C T N, w ∈ Ts) (hown : s.vm.findClass own = some m.cls) (hcl : vwCl[ci]? = some (C, T, N)) (hci : ci < 6) (k : Nat) (hk : k < N) (hlink : (Cond.fieldLink own index ref (T k).2.1 (T k).2.2.1).before args s = true) (hsame : ∀ x, s.fieldFound? (T k).1 (T k).2.1 (T k).2.2.1 = some x → s.fieldFound? ref (T k).2.1 (T k).2.2.1 = some x) (ht : (ip_ty ci)[k]? = some 1) (hd : decode cc pc = .ok (.getfield index, 3)) (hc : cnt (pc + 3) = cnt pc) : ip_snd p l e R s m args below meth c D cA A Q nL cnt I ad0 S0 pc (ip_t_gR ci k (pc + 3)) := by
  intro N hN loc st S h ad L H locs ls hI hl hst hlo hex hW
  unfold ip_t_gR at h
  split at h
  · rename_i q r
    obtain ⟨k0, h1, h2⟩ := ip_Wat hW h.1 hci
    have kk := hN _ _ _ _ (h.2 _ rfl) ad L H locs ls hI hl (ip_cs (ip_ok_c hW.2.1 rfl) (ip_tl hst)) hlo hex hW
    rw [hc] at kk
    exact va_get hx hb hts hin hown hW.2.2.1 hW.2.2.2.1 k0 h2 hcl k hk hlink hsame (ip_fat ht) hd kk
  · exact h.elim
theorem ip_s_gIN (hx : p.tables.exec = Jvm.exec) (hb : c.code = cc) {own ref C host : String} {T : u_T} {N ci index : Nat} {Ts : List Cond} (hts : ∀ w ∈ Ts, w.before args s = true) (hin : ∀ w ∈ u_ws C T N, w ∈ Ts) (hown : s.vm.findClass own = some m.cls) (hcl : vwCl[ci]? = some (C, T, N)) (hci : ci < 6) (k : Nat) (hk : k < N) (hlink : (Cond.fieldLinkNest own index ref (T k).2.1 (T k).2.2.1 host).before args s = true) (hsame : ∀ x, s.fieldFound? (T k).1 (T k).2.1 (T k).2.2.1 = some x → s.fieldFound? ref (T k).2.1 (T k).2.2.1 = some x) (ht : (ip_ty ci)[k]? = some 0) (hd : decode cc pc = .ok (.getfield index, 3)) (hc : cnt (pc + 3) = cnt pc) : ip_snd p l e R s m args below meth c D cA A Q nL cnt I ad0 S0 pc (ip_t_gI ci k (pc + 3)) := by
  intro N hN loc st S h ad L H locs ls hI hl hst hlo hex hW
  unfold ip_t_gI at h
  split at h
  · rename_i q r
    obtain ⟨k0, h1, h2⟩ := ip_Wat hW h.1 hci
    have kk := hN _ _ _ _ h.2 ad L H locs ls hI hl (ip_cs ip_ok_i (ip_tl hst)) hlo hex hW
    rw [hc] at kk
    exact va_getN hx hb hts hin hown hW.2.2.1 hW.2.2.2.1 k0 h2 hcl k hk hlink hsame (ip_fat ht) hd kk
  · exact h.elim
theorem ip_s_gI0N (hx : p.tables.exec = Jvm.exec) (hb : c.code = cc) {own ref C host : String} {T : u_T} {N ci index : Nat} {Ts : List Cond} (hts : ∀ w ∈ Ts, w.before args s = true) (hin : ∀ w ∈ u_ws C T N, w ∈ Ts) (hown : s.vm.findClass own = some m.cls) (hcl : vwCl[ci]? = some (C, T, N)) (hci : ci < 6) (k : Nat) (hk : k < N) (hlink : (Cond.fieldLinkNest own index ref (T k).2.1 (T k).2.2.1 host).before args s = true) (hsame : ∀ x, s.fieldFound? (T k).1 (T k).2.1 (T k).2.2.1 = some x → s.fieldFound? ref (T k).2.1 (T k).2.2.1 = some x) (hIs : ∀ S, I S → ip_Sta S) (p0 : Nat) (hp0 : (ip_kt p0).1 = ci) (ht : (ip_ty ci)[k]? = some 0) (hd : decode cc pc = .ok (.getfield index, 3)) (hc : cnt (pc + 3) = cnt pc) : ip_snd p l e R s m args below meth c D cA A Q nL cnt I ad0 S0 pc (ip_t_gI0 p0 k (pc + 3)) := by
  intro N hN loc st S h ad L H locs ls hI hl hst hlo hex hW
  unfold ip_t_gI0 at h
  split at h
  · rename_i q r
    cases hq : Nat.beq q p0 with
    | false => rw [hq] at h; exact h.elim
    | true =>
      rw [hq] at h
      have := Nat.eq_of_beq_eq_true hq
      subst this
      obtain ⟨k0, h1, h2⟩ := ip_Wat hW (q := q) (ci := ci) (by rw [(hIs S hI).1 q (by omega)]; exact hp0) hci
      have kk := hN _ _ _ _ h ad L H locs ls hI hl (ip_cs ip_ok_i (ip_tl hst)) hlo hex hW
      rw [hc] at kk
      exact va_getN hx hb hts hin hown hW.2.2.1 hW.2.2.2.1 k0 h2 hcl k hk hlink hsame (ip_fat ht) hd kk
  · exact h.elim
theorem ip_s_gJ0N (hx : p.tables.exec = Jvm.exec) (hb : c.code = cc) {own ref C host : String} {T : u_T} {N ci index : Nat} {Ts : List Cond} (hts : ∀ w ∈ Ts, w.before args s = true) (hin : ∀ w ∈ u_ws C T N, w ∈ Ts) (hown : s.vm.findClass own = some m.cls) (hcl : vwCl[ci]? = some (C, T, N)) (hci : ci < 6) (k : Nat) (hk : k < N) (hlink : (Cond.fieldLinkNest own index ref (T k).2.1 (T k).2.2.1 host).before args s = true) (hsame : ∀ x, s.fieldFound? (T k).1 (T k).2.1 (T k).2.2.1 = some x → s.fieldFound? ref (T k).2.1 (T k).2.2.1 = some x) (hIs : ∀ S, I S → ip_Sta S) (p0 : Nat) (hp0 : (ip_kt p0).1 = ci) (ht : (ip_ty ci)[k]? = some 2) (hd : decode cc pc = .ok (.getfield index, 3)) (hc : cnt (pc + 3) = cnt pc) : ip_snd p l e R s m args below meth c D cA A Q nL cnt I ad0 S0 pc (ip_t_gJ0 p0 k (pc + 3)) := by
  intro N hN loc st S h ad L H locs ls hI hl hst hlo hex hW
  unfold ip_t_gJ0 at h
  split at h
  · rename_i q r
    cases hq : Nat.beq q p0 with
    | false => rw [hq] at h; exact h.elim
    | true =>
      rw [hq] at h
      have := Nat.eq_of_beq_eq_true hq
      subst this
      obtain ⟨k0, h1, h2⟩ := ip_Wat hW (q := q) (ci := ci) (by rw [(hIs S hI).1 q (by omega)]; exact hp0) hci
      have kk := hN _ _ _ _ h ad L H locs ls hI hl (ip_cs ip_ok_l (ip_tl hst)) hlo hex hW
      rw [hc] at kk
      exact va_getN hx hb hts hin hown hW.2.2.1 hW.2.2.2.1 k0 h2 hcl k hk hlink hsame (ip_fat ht) hd kk
  · exact h.elim
theorem ip_s_gR0N (hx : p.tables.exec = Jvm.exec) (hb : c.code = cc) {own ref C host : String} {T : u_T} {N ci index : Nat} {Ts : List Cond} (hts : ∀ w ∈ Ts, w.before args s = true) (hin : ∀ w ∈ u_ws C T N, w ∈ Ts) (hown : s.vm.findClass own = some m.cls) (hcl : vwCl[ci]? = some (C, T, N)) (hci : ci < 6) (k : Nat) (hk : k < N) (hlink : (Cond.fieldLinkNest own index ref (T k).2.1 (T k).2.2.1 host).before args s = true) (hsame : ∀ x, s.fieldFound? (T k).1 (T k).2.1 (T k).2.2.1 = some x → s.fieldFound? ref (T k).2.1 (T k).2.2.1 = some x) (hIs : ∀ S, I S → ip_Sta S) (p0 v : Nat) (hp0 : (ip_kt p0).1 = ci) (hv : (p0, k, v) ∈ ip_rt) (ht : (ip_ty ci)[k]? = some 1) (hd : decode cc pc = .ok (.getfield index, 3)) (hc : cnt (pc + 3) = cnt pc) : ip_snd p l e R s m args below meth c D cA A Q nL cnt I ad0 S0 pc (ip_t_gR0 p0 v (pc + 3)) := by
  intro N hN loc st S h ad L H locs ls hI hl hst hlo hex hW
  unfold ip_t_gR0 at h
  split at h
  · rename_i q r
    cases hq : Nat.beq q p0 with
    | false => rw [hq] at h; exact h.elim
    | true =>
      rw [hq] at h
      have := Nat.eq_of_beq_eq_true hq
      subst this
      obtain ⟨k0, h1, h2⟩ := ip_Wat hW (q := q) (ci := ci) (by rw [(hIs S hI).1 q (by omega)]; exact hp0) hci
      have hv' := (hIs S hI).2 _ hv
      have kk := hN _ _ _ _ h ad L H locs ls hI hl (ip_cs (ip_ok_c hW.2.1 hv') (ip_tl hst)) hlo hex hW
      rw [hc] at kk
      have hf := ip_fat (ad := ad) (S := S) (q := q) ht
      simp only [ip_fv] at hf
      rw [show S.2.1 q k = some v from hv'] at hf
      exact va_getN hx hb hts hin hown hW.2.2.1 hW.2.2.2.1 k0 h2 hcl k hk hlink hsame hf hd kk
  · exact h.elim
theorem ip_s_gRN (hx : p.tables.exec = Jvm.exec) (hb : c.code = cc) {own ref C host : String} {T : u_T} {N ci index : Nat} {Ts : List Cond} (hts : ∀ w ∈ Ts, w.before args s = true) (hin : ∀ w ∈ u_ws C T N, w ∈ Ts) (hown : s.vm.findClass own = some m.cls) (hcl : vwCl[ci]? = some (C, T, N)) (hci : ci < 6) (k : Nat) (hk : k < N) (hlink : (Cond.fieldLinkNest own index ref (T k).2.1 (T k).2.2.1 host).before args s = true) (hsame : ∀ x, s.fieldFound? (T k).1 (T k).2.1 (T k).2.2.1 = some x → s.fieldFound? ref (T k).2.1 (T k).2.2.1 = some x) (ht : (ip_ty ci)[k]? = some 1) (hd : decode cc pc = .ok (.getfield index, 3)) (hc : cnt (pc + 3) = cnt pc) : ip_snd p l e R s m args below meth c D cA A Q nL cnt I ad0 S0 pc (ip_t_gR ci k (pc + 3)) := by
  intro N hN loc st S h ad L H locs ls hI hl hst hlo hex hW
  unfold ip_t_gR at h
  split at h
  · rename_i q r
    obtain ⟨k0, h1, h2⟩ := ip_Wat hW h.1 hci
    have kk := hN _ _ _ _ (h.2 _ rfl) ad L H locs ls hI hl (ip_cs (ip_ok_c hW.2.1 rfl) (ip_tl hst)) hlo hex hW
    rw [hc] at kk
    exact va_getN hx hb hts hin hown hW.2.2.1 hW.2.2.2.1 k0 h2 hcl k hk hlink hsame (ip_fat ht) hd kk
  · exact h.elim
theorem ip_s_pI (hx : p.tables.exec = Jvm.exec) (hb : c.code = cc) {own ref C : String} {T : u_T} {N ci index : Nat} {Ts : List Cond} (hts : ∀ w ∈ Ts, w.before args s = true) (hin : ∀ w ∈ u_ws C T N, w ∈ Ts) (hown : s.vm.findClass own = some m.cls) (hcl : vwCl[ci]? = some (C, T, N)) (hci : ci < 6) (k : Nat) (hk : k < N) (hlink : (Cond.fieldLink own index ref (T k).2.1 (T k).2.2.1).before args s = true) (hsame : ∀ x, s.fieldFound? (T k).1 (T k).2.1 (T k).2.2.1 = some x → s.fieldFound? ref (T k).2.1 (T k).2.2.1 = some x) (ty0 : Nat → FieldType) (hty : ∀ k, k < N → parseFieldDescriptor (T k).2.2.1 = some (ty0 k)) (hnm : ∀ a, a < N → ∀ b, b < N → a ≠ b → (T a).2.1 ≠ (T b).2.1) (hIn : ip_In I) (hfin : (T k).2.2.2 = false) (ht : (ip_ty ci)[k]? = some 0) (hti : parseFieldDescriptor (T k).2.2.1 = some .int) (hd : decode cc pc = .ok (.putfield index, 3)) (hc : cnt (pc + 3) = cnt pc) : ip_snd p l e R s m args below meth c D cA A Q nL cnt I ad0 S0 pc (ip_t_pI ci k (pc + 3)) := by
  intro N hN loc st S h ad L H locs ls hI hl hst hlo hex hW
  unfold ip_t_pI at h
  split at h
  · rename_i x q r
    obtain ⟨k0, h1, h2⟩ := ip_Wat hW h.1 hci
    refine va_put hx hb hts hin ty0 hty hnm hown hW.2.2.1 hW.2.2.2.1 hW.2.2.2.2.1 hW.2.2.2.2.2 k0 h2 hcl k hk hlink hsame hfin hti rfl rfl (by rw [ip_fs_len]; exact (List.getElem?_eq_some_iff.mp ht).1) hd (fun H1 locs1 hP hD hS => ?_)
    have kk := hN _ _ _ _ h.2 ad L H1 locs1 ls (hIn.1 _ _ _ _ hI) hl (ip_tl (ip_tl hst)) hlo hex (hW.put rfl hW.2.1 h1 (fun q' hq' => ip_E_sI hq') ((congrArg (fun z => (Sum.inr (ci, z) : va_E)) (ip_fs_sI (v := x) ht)).trans (ip_E_obj (S := ip_sI S q k x) h.1 hci).symm) hP hD hS)
    rw [hc] at kk
    exact kk
  · exact h.elim
theorem ip_s_pI0 (hx : p.tables.exec = Jvm.exec) (hb : c.code = cc) {own ref C : String} {T : u_T} {N ci index : Nat} {Ts : List Cond} (hts : ∀ w ∈ Ts, w.before args s = true) (hin : ∀ w ∈ u_ws C T N, w ∈ Ts) (hown : s.vm.findClass own = some m.cls) (hcl : vwCl[ci]? = some (C, T, N)) (hci : ci < 6) (k : Nat) (hk : k < N) (hlink : (Cond.fieldLink own index ref (T k).2.1 (T k).2.2.1).before args s = true) (hsame : ∀ x, s.fieldFound? (T k).1 (T k).2.1 (T k).2.2.1 = some x → s.fieldFound? ref (T k).2.1 (T k).2.2.1 = some x) (ty0 : Nat → FieldType) (hty : ∀ k, k < N → parseFieldDescriptor (T k).2.2.1 = some (ty0 k)) (hnm : ∀ a, a < N → ∀ b, b < N → a ≠ b → (T a).2.1 ≠ (T b).2.1) (hIn : ip_In I) (hIs : ∀ S, I S → ip_Sta S) (p0 : Nat) (hp0 : (ip_kt p0).1 = ci) (hfin : (T k).2.2.2 = false) (ht : (ip_ty ci)[k]? = some 0) (hti : parseFieldDescriptor (T k).2.2.1 = some .int) (hd : decode cc pc = .ok (.putfield index, 3)) (hc : cnt (pc + 3) = cnt pc) : ip_snd p l e R s m args below meth c D cA A Q nL cnt I ad0 S0 pc (ip_t_pI0 p0 k (pc + 3)) := by
  intro N hN loc st S h ad L H locs ls hI hl hst hlo hex hW
  unfold ip_t_pI0 at h
  split at h
  · rename_i x q r
    cases hq : Nat.beq q p0 with
    | false => rw [hq] at h; exact h.elim
    | true =>
      rw [hq] at h
      have := Nat.eq_of_beq_eq_true hq
      subst this
      have hkq : (S.2.2.2 q).1 = ci := by rw [(hIs S hI).1 q (by omega)]; exact hp0
      obtain ⟨k0, h1, h2⟩ := ip_Wat hW hkq hci
      refine va_put hx hb hts hin ty0 hty hnm hown hW.2.2.1 hW.2.2.2.1 hW.2.2.2.2.1 hW.2.2.2.2.2 k0 h2 hcl k hk hlink hsame hfin hti rfl rfl (by rw [ip_fs_len]; exact (List.getElem?_eq_some_iff.mp ht).1) hd (fun H1 locs1 hP hD hS => ?_)
      have kk := hN _ _ _ _ h ad L H1 locs1 ls (hIn.1 _ _ _ _ hI) hl (ip_tl (ip_tl hst)) hlo hex (hW.put rfl hW.2.1 h1 (fun q' hq' => ip_E_sI hq') ((congrArg (fun z => (Sum.inr (ci, z) : va_E)) (ip_fs_sI (v := x) ht)).trans (ip_E_obj (S := ip_sI S q k x) hkq hci).symm) hP hD hS)
      rw [hc] at kk
      exact kk
  · exact h.elim
theorem ip_s_pJ0 (hx : p.tables.exec = Jvm.exec) (hb : c.code = cc) {own ref C : String} {T : u_T} {N ci index : Nat} {Ts : List Cond} (hts : ∀ w ∈ Ts, w.before args s = true) (hin : ∀ w ∈ u_ws C T N, w ∈ Ts) (hown : s.vm.findClass own = some m.cls) (hcl : vwCl[ci]? = some (C, T, N)) (hci : ci < 6) (k : Nat) (hk : k < N) (hlink : (Cond.fieldLink own index ref (T k).2.1 (T k).2.2.1).before args s = true) (hsame : ∀ x, s.fieldFound? (T k).1 (T k).2.1 (T k).2.2.1 = some x → s.fieldFound? ref (T k).2.1 (T k).2.2.1 = some x) (ty0 : Nat → FieldType) (hty : ∀ k, k < N → parseFieldDescriptor (T k).2.2.1 = some (ty0 k)) (hnm : ∀ a, a < N → ∀ b, b < N → a ≠ b → (T a).2.1 ≠ (T b).2.1) (hIn : ip_In I) (hIs : ∀ S, I S → ip_Sta S) (p0 : Nat) (hp0 : (ip_kt p0).1 = ci) (hfin : (T k).2.2.2 = false) (ht : (ip_ty ci)[k]? = some 2) (hti : parseFieldDescriptor (T k).2.2.1 = some .long) (hd : decode cc pc = .ok (.putfield index, 3)) (hc : cnt (pc + 3) = cnt pc) : ip_snd p l e R s m args below meth c D cA A Q nL cnt I ad0 S0 pc (ip_t_pJ0 p0 k (pc + 3)) := by
  intro N hN loc st S h ad L H locs ls hI hl hst hlo hex hW
  unfold ip_t_pJ0 at h
  split at h
  · rename_i x q r
    cases hq : Nat.beq q p0 with
    | false => rw [hq] at h; exact h.elim
    | true =>
      rw [hq] at h
      have := Nat.eq_of_beq_eq_true hq
      subst this
      have hkq : (S.2.2.2 q).1 = ci := by rw [(hIs S hI).1 q (by omega)]; exact hp0
      obtain ⟨k0, h1, h2⟩ := ip_Wat hW hkq hci
      refine va_put hx hb hts hin ty0 hty hnm hown hW.2.2.1 hW.2.2.2.1 hW.2.2.2.2.1 hW.2.2.2.2.2 k0 h2 hcl k hk hlink hsame hfin hti rfl rfl (by rw [ip_fs_len]; exact (List.getElem?_eq_some_iff.mp ht).1) hd (fun H1 locs1 hP hD hS => ?_)
      have kk := hN _ _ _ _ h ad L H1 locs1 ls (hIn.2.1 _ _ _ _ hI) hl (ip_tl (ip_tl hst)) hlo hex (hW.put rfl hW.2.1 h1 (fun q' hq' => ip_E_sJ hq') ((congrArg (fun z => (Sum.inr (ci, z) : va_E)) (ip_fs_sJ (v := x) ht)).trans (ip_E_obj (S := ip_sJ S q k x) hkq hci).symm) hP hD hS)
      rw [hc] at kk
      exact kk
  · exact h.elim
theorem ip_s_pIF (hx : p.tables.exec = Jvm.exec) (hb : c.code = cc) {own ref C : String} {T : u_T} {N ci index : Nat} {Ts : List Cond} (hts : ∀ w ∈ Ts, w.before args s = true) (hin : ∀ w ∈ u_ws C T N, w ∈ Ts) (hown : s.vm.findClass own = some m.cls) (hcl : vwCl[ci]? = some (C, T, N)) (hci : ci < 6) (k : Nat) (hk : k < N) (hlink : (Cond.fieldLink own index ref (T k).2.1 (T k).2.2.1).before args s = true) (hsame : ∀ x, s.fieldFound? (T k).1 (T k).2.1 (T k).2.2.1 = some x → s.fieldFound? ref (T k).2.1 (T k).2.2.1 = some x) (ty0 : Nat → FieldType) (hty : ∀ k, k < N → parseFieldDescriptor (T k).2.2.1 = some (ty0 k)) (hnm : ∀ a, a < N → ∀ b, b < N → a ≠ b → (T a).2.1 ≠ (T b).2.1) (hIn : ip_In I) (hfin : (T k).2.2.2 = true) (hin2 : meth.name = "<init>") (hdecl : (T k).1 = own) (ht : (ip_ty ci)[k]? = some 0) (hti : parseFieldDescriptor (T k).2.2.1 = some .int) (hd : decode cc pc = .ok (.putfield index, 3)) (hc : cnt (pc + 3) = cnt pc) : ip_snd p l e R s m args below meth c D cA A Q nL cnt I ad0 S0 pc (ip_t_pI ci k (pc + 3)) := by
  intro N hN loc st S h ad L H locs ls hI hl hst hlo hex hW
  unfold ip_t_pI at h
  split at h
  · rename_i x q r
    obtain ⟨k0, h1, h2⟩ := ip_Wat hW h.1 hci
    refine va_putF hx hb hts hin ty0 hty hnm hown hW.2.2.1 hW.2.2.2.1 hW.2.2.2.2.1 hW.2.2.2.2.2 k0 h2 hcl k hk hlink hsame hfin hin2 hdecl hti rfl rfl (by rw [ip_fs_len]; exact (List.getElem?_eq_some_iff.mp ht).1) hd (fun H1 locs1 hP hD hS => ?_)
    have kk := hN _ _ _ _ h.2 ad L H1 locs1 ls (hIn.1 _ _ _ _ hI) hl (ip_tl (ip_tl hst)) hlo hex (hW.put rfl hW.2.1 h1 (fun q' hq' => ip_E_sI hq') ((congrArg (fun z => (Sum.inr (ci, z) : va_E)) (ip_fs_sI (v := x) ht)).trans (ip_E_obj (S := ip_sI S q k x) h.1 hci).symm) hP hD hS)
    rw [hc] at kk
    exact kk
  · exact h.elim
theorem ip_s_pI0F (hx : p.tables.exec = Jvm.exec) (hb : c.code = cc) {own ref C : String} {T : u_T} {N ci index : Nat} {Ts : List Cond} (hts : ∀ w ∈ Ts, w.before args s = true) (hin : ∀ w ∈ u_ws C T N, w ∈ Ts) (hown : s.vm.findClass own = some m.cls) (hcl : vwCl[ci]? = some (C, T, N)) (hci : ci < 6) (k : Nat) (hk : k < N) (hlink : (Cond.fieldLink own index ref (T k).2.1 (T k).2.2.1).before args s = true) (hsame : ∀ x, s.fieldFound? (T k).1 (T k).2.1 (T k).2.2.1 = some x → s.fieldFound? ref (T k).2.1 (T k).2.2.1 = some x) (ty0 : Nat → FieldType) (hty : ∀ k, k < N → parseFieldDescriptor (T k).2.2.1 = some (ty0 k)) (hnm : ∀ a, a < N → ∀ b, b < N → a ≠ b → (T a).2.1 ≠ (T b).2.1) (hIn : ip_In I) (hIs : ∀ S, I S → ip_Sta S) (p0 : Nat) (hp0 : (ip_kt p0).1 = ci) (hfin : (T k).2.2.2 = true) (hin2 : meth.name = "<init>") (hdecl : (T k).1 = own) (ht : (ip_ty ci)[k]? = some 0) (hti : parseFieldDescriptor (T k).2.2.1 = some .int) (hd : decode cc pc = .ok (.putfield index, 3)) (hc : cnt (pc + 3) = cnt pc) : ip_snd p l e R s m args below meth c D cA A Q nL cnt I ad0 S0 pc (ip_t_pI0 p0 k (pc + 3)) := by
  intro N hN loc st S h ad L H locs ls hI hl hst hlo hex hW
  unfold ip_t_pI0 at h
  split at h
  · rename_i x q r
    cases hq : Nat.beq q p0 with
    | false => rw [hq] at h; exact h.elim
    | true =>
      rw [hq] at h
      have := Nat.eq_of_beq_eq_true hq
      subst this
      have hkq : (S.2.2.2 q).1 = ci := by rw [(hIs S hI).1 q (by omega)]; exact hp0
      obtain ⟨k0, h1, h2⟩ := ip_Wat hW hkq hci
      refine va_putF hx hb hts hin ty0 hty hnm hown hW.2.2.1 hW.2.2.2.1 hW.2.2.2.2.1 hW.2.2.2.2.2 k0 h2 hcl k hk hlink hsame hfin hin2 hdecl hti rfl rfl (by rw [ip_fs_len]; exact (List.getElem?_eq_some_iff.mp ht).1) hd (fun H1 locs1 hP hD hS => ?_)
      have kk := hN _ _ _ _ h ad L H1 locs1 ls (hIn.1 _ _ _ _ hI) hl (ip_tl (ip_tl hst)) hlo hex (hW.put rfl hW.2.1 h1 (fun q' hq' => ip_E_sI hq') ((congrArg (fun z => (Sum.inr (ci, z) : va_E)) (ip_fs_sI (v := x) ht)).trans (ip_E_obj (S := ip_sI S q k x) hkq hci).symm) hP hD hS)
      rw [hc] at kk
      exact kk
  · exact h.elim
theorem ip_s_pRF (hx : p.tables.exec = Jvm.exec) (hb : c.code = cc) {own ref C : String} {T : u_T} {N ci index : Nat} {Ts : List Cond} (hts : ∀ w ∈ Ts, w.before args s = true) (hin : ∀ w ∈ u_ws C T N, w ∈ Ts) (hown : s.vm.findClass own = some m.cls) (hcl : vwCl[ci]? = some (C, T, N)) (hci : ci < 6) (k : Nat) (hk : k < N) (hlink : (Cond.fieldLink own index ref (T k).2.1 (T k).2.2.1).before args s = true) (hsame : ∀ x, s.fieldFound? (T k).1 (T k).2.1 (T k).2.2.1 = some x → s.fieldFound? ref (T k).2.1 (T k).2.2.1 = some x) (ty0 : Nat → FieldType) (hty : ∀ k, k < N → parseFieldDescriptor (T k).2.2.1 = some (ty0 k)) (hnm : ∀ a, a < N → ∀ b, b < N → a ≠ b → (T a).2.1 ≠ (T b).2.1) (hIr : ∀ S q o, I S → (S.2.2.2 q).1 = ci → I (ip_sR S q k o)) (hfin : (T k).2.2.2 = true) (hin2 : meth.name = "<init>") (hdecl : (T k).1 = own) (ht : (ip_ty ci)[k]? = some 1) {fty : FieldType} (hti : parseFieldDescriptor (T k).2.2.1 = some fty) (hft : ∀ o : Option Nat, narrow fty (va_rf o) = va_rf o ∧ fits fty (va_rf o) = true) (hd : decode cc pc = .ok (.putfield index, 3)) (hc : cnt (pc + 3) = cnt pc) : ip_snd p l e R s m args below meth c D cA A Q nL cnt I ad0 S0 pc (ip_t_pR ci k (pc + 3)) := by
  intro N hN loc st S h ad L H locs ls hI hl hst hlo hex hW
  unfold ip_t_pR at h
  split at h
  · rename_i o q r
    obtain ⟨k0, h1, h2⟩ := ip_Wat hW h.1 hci
    refine va_putF hx hb hts hin ty0 hty hnm hown hW.2.2.1 hW.2.2.2.1 hW.2.2.2.2.1 hW.2.2.2.2.2 k0 h2 hcl k hk hlink hsame hfin hin2 hdecl hti (hft _).1 (hft _).2 (by rw [ip_fs_len]; exact (List.getElem?_eq_some_iff.mp ht).1) hd (fun H1 locs1 hP hD hS => ?_)
    have kk := hN _ _ _ _ h.2 ad L H1 locs1 ls (hIr _ _ _ hI h.1) hl (ip_tl (ip_tl hst)) hlo hex (hW.put rfl (ip_cl_R hW.2.1 (ip_hd hst)) h1 (fun q' hq' => ip_E_sR hq') ((congrArg (fun z => (Sum.inr (ci, z) : va_E)) (ip_fs_sR (v := o) ht)).trans (ip_E_obj (S := ip_sR S q k o) h.1 hci).symm) hP hD hS)
    rw [hc] at kk
    exact kk
  · exact h.elim
theorem ip_s_pIN (hx : p.tables.exec = Jvm.exec) (hb : c.code = cc) {own ref C host : String} {T : u_T} {N ci index : Nat} {Ts : List Cond} (hts : ∀ w ∈ Ts, w.before args s = true) (hin : ∀ w ∈ u_ws C T N, w ∈ Ts) (hown : s.vm.findClass own = some m.cls) (hcl : vwCl[ci]? = some (C, T, N)) (hci : ci < 6) (k : Nat) (hk : k < N) (hlink : (Cond.fieldLinkNest own index ref (T k).2.1 (T k).2.2.1 host).before args s = true) (hsame : ∀ x, s.fieldFound? (T k).1 (T k).2.1 (T k).2.2.1 = some x → s.fieldFound? ref (T k).2.1 (T k).2.2.1 = some x) (ty0 : Nat → FieldType) (hty : ∀ k, k < N → parseFieldDescriptor (T k).2.2.1 = some (ty0 k)) (hnm : ∀ a, a < N → ∀ b, b < N → a ≠ b → (T a).2.1 ≠ (T b).2.1) (hIn : ip_In I) (hfin : (T k).2.2.2 = false) (ht : (ip_ty ci)[k]? = some 0) (hti : parseFieldDescriptor (T k).2.2.1 = some .int) (hd : decode cc pc = .ok (.putfield index, 3)) (hc : cnt (pc + 3) = cnt pc) : ip_snd p l e R s m args below meth c D cA A Q nL cnt I ad0 S0 pc (ip_t_pI ci k (pc + 3)) := by
  intro N hN loc st S h ad L H locs ls hI hl hst hlo hex hW
  unfold ip_t_pI at h
  split at h
  · rename_i x q r
    obtain ⟨k0, h1, h2⟩ := ip_Wat hW h.1 hci
    refine va_putN hx hb hts hin ty0 hty hnm hown hW.2.2.1 hW.2.2.2.1 hW.2.2.2.2.1 hW.2.2.2.2.2 k0 h2 hcl k hk hlink hsame hfin hti rfl rfl (by rw [ip_fs_len]; exact (List.getElem?_eq_some_iff.mp ht).1) hd (fun H1 locs1 hP hD hS => ?_)
    have kk := hN _ _ _ _ h.2 ad L H1 locs1 ls (hIn.1 _ _ _ _ hI) hl (ip_tl (ip_tl hst)) hlo hex (hW.put rfl hW.2.1 h1 (fun q' hq' => ip_E_sI hq') ((congrArg (fun z => (Sum.inr (ci, z) : va_E)) (ip_fs_sI (v := x) ht)).trans (ip_E_obj (S := ip_sI S q k x) h.1 hci).symm) hP hD hS)
    rw [hc] at kk
    exact kk
  · exact h.elim
theorem ip_s_pI0N (hx : p.tables.exec = Jvm.exec) (hb : c.code = cc) {own ref C host : String} {T : u_T} {N ci index : Nat} {Ts : List Cond} (hts : ∀ w ∈ Ts, w.before args s = true) (hin : ∀ w ∈ u_ws C T N, w ∈ Ts) (hown : s.vm.findClass own = some m.cls) (hcl : vwCl[ci]? = some (C, T, N)) (hci : ci < 6) (k : Nat) (hk : k < N) (hlink : (Cond.fieldLinkNest own index ref (T k).2.1 (T k).2.2.1 host).before args s = true) (hsame : ∀ x, s.fieldFound? (T k).1 (T k).2.1 (T k).2.2.1 = some x → s.fieldFound? ref (T k).2.1 (T k).2.2.1 = some x) (ty0 : Nat → FieldType) (hty : ∀ k, k < N → parseFieldDescriptor (T k).2.2.1 = some (ty0 k)) (hnm : ∀ a, a < N → ∀ b, b < N → a ≠ b → (T a).2.1 ≠ (T b).2.1) (hIn : ip_In I) (hIs : ∀ S, I S → ip_Sta S) (p0 : Nat) (hp0 : (ip_kt p0).1 = ci) (hfin : (T k).2.2.2 = false) (ht : (ip_ty ci)[k]? = some 0) (hti : parseFieldDescriptor (T k).2.2.1 = some .int) (hd : decode cc pc = .ok (.putfield index, 3)) (hc : cnt (pc + 3) = cnt pc) : ip_snd p l e R s m args below meth c D cA A Q nL cnt I ad0 S0 pc (ip_t_pI0 p0 k (pc + 3)) := by
  intro N hN loc st S h ad L H locs ls hI hl hst hlo hex hW
  unfold ip_t_pI0 at h
  split at h
  · rename_i x q r
    cases hq : Nat.beq q p0 with
    | false => rw [hq] at h; exact h.elim
    | true =>
      rw [hq] at h
      have := Nat.eq_of_beq_eq_true hq
      subst this
      have hkq : (S.2.2.2 q).1 = ci := by rw [(hIs S hI).1 q (by omega)]; exact hp0
      obtain ⟨k0, h1, h2⟩ := ip_Wat hW hkq hci
      refine va_putN hx hb hts hin ty0 hty hnm hown hW.2.2.1 hW.2.2.2.1 hW.2.2.2.2.1 hW.2.2.2.2.2 k0 h2 hcl k hk hlink hsame hfin hti rfl rfl (by rw [ip_fs_len]; exact (List.getElem?_eq_some_iff.mp ht).1) hd (fun H1 locs1 hP hD hS => ?_)
      have kk := hN _ _ _ _ h ad L H1 locs1 ls (hIn.1 _ _ _ _ hI) hl (ip_tl (ip_tl hst)) hlo hex (hW.put rfl hW.2.1 h1 (fun q' hq' => ip_E_sI hq') ((congrArg (fun z => (Sum.inr (ci, z) : va_E)) (ip_fs_sI (v := x) ht)).trans (ip_E_obj (S := ip_sI S q k x) hkq hci).symm) hP hD hS)
      rw [hc] at kk
      exact kk
  · exact h.elim
end IPF
end
section
section IPA
variable {p : Program} {l : Launch} {e : Env} {R : Room} {s : State} {m : MethodId} {args : Array Value} {below : List Frame} {meth : Method} {c : Code} {D : va_G} {cA : Nat → ClassId} {A : Nat → Prop} {Q : State → Prop} {nL : Nat} {cnt : Nat → Nat × Nat} {I : ip_S → Prop} {ad0 : Nat → Nat} {S0 : ip_S}
variable {cc : ByteArray} {pc : Nat}
theorem ip_WatI {ad : Nat → Nat} {L : List Nat} {S : ip_S} {H : Heap} {locs : List Loc} (hW : ip_W D cA A ad L S s H locs) {q kd n : Nat} (h : S.2.2.2 q = (kd, n)) (h1 : 6 ≤ kd) (h2 : kd < 8) : ∃ k0 : Nat, L[k0]? = some q ∧ (ip_wl cA ad L S)[k0]? = some (ad q, .inl (cA kd, n, .inl (S.1 q))) := by
  obtain ⟨k0, g1, g2⟩ := ip_wl_at (cA := cA) (ad := ad) (S := S) ((hW.1 q).mpr (by show (S.2.2.2 q).1 < 10; rw [h]; show kd < 10; omega))
  exact ⟨k0, g1, by rw [g2, ip_E_ints h h1 h2]⟩
theorem ip_WatR {ad : Nat → Nat} {L : List Nat} {S : ip_S} {H : Heap} {locs : List Loc} (hW : ip_W D cA A ad L S s H locs) {q kd n : Nat} (h : S.2.2.2 q = (kd, n)) (h1 : 8 ≤ kd) (h2 : kd < 10) : ∃ k0 : Nat, L[k0]? = some q ∧ (ip_wl cA ad L S)[k0]? = some (ad q, .inl (cA kd, n, .inr (.inr (.inr (.inr (fun i => (S.2.1 q i).map ad)))))) := by
  obtain ⟨k0, g1, g2⟩ := ip_wl_at (cA := cA) (ad := ad) (S := S) ((hW.1 q).mpr (by show (S.2.2.2 q).1 < 10; rw [h]; exact h2))
  exact ⟨k0, g1, by rw [g2, ip_E_refs h h1]⟩
theorem ip_kts {S : ip_S} (h : ip_Sta S) {q k n : Nat} (hq : ip_kt q = (k, n)) (hk : k < 10) : S.2.2.2 q = (k, n) := by
  rw [h.1 q (by rw [hq]; exact hk), hq]
/-- reading an array of ints (kd 6) or of booleans (kd 7), of a fixed place -/
def ip_t_ld (kd n : Nat) : ip_T := fun N loc st S => match st with
  | .inl i :: .inr (.inl (some q)) :: r => match ip_kt q with
    | (k, len) => bif Nat.beq k kd then (vp_in i len ∧ N n loc (.inl (S.1 q i.toNatClampNeg) :: r) S) else False
  | _ => False
/-- of any place, ints -/
def ip_t_ldD (n : Nat) : ip_T := fun N loc st S => match st with
  | .inl i :: .inr (.inl (some q)) :: r => ∃ len, S.2.2.2 q = (6, len) ∧ vp_in i len ∧ N n loc (.inl (S.1 q i.toNatClampNeg) :: r) S
  | _ => False
def ip_t_lda (kd n : Nat) : ip_T := fun N loc st S => match st with
  | .inl i :: .inr (.inl (some q)) :: r => match ip_kt q with
    | (k, len) => bif Nat.beq k kd then (vp_in i len ∧ ∀ o, S.2.1 q i.toNatClampNeg = o → N n loc (.inr (.inl o) :: r) S) else False
  | _ => False
def ip_t_st (n : Nat) : ip_T := fun N loc st S => match st with
  | .inl x :: .inl i :: .inr (.inl (some q)) :: r => match ip_kt q with
    | (k, len) => bif Nat.beq k 6 then (vp_in i len ∧ N n loc r (ip_sI S q i.toNatClampNeg x)) else False
  | _ => False
def ip_t_stD (n : Nat) : ip_T := fun N loc st S => match st with
  | .inl x :: .inl i :: .inr (.inl (some q)) :: r => ∃ len, S.2.2.2 q = (6, len) ∧ vp_in i len ∧ N n loc r (ip_sI S q i.toNatClampNeg x)
  | _ => False
def ip_t_stz (n : Nat) : ip_T := fun N loc st S => match st with
  | .inl x :: .inl i :: .inr (.inl (some q)) :: r => match ip_kt q with
    | (k, len) => bif Nat.beq k 7 then (vp_in i len ∧ N n loc r (ip_sI S q i.toNatClampNeg (vp_nar .boolean x))) else False
  | _ => False
def ip_t_sta (kd ci n : Nat) : ip_T := fun N loc st S => match st with
  | .inr (.inl none) :: .inl i :: .inr (.inl (some q)) :: r => match ip_kt q with
    | (k, len) => bif Nat.beq k kd then (vp_in i len ∧ N n loc r (ip_sR S q i.toNatClampNeg none)) else False
  | .inr (.inl (some v)) :: .inl i :: .inr (.inl (some q)) :: r => match ip_kt q with
    | (k, len) => bif Nat.beq k kd then (vp_in i len ∧ (S.2.2.2 v).1 = ci ∧ N n loc r (ip_sR S q i.toNatClampNeg (some v))) else False
  | _ => False
def ip_t_len (n : Nat) : ip_T := fun N loc st S => match st with
  | .inr (.inl (some q)) :: r => match ip_kt q with
    | (k, len) => bif (Nat.ble 6 k && Nat.ble k 9) then N n loc (.inl (ip_i32 len) :: r) S else False
  | _ => False
def ip_t_lenD (n : Nat) : ip_T := fun N loc st S => match st with
  | .inr (.inl (some q)) :: r => ∃ len, S.2.2.2 q = (6, len) ∧ N n loc (.inl (ip_i32 len) :: r) S
  | _ => False
theorem ip_s_ldi (hx : p.tables.exec = Jvm.exec) (hb : c.code = cc) (hIs : ∀ S, I S → ip_Sta S) (hd : decode cc pc = .ok (.iaload, 1)) (hc : cnt (pc + 1) = cnt pc) : ip_snd p l e R s m args below meth c D cA A Q nL cnt I ad0 S0 pc (ip_t_ld 6 (pc + 1)) := by
  intro N hN loc st S h ad L H locs ls hI hl hst hlo hex hW
  unfold ip_t_ld at h
  split at h
  · rename_i i q r
    cases hq : ip_kt q with
    | mk k len =>
      rw [hq] at h
      dsimp only at h
      cases hb : Nat.beq k 6 with
      | false => rw [hb] at h; exact h.elim
      | true =>
        rw [hb] at h
        have := Nat.eq_of_beq_eq_true hb
        subst this
        obtain ⟨k0, h1, h2⟩ := ip_WatI hW (ip_kts (hIs S hI) hq (by decide)) (by decide) (by decide)
        have kk := hN _ _ _ _ h.2 ad L H locs ls hI hl (ip_cs ip_ok_i (ip_tl (ip_tl hst))) hlo hex hW
        rw [hc] at kk
        exact va_iald hx ‹_› hW.2.2.1 hW.2.2.2.1 k0 0 h2 rfl h.1 hd kk
  · exact h.elim
theorem ip_s_ldz (hx : p.tables.exec = Jvm.exec) (hb : c.code = cc) (hIs : ∀ S, I S → ip_Sta S) (hd : decode cc pc = .ok (.baload, 1)) (hc : cnt (pc + 1) = cnt pc) : ip_snd p l e R s m args below meth c D cA A Q nL cnt I ad0 S0 pc (ip_t_ld 7 (pc + 1)) := by
  intro N hN loc st S h ad L H locs ls hI hl hst hlo hex hW
  unfold ip_t_ld at h
  split at h
  · rename_i i q r
    cases hq : ip_kt q with
    | mk k len =>
      rw [hq] at h
      dsimp only at h
      cases hb : Nat.beq k 7 with
      | false => rw [hb] at h; exact h.elim
      | true =>
        rw [hb] at h
        have := Nat.eq_of_beq_eq_true hb
        subst this
        obtain ⟨k0, h1, h2⟩ := ip_WatI hW (ip_kts (hIs S hI) hq (by decide)) (by decide) (by decide)
        have kk := hN _ _ _ _ h.2 ad L H locs ls hI hl (ip_cs ip_ok_i (ip_tl (ip_tl hst))) hlo hex hW
        rw [hc] at kk
        exact va_zald hx ‹_› hW.2.2.1 hW.2.2.2.1 k0 1 h2 rfl h.1 hd kk
  · exact h.elim
theorem ip_s_ldD (hx : p.tables.exec = Jvm.exec) (hb : c.code = cc) (hd : decode cc pc = .ok (.iaload, 1)) (hc : cnt (pc + 1) = cnt pc) : ip_snd p l e R s m args below meth c D cA A Q nL cnt I ad0 S0 pc (ip_t_ldD (pc + 1)) := by
  intro N hN loc st S h ad L H locs ls hI hl hst hlo hex hW
  unfold ip_t_ldD at h
  split at h
  · obtain ⟨len, hq, hin, h⟩ := h
    obtain ⟨k0, h1, h2⟩ := ip_WatI hW hq (by decide) (by decide)
    have kk := hN _ _ _ _ h ad L H locs ls hI hl (ip_cs ip_ok_i (ip_tl (ip_tl hst))) hlo hex hW
    rw [hc] at kk
    exact va_iald hx hb hW.2.2.1 hW.2.2.2.1 k0 0 h2 rfl hin hd kk
  · exact h.elim
theorem ip_s_lda8 (hx : p.tables.exec = Jvm.exec) (hb : c.code = cc) (hIs : ∀ S, I S → ip_Sta S) (hd : decode cc pc = .ok (.aaload, 1)) (hc : cnt (pc + 1) = cnt pc) : ip_snd p l e R s m args below meth c D cA A Q nL cnt I ad0 S0 pc (ip_t_lda 8 (pc + 1)) := by
  intro N hN loc st S h ad L H locs ls hI hl hst hlo hex hW
  unfold ip_t_lda at h
  split at h
  · rename_i i q r
    cases hq : ip_kt q with
    | mk k len =>
      rw [hq] at h
      dsimp only at h
      cases hb : Nat.beq k 8 with
      | false => rw [hb] at h; exact h.elim
      | true =>
        rw [hb] at h
        have := Nat.eq_of_beq_eq_true hb
        subst this
        obtain ⟨k0, h1, h2⟩ := ip_WatR hW (ip_kts (hIs S hI) hq (by decide)) (by decide) (by decide)
        have kk := hN _ _ _ _ (h.2 _ rfl) ad L H locs ls hI hl (ip_cs (ip_ok_c hW.2.1 rfl) (ip_tl (ip_tl hst))) hlo hex hW
        rw [hc] at kk
        exact va_aldq hx ‹_› hW.2.2.1 hW.2.2.2.1 k0 2 h2 rfl h.1 hd kk
  · exact h.elim
theorem ip_s_lda9 (hx : p.tables.exec = Jvm.exec) (hb : c.code = cc) (hIs : ∀ S, I S → ip_Sta S) (hd : decode cc pc = .ok (.aaload, 1)) (hc : cnt (pc + 1) = cnt pc) : ip_snd p l e R s m args below meth c D cA A Q nL cnt I ad0 S0 pc (ip_t_lda 9 (pc + 1)) := by
  intro N hN loc st S h ad L H locs ls hI hl hst hlo hex hW
  unfold ip_t_lda at h
  split at h
  · rename_i i q r
    cases hq : ip_kt q with
    | mk k len =>
      rw [hq] at h
      dsimp only at h
      cases hb : Nat.beq k 9 with
      | false => rw [hb] at h; exact h.elim
      | true =>
        rw [hb] at h
        have := Nat.eq_of_beq_eq_true hb
        subst this
        obtain ⟨k0, h1, h2⟩ := ip_WatR hW (ip_kts (hIs S hI) hq (by decide)) (by decide) (by decide)
        have kk := hN _ _ _ _ (h.2 _ rfl) ad L H locs ls hI hl (ip_cs (ip_ok_c hW.2.1 rfl) (ip_tl (ip_tl hst))) hlo hex hW
        rw [hc] at kk
        exact va_aldq hx ‹_› hW.2.2.1 hW.2.2.2.1 k0 3 h2 rfl h.1 hd kk
  · exact h.elim
theorem ip_s_sti (hx : p.tables.exec = Jvm.exec) (hb : c.code = cc) (hIn : ip_In I) (hIs : ∀ S, I S → ip_Sta S) (hd : decode cc pc = .ok (.iastore, 1)) (hc : cnt (pc + 1) = cnt pc) : ip_snd p l e R s m args below meth c D cA A Q nL cnt I ad0 S0 pc (ip_t_st (pc + 1)) := by
  intro N hN loc st S h ad L H locs ls hI hl hst hlo hex hW
  unfold ip_t_st at h
  split at h
  · rename_i x i q r
    cases hq : ip_kt q with
    | mk k len =>
      rw [hq] at h
      dsimp only at h
      cases hb : Nat.beq k 6 with
      | false => rw [hb] at h; exact h.elim
      | true =>
        rw [hb] at h
        have := Nat.eq_of_beq_eq_true hb
        subst this
        have hkq := ip_kts (hIs S hI) hq (by decide)
        obtain ⟨k0, h1, h2⟩ := ip_WatI hW hkq (by decide) (by decide)
        refine va_iast hx ‹_› hW.2.2.1 hW.2.2.2.1 hW.2.2.2.2.1 hW.2.2.2.2.2 k0 0 h2 rfl h.1 hd (fun H1 locs1 hP hD hS => ?_)
        have kk := hN _ _ _ _ h.2 ad L H1 locs1 ls (hIn.1 _ _ _ _ hI) hl (ip_tl (ip_tl (ip_tl hst))) hlo hex (hW.put rfl hW.2.1 h1 (fun q' hq' => ip_E_sI hq') (by rw [ip_upd_I]; exact (ip_E_ints (S := ip_sI S q i.toNatClampNeg x) hkq (by decide) (by decide)).symm) hP hD hS)
        rw [hc] at kk
        exact kk
  · exact h.elim
theorem ip_s_stz (hx : p.tables.exec = Jvm.exec) (hb : c.code = cc) (hIn : ip_In I) (hIs : ∀ S, I S → ip_Sta S) (hd : decode cc pc = .ok (.bastore, 1)) (hc : cnt (pc + 1) = cnt pc) : ip_snd p l e R s m args below meth c D cA A Q nL cnt I ad0 S0 pc (ip_t_stz (pc + 1)) := by
  intro N hN loc st S h ad L H locs ls hI hl hst hlo hex hW
  unfold ip_t_stz at h
  split at h
  · rename_i x i q r
    cases hq : ip_kt q with
    | mk k len =>
      rw [hq] at h
      dsimp only at h
      cases hb : Nat.beq k 7 with
      | false => rw [hb] at h; exact h.elim
      | true =>
        rw [hb] at h
        have := Nat.eq_of_beq_eq_true hb
        subst this
        have hkq := ip_kts (hIs S hI) hq (by decide)
        obtain ⟨k0, h1, h2⟩ := ip_WatI hW hkq (by decide) (by decide)
        refine va_zast hx ‹_› hW.2.2.1 hW.2.2.2.1 hW.2.2.2.2.1 hW.2.2.2.2.2 k0 1 h2 rfl h.1 hd (fun H1 locs1 hP hD hS => ?_)
        have kk := hN _ _ _ _ h.2 ad L H1 locs1 ls (hIn.1 _ _ _ _ hI) hl (ip_tl (ip_tl (ip_tl hst))) hlo hex (hW.put rfl hW.2.1 h1 (fun q' hq' => ip_E_sI hq') (by rw [ip_upd_I]; exact (ip_E_ints (S := ip_sI S q i.toNatClampNeg (vp_nar .boolean x)) hkq (by decide) (by decide)).symm) hP hD hS)
        rw [hc] at kk
        exact kk
  · exact h.elim
theorem ip_s_stD (hx : p.tables.exec = Jvm.exec) (hb : c.code = cc) (hIn : ip_In I) (hd : decode cc pc = .ok (.iastore, 1)) (hc : cnt (pc + 1) = cnt pc) : ip_snd p l e R s m args below meth c D cA A Q nL cnt I ad0 S0 pc (ip_t_stD (pc + 1)) := by
  intro N hN loc st S h ad L H locs ls hI hl hst hlo hex hW
  unfold ip_t_stD at h
  split at h
  · rename_i x i q r
    obtain ⟨len, hkq, hin, h⟩ := h
    obtain ⟨k0, h1, h2⟩ := ip_WatI hW hkq (by decide) (by decide)
    refine va_iast hx hb hW.2.2.1 hW.2.2.2.1 hW.2.2.2.2.1 hW.2.2.2.2.2 k0 0 h2 rfl hin hd (fun H1 locs1 hP hD hS => ?_)
    have kk := hN _ _ _ _ h ad L H1 locs1 ls (hIn.1 _ _ _ _ hI) hl (ip_tl (ip_tl (ip_tl hst))) hlo hex (hW.put rfl hW.2.1 h1 (fun q' hq' => ip_E_sI hq') (by rw [ip_upd_I]; exact (ip_E_ints (S := ip_sI S q i.toNatClampNeg x) hkq (by decide) (by decide)).symm) hP hD hS)
    rw [hc] at kk
    exact kk
  · exact h.elim
theorem ip_s_sta8 (hx : p.tables.exec = Jvm.exec) (hb : c.code = cc) (hIn : ip_In I) (hIs : ∀ S, I S → ip_Sta S) (hd : decode cc pc = .ok (.aastore, 1)) (hc : cnt (pc + 1) = cnt pc) : ip_snd p l e R s m args below meth c D cA A Q nL cnt I ad0 S0 pc (ip_t_sta 8 0 (pc + 1)) := by
  intro N hN loc st S h ad L H locs ls hI hl hst hlo hex hW
  unfold ip_t_sta at h
  split at h
  · rename_i i q r
    cases hq : ip_kt q with
    | mk k len =>
      rw [hq] at h
      dsimp only at h
      cases hb : Nat.beq k 8 with
      | false => rw [hb] at h; exact h.elim
      | true =>
        rw [hb] at h
        have := Nat.eq_of_beq_eq_true hb
        subst this
        have hkq := ip_kts (hIs S hI) hq (by decide)
        obtain ⟨k0, h1, h2⟩ := ip_WatR hW hkq (by decide) (by decide)
        refine va_astqN hx ‹_› hW.2.2.1 hW.2.2.2.1 hW.2.2.2.2.1 hW.2.2.2.2.2 k0 2 h2 rfl h.1 hd (fun H1 locs1 hP hD hS => ?_)
        have kk := hN _ _ _ _ h.2 ad L H1 locs1 ls (hIn.2.2.1 _ _ _ _ hI (Or.inr (by rw [hkq]; exact Nat.le_of_ble_eq_true rfl))) hl (ip_tl (ip_tl (ip_tl hst))) hlo hex (hW.put rfl (ip_cl_R hW.2.1 ip_ok_n) h1 (fun q' hq' => ip_E_sR hq') (by rw [show (none : Option Nat) = (none : Option Nat).map ad from rfl, ip_upd_R]; exact (ip_E_refs (S := ip_sR S q i.toNatClampNeg none) hkq (by decide)).symm) hP hD hS)
        rw [hc] at kk
        exact kk
  · rename_i v i q r
    cases hq : ip_kt q with
    | mk k len =>
      rw [hq] at h
      dsimp only at h
      cases hb : Nat.beq k 8 with
      | false => rw [hb] at h; exact h.elim
      | true =>
        rw [hb] at h
        have := Nat.eq_of_beq_eq_true hb
        subst this
        have hkq := ip_kts (hIs S hI) hq (by decide)
        obtain ⟨k0, h1, h2⟩ := ip_WatR hW hkq (by decide) (by decide)
        obtain ⟨k1, h3, h4⟩ := ip_Wat hW h.2.1 (by decide)
        refine va_astq hx ‹_› hW.2.2.1 hW.2.2.2.1 hW.2.2.2.2.1 hW.2.2.2.2.2 k0 2 k1 0 h2 rfl h4 rfl h.1 hd (fun H1 locs1 hP hD hS => ?_)
        have kk := hN _ _ _ _ h.2.2 ad L H1 locs1 ls (hIn.2.2.1 _ _ _ _ hI (Or.inr (by rw [hkq]; exact Nat.le_of_ble_eq_true rfl))) hl (ip_tl (ip_tl (ip_tl hst))) hlo hex (hW.put rfl (ip_cl_R hW.2.1 (ip_hd hst)) h1 (fun q' hq' => ip_E_sR hq') (by rw [show some (ad v) = (some v).map ad from rfl, ip_upd_R]; exact (ip_E_refs (S := ip_sR S q i.toNatClampNeg (some v)) hkq (by decide)).symm) hP hD hS)
        rw [hc] at kk
        exact kk
  · exact h.elim
theorem ip_s_sta9 (hx : p.tables.exec = Jvm.exec) (hb : c.code = cc) (hIn : ip_In I) (hIs : ∀ S, I S → ip_Sta S) (hd : decode cc pc = .ok (.aastore, 1)) (hc : cnt (pc + 1) = cnt pc) : ip_snd p l e R s m args below meth c D cA A Q nL cnt I ad0 S0 pc (ip_t_sta 9 1 (pc + 1)) := by
  intro N hN loc st S h ad L H locs ls hI hl hst hlo hex hW
  unfold ip_t_sta at h
  split at h
  · rename_i i q r
    cases hq : ip_kt q with
    | mk k len =>
      rw [hq] at h
      dsimp only at h
      cases hb : Nat.beq k 9 with
      | false => rw [hb] at h; exact h.elim
      | true =>
        rw [hb] at h
        have := Nat.eq_of_beq_eq_true hb
        subst this
        have hkq := ip_kts (hIs S hI) hq (by decide)
        obtain ⟨k0, h1, h2⟩ := ip_WatR hW hkq (by decide) (by decide)
        refine va_astqN hx ‹_› hW.2.2.1 hW.2.2.2.1 hW.2.2.2.2.1 hW.2.2.2.2.2 k0 3 h2 rfl h.1 hd (fun H1 locs1 hP hD hS => ?_)
        have kk := hN _ _ _ _ h.2 ad L H1 locs1 ls (hIn.2.2.1 _ _ _ _ hI (Or.inr (by rw [hkq]; exact Nat.le_of_ble_eq_true rfl))) hl (ip_tl (ip_tl (ip_tl hst))) hlo hex (hW.put rfl (ip_cl_R hW.2.1 ip_ok_n) h1 (fun q' hq' => ip_E_sR hq') (by rw [show (none : Option Nat) = (none : Option Nat).map ad from rfl, ip_upd_R]; exact (ip_E_refs (S := ip_sR S q i.toNatClampNeg none) hkq (by decide)).symm) hP hD hS)
        rw [hc] at kk
        exact kk
  · rename_i v i q r
    cases hq : ip_kt q with
    | mk k len =>
      rw [hq] at h
      dsimp only at h
      cases hb : Nat.beq k 9 with
      | false => rw [hb] at h; exact h.elim
      | true =>
        rw [hb] at h
        have := Nat.eq_of_beq_eq_true hb
        subst this
        have hkq := ip_kts (hIs S hI) hq (by decide)
        obtain ⟨k0, h1, h2⟩ := ip_WatR hW hkq (by decide) (by decide)
        obtain ⟨k1, h3, h4⟩ := ip_Wat hW h.2.1 (by decide)
        refine va_astq hx ‹_› hW.2.2.1 hW.2.2.2.1 hW.2.2.2.2.1 hW.2.2.2.2.2 k0 3 k1 1 h2 rfl h4 rfl h.1 hd (fun H1 locs1 hP hD hS => ?_)
        have kk := hN _ _ _ _ h.2.2 ad L H1 locs1 ls (hIn.2.2.1 _ _ _ _ hI (Or.inr (by rw [hkq]; exact Nat.le_of_ble_eq_true rfl))) hl (ip_tl (ip_tl (ip_tl hst))) hlo hex (hW.put rfl (ip_cl_R hW.2.1 (ip_hd hst)) h1 (fun q' hq' => ip_E_sR hq') (by rw [show some (ad v) = (some v).map ad from rfl, ip_upd_R]; exact (ip_E_refs (S := ip_sR S q i.toNatClampNeg (some v)) hkq (by decide)).symm) hP hD hS)
        rw [hc] at kk
        exact kk
  · exact h.elim
theorem ip_s_len (hx : p.tables.exec = Jvm.exec) (hb : c.code = cc) (hIs : ∀ S, I S → ip_Sta S) (hd : decode cc pc = .ok (.arraylength, 1)) (hc : cnt (pc + 1) = cnt pc) : ip_snd p l e R s m args below meth c D cA A Q nL cnt I ad0 S0 pc (ip_t_len (pc + 1)) := by
  intro N hN loc st S h ad L H locs ls hI hl hst hlo hex hW
  unfold ip_t_len at h
  split at h
  · rename_i q r
    cases hq : ip_kt q with
    | mk k len =>
      rw [hq] at h
      dsimp only at h
      cases hb : (Nat.ble 6 k && Nat.ble k 9) with
      | false => rw [hb] at h; exact h.elim
      | true =>
        rw [hb] at h
        rw [Bool.and_eq_true] at hb
        have b1 := Nat.le_of_ble_eq_true hb.1
        have b2 := Nat.le_of_ble_eq_true hb.2
        have hkq := ip_kts (hIs S hI) hq (by omega)
        have kk := hN _ _ _ _ h ad L H locs ls hI hl (ip_cs ip_ok_i (ip_tl hst)) hlo hex hW
        rw [hc] at kk
        rcases (show k = 6 ∨ k = 7 ∨ k = 8 ∨ k = 9 by omega) with rfl | rfl | rfl | rfl
        · obtain ⟨k0, h1, h2⟩ := ip_WatI hW hkq (by decide) (by decide)
          exact va_alen hx ‹_› hW.2.2.1 hW.2.2.2.1 k0 0 h2 (ty := .int) rfl (ip_i32_eq len) hd kk
        · obtain ⟨k0, h1, h2⟩ := ip_WatI hW hkq (by decide) (by decide)
          exact va_alen hx ‹_› hW.2.2.1 hW.2.2.2.1 k0 1 h2 (ty := .boolean) rfl (ip_i32_eq len) hd kk
        · obtain ⟨k0, h1, h2⟩ := ip_WatR hW hkq (by decide) (by decide)
          exact va_alen hx ‹_› hW.2.2.1 hW.2.2.2.1 k0 2 h2 (ty := .object RX0) rfl (ip_i32_eq len) hd kk
        · obtain ⟨k0, h1, h2⟩ := ip_WatR hW hkq (by decide) (by decide)
          exact va_alen hx ‹_› hW.2.2.1 hW.2.2.2.1 k0 3 h2 (ty := .object RX1) rfl (ip_i32_eq len) hd kk
  · exact h.elim
theorem ip_s_lenD (hx : p.tables.exec = Jvm.exec) (hb : c.code = cc) (hd : decode cc pc = .ok (.arraylength, 1)) (hc : cnt (pc + 1) = cnt pc) : ip_snd p l e R s m args below meth c D cA A Q nL cnt I ad0 S0 pc (ip_t_lenD (pc + 1)) := by
  intro N hN loc st S h ad L H locs ls hI hl hst hlo hex hW
  unfold ip_t_lenD at h
  split at h
  · obtain ⟨len, hkq, h⟩ := h
    have kk := hN _ _ _ _ h ad L H locs ls hI hl (ip_cs ip_ok_i (ip_tl hst)) hlo hex hW
    rw [hc] at kk
    obtain ⟨k0, h1, h2⟩ := ip_WatI hW hkq (by decide) (by decide)
    exact va_alen hx hb hW.2.2.1 hW.2.2.2.1 k0 0 h2 (ty := .int) rfl (ip_i32_eq len) hd kk
  · exact h.elim
theorem ip_E_ad {ad ad' : Nat → Nat} {S : ip_S} {q : Nat} (h : ∀ k r, S.2.1 q k = some r → ad' r = ad r) : ip_E cA ad' S q = ip_E cA ad S q := by
  have h2 : ∀ k, (S.2.1 q k).map ad' = (S.2.1 q k).map ad := by
    intro k
    cases hr : S.2.1 q k with
    | none => rfl
    | some r => simp [h k r hr]
  have hf : ∀ (ts : List Nat) (k : Nat), ip_fs ad' S q ts k = ip_fs ad S q ts k := by
    intro ts
    induction ts with
    | nil => intro k; rfl
    | cons t ts ih => intro k; simp only [ip_fs, ih, ip_fv, h2]
  unfold ip_E
  rw [hf]
  simp only [h2]
theorem ip_ax_nw {S : ip_S} {q : Nat} {kd : Nat × Nat} (hkd : kd.1 < 10) {x : Nat} (h : ip_ax S x) : ip_ax (ip_nw S q kd) x := by
  rcases h with h | h
  · left
    show (if x = q then kd else S.2.2.2 x).1 < 10
    split
    · exact hkd
    · exact h
  · exact Or.inr h
theorem ip_W.new {ad : Nat → Nat} {L : List Nat} {S : ip_S} {H H1 : Heap} {locs locs1 : List Loc} (hW : ip_W D cA A ad L S s H locs) {q a0 : Nat} {kd : Nat × Nat} (hkd : kd.1 < 10) (hq : 10 ≤ (S.2.2.2 q).1) (hq9 : q ≠ 99) {en : va_E} (hen : en = ip_E cA (fun x => if x = q then a0 else ad x) (ip_nw S q kd) q)
    (hP : va_P D vwCl (ip_wl cA ad L S ++ [(a0, en)]) H1) (hD : va_D A (ip_wl cA ad L S ++ [(a0, en)])) (hS : va_S A s.heap H1 locs1) : ip_W D cA A (fun x => if x = q then a0 else ad x) (L ++ [q]) (ip_nw S q kd) s H1 locs1 := by
  obtain ⟨h1, h2, h3, h4, h5, h6⟩ := hW
  have hnq : ∀ x, ip_ax S x → x ≠ q := by
    intro x hx e
    subst e
    rcases hx with hx | hx
    · have : (S.2.2.2 x).1 < 10 := hx
      omega
    · exact hq9 hx
  have e1 : ip_wl cA ad L S ++ [(a0, en)] = ip_wl cA (fun x => if x = q then a0 else ad x) (L ++ [q]) (ip_nw S q kd) := by
    unfold ip_wl
    rw [List.map_append, List.map_singleton, ← hen]
    show _ = _ ++ [((if q = q then a0 else ad q), en)]
    rw [if_pos rfl]
    congr 1
    refine List.map_congr_left (fun x hx => ?_)
    have hxq : x ≠ q := hnq x (Or.inl ((h1 x).mp hx))
    show (ad x, ip_E cA ad S x) = (if x = q then a0 else ad x, ip_E cA _ (ip_nw S q kd) x)
    rw [if_neg hxq, ip_E_nw hxq]
    rw [ip_E_ad (ad := ad) (fun k r hr => if_neg (hnq r (h2 x k r hr)))]
  rw [e1] at hP hD
  refine ⟨fun x => ?_, fun x k r hr => ?_, h3, hP, hD, hS⟩
  · show x ∈ L ++ [q] ↔ (if x = q then kd else S.2.2.2 x).1 < 10
    by_cases hx : x = q
    · subst hx; simp [hkd]
    · rw [if_neg hx]
      simp only [List.mem_append, List.mem_singleton, hx, or_false]
      exact h1 x
  · have hr' : (if x = q then none else S.2.1 x k) = some r := hr
    split at hr'
    · cases hr'
    · exact ip_ax_nw hkd (h2 x k r hr')
theorem ip_fs_nw {ad : Nat → Nat} {S : ip_S} {q : Nat} {kd : Nat × Nat} : ∀ (ts : List Nat) (k : Nat), ip_fs ad (ip_nw S q kd) q ts k = ts.map (fun t => match t with | 0 => .int 0 | 1 => .null | _ => .long 0)
  | [], k => rfl
  | t :: ts, k => by
    simp only [ip_fs, List.map_cons, ip_fs_nw ts (k + 1)]
    congr 1
    unfold ip_fv
    split <;> simp [ip_nw, va_rf]
def ip_t_new (ci n : Nat) : ip_T := fun N loc st S => ∃ q, 10 ≤ (S.2.2.2 q).1 ∧ q ≠ 99 ∧ N n loc (.inr (.inl (some q)) :: st) (ip_nw S q (ci, 0))
theorem ip_s_new (hx : p.tables.exec = Jvm.exec) (hb : c.code = cc) {own C : String} {T : u_T} {N ci index : Nat} {Ts : List Cond} (hts : ∀ w ∈ Ts, w.before args s = true) (hin : ∀ w ∈ u_ws C T N, w ∈ Ts) (ty : Nat → FieldType) (hty : ∀ k, k < N → parseFieldDescriptor (T k).2.2.1 = some (ty k)) (hown : s.vm.findClass own = some m.cls) (hcl : (Cond.classLink own index C).before args s = true) (hinst : (Cond.instantiable C N).before args s = true) (hini : (Cond.initialized C).before args s = true) (hA : ∀ q, s.heap.size ≤ q → A q) (hIn : ip_In I) (hc0 : vwCl[ci]? = some (C, T, N)) (hci : ci < 6)
    (hdf : ∀ j, j < N → defaultValue (ty j) = vp_V ((ip_ty ci).map (fun t => match t with | 0 => .int 0 | 1 => .null | _ => .long 0)) j) (h1 : (cnt pc).1 + 1 ≤ R.cells) (h2 : (cnt pc).2 + N ≤ R.slots) (hd : decode cc pc = .ok (.new index, 3)) (hc : cnt (pc + 3) = ((cnt pc).1 + 1, (cnt pc).2 + N)) : ip_snd p l e R s m args below meth c D cA A Q nL cnt I ad0 S0 pc (ip_t_new ci (pc + 3)) := by
  intro N' hN loc st S h ad L H locs ls hI hl hst hlo hex hW
  obtain ⟨q, hq, hq9, h⟩ := h
  refine va_new hx hb hts hin ty hty hown hcl hinst hini hW.2.2.1 hW.2.2.2.1 hW.2.2.2.2.1 hW.2.2.2.2.2 hA hc0 hdf h1 h2 hd (fun a0 H1 hP hD hS => ?_)
  have hci' : (ci, 0).1 < 10 := by show ci < 10; omega
  have hW' := hW.new (a0 := a0) (kd := (ci, 0)) hci' hq hq9 (by
    rw [ip_E_obj (ci := ci) (by show (if q = q then (ci, 0) else S.2.2.2 q).1 = ci; rw [if_pos rfl]) hci, ip_fs_nw]) hP hD hS
  have hnq : ∀ x, ip_ax S x → x ≠ q := by
    intro x hx e
    subst e
    rcases hx with hx | hx
    · have : (S.2.2.2 x).1 < 10 := hx
      omega
    · exact hq9 hx
  have he : ∀ x, ip_ax S x → (fun x => if x = q then a0 else ad x) x = ad x := fun x hx => if_neg (hnq x hx)
  have hok : ∀ v, ip_ok S v → ip_ok (ip_nw S q (ci, 0)) v := fun v hv r hr => ip_ax_nw hci' (hv r hr)
  have kk := hN _ _ _ _ h _ _ H1 locs ls (hIn.2.2.2 _ _ _ hI hq) (hl.ext he hlo) (ip_cs (ip_ok_r (Or.inl (by show (if q = q then (ci, 0) else S.2.2.2 q).1 < 10; rw [if_pos rfl]; exact hci'))) (fun v hv => hok v (hst v hv))) (fun v hv => hok v (hlo v hv)) (fun x hx => ⟨ip_ax_nw hci' (hex x hx).1, (he x (hex x hx).1).trans (hex x hx).2⟩) hW'
  rw [hc] at kk
  rw [List.map_cons, ip_st_ext he hst] at kk
  simp only [ip_cv, Option.map_some, if_pos rfl] at kk
  exact kk
/-- a new array of ints (6) or booleans (7) -/
def ip_t_newa (kd len n : Nat) : ip_T := fun N loc st S => match st with
  | .inl x :: r => x = Int32.ofNat len ∧ ∃ q, 10 ≤ (S.2.2.2 q).1 ∧ q ≠ 99 ∧ N n loc (.inr (.inl (some q)) :: r) (ip_nw S q (kd, len))
  | _ => False
theorem ip_s_newi (hx : p.tables.exec = Jvm.exec) (hb : c.code = cc) (harr : (Cond.arrayClass (newarray.typeOf .int)).before args s = true) (hA : ∀ q, s.heap.size ≤ q → A q) (hIn : ip_In I) {len : Nat} (hlen : len ≤ 1000) (h1 : (cnt pc).1 + 1 ≤ R.cells) (h2 : (cnt pc).2 + len ≤ R.slots) (hd : decode cc pc = .ok (.newarray .int, 2)) (hc : cnt (pc + 2) = ((cnt pc).1 + 1, (cnt pc).2 + len)) : ip_snd p l e R s m args below meth c D cA A Q nL cnt I ad0 S0 pc (ip_t_newa 6 len (pc + 2)) := by
  intro N' hN loc st S h ad L H locs ls hI hl hst hlo hex hW
  unfold ip_t_newa at h
  split at h
  · rename_i x r
    obtain ⟨hxl, q, hq, hq9, h⟩ := h
    refine va_newa hx hb (ty := .int) harr rfl hW.2.2.1 hW.2.2.2.1 hW.2.2.2.2.1 hW.2.2.2.2.2 hA (N' := len) (a0 := (len, .inl (fun _ => 0))) (fun _ => rfl) (by rw [hxl]; exact nI_pos (by omega)) (by rw [hxl]; exact nI_clamp (by omega)) (by show len * 4 ≤ 536870912; omega) h1 h2 hd (fun a0 cA' H1 hK' hP hD hS => ?_)
    have hcA : cA' = cA 6 := by
      have e1 := (hK'.2 4 (cA', .int) rfl).2
      have e2 := (hW.2.2.1.2 0 (cA 6, .int) rfl).2
      exact Option.some.inj ((show _ = some cA' from e1).symm.trans e2)
    subst hcA
    have hci' : (6, len).1 < 10 := Nat.lt_of_lt_of_le (Nat.lt_succ_self _) (Nat.le_of_ble_eq_true rfl)
    have hkq : (ip_nw S q (6, len)).2.2.2 q = (6, len) := by show (if q = q then (6, len) else S.2.2.2 q) = _; rw [if_pos rfl]
    have hW' := hW.new (a0 := a0) (kd := (6, len)) hci' hq hq9 (by
      rw [ip_E_ints hkq (by decide) (by decide)]
      congr 4
      funext j
      show (0 : Int32) = if q = q then 0 else S.1 q j
      rw [if_pos rfl]) hP hD hS
    have hnq : ∀ x, ip_ax S x → x ≠ q := by
      intro x hx e
      subst e
      rcases hx with hx | hx
      · have : (S.2.2.2 x).1 < 10 := hx
        omega
      · exact hq9 hx
    have he : ∀ x, ip_ax S x → (fun x => if x = q then a0 else ad x) x = ad x := fun x hx => if_neg (hnq x hx)
    have hok : ∀ v, ip_ok S v → ip_ok (ip_nw S q (6, len)) v := fun v hv r hr => ip_ax_nw hci' (hv r hr)
    have kk := hN _ _ _ _ h _ _ H1 locs ls (hIn.2.2.2 _ _ _ hI hq) (hl.ext he hlo) (ip_cs (ip_ok_r (Or.inl (by show ((ip_nw S q (6, len)).2.2.2 q).1 < 10; rw [hkq]; exact hci'))) (fun v hv => hok v (ip_tl hst v hv))) (fun v hv => hok v (hlo v hv)) (fun x hx => ⟨ip_ax_nw hci' (hex x hx).1, (he x (hex x hx).1).trans (hex x hx).2⟩) hW'
    rw [hc] at kk
    rw [List.map_cons, ip_st_ext he (ip_tl hst)] at kk
    simp only [ip_cv, Option.map_some, if_pos rfl] at kk
    exact kk
  · exact h.elim
theorem ip_s_newz (hx : p.tables.exec = Jvm.exec) (hb : c.code = cc) (harr : (Cond.arrayClass (newarray.typeOf .boolean)).before args s = true) (hA : ∀ q, s.heap.size ≤ q → A q) (hIn : ip_In I) {len : Nat} (hlen : len ≤ 1000) (h1 : (cnt pc).1 + 1 ≤ R.cells) (h2 : (cnt pc).2 + len ≤ R.slots) (hd : decode cc pc = .ok (.newarray .boolean, 2)) (hc : cnt (pc + 2) = ((cnt pc).1 + 1, (cnt pc).2 + len)) : ip_snd p l e R s m args below meth c D cA A Q nL cnt I ad0 S0 pc (ip_t_newa 7 len (pc + 2)) := by
  intro N' hN loc st S h ad L H locs ls hI hl hst hlo hex hW
  unfold ip_t_newa at h
  split at h
  · rename_i x r
    obtain ⟨hxl, q, hq, hq9, h⟩ := h
    refine va_newa hx hb (ty := .boolean) harr rfl hW.2.2.1 hW.2.2.2.1 hW.2.2.2.2.1 hW.2.2.2.2.2 hA (N' := len) (a0 := (len, .inl (fun _ => 0))) (fun _ => rfl) (by rw [hxl]; exact nI_pos (by omega)) (by rw [hxl]; exact nI_clamp (by omega)) (by show len * 1 ≤ 536870912; omega) h1 h2 hd (fun a0 cA' H1 hK' hP hD hS => ?_)
    have hcA : cA' = cA 7 := by
      have e1 := (hK'.2 4 (cA', .boolean) rfl).2
      have e2 := (hW.2.2.1.2 1 (cA 7, .boolean) rfl).2
      exact Option.some.inj ((show _ = some cA' from e1).symm.trans e2)
    subst hcA
    have hci' : (7, len).1 < 10 := Nat.lt_of_lt_of_le (Nat.lt_succ_self _) (Nat.le_of_ble_eq_true rfl)
    have hkq : (ip_nw S q (7, len)).2.2.2 q = (7, len) := by show (if q = q then (7, len) else S.2.2.2 q) = _; rw [if_pos rfl]
    have hW' := hW.new (a0 := a0) (kd := (7, len)) hci' hq hq9 (by
      rw [ip_E_ints hkq (by decide) (by decide)]
      congr 4
      funext j
      show (0 : Int32) = if q = q then 0 else S.1 q j
      rw [if_pos rfl]) hP hD hS
    have hnq : ∀ x, ip_ax S x → x ≠ q := by
      intro x hx e
      subst e
      rcases hx with hx | hx
      · have : (S.2.2.2 x).1 < 10 := hx
        omega
      · exact hq9 hx
    have he : ∀ x, ip_ax S x → (fun x => if x = q then a0 else ad x) x = ad x := fun x hx => if_neg (hnq x hx)
    have hok : ∀ v, ip_ok S v → ip_ok (ip_nw S q (7, len)) v := fun v hv r hr => ip_ax_nw hci' (hv r hr)
    have kk := hN _ _ _ _ h _ _ H1 locs ls (hIn.2.2.2 _ _ _ hI hq) (hl.ext he hlo) (ip_cs (ip_ok_r (Or.inl (by show ((ip_nw S q (7, len)).2.2.2 q).1 < 10; rw [hkq]; exact hci'))) (fun v hv => hok v (ip_tl hst v hv))) (fun v hv => hok v (hlo v hv)) (fun x hx => ⟨ip_ax_nw hci' (hex x hx).1, (he x (hex x hx).1).trans (hex x hx).2⟩) hW'
    rw [hc] at kk
    rw [List.map_cons, ip_st_ext he (ip_tl hst)] at kk
    simp only [ip_cv, Option.map_some, if_pos rfl] at kk
    exact kk
  · exact h.elim
theorem ip_s_newq8 (hx : p.tables.exec = Jvm.exec) (hb : c.code = cc) {own : String} {index : Nat} (hown : s.vm.findClass own = some m.cls) (hclink : (Cond.classLink own index RX0).before args s = true) (hover : va_AO RX0 s) (hA : ∀ q, s.heap.size ≤ q → A q) (hIn : ip_In I) {len : Nat} (hlen : len ≤ 1000) (h1 : (cnt pc).1 + 1 ≤ R.cells) (h2 : (cnt pc).2 + len ≤ R.slots) (hd : decode cc pc = .ok (.anewarray index, 3)) (hc : cnt (pc + 3) = ((cnt pc).1 + 1, (cnt pc).2 + len)) : ip_snd p l e R s m args below meth c D cA A Q nL cnt I ad0 S0 pc (ip_t_newa 8 len (pc + 3)) := by
  intro N' hN loc st S h ad L H locs ls hI hl hst hlo hex hW
  unfold ip_t_newa at h
  split at h
  · rename_i x r
    obtain ⟨hxl, q, hq, hq9, h⟩ := h
    refine va_newq hx hb hown hclink hover hW.2.2.1 hW.2.2.2.1 hW.2.2.2.2.1 hW.2.2.2.2.2 hA (N' := len) (by rw [hxl]; exact nI_pos (by omega)) (by rw [hxl]; exact nI_clamp (by omega)) (by omega) h1 h2 hd (fun a0 cA' H1 hK' hP hD hS => ?_)
    have hcA : cA' = cA 8 := by
      obtain ⟨_, _, _, _, _, e1⟩ := (hK'.2 4 (cA', .object RX0) rfl).2
      obtain ⟨_, _, _, _, _, e2⟩ := (hW.2.2.1.2 2 (cA 8, .object RX0) rfl).2
      exact Option.some.inj (e1.symm.trans e2)
    subst hcA
    have hci' : (8, len).1 < 10 := Nat.lt_of_lt_of_le (Nat.lt_succ_self _) (Nat.le_of_ble_eq_true rfl)
    have hkq : (ip_nw S q (8, len)).2.2.2 q = (8, len) := by show (if q = q then (8, len) else S.2.2.2 q) = _; rw [if_pos rfl]
    have hW' := hW.new (a0 := a0) (kd := (8, len)) hci' hq hq9 (by
      rw [ip_E_refs hkq (by decide)]
      congr 7
      funext j
      show (none : Option Nat) = (if q = q then none else S.2.1 q j).map _
      rw [if_pos rfl]
      rfl) hP hD hS
    have hnq : ∀ x, ip_ax S x → x ≠ q := by
      intro x hx e
      subst e
      rcases hx with hx | hx
      · have : (S.2.2.2 x).1 < 10 := hx
        omega
      · exact hq9 hx
    have he : ∀ x, ip_ax S x → (fun x => if x = q then a0 else ad x) x = ad x := fun x hx => if_neg (hnq x hx)
    have hok : ∀ v, ip_ok S v → ip_ok (ip_nw S q (8, len)) v := fun v hv r hr => ip_ax_nw hci' (hv r hr)
    have kk := hN _ _ _ _ h _ _ H1 locs ls (hIn.2.2.2 _ _ _ hI hq) (hl.ext he hlo) (ip_cs (ip_ok_r (Or.inl (by show ((ip_nw S q (8, len)).2.2.2 q).1 < 10; rw [hkq]; exact hci'))) (fun v hv => hok v (ip_tl hst v hv))) (fun v hv => hok v (hlo v hv)) (fun x hx => ⟨ip_ax_nw hci' (hex x hx).1, (he x (hex x hx).1).trans (hex x hx).2⟩) hW'
    rw [hc] at kk
    rw [List.map_cons, ip_st_ext he (ip_tl hst)] at kk
    simp only [ip_cv, Option.map_some, if_pos rfl] at kk
    exact kk
  · exact h.elim
theorem ip_s_newq9 (hx : p.tables.exec = Jvm.exec) (hb : c.code = cc) {own : String} {index : Nat} (hown : s.vm.findClass own = some m.cls) (hclink : (Cond.classLink own index RX1).before args s = true) (hover : va_AO RX1 s) (hA : ∀ q, s.heap.size ≤ q → A q) (hIn : ip_In I) {len : Nat} (hlen : len ≤ 1000) (h1 : (cnt pc).1 + 1 ≤ R.cells) (h2 : (cnt pc).2 + len ≤ R.slots) (hd : decode cc pc = .ok (.anewarray index, 3)) (hc : cnt (pc + 3) = ((cnt pc).1 + 1, (cnt pc).2 + len)) : ip_snd p l e R s m args below meth c D cA A Q nL cnt I ad0 S0 pc (ip_t_newa 9 len (pc + 3)) := by
  intro N' hN loc st S h ad L H locs ls hI hl hst hlo hex hW
  unfold ip_t_newa at h
  split at h
  · rename_i x r
    obtain ⟨hxl, q, hq, hq9, h⟩ := h
    refine va_newq hx hb hown hclink hover hW.2.2.1 hW.2.2.2.1 hW.2.2.2.2.1 hW.2.2.2.2.2 hA (N' := len) (by rw [hxl]; exact nI_pos (by omega)) (by rw [hxl]; exact nI_clamp (by omega)) (by omega) h1 h2 hd (fun a0 cA' H1 hK' hP hD hS => ?_)
    have hcA : cA' = cA 9 := by
      obtain ⟨_, _, _, _, _, e1⟩ := (hK'.2 4 (cA', .object RX1) rfl).2
      obtain ⟨_, _, _, _, _, e2⟩ := (hW.2.2.1.2 3 (cA 9, .object RX1) rfl).2
      exact Option.some.inj (e1.symm.trans e2)
    subst hcA
    have hci' : (9, len).1 < 10 := Nat.lt_of_lt_of_le (Nat.lt_succ_self _) (Nat.le_of_ble_eq_true rfl)
    have hkq : (ip_nw S q (9, len)).2.2.2 q = (9, len) := by show (if q = q then (9, len) else S.2.2.2 q) = _; rw [if_pos rfl]
    have hW' := hW.new (a0 := a0) (kd := (9, len)) hci' hq hq9 (by
      rw [ip_E_refs hkq (by decide)]
      congr 7
      funext j
      show (none : Option Nat) = (if q = q then none else S.2.1 q j).map _
      rw [if_pos rfl]
      rfl) hP hD hS
    have hnq : ∀ x, ip_ax S x → x ≠ q := by
      intro x hx e
      subst e
      rcases hx with hx | hx
      · have : (S.2.2.2 x).1 < 10 := hx
        omega
      · exact hq9 hx
    have he : ∀ x, ip_ax S x → (fun x => if x = q then a0 else ad x) x = ad x := fun x hx => if_neg (hnq x hx)
    have hok : ∀ v, ip_ok S v → ip_ok (ip_nw S q (9, len)) v := fun v hv r hr => ip_ax_nw hci' (hv r hr)
    have kk := hN _ _ _ _ h _ _ H1 locs ls (hIn.2.2.2 _ _ _ hI hq) (hl.ext he hlo) (ip_cs (ip_ok_r (Or.inl (by show ((ip_nw S q (9, len)).2.2.2 q).1 < 10; rw [hkq]; exact hci'))) (fun v hv => hok v (ip_tl hst v hv))) (fun v hv => hok v (hlo v hv)) (fun x hx => ⟨ip_ax_nw hci' (hex x hx).1, (he x (hex x hx).1).trans (hex x hx).2⟩) hW'
    rw [hc] at kk
    rw [List.map_cons, ip_st_ext he (ip_tl hst)] at kk
    simp only [ip_cv, Option.map_some, if_pos rfl] at kk
    exact kk
  · exact h.elim
end IPA
end
section
/-! CONTRACTS -/
def ip_Q (I : ip_S → Prop) (D : va_G) (cA : Nat → ClassId) (ad : Nat → Nat) (S : ip_S) (A : Nat → Prop) (po : List ip_V → ip_S → Prop) : Array Value → State → Outcome → State → Prop := fun _ st oc t =>
  (∃ (r : List ip_V) (S' : ip_S) (ad' : Nat → Nat) (L' : List Nat), oc = .returned ((r.map (ip_cv ad')).head?) ∧ r.length ≤ 1 ∧ po r S' ∧ I S' ∧ (∀ q, ip_ax S q → ip_ax S' q ∧ ad' q = ad q) ∧ (∀ v ∈ r, ip_ok S' v) ∧ (∀ p, p ∈ L' ↔ ip_al S' p) ∧ ip_cl S' ∧ va_K D vwCl (ip_tys cA) t ∧ va_P D vwCl (ip_wl cA ad' L' S') t.heap ∧ va_D A (ip_wl cA ad' L' S')) ∧ va_F A st t
/-- what the tables say that no list of words carries: the nest mates' links, the arrays of references -/
def ip_Nx (U : State) : Prop := va_Nw (.methodLinkNest RX4 33 yX2_init "IcePads") U ∧ va_Nw (.methodLinkNest RX4 9 yX3_init "IcePads") U ∧ va_Nw (.methodLinkNest RX2 46 yX4_within "IcePads") U ∧ va_Nw (.methodLinkNest RX3 22 yX4_isMinute "IcePads") U ∧ va_AO RX0 U ∧ va_AO RX1 U
theorem ip_Nx.warm {s U : State} (hW : s.WarmedH U.vm) (h : ip_Nx s) : ip_Nx U := ⟨h.1.warmM hW, h.2.1.warmM hW, h.2.2.1.warmM hW, h.2.2.2.1.warmM hW, h.2.2.2.2.1.moved hW.alike, h.2.2.2.2.2.moved hW.alike⟩
theorem ip_Nx.same {s U : State} (hv : s.vm = U.vm) (h : ip_Nx s) : ip_Nx U := ⟨va_Nw.same rfl hv h.1, va_Nw.same rfl hv h.2.1, va_Nw.same rfl hv h.2.2.1, va_Nw.same rfl hv h.2.2.2.1, h.2.2.2.2.1.moved (by rw [hv]; exact Vm.Alike.refl _), h.2.2.2.2.2.moved (by rw [hv]; exact Vm.Alike.refl _)⟩
def ip_pr (I : ip_S → Prop) (D : va_G) (cA : Nat → ClassId) (ad : Nat → Nat) (L : List Nat) (S : ip_S) (as : List ip_V) (U : State) : Prop :=
  I S ∧ (∀ p, p ∈ L ↔ ip_al S p) ∧ ip_cl S ∧ (∀ v ∈ as, ip_ok S v) ∧ va_K D vwCl (ip_tys cA) U ∧ va_P D vwCl (ip_wl cA ad L S) U.heap ∧ va_D (fun _ => True) (ip_wl cA ad L S) ∧ ip_Nx U
def ip_CT (l : Launch) (y : MethodName) (ws : List Cond) (rm : Room) (I : ip_S → Prop) (pre : List ip_V → ip_S → Prop) (post : List ip_V → ip_S → List ip_V → ip_S → Prop) : Prop :=
  ∀ (D : va_G) (cA : Nat → ClassId) (ad : Nat → Nat) (L : List Nat) (sz : Nat) (as : List ip_V) (S : ip_S), pre as S → Met l y ws rm (va_Pc (as.map (ip_cv ad)) (fun U => U.heap.size = sz ∧ ip_pr I D cA ad L S as U)) (ip_Q I D cA ad S (va_A (ip_wl cA ad L S) sz) (post as S)) rm.cells rm.slots (va_A (ip_wl cA ad L S) sz)
theorem ip_lv_args : ∀ (vs : List Value) (k i : Nat) (w : Value), (∀ v ∈ vs, v.category = 1) → vs[i]? = some w → (k + i, w) ∈ lv_args k vs
  | [], k, i, w, _, h => by simp at h
  | v :: vs, k, 0, w, hc, h => by
    simp only [List.getElem?_cons_zero, Option.some.injEq] at h
    subst h
    simp [lv_args]
  | v :: vs, k, i + 1, w, hc, h => by
    simp only [List.getElem?_cons_succ] at h
    have h1 : ¬ v.category = 2 := by rw [hc v List.mem_cons_self]; decide
    have := ip_lv_args vs (k + 1) i w (fun v hv => hc v (List.mem_cons_of_mem _ hv)) h
    simp only [lv_args, if_neg h1]
    rw [show k + (i + 1) = k + 1 + i by omega]
    exact List.mem_cons_of_mem _ this
theorem ip_lg_len : ∀ (vs : List Value), (∀ v ∈ vs, v.category = 1) → (lg_sl vs).length = vs.length
  | [], _ => rfl
  | v :: vs, hc => by
    have h1 : ¬ v.category = 2 := by rw [hc v List.mem_cons_self]; decide
    have := ip_lg_len vs (fun v hv => hc v (List.mem_cons_of_mem _ hv))
    unfold lg_sl at this ⊢
    rw [List.flatMap_cons, if_neg h1, List.length_append, this]
    simp; omega
theorem ip_cat1 {ad : Nat → Nat} {v : ip_V} (h : ∀ x, v ≠ .inr (.inr x)) : (ip_cv ad v).category = 1 := by
  match v, h with
  | .inl x, _ => rfl
  | .inr (.inl r), _ => exact ip_rf_cat _
  | .inr (.inr x), h => exact absurd rfl (h x)
theorem ip_cat2 (ad : Nat → Nat) (v : ip_V) : (ip_cv ad v).category ≤ 2 := by
  match v with
  | .inl x => exact Nat.le_of_ble_eq_true rfl
  | .inr (.inl r) => exact Nat.le_trans (Nat.le_of_eq (ip_rf_cat _)) (by decide)
  | .inr (.inr x) => exact Nat.le_of_ble_eq_true rfl
theorem ip_catS (ad : Nat → Nat) : ∀ (st : List ip_V), (((st.map (ip_cv ad)).map fun v => v.category).sum) ≤ 2 * st.length
  | [] => Nat.le_refl _
  | v :: st => by
    have h1 := ip_catS ad st
    have h2 := ip_cat2 ad v
    simp only [List.map_cons, List.sum_cons, List.length_cons]
    omega
theorem ip_of {l : Launch} {y : MethodName} {ws ws' : List Cond} {rm : Room} {I : ip_S → Prop} {pre : List ip_V → ip_S → Prop} {post : List ip_V → ip_S → List ip_V → ip_S → Prop} {cc : ByteArray} {maxL : Nat} {ret : Option FieldType} (hy : plainName y.cls = true) (hw : ws = Cond.code y cc maxL ret :: ws') (cnt : Nat → Nat × Nat) (h0 : cnt 0 = (0, 0)) (hpre : ∀ as S, pre as S → as.length ≤ maxL ∧ ∀ v ∈ as, ∀ x, v ≠ .inr (.inr x))
    (body : ∀ (p : Program) (e : Env) (s : State) (m : MethodId) (args : Array Value) (below : List Frame) (meth : Method) (c : Code) (D : va_G) (cA : Nat → ClassId) (A : Nat → Prop) (ad0 : Nat → Nat) (as : List ip_V) (S : ip_S), pre as S → I S → p.tables.exec = Jvm.exec → c.code = cc → c.maxLocals = maxL → s.vm.findClass y.cls = some m.cls → (∀ w ∈ ws, w.before args s = true) → meth.sig.returnType = ret → meth.locks = false → meth.name = y.name → (∀ q, s.heap.size ≤ q → A q) → ip_Nx s →
      ip_K p l e rm s m args below meth c D cA A (MQ below (ip_Q I D cA ad0 S A (post as S)) args s rm.cells rm.slots A) maxL cnt I ad0 S 0 (as.map some ++ List.replicate (maxL - as.length) none) [] S) : ip_CT l y ws rm I pre post := by
  intro D cA ad L sz as S hp
  refine Met.ofW (cc := cc) (maxL := maxL) (ret := ret) hy hw ?_
  intro p e s m args below meth c s₁ B hml hv
  obtain ⟨rfl, hsz, hI, h1, h2, h3, hK, hP, hD0, hNx⟩ := hv
  subst hsz
  obtain ⟨hle, hcat⟩ := hpre as S hp
  have hc1 : ∀ v ∈ as.map (ip_cv ad), v.category = 1 := by
    intro v hv
    obtain ⟨w, hw1, rfl⟩ := List.mem_map.mp hv
    exact ip_cat1 (hcat w hw1)
  have hD := hD0.self (sz := s.heap.size)
  have hA : ∀ q : Nat, s.heap.size ≤ q → va_A (ip_wl cA ad L S) s.heap.size q := fun q h => Or.inr h
  have K := body p e s m _ below meth c D cA (va_A (ip_wl cA ad L S) s.heap.size) ad as S hp hI B.exec B.bytes hml (findClass_of_methodNamed B.named) (atoms_spec (ws := ws) B.pre) B.returns B.notSynchronized (name_of_methodNamed B.named B.method).1 hA hNx
  have hl := lv_entry (as.map (ip_cv ad)) (n := maxL) (by rw [ip_lg_len _ hc1, List.length_map]; exact hle)
  rw [lg_entry_eq]
  have K2 := K ad L s.heap [] _ hI ⟨by simp; omega, _, hl, fun i v hi => ?_⟩ (fun v hv => by cases hv) (fun v hv => ?_) (fun q hq => ⟨hq, rfl⟩) ⟨h1, h2, hK, hP, hD, va_S.rf⟩
  · rw [h0] at K2
    exact K2
  · have hi2 : as[i]? = some v := by
      by_cases hlt : i < as.length
      · rw [List.getElem?_append_left (by simpa using hlt), List.getElem?_map] at hi
        cases hq : as[i]? with
        | none => rw [hq] at hi; cases hi
        | some w => rw [hq] at hi; cases hi; rfl
      · rw [List.getElem?_append_right (by simpa using hlt), List.getElem?_replicate] at hi
        split at hi
        · cases hi
        · cases hi
    have h4 := ip_lv_args (as.map (ip_cv ad)) 0 i (ip_cv ad v) hc1 (by rw [List.getElem?_map, hi2]; rfl)
    rw [Nat.zero_add] at h4
    exact ⟨h4, ip_cat1 (hcat v (List.mem_of_getElem? hi2))⟩
  · rcases List.mem_append.mp hv with h | h
    · obtain ⟨w, hw1, hw2⟩ := List.mem_map.mp h
      cases hw2
      exact h3 v hw1
    · cases List.eq_of_mem_replicate h
section IPC
variable {p : Program} {l : Launch} {e : Env} {R : Room} {s : State} {m : MethodId} {args : Array Value} {below : List Frame} {meth : Method} {c : Code} {D : va_G} {cA : Nat → ClassId} {A : Nat → Prop} {Q : State → Prop} {nL : Nat} {cnt : Nat → Nat × Nat} {I : ip_S → Prop} {ad0 : Nat → Nat} {S0 : ip_S}
variable {cc : ByteArray} {pc : Nat}
/-! returns -/
def ip_t_iret (po : List ip_V → ip_S → Prop) : ip_T := fun _ _ st S => match st with
  | [.inl v] => po [.inl v] S
  | _ => False
def ip_t_zret (po : List ip_V → ip_S → Prop) : ip_T := fun _ _ st S => match st with
  | [.inl v] => (v = 0 ∨ v = 1) ∧ po [.inl v] S
  | _ => False
def ip_t_lret (po : List ip_V → ip_S → Prop) : ip_T := fun _ _ st S => match st with
  | [.inr (.inr v)] => po [.inr (.inr v)] S
  | _ => False
def ip_t_aret (po : List ip_V → ip_S → Prop) : ip_T := fun _ _ st S => match st with
  | [.inr (.inl v)] => po [.inr (.inl v)] S
  | _ => False
def ip_t_vret (po : List ip_V → ip_S → Prop) : ip_T := fun _ _ st S => match st with
  | [] => po [] S
  | _ => False
theorem ip_fin {ad : Nat → Nat} {L : List Nat} {S : ip_S} {H : Heap} {locs : List Loc} {po : List ip_V → ip_S → Prop} {r : List ip_V} {aa : Array Value} (hI : I S) (hex : ∀ q, ip_ax S0 q → ip_ax S q ∧ ad q = ad0 q) (hW : ip_W D cA A ad L S s H locs) (hr : r.length ≤ 1) (hok : ∀ v ∈ r, ip_ok S v) (h : po r S) : ∀ t : State, t.heap = H → s.WarmedH t.vm → ip_Q I D cA ad0 S0 A po aa s (.returned ((r.map (ip_cv ad)).head?)) t :=
  fun t ht hw => ⟨⟨r, S, ad, L, rfl, hr, h, hI, hex, hok, hW.1, hW.2.1, va_K.moved hw.alike hW.2.2.1, by rw [ht]; exact hW.2.2.2.1, hW.2.2.2.2.1⟩, hW.2.2.2.2.2.F ht⟩
theorem ip_s_iret (hx : p.tables.exec = Jvm.exec) (hb : c.code = cc) (hr : meth.sig.returnType = some .int) (hlocks : meth.locks = false) {mc ms : Nat} {po : List ip_V → ip_S → Prop} (h1 : (cnt pc).1 ≤ mc) (h2 : (cnt pc).2 ≤ ms) (hd : decode cc pc = .ok (.ireturn, 1)) : ip_snd p l e R s m args below meth c D cA A (MQ below (ip_Q I D cA ad0 S0 A po) args s mc ms A) nL cnt I ad0 S0 pc (ip_t_iret po) := by
  intro N hN loc st S h ad L H locs ls hI hl hst hlo hex hW
  unfold ip_t_iret at h
  split at h
  · refine W.widen h1 h2 ?_
    exact W.iret hx hb hr (ip_fin (r := [.inl _]) hI hex hW (by simp) hst h) hW.2.2.2.2.2.2.2 hd hlocks
  · exact h.elim
theorem ip_s_zret (hx : p.tables.exec = Jvm.exec) (hb : c.code = cc) (hr : meth.sig.returnType = some .boolean) (hlocks : meth.locks = false) {mc ms : Nat} {po : List ip_V → ip_S → Prop} (h1 : (cnt pc).1 ≤ mc) (h2 : (cnt pc).2 ≤ ms) (hd : decode cc pc = .ok (.ireturn, 1)) : ip_snd p l e R s m args below meth c D cA A (MQ below (ip_Q I D cA ad0 S0 A po) args s mc ms A) nL cnt I ad0 S0 pc (ip_t_zret po) := by
  intro N hN loc st S h ad L H locs ls hI hl hst hlo hex hW
  unfold ip_t_zret at h
  split at h
  · rename_i v
    refine W.widen h1 h2 ?_
    have hn : narrow .boolean (.int v) = .int v := by rcases h.1 with rfl | rfl <;> rfl
    exact W.zret hx hb hr hn (ip_fin (r := [.inl v]) hI hex hW (by simp) hst h.2) hW.2.2.2.2.2.2.2 hd hlocks
  · exact h.elim
theorem ip_s_lret (hx : p.tables.exec = Jvm.exec) (hb : c.code = cc) (hr : meth.sig.returnType = some .long) (hlocks : meth.locks = false) {mc ms : Nat} {po : List ip_V → ip_S → Prop} (h1 : (cnt pc).1 ≤ mc) (h2 : (cnt pc).2 ≤ ms) (hd : decode cc pc = .ok (.lreturn, 1)) : ip_snd p l e R s m args below meth c D cA A (MQ below (ip_Q I D cA ad0 S0 A po) args s mc ms A) nL cnt I ad0 S0 pc (ip_t_lret po) := by
  intro N hN loc st S h ad L H locs ls hI hl hst hlo hex hW
  unfold ip_t_lret at h
  split at h
  · refine W.widen h1 h2 ?_
    exact W.lret hx hb hr (ip_fin (r := [.inr (.inr _)]) hI hex hW (by simp) hst h) hW.2.2.2.2.2.2.2 hd hlocks
  · exact h.elim
theorem ip_s_aret (hx : p.tables.exec = Jvm.exec) (hb : c.code = cc) {rt : FieldType} (hr : meth.sig.returnType = some rt) (hrt : (∃ n, rt = .object n) ∨ ∃ t, rt = .array t) (hlocks : meth.locks = false) {mc ms : Nat} {po : List ip_V → ip_S → Prop} (h1 : (cnt pc).1 ≤ mc) (h2 : (cnt pc).2 ≤ ms) (hd : decode cc pc = .ok (.areturn, 1)) : ip_snd p l e R s m args below meth c D cA A (MQ below (ip_Q I D cA ad0 S0 A po) args s mc ms A) nL cnt I ad0 S0 pc (ip_t_aret po) := by
  intro N hN loc st S h ad L H locs ls hI hl hst hlo hex hW
  unfold ip_t_aret at h
  split at h
  · rename_i v
    refine W.widen h1 h2 ?_
    exact W.aret hx hb hr hrt (v := va_rf (v.map ad)) (by cases v with | none => exact Or.inl rfl | some a => exact Or.inr ⟨_, rfl⟩) (ip_fin (r := [.inr (.inl v)]) hI hex hW (by simp) hst h) hW.2.2.2.2.2.2.2 hd hlocks
  · exact h.elim
theorem ip_s_vret (hx : p.tables.exec = Jvm.exec) (hb : c.code = cc) (hr : meth.sig.returnType = none) (hlocks : meth.locks = false) {mc ms : Nat} {po : List ip_V → ip_S → Prop} (h1 : (cnt pc).1 ≤ mc) (h2 : (cnt pc).2 ≤ ms) (hd : decode cc pc = .ok (.return_, 1)) : ip_snd p l e R s m args below meth c D cA A (MQ below (ip_Q I D cA ad0 S0 A po) args s mc ms A) nL cnt I ad0 S0 pc (ip_t_vret po) := by
  intro N hN loc st S h ad L H locs ls hI hl hst hlo hex hW
  unfold ip_t_vret at h
  split at h
  · refine W.widen h1 h2 ?_
    exact W.vret hx hb hr (ip_fin (r := []) hI hex hW (by simp) hst h) hW.2.2.2.2.2.2.2 hd hlocks
  · exact h.elim
/-! calls -/
def ip_t_call (na : Nat) (pre : List ip_V → ip_S → Prop) (post : List ip_V → ip_S → List ip_V → ip_S → Prop) (n : Nat) : ip_T := fun N loc st S =>
  bif Nat.ble (st.drop na).length 4 then (pre (st.take na).reverse S ∧ ∀ r S', post (st.take na).reverse S r S' → N n loc (r ++ st.drop na) S') else False
theorem ip_blind {ad : Nat → Nat} {L : List Nat} {sz : Nat} {as : List ip_V} {S : ip_S} : FrameBlind (va_Pc (as.map (ip_cv ad)) (fun U => U.heap.size = sz ∧ ip_pr I D cA ad L S as U)) := by
  intro a U g mk q
  obtain ⟨q0, q1, qI, h1, h2, h3, qK, qP, qD, qN⟩ := q
  exact ⟨q0, q1, qI, h1, h2, h3, va_K.moved (u := U) (U := U.calling g mk a) (Vm.Alike.refl U.vm) qK, qP, qD, qN.same rfl⟩
theorem ip_ready {ad : Nat → Nat} {L : List Nat} {as : List ip_V} {S : ip_S} {H : Heap} {locs : List Loc} (hNx : ip_Nx s) (hI : I S) (hok : ∀ v ∈ as, ip_ok S v) (hW : ip_W D cA A ad L S s H locs) : ∀ U : State, U.heap = H → s.WarmedH U.vm → va_Pc (as.map (ip_cv ad)) (fun U => U.heap.size = H.size ∧ ip_pr I D cA ad L S as U) (as.map (ip_cv ad)).toArray U :=
  fun U hU hw => ⟨rfl, by rw [hU], hI, hW.1, hW.2.1, hok, va_K.moved hw.alike hW.2.2.1, by rw [hU]; exact hW.2.2.2.1, hW.2.2.2.2.1.weaken (fun _ _ _ _ => trivial), hNx.warm hw⟩
theorem ip_after {ad : Nat → Nat} {L : List Nat} {S : ip_S} {H : Heap} {locs : List Loc} {ls : Array Slot} {loc : List (Option ip_V)} {rest : List ip_V} {st0 : List Value} {mc ms : Nat} {aa : Array Value} {po : List ip_V → ip_S → Prop}
    (hr : va_Run p l e R s m args below meth c H locs (cnt pc).1 (cnt pc).2 mc ms (F0 m pc ls st0) (rest.map (ip_cv ad)) (ip_Q I D cA ad S (va_A (ip_wl cA ad L S) H.size) po aa) (va_A (ip_wl cA ad L S) H.size)) (hA : ∀ q, s.heap.size ≤ q → A q) (hl : ip_LH ad ls nL loc) (hst : ∀ v ∈ rest, ip_ok S v) (hlo : ∀ v, some v ∈ loc → ip_ok S v) (hex : ∀ q, ip_ax S0 q → ip_ax S q ∧ ad q = ad0 q) (hW : ip_W D cA A ad L S s H locs) (hc : cnt (pc + 3) = ((cnt pc).1 + mc, (cnt pc).2 + ms)) {N : ip_N} (hN : ∀ pc loc st S, N pc loc st S → ip_K p l e R s m args below meth c D cA A Q nL cnt I ad0 S0 pc loc st S) (k : ∀ r S', po r S' → N (pc + 3) loc (r ++ rest) S') : W p l e R s m args below meth c H locs (cnt pc).1 (cnt pc).2 Q (F0 m pc ls st0) := by
  intro T hT X
  obtain ⟨v, st₀, t, T', Ll, g0, X', hL, e1, e2, ⟨⟨r, S', ad', L', hv, hr1, hpo, hI', hex', hok', hL', hcl', hK', hP', hD'⟩, hz, hk⟩, st⟩ := hr T hT X
  have hF : ∀ q, va_A (ip_wl cA ad L S) H.size q → A q := by
    intro q hq
    rcases hq with ⟨k, en, hq⟩ | hq
    · exact hW.2.2.2.2.1.2 k (q, en) hq
    · exact hA q (Nat.le_trans hW.2.2.2.2.2.1 hq)
  rw [g0] at hz hk
  have hv2 : v.toList = r.map (ip_cv ad') := by
    cases hv
    match r, hr1 with
    | [], _ => rfl
    | [w], _ => rfl
    | _ :: _ :: _, h => simp at h
  have he : ∀ q, ip_ax S q → ad' q = ad q := fun q hq => (hex' q hq).2
  have hok : ∀ v, ip_ok S v → ip_ok S' v := fun v hv q hq => (hex' q (hv q hq)).1
  have hS' : va_S A s.heap T'.heap (locs ++ Ll) := by
    have hS := hW.2.2.2.2.2
    refine ⟨Nat.le_trans hS.1 (by rw [e1]; exact hz), fun q h1 h2 => ?_, fun q hq => ?_⟩
    · rw [e1, hk q (Nat.lt_of_lt_of_le h1 hS.1) (fun z => h2 (hF q z))]
      exact hS.2.1 q h1 h2
    · rcases List.mem_append.mp hq with h | h
      · exact hS.2.2 q h
      · exact hF _ (hL q h)
  have kk := hN _ _ _ _ (k r S' hpo) ad' L' T'.heap (locs ++ Ll) ls hI' (hl.ext he hlo) (fun v hv => (List.mem_append.mp hv).elim (hok' v) (fun h => hok v (hst v h))) (fun v hv => hok v (hlo v hv)) (fun q hq => ⟨(hex' q (hex q hq).1).1, (he q (hex q hq).1).trans (hex q hq).2⟩) ⟨hL', hcl', hW.2.2.1, by rw [e1]; exact hP', hD'.weaken (fun _ q _ h => hF q.1 h), hS'⟩
  rw [hc] at kk
  rw [List.map_append, ip_st_ext he hst, ← hv2] at kk
  obtain ⟨t2, a1, b1⟩ := kk T' rfl X'
  exact ⟨t2, st t2 a1, b1⟩
theorem ip_split (st : List ip_V) (na : Nat) (ad : Nat → Nat) : st.map (ip_cv ad) = (((st.take na).reverse).map (ip_cv ad)).reverse ++ (st.drop na).map (ip_cv ad) := by
  rw [List.map_reverse, List.reverse_reverse, ← List.map_append, List.take_append_drop]
theorem ip_mem_take {S : ip_S} {st : List ip_V} {na : Nat} (h : ∀ v ∈ st, ip_ok S v) : (∀ v ∈ (st.take na).reverse, ip_ok S v) ∧ ∀ v ∈ st.drop na, ip_ok S v :=
  ⟨fun v hv => h v (List.mem_of_mem_take (List.mem_reverse.mp hv)), fun v hv => h v (List.mem_of_mem_drop hv)⟩
variable {y : MethodName} {bytes : ByteArray} {maxL n index : Nat} {ret : Option FieldType} {ws : List Cond} {rm : Room} {Ts : List Cond} {own Cn host : String} {pre : List ip_V → ip_S → Prop} {post : List ip_V → ip_S → List ip_V → ip_S → Prop}
theorem ip_s_callV (hNx : ip_Nx s) (S9 : CallFix p m c cc nL s args Ts own) (hM : ip_CT l y ws rm I pre post) (cw : CallW R s args own Cn index y bytes maxL ret ws rm rm.cells rm.slots n) {ci : Nat} {rr : vw_C} (hcl : vwCl[ci]? = some rr) (hcn : rr.1 = Cn) (hci : ci < 6) (hpre : ∀ as S, I S → pre as S → ∃ (b : Nat) (as' : List ip_V), as = .inr (.inl (some b)) :: as' ∧ as'.length = n ∧ (S.2.2.2 b).1 = ci) (hA : ∀ q, s.heap.size ≤ q → A q) (hd : decode cc pc = .ok (.invokevirtual index, 3)) (hf : (cnt pc).1 + rm.cells ≤ R.cells ∧ (cnt pc).2 + rm.slots ≤ R.slots) (hc : cnt (pc + 3) = ((cnt pc).1 + rm.cells, (cnt pc).2 + rm.slots)) : ip_snd p l e R s m args below meth c D cA A Q nL cnt I ad0 S0 pc (ip_t_call (n + 1) pre post (pc + 3)) := by
  intro N hN loc st S h ad L H locs ls hI hl hst hlo hex hW
  unfold ip_t_call at h
  cases hb8 : Nat.ble (st.drop (n + 1)).length 4 with
  | false => rw [hb8] at h; exact h.elim
  | true =>
    rw [hb8] at h
    have hlen := Nat.le_of_ble_eq_true hb8
    obtain ⟨hp, k⟩ := h
    obtain ⟨b, as', eas, hn, hkb⟩ := hpre _ S hI hp
    obtain ⟨hok1, hok2⟩ := ip_mem_take (na := n + 1) hst
    have hst9 := ip_split st (n + 1) ad
    have hM9 := hM D cA ad L H.size _ S hp
    have hrd := ip_ready hNx hI hok1 hW
    obtain ⟨k0, g1, g2⟩ := ip_Wat hW hkb hci
    rw [eas] at hst9 hM9 hrd
    have hrecv := va_recv (q := rr) hW.2.2.1 hW.2.2.2.1 hcl g2
    rw [hcn] at hrecv
    have hrun := va_runV (cells := (cnt pc).1) (slots := (cnt pc).2) (locs := locs) (below := below) (meth := meth) (e := e) (g := F0 m pc ls (st.map (ip_cv ad))) (As := as'.map (ip_cv ad)) (b := ad b) (rest := (st.drop (n + 1)).map (ip_cv ad)) S9 hM9 cw ⟨ip_blind, hrecv, hrd⟩ rfl (by rw [List.length_map]; exact hn) (by show ls.size = nL; obtain ⟨-, lv, q1, -⟩ := hl; exact q1.1) (by
      show st.map (ip_cv ad) = _
      rw [hst9, List.map_cons, List.reverse_cons, List.append_assoc]
      rfl) (lv_room (by have := ip_catS ad (st.drop (n + 1)); omega)) hd hf
    refine ip_after hrun hA hl hok2 hlo hex hW hc hN ?_
    rw [← eas]
    exact k
theorem ip_s_callVN (hNx : ip_Nx s) (S9 : CallFix p m c cc nL s args Ts own) (hM : ip_CT l y ws rm I pre post) (cw : va_CN R s args own index y host bytes maxL ret ws rm rm.cells rm.slots n ∧ (Cond.instanceMethod y).before args s = true ∧ (Cond.selects Cn y y).before args s = true) {ci : Nat} {rr : vw_C} (hcl : vwCl[ci]? = some rr) (hcn : rr.1 = Cn) (hci : ci < 6) (hpre : ∀ as S, I S → pre as S → ∃ (b : Nat) (as' : List ip_V), as = .inr (.inl (some b)) :: as' ∧ as'.length = n ∧ (S.2.2.2 b).1 = ci) (hA : ∀ q, s.heap.size ≤ q → A q) (hd : decode cc pc = .ok (.invokevirtual index, 3)) (hf : (cnt pc).1 + rm.cells ≤ R.cells ∧ (cnt pc).2 + rm.slots ≤ R.slots) (hc : cnt (pc + 3) = ((cnt pc).1 + rm.cells, (cnt pc).2 + rm.slots)) : ip_snd p l e R s m args below meth c D cA A Q nL cnt I ad0 S0 pc (ip_t_call (n + 1) pre post (pc + 3)) := by
  intro N hN loc st S h ad L H locs ls hI hl hst hlo hex hW
  unfold ip_t_call at h
  cases hb8 : Nat.ble (st.drop (n + 1)).length 4 with
  | false => rw [hb8] at h; exact h.elim
  | true =>
    rw [hb8] at h
    have hlen := Nat.le_of_ble_eq_true hb8
    obtain ⟨hp, k⟩ := h
    obtain ⟨b, as', eas, hn, hkb⟩ := hpre _ S hI hp
    obtain ⟨hok1, hok2⟩ := ip_mem_take (na := n + 1) hst
    have hst9 := ip_split st (n + 1) ad
    have hM9 := hM D cA ad L H.size _ S hp
    have hrd := ip_ready hNx hI hok1 hW
    obtain ⟨k0, g1, g2⟩ := ip_Wat hW hkb hci
    rw [eas] at hst9 hM9 hrd
    have hrecv := va_recv (q := rr) hW.2.2.1 hW.2.2.2.1 hcl g2
    rw [hcn] at hrecv
    have hrun := va_runVN (cells := (cnt pc).1) (slots := (cnt pc).2) (locs := locs) (below := below) (meth := meth) (e := e) (g := F0 m pc ls (st.map (ip_cv ad))) (As := as'.map (ip_cv ad)) (b := ad b) (rest := (st.drop (n + 1)).map (ip_cv ad)) S9 hM9 cw ⟨ip_blind, hrecv, hrd⟩ rfl (by rw [List.length_map]; exact hn) (by show ls.size = nL; obtain ⟨-, lv, q1, -⟩ := hl; exact q1.1) (by
      show st.map (ip_cv ad) = _
      rw [hst9, List.map_cons, List.reverse_cons, List.append_assoc]
      rfl) (lv_room (by have := ip_catS ad (st.drop (n + 1)); omega)) hd hf
    refine ip_after hrun hA hl hok2 hlo hex hW hc hN ?_
    rw [← eas]
    exact k
theorem ip_s_callS (hNx : ip_Nx s) (S9 : CallFix p m c cc nL s args Ts own) (hM : ip_CT l y ws rm I pre post) (cw : CallB R s args own index y bytes maxL ret ws rm rm.cells rm.slots n ∧ (Cond.static y).before args s = true) (hpre : ∀ as S, I S → pre as S → as.length = n) (hA : ∀ q, s.heap.size ≤ q → A q) (hd : decode cc pc = .ok (.invokestatic index, 3)) (hf : (cnt pc).1 + rm.cells ≤ R.cells ∧ (cnt pc).2 + rm.slots ≤ R.slots) (hc : cnt (pc + 3) = ((cnt pc).1 + rm.cells, (cnt pc).2 + rm.slots)) : ip_snd p l e R s m args below meth c D cA A Q nL cnt I ad0 S0 pc (ip_t_call n pre post (pc + 3)) := by
  intro N hN loc st S h ad L H locs ls hI hl hst hlo hex hW
  unfold ip_t_call at h
  cases hb8 : Nat.ble (st.drop n).length 4 with
  | false => rw [hb8] at h; exact h.elim
  | true =>
    rw [hb8] at h
    have hlen := Nat.le_of_ble_eq_true hb8
    obtain ⟨hp, k⟩ := h
    have hn := hpre _ S hI hp
    obtain ⟨hok1, hok2⟩ := ip_mem_take (na := n) hst
    have hst9 := ip_split st n ad
    have hM9 := hM D cA ad L H.size _ S hp
    have hrd := ip_ready hNx hI hok1 hW
    have hrun := va_runS (cells := (cnt pc).1) (slots := (cnt pc).2) (locs := locs) (below := below) (meth := meth) (e := e) (g := F0 m pc ls (st.map (ip_cv ad))) (As := ((st.take n).reverse).map (ip_cv ad)) (rest := (st.drop n).map (ip_cv ad)) S9 hM9 cw ⟨ip_blind, hrd⟩ rfl (by rw [List.length_map]; exact hn) (by show ls.size = nL; obtain ⟨-, lv, q1, -⟩ := hl; exact q1.1) hst9 (lv_room (by have := ip_catS ad (st.drop n); omega)) hd hf
    exact ip_after hrun hA hl hok2 hlo hex hW hc hN k
theorem ip_s_callSN (hNx : ip_Nx s) (S9 : CallFix p m c cc nL s args Ts own) (hM : ip_CT l y ws rm I pre post) (cw : va_CN R s args own index y host bytes maxL ret ws rm rm.cells rm.slots n ∧ (Cond.static y).before args s = true ∧ True) (hpre : ∀ as S, I S → pre as S → as.length = n) (hA : ∀ q, s.heap.size ≤ q → A q) (hd : decode cc pc = .ok (.invokestatic index, 3)) (hf : (cnt pc).1 + rm.cells ≤ R.cells ∧ (cnt pc).2 + rm.slots ≤ R.slots) (hc : cnt (pc + 3) = ((cnt pc).1 + rm.cells, (cnt pc).2 + rm.slots)) : ip_snd p l e R s m args below meth c D cA A Q nL cnt I ad0 S0 pc (ip_t_call n pre post (pc + 3)) := by
  intro N hN loc st S h ad L H locs ls hI hl hst hlo hex hW
  unfold ip_t_call at h
  cases hb8 : Nat.ble (st.drop n).length 4 with
  | false => rw [hb8] at h; exact h.elim
  | true =>
    rw [hb8] at h
    have hlen := Nat.le_of_ble_eq_true hb8
    obtain ⟨hp, k⟩ := h
    have hn := hpre _ S hI hp
    obtain ⟨hok1, hok2⟩ := ip_mem_take (na := n) hst
    have hst9 := ip_split st n ad
    have hM9 := hM D cA ad L H.size _ S hp
    have hrd := ip_ready hNx hI hok1 hW
    have hrun := va_runSN (cells := (cnt pc).1) (slots := (cnt pc).2) (locs := locs) (below := below) (meth := meth) (e := e) (g := F0 m pc ls (st.map (ip_cv ad))) (As := ((st.take n).reverse).map (ip_cv ad)) (rest := (st.drop n).map (ip_cv ad)) S9 hM9 cw ⟨ip_blind, hrd⟩ rfl (by rw [List.length_map]; exact hn) (by show ls.size = nL; obtain ⟨-, lv, q1, -⟩ := hl; exact q1.1) hst9 (lv_room (by have := ip_catS ad (st.drop n); omega)) hd hf
    exact ip_after hrun hA hl hok2 hlo hex hW hc hN k
theorem ip_s_callI (hNx : ip_Nx s) (S9 : CallFix p m c cc nL s args Ts own) (hM : ip_CT l y ws rm I pre post) (cw : CallB R s args own index y bytes maxL none ws rm rm.cells rm.slots n ∧ y.name = "<init>" ∧ (Cond.instanceMethod y).before args s = true) (hpre : ∀ as S, I S → pre as S → ∃ (b : Nat) (as' : List ip_V), as = .inr (.inl (some b)) :: as' ∧ as'.length = n) (hA : ∀ q, s.heap.size ≤ q → A q) (hd : decode cc pc = .ok (.invokespecial index, 3)) (hf : (cnt pc).1 + rm.cells ≤ R.cells ∧ (cnt pc).2 + rm.slots ≤ R.slots) (hc : cnt (pc + 3) = ((cnt pc).1 + rm.cells, (cnt pc).2 + rm.slots)) : ip_snd p l e R s m args below meth c D cA A Q nL cnt I ad0 S0 pc (ip_t_call (n + 1) pre post (pc + 3)) := by
  intro N hN loc st S h ad L H locs ls hI hl hst hlo hex hW
  unfold ip_t_call at h
  cases hb8 : Nat.ble (st.drop (n + 1)).length 4 with
  | false => rw [hb8] at h; exact h.elim
  | true =>
    rw [hb8] at h
    have hlen := Nat.le_of_ble_eq_true hb8
    obtain ⟨hp, k⟩ := h
    obtain ⟨b, as', eas, hn⟩ := hpre _ S hI hp
    obtain ⟨hok1, hok2⟩ := ip_mem_take (na := n + 1) hst
    have hst9 := ip_split st (n + 1) ad
    have hM9 := hM D cA ad L H.size _ S hp
    have hrd := ip_ready hNx hI hok1 hW
    rw [eas] at hst9 hM9 hrd
    have hrun := va_runI (cells := (cnt pc).1) (slots := (cnt pc).2) (locs := locs) (below := below) (meth := meth) (e := e) (g := F0 m pc ls (st.map (ip_cv ad))) (As := as'.map (ip_cv ad)) (b := ad b) (rest := (st.drop (n + 1)).map (ip_cv ad)) S9 hM9 cw ⟨ip_blind, hrd⟩ rfl (by rw [List.length_map]; exact hn) (by show ls.size = nL; obtain ⟨-, lv, q1, -⟩ := hl; exact q1.1) (by
      show st.map (ip_cv ad) = _
      rw [hst9, List.map_cons, List.reverse_cons, List.append_assoc]
      rfl) (lv_room (by have := ip_catS ad (st.drop (n + 1)); omega)) hd hf
    refine ip_after hrun hA hl hok2 hlo hex hW hc hN ?_
    rw [← eas]
    exact k
theorem ip_s_callIN (hNx : ip_Nx s) (S9 : CallFix p m c cc nL s args Ts own) (hM : ip_CT l y ws rm I pre post) (cw : va_CN R s args own index y host bytes maxL none ws rm rm.cells rm.slots n ∧ y.name = "<init>" ∧ (Cond.instanceMethod y).before args s = true) (hpre : ∀ as S, I S → pre as S → ∃ (b : Nat) (as' : List ip_V), as = .inr (.inl (some b)) :: as' ∧ as'.length = n) (hA : ∀ q, s.heap.size ≤ q → A q) (hd : decode cc pc = .ok (.invokespecial index, 3)) (hf : (cnt pc).1 + rm.cells ≤ R.cells ∧ (cnt pc).2 + rm.slots ≤ R.slots) (hc : cnt (pc + 3) = ((cnt pc).1 + rm.cells, (cnt pc).2 + rm.slots)) : ip_snd p l e R s m args below meth c D cA A Q nL cnt I ad0 S0 pc (ip_t_call (n + 1) pre post (pc + 3)) := by
  intro N hN loc st S h ad L H locs ls hI hl hst hlo hex hW
  unfold ip_t_call at h
  cases hb8 : Nat.ble (st.drop (n + 1)).length 4 with
  | false => rw [hb8] at h; exact h.elim
  | true =>
    rw [hb8] at h
    have hlen := Nat.le_of_ble_eq_true hb8
    obtain ⟨hp, k⟩ := h
    obtain ⟨b, as', eas, hn⟩ := hpre _ S hI hp
    obtain ⟨hok1, hok2⟩ := ip_mem_take (na := n + 1) hst
    have hst9 := ip_split st (n + 1) ad
    have hM9 := hM D cA ad L H.size _ S hp
    have hrd := ip_ready hNx hI hok1 hW
    rw [eas] at hst9 hM9 hrd
    have hrun := va_runIN (cells := (cnt pc).1) (slots := (cnt pc).2) (locs := locs) (below := below) (meth := meth) (e := e) (g := F0 m pc ls (st.map (ip_cv ad))) (As := as'.map (ip_cv ad)) (b := ad b) (rest := (st.drop (n + 1)).map (ip_cv ad)) S9 hM9 cw ⟨ip_blind, hrd⟩ rfl (by rw [List.length_map]; exact hn) (by show ls.size = nL; obtain ⟨-, lv, q1, -⟩ := hl; exact q1.1) (by
      show st.map (ip_cv ad) = _
      rw [hst9, List.map_cons, List.reverse_cons, List.append_assoc]
      rfl) (lv_room (by have := ip_catS ad (st.drop (n + 1)); omega)) hd hf
    refine ip_after hrun hA hl hok2 hlo hex hW hc hN ?_
    rw [← eas]
    exact k
def ip_t_oi (n : Nat) : ip_T := fun N loc st S => match st with
  | .inr (.inl (some _)) :: r => bif Nat.ble r.length 4 then N n loc r S else False
  | _ => False
theorem ip_s_oi (hx : p.tables.exec = Jvm.exec) (hb : c.code = cc) (hml : c.maxLocals = nL) (hown : s.vm.findClass own = some m.cls) (hlink : (Cond.methodLink own index objectInit).before args s = true) (hinst : (Cond.instanceMethod objectInit).before args s = true) (hcode : (Cond.code objectInit ⟨#[0xb1]⟩ 1 none).before args s = true) (hR : 1 ≤ R.frames ∧ 20 ≤ R.locals) (hd : decode cc pc = .ok (.invokespecial index, 3)) (hc : cnt (pc + 3) = cnt pc) : ip_snd p l e R s m args below meth c D cA A Q nL cnt I ad0 S0 pc (ip_t_oi (pc + 3)) := by
  intro N hN loc st S h ad L H locs ls hI hl hst hlo hex hW
  unfold ip_t_oi at h
  split at h
  · rename_i q r
    cases hb8 : Nat.ble r.length 4 with
    | false => rw [hb8] at h; exact h.elim
    | true =>
      rw [hb8] at h
      have hlen := Nat.le_of_ble_eq_true hb8
      have kk := hN _ _ _ _ h ad L H locs ls hI hl (ip_tl hst) hlo hex hW
      rw [hc] at kk
      have hcs := ip_catS ad r
      have hrm : 2 * (F0 m pc ls ([] : List Value)).monitorRoom + ((r.map (ip_cv ad)).map fun v => v.category).sum ≤ 8 := lv_room (by omega)
      refine W.objInit hx hb hown hlink hinst hcode rfl (by obtain ⟨-, lv, q1, -⟩ := hl; exact q1.1.trans hml.symm) (a := ad q) (rest := r.map (ip_cv ad)) rfl hd hR.1 ?_ ?_
      · have : (F0 m pc ls (List.map (ip_cv ad) (Sum.inr (Sum.inl (some q)) :: r))).monitorRoom = (F0 m pc ls ([] : List Value)).monitorRoom := rfl
        omega
      · exact W.eq (g2 := F0 m (pc + 3) ls (r.map (ip_cv ad))) rfl kk
  · exact h.elim
def ip_t_max (n : Nat) : ip_T := fun N loc st S => match st with
  | .inl y :: .inl x :: r => bif Nat.ble r.length 4 then N n loc (.inl (if x < y then y else x) :: r) S else False
  | _ => False
theorem ip_s_max (hx : p.tables.exec = Jvm.exec) (hb : c.code = cc) (hml : c.maxLocals = nL) (hown : s.vm.findClass own = some m.cls) (hlink : (Cond.methodLink own index Lib.Math.max.name).before args s = true) (hstat : (Cond.static Lib.Math.max.name).before args s = true) (hini : (Cond.initialized "java/lang/Math").before args s = true) (hcode : (Cond.code Lib.Math.max.name Lib.Math.max.code 2 (some .int)).before args s = true) (hR : 1 ≤ R.frames ∧ 21 ≤ R.locals) (hf : (cnt pc).1 ≤ R.cells ∧ (cnt pc).2 ≤ R.slots) (hd : decode cc pc = .ok (.invokestatic index, 3)) (hc : cnt (pc + 3) = cnt pc) : ip_snd p l e R s m args below meth c D cA A Q nL cnt I ad0 S0 pc (ip_t_max (pc + 3)) := by
  intro N hN loc st S h ad L H locs ls hI hl hst hlo hex hW
  unfold ip_t_max at h
  split at h
  · rename_i y x r
    cases hb8 : Nat.ble r.length 4 with
    | false => rw [hb8] at h; exact h.elim
    | true =>
      rw [hb8] at h
      have hlen := Nat.le_of_ble_eq_true hb8
      have kk := hN _ _ _ _ h ad L H locs ls hI hl (ip_cs ip_ok_i (ip_tl (ip_tl hst))) hlo hex hW
      rw [hc] at kk
      have hcs := ip_catS ad r
      exact va_mmax hx hb (by obtain ⟨-, lv, q1, -⟩ := hl; exact hml.trans q1.1.symm) hown hlink hstat hini hcode hR.1 (by omega) hf.1 hf.2 hd kk
  · exact h.elim
def ip_t_min (n : Nat) : ip_T := fun N loc st S => match st with
  | .inl y :: .inl x :: r => bif Nat.ble r.length 4 then N n loc (.inl (if y < x then y else x) :: r) S else False
  | _ => False
theorem ip_s_min (hx : p.tables.exec = Jvm.exec) (hb : c.code = cc) (hml : c.maxLocals = nL) (hown : s.vm.findClass own = some m.cls) (hlink : (Cond.methodLink own index Lib.Math.min.name).before args s = true) (hstat : (Cond.static Lib.Math.min.name).before args s = true) (hini : (Cond.initialized "java/lang/Math").before args s = true) (hcode : (Cond.code Lib.Math.min.name Lib.Math.min.code 2 (some .int)).before args s = true) (hR : 1 ≤ R.frames ∧ 21 ≤ R.locals) (hf : (cnt pc).1 ≤ R.cells ∧ (cnt pc).2 ≤ R.slots) (hd : decode cc pc = .ok (.invokestatic index, 3)) (hc : cnt (pc + 3) = cnt pc) : ip_snd p l e R s m args below meth c D cA A Q nL cnt I ad0 S0 pc (ip_t_min (pc + 3)) := by
  intro N hN loc st S h ad L H locs ls hI hl hst hlo hex hW
  unfold ip_t_min at h
  split at h
  · rename_i y x r
    cases hb8 : Nat.ble r.length 4 with
    | false => rw [hb8] at h; exact h.elim
    | true =>
      rw [hb8] at h
      have hlen := Nat.le_of_ble_eq_true hb8
      have kk := hN _ _ _ _ h ad L H locs ls hI hl (ip_cs ip_ok_i (ip_tl (ip_tl hst))) hlo hex hW
      rw [hc] at kk
      have hcs := ip_catS ad r
      exact va_mmin hx hb (by obtain ⟨-, lv, q1, -⟩ := hl; exact hml.trans q1.1.symm) hown hlink hstat hini hcode hR.1 (by omega) hf.1 hf.2 hd kk
  · exact h.elim
end IPC
end
section
def ip_h_r {β : Type} (d : β) (P : Nat → β) : List ip_V → β
  | [.inr (.inl (some v0))] => P v0
  | _ => d
theorem ip_e_r {P : Nat → ip_S → Prop} {as : List ip_V} {S : ip_S} (h : ip_h_r (fun _ => False) P as S) : ∃ (v0 : Nat), as = [.inr (.inl (some v0))] ∧ P v0 S := by
  unfold ip_h_r at h
  split at h
  · exact ⟨_, rfl, h⟩
  · exact h.elim
def ip_h_ri {β : Type} (d : β) (P : Nat → Int32 → β) : List ip_V → β
  | [.inr (.inl (some v0)), .inl v1] => P v0 v1
  | _ => d
theorem ip_e_ri {P : Nat → Int32 → ip_S → Prop} {as : List ip_V} {S : ip_S} (h : ip_h_ri (fun _ => False) P as S) : ∃ (v0 : Nat) (v1 : Int32), as = [.inr (.inl (some v0)), .inl v1] ∧ P v0 v1 S := by
  unfold ip_h_ri at h
  split at h
  · exact ⟨_, _, rfl, h⟩
  · exact h.elim
def ip_h_rii {β : Type} (d : β) (P : Nat → Int32 → Int32 → β) : List ip_V → β
  | [.inr (.inl (some v0)), .inl v1, .inl v2] => P v0 v1 v2
  | _ => d
theorem ip_e_rii {P : Nat → Int32 → Int32 → ip_S → Prop} {as : List ip_V} {S : ip_S} (h : ip_h_rii (fun _ => False) P as S) : ∃ (v0 : Nat) (v1 : Int32) (v2 : Int32), as = [.inr (.inl (some v0)), .inl v1, .inl v2] ∧ P v0 v1 v2 S := by
  unfold ip_h_rii at h
  split at h
  · exact ⟨_, _, _, rfl, h⟩
  · exact h.elim
def ip_h_riii {β : Type} (d : β) (P : Nat → Int32 → Int32 → Int32 → β) : List ip_V → β
  | [.inr (.inl (some v0)), .inl v1, .inl v2, .inl v3] => P v0 v1 v2 v3
  | _ => d
theorem ip_e_riii {P : Nat → Int32 → Int32 → Int32 → ip_S → Prop} {as : List ip_V} {S : ip_S} (h : ip_h_riii (fun _ => False) P as S) : ∃ (v0 : Nat) (v1 : Int32) (v2 : Int32) (v3 : Int32), as = [.inr (.inl (some v0)), .inl v1, .inl v2, .inl v3] ∧ P v0 v1 v2 v3 S := by
  unfold ip_h_riii at h
  split at h
  · exact ⟨_, _, _, _, rfl, h⟩
  · exact h.elim
def ip_h_riiii {β : Type} (d : β) (P : Nat → Int32 → Int32 → Int32 → Int32 → β) : List ip_V → β
  | [.inr (.inl (some v0)), .inl v1, .inl v2, .inl v3, .inl v4] => P v0 v1 v2 v3 v4
  | _ => d
theorem ip_e_riiii {P : Nat → Int32 → Int32 → Int32 → Int32 → ip_S → Prop} {as : List ip_V} {S : ip_S} (h : ip_h_riiii (fun _ => False) P as S) : ∃ (v0 : Nat) (v1 : Int32) (v2 : Int32) (v3 : Int32) (v4 : Int32), as = [.inr (.inl (some v0)), .inl v1, .inl v2, .inl v3, .inl v4] ∧ P v0 v1 v2 v3 v4 S := by
  unfold ip_h_riiii at h
  split at h
  · exact ⟨_, _, _, _, _, rfl, h⟩
  · exact h.elim
def ip_h_riiiiiiii {β : Type} (d : β) (P : Nat → Int32 → Int32 → Int32 → Int32 → Int32 → Int32 → Int32 → Int32 → β) : List ip_V → β
  | [.inr (.inl (some v0)), .inl v1, .inl v2, .inl v3, .inl v4, .inl v5, .inl v6, .inl v7, .inl v8] => P v0 v1 v2 v3 v4 v5 v6 v7 v8
  | _ => d
theorem ip_e_riiiiiiii {P : Nat → Int32 → Int32 → Int32 → Int32 → Int32 → Int32 → Int32 → Int32 → ip_S → Prop} {as : List ip_V} {S : ip_S} (h : ip_h_riiiiiiii (fun _ => False) P as S) : ∃ (v0 : Nat) (v1 : Int32) (v2 : Int32) (v3 : Int32) (v4 : Int32) (v5 : Int32) (v6 : Int32) (v7 : Int32) (v8 : Int32), as = [.inr (.inl (some v0)), .inl v1, .inl v2, .inl v3, .inl v4, .inl v5, .inl v6, .inl v7, .inl v8] ∧ P v0 v1 v2 v3 v4 v5 v6 v7 v8 S := by
  unfold ip_h_riiiiiiii at h
  split at h
  · exact ⟨_, _, _, _, _, _, _, _, _, rfl, h⟩
  · exact h.elim
def ip_h_i {β : Type} (d : β) (P : Int32 → β) : List ip_V → β
  | [.inl v0] => P v0
  | _ => d
theorem ip_e_i {P : Int32 → ip_S → Prop} {as : List ip_V} {S : ip_S} (h : ip_h_i (fun _ => False) P as S) : ∃ (v0 : Int32), as = [.inl v0] ∧ P v0 S := by
  unfold ip_h_i at h
  split at h
  · exact ⟨_, rfl, h⟩
  · exact h.elim
def ip_h_iii {β : Type} (d : β) (P : Int32 → Int32 → Int32 → β) : List ip_V → β
  | [.inl v0, .inl v1, .inl v2] => P v0 v1 v2
  | _ => d
theorem ip_e_iii {P : Int32 → Int32 → Int32 → ip_S → Prop} {as : List ip_V} {S : ip_S} (h : ip_h_iii (fun _ => False) P as S) : ∃ (v0 : Int32) (v1 : Int32) (v2 : Int32), as = [.inl v0, .inl v1, .inl v2] ∧ P v0 v1 v2 S := by
  unfold ip_h_iii at h
  split at h
  · exact ⟨_, _, _, rfl, h⟩
  · exact h.elim
def ip_h_iiii {β : Type} (d : β) (P : Int32 → Int32 → Int32 → Int32 → β) : List ip_V → β
  | [.inl v0, .inl v1, .inl v2, .inl v3] => P v0 v1 v2 v3
  | _ => d
theorem ip_e_iiii {P : Int32 → Int32 → Int32 → Int32 → ip_S → Prop} {as : List ip_V} {S : ip_S} (h : ip_h_iiii (fun _ => False) P as S) : ∃ (v0 : Int32) (v1 : Int32) (v2 : Int32) (v3 : Int32), as = [.inl v0, .inl v1, .inl v2, .inl v3] ∧ P v0 v1 v2 v3 S := by
  unfold ip_h_iiii at h
  split at h
  · exact ⟨_, _, _, _, rfl, h⟩
  · exact h.elim
def ip_h_rri {β : Type} (d : β) (P : Nat → Nat → Int32 → β) : List ip_V → β
  | [.inr (.inl (some v0)), .inr (.inl (some v1)), .inl v2] => P v0 v1 v2
  | _ => d
theorem ip_e_rri {P : Nat → Nat → Int32 → ip_S → Prop} {as : List ip_V} {S : ip_S} (h : ip_h_rri (fun _ => False) P as S) : ∃ (v0 : Nat) (v1 : Nat) (v2 : Int32), as = [.inr (.inl (some v0)), .inr (.inl (some v1)), .inl v2] ∧ P v0 v1 v2 S := by
  unfold ip_h_rri at h
  split at h
  · exact ⟨_, _, _, rfl, h⟩
  · exact h.elim
def ip_h_rr {β : Type} (d : β) (P : Nat → Nat → β) : List ip_V → β
  | [.inr (.inl (some v0)), .inr (.inl (some v1))] => P v0 v1
  | _ => d
theorem ip_e_rr {P : Nat → Nat → ip_S → Prop} {as : List ip_V} {S : ip_S} (h : ip_h_rr (fun _ => False) P as S) : ∃ (v0 : Nat) (v1 : Nat), as = [.inr (.inl (some v0)), .inr (.inl (some v1))] ∧ P v0 v1 S := by
  unfold ip_h_rr at h
  split at h
  · exact ⟨_, _, rfl, h⟩
  · exact h.elim
def ip_h_riiiir {β : Type} (d : β) (P : Nat → Int32 → Int32 → Int32 → Int32 → Nat → β) : List ip_V → β
  | [.inr (.inl (some v0)), .inl v1, .inl v2, .inl v3, .inl v4, .inr (.inl (some v5))] => P v0 v1 v2 v3 v4 v5
  | _ => d
theorem ip_e_riiiir {P : Nat → Int32 → Int32 → Int32 → Int32 → Nat → ip_S → Prop} {as : List ip_V} {S : ip_S} (h : ip_h_riiiir (fun _ => False) P as S) : ∃ (v0 : Nat) (v1 : Int32) (v2 : Int32) (v3 : Int32) (v4 : Int32) (v5 : Nat), as = [.inr (.inl (some v0)), .inl v1, .inl v2, .inl v3, .inl v4, .inr (.inl (some v5))] ∧ P v0 v1 v2 v3 v4 v5 S := by
  unfold ip_h_riiiir at h
  split at h
  · exact ⟨_, _, _, _, _, _, rfl, h⟩
  · exact h.elim
def ip_h_ririii {β : Type} (d : β) (P : Nat → Int32 → Nat → Int32 → Int32 → Int32 → β) : List ip_V → β
  | [.inr (.inl (some v0)), .inl v1, .inr (.inl (some v2)), .inl v3, .inl v4, .inl v5] => P v0 v1 v2 v3 v4 v5
  | _ => d
theorem ip_e_ririii {P : Nat → Int32 → Nat → Int32 → Int32 → Int32 → ip_S → Prop} {as : List ip_V} {S : ip_S} (h : ip_h_ririii (fun _ => False) P as S) : ∃ (v0 : Nat) (v1 : Int32) (v2 : Nat) (v3 : Int32) (v4 : Int32) (v5 : Int32), as = [.inr (.inl (some v0)), .inl v1, .inr (.inl (some v2)), .inl v3, .inl v4, .inl v5] ∧ P v0 v1 v2 v3 v4 v5 S := by
  unfold ip_h_ririii at h
  split at h
  · exact ⟨_, _, _, _, _, _, rfl, h⟩
  · exact h.elim
theorem ip_df0 : ∀ j, j < 5 → defaultValue (tyX0 j) = vp_V ((ip_ty 0).map (fun t => match t with | 0 => .int 0 | 1 => .null | _ => .long 0)) j := by
  intro j hj
  rcases (show j = 0 ∨ j = 1 ∨ j = 2 ∨ j = 3 ∨ j = 4 by omega) with rfl | rfl | rfl | rfl | rfl <;> rfl
theorem ip_df1 : ∀ j, j < 11 → defaultValue (tyX1 j) = vp_V ((ip_ty 1).map (fun t => match t with | 0 => .int 0 | 1 => .null | _ => .long 0)) j := by
  intro j hj
  rcases (show j = 0 ∨ j = 1 ∨ j = 2 ∨ j = 3 ∨ j = 4 ∨ j = 5 ∨ j = 6 ∨ j = 7 ∨ j = 8 ∨ j = 9 ∨ j = 10 by omega) with rfl | rfl | rfl | rfl | rfl | rfl | rfl | rfl | rfl | rfl | rfl <;> rfl
theorem ip_df2 : ∀ j, j < 6 → defaultValue (tyX2 j) = vp_V ((ip_ty 2).map (fun t => match t with | 0 => .int 0 | 1 => .null | _ => .long 0)) j := by
  intro j hj
  rcases (show j = 0 ∨ j = 1 ∨ j = 2 ∨ j = 3 ∨ j = 4 ∨ j = 5 by omega) with rfl | rfl | rfl | rfl | rfl | rfl <;> rfl
theorem ip_df3 : ∀ j, j < 3 → defaultValue (tyX3 j) = vp_V ((ip_ty 3).map (fun t => match t with | 0 => .int 0 | 1 => .null | _ => .long 0)) j := by
  intro j hj
  rcases (show j = 0 ∨ j = 1 ∨ j = 2 by omega) with rfl | rfl | rfl <;> rfl
theorem ip_df4 : ∀ j, j < 14 → defaultValue (tyX4 j) = vp_V ((ip_ty 4).map (fun t => match t with | 0 => .int 0 | 1 => .null | _ => .long 0)) j := by
  intro j hj
  rcases (show j = 0 ∨ j = 1 ∨ j = 2 ∨ j = 3 ∨ j = 4 ∨ j = 5 ∨ j = 6 ∨ j = 7 ∨ j = 8 ∨ j = 9 ∨ j = 10 ∨ j = 11 ∨ j = 12 ∨ j = 13 by omega) with rfl | rfl | rfl | rfl | rfl | rfl | rfl | rfl | rfl | rfl | rfl | rfl | rfl | rfl <;> rfl
theorem ip_df5 : ∀ j, j < 32 → defaultValue (tyX5 j) = vp_V ((ip_ty 5).map (fun t => match t with | 0 => .int 0 | 1 => .null | _ => .long 0)) j := by
  intro j hj
  rcases (show j = 0 ∨ j = 1 ∨ j = 2 ∨ j = 3 ∨ j = 4 ∨ j = 5 ∨ j = 6 ∨ j = 7 ∨ j = 8 ∨ j = 9 ∨ j = 10 ∨ j = 11 ∨ j = 12 ∨ j = 13 ∨ j = 14 ∨ j = 15 ∨ j = 16 ∨ j = 17 ∨ j = 18 ∨ j = 19 ∨ j = 20 ∨ j = 21 ∨ j = 22 ∨ j = 23 ∨ j = 24 ∨ j = 25 ∨ j = 26 ∨ j = 27 ∨ j = 28 ∨ j = 29 ∨ j = 30 ∨ j = 31 by omega) with rfl | rfl | rfl | rfl | rfl | rfl | rfl | rfl | rfl | rfl | rfl | rfl | rfl | rfl | rfl | rfl | rfl | rfl | rfl | rfl | rfl | rfl | rfl | rfl | rfl | rfl | rfl | rfl | rfl | rfl | rfl | rfl <;> rfl
end
section
/-! small rows -/
theorem ip_01 {c : Prop} [Decidable c] : (if c then (1 : Int32) else 0) = 0 ∨ (if c then (1 : Int32) else 0) = 1 := by
  by_cases h : c
  · exact Or.inr (if_pos h)
  · exact Or.inl (if_neg h)
theorem ip_if0 {c : Prop} [Decidable c] (h : (if c then (1 : Int32) else 0) = 0) : ¬ c := by
  intro hc
  rw [if_pos hc] at h
  exact absurd h (by decide)
theorem ip_if1 {c : Prop} [Decidable c] (h : ¬ (if c then (1 : Int32) else 0) = 0) : c := by
  by_cases hc : c
  · exact hc
  · rw [if_neg hc] at h
    exact absurd rfl h
theorem ip_in {x : Int32} {n : Nat} {hi : Int32} (h : 0 ≤ x ∧ x ≤ hi) (hn : hi.toInt + 1 = n) : vp_in x n := by
  rw [vp_in_iff]
  have h1 := Int32.le_iff_toInt_le.mp h.1
  have h2 := Int32.le_iff_toInt_le.mp h.2
  have h3 : (0 : Int32).toInt = 0 := rfl
  omega
theorem ip_sI_same {S : ip_S} {p k : Nat} {v : Int32} : (ip_sI S p k v).1 p k = v := by simp [ip_sI]
theorem ip_sI_ne {S : ip_S} {p k q j : Nat} {v : Int32} (h : ¬ (q = p ∧ j = k)) : (ip_sI S p k v).1 q j = S.1 q j := by simp only [ip_sI, if_neg h]
theorem ip_sI_k {S : ip_S} {p k q j : Nat} {v : Int32} (h : j ≠ k) : (ip_sI S p k v).1 q j = S.1 q j := ip_sI_ne (fun z => h z.2)
theorem ip_sI_p {S : ip_S} {p k q j : Nat} {v : Int32} (h : q ≠ p) : (ip_sI S p k v).1 q j = S.1 q j := ip_sI_ne (fun z => h z.1)

def preX4_within : List ip_V → ip_S → Prop := ip_h_iii (fun _ => False) (fun n lo hi S => True)
def postX4_within : List ip_V → ip_S → List ip_V → ip_S → Prop := ip_h_iii (fun _ _ _ => True) (fun n lo hi S r S' => r = [.inl (if lo ≤ n ∧ n ≤ hi then 1 else 0)] ∧ S' = S)
theorem shsX4_within : ∀ as S, ip_Sta S → preX4_within as S → as.length = 3 := by
  intro as S hI h
  obtain ⟨n, lo, hi, rfl, hq⟩ := ip_e_iii h
  rfl
def rmX4_within : Room := { frames := 1, cells := 0, slots := 0, locals := 40 }
def pX4_within (po : List ip_V → ip_S → Prop) : List (Nat × ip_T) := [(0, ip_t_il 0 1), (1, ip_t_il 1 2), (2, ip_t_iclt 14 5), (5, ip_t_il 0 6), (6, ip_t_il 2 7), (7, ip_t_icgt 14 10), (10, ip_t_ci 1 11), (11, ip_t_go 15), (14, ip_t_ci 0 15), (15, ip_t_zret po)]
set_option maxRecDepth 100000 in
set_option maxHeartbeats 4000000 in
theorem tX4_within {p : Program} {l : Launch} {e : Env} {s : State} {m : MethodId} {args : Array Value} {below : List Frame} {meth : Method} {c : Code} {D : va_G} {cA : Nat → ClassId} {A : Nat → Prop} {ad0 : Nat → Nat} {S0 : ip_S} {po : List ip_V → ip_S → Prop} (hx : p.tables.exec = Jvm.exec) (hb : c.code = cX4_within) (hml : c.maxLocals = 3) (hown : s.vm.findClass RX4 = some m.cls) (hts : ∀ w ∈ wsX4_within, w.before args s = true) (hr : meth.sig.returnType = (some .boolean)) (hlocks : meth.locks = false) (hname : meth.name = yX4_within.name) (hA : ∀ q, s.heap.size ≤ q → A q) (hNx : ip_Nx s) : ∀ q ∈ pX4_within po, ip_snd p l e rmX4_within s m args below meth c D cA A (MQ below (ip_Q ip_Sta D cA ad0 S0 A po) args s 0 0 A) 3 (fun _ => (0, 0)) ip_Sta ad0 S0 q.1 q.2 := by
  have hIs : ∀ S, ip_Sta S → ip_Sta S := fun _ h => h
  have hIn := ip_In_Sta
  have hS9 : CallFix p m c cX4_within 3 s args wsX4_within RX4 := ⟨hx, hb, hml, hown, hts⟩
  refine List.forall_mem_cons.mpr ⟨ip_s_iload_n hx hb dX4_within_0 rfl rfl, ?_⟩
  refine List.forall_mem_cons.mpr ⟨ip_s_iload_n hx hb dX4_within_1 rfl rfl, ?_⟩
  refine List.forall_mem_cons.mpr ⟨ip_s_iclt (t := 14) hx hb dX4_within_2 (by decide) rfl rfl, ?_⟩
  refine List.forall_mem_cons.mpr ⟨ip_s_iload_n hx hb dX4_within_5 rfl rfl, ?_⟩
  refine List.forall_mem_cons.mpr ⟨ip_s_iload_n hx hb dX4_within_6 rfl rfl, ?_⟩
  refine List.forall_mem_cons.mpr ⟨ip_s_icgt (t := 14) hx hb dX4_within_7 (by decide) rfl rfl, ?_⟩
  refine List.forall_mem_cons.mpr ⟨ip_s_iconst hx hb dX4_within_10 rfl rfl, ?_⟩
  refine List.forall_mem_cons.mpr ⟨ip_s_go (t := 15) hx hb dX4_within_11 (by decide) (Nat.le_of_ble_eq_true rfl) (Nat.le_of_ble_eq_true rfl), ?_⟩
  refine List.forall_mem_cons.mpr ⟨ip_s_iconst hx hb dX4_within_14 rfl rfl, ?_⟩
  refine List.forall_mem_cons.mpr ⟨ip_s_zret hx hb hr hlocks (Nat.le_of_ble_eq_true rfl) (Nat.le_of_ble_eq_true rfl) dX4_within_15, ?_⟩
  exact fun _ h => absurd h List.not_mem_nil
set_option maxRecDepth 100000 in
set_option maxHeartbeats 4000000 in
theorem vX4_within (n : Int32) (lo : Int32) (hi : Int32) (S : ip_S) (hS : ip_Sta S) (hp : True) : ip_run (pX4_within (postX4_within [.inl n, .inl lo, .inl hi] S)) (fun _ => false) (fun _ _ _ _ => False) 20 0 [some (.inl n), some (.inl lo), some (.inl hi)] [] S := by
  refine And.intro (fun h1 => ?_) (fun h1 => ?_)
  · refine And.intro (Or.inl rfl) (And.intro ?_ rfl)
    rw [if_neg (fun h => Int32.not_le.mpr h1 h.1)]
  · refine And.intro (fun h2 => ?_) (fun h2 => ?_)
    · refine And.intro (Or.inl rfl) (And.intro ?_ rfl)
      rw [if_neg (fun h => Int32.not_le.mpr h2 h.2)]
    · refine And.intro (Or.inr rfl) (And.intro ?_ rfl)
      rw [if_pos ⟨Int32.not_lt.mp h1, Int32.not_lt.mp h2⟩]
theorem ctX4_within (l : Launch) : ip_CT l yX4_within wsX4_within rmX4_within ip_Sta preX4_within postX4_within := by
  refine ip_of (cc := cX4_within) (maxL := 3) (ret := (some .boolean)) (by decide +kernel) rfl (fun _ => (0, 0)) rfl ?_ ?_
  · intro as S h
    obtain ⟨n, lo, hi, rfl, hq⟩ := ip_e_iii h
    exact ⟨Nat.le_of_ble_eq_true rfl, by simp⟩
  intro p e s m args below meth c D cA A ad0 as S h hI hx hb hml hown hts hr hlocks hname hA hNx
  obtain ⟨n, lo, hi, rfl, hq⟩ := ip_e_iii h
  refine ip_run_ok (stop := fun _ => false) (tX4_within hx hb hml hown hts hr hlocks hname hA hNx) (fun _ _ _ _ h => False.elim h) 20 0 _ _ S ?_
  exact vX4_within n lo hi S hI hq

def preX4_isMinute : List ip_V → ip_S → Prop := ip_h_i (fun _ => False) (fun n S => True)
def postX4_isMinute : List ip_V → ip_S → List ip_V → ip_S → Prop := ip_h_i (fun _ _ _ => True) (fun n S r S' => r = [.inl (if 0 ≤ n ∧ n ≤ 299 then 1 else 0)] ∧ S' = S)
theorem shsX4_isMinute : ∀ as S, ip_Sta S → preX4_isMinute as S → as.length = 1 := by
  intro as S hI h
  obtain ⟨n, rfl, hq⟩ := ip_e_i h
  rfl
def rmX4_isMinute : Room := { frames := 2, cells := 0, slots := 0, locals := 80 }
def pX4_isMinute (po : List ip_V → ip_S → Prop) : List (Nat × ip_T) := [(0, ip_t_il 0 1), (1, ip_t_ci 0 2), (2, ip_t_ci 299 5), (5, ip_t_call 3 preX4_within postX4_within 8), (8, ip_t_zret po)]
set_option maxRecDepth 100000 in
set_option maxHeartbeats 4000000 in
theorem tX4_isMinute {p : Program} {l : Launch} {e : Env} {s : State} {m : MethodId} {args : Array Value} {below : List Frame} {meth : Method} {c : Code} {D : va_G} {cA : Nat → ClassId} {A : Nat → Prop} {ad0 : Nat → Nat} {S0 : ip_S} {po : List ip_V → ip_S → Prop} (hx : p.tables.exec = Jvm.exec) (hb : c.code = cX4_isMinute) (hml : c.maxLocals = 1) (hown : s.vm.findClass RX4 = some m.cls) (hts : ∀ w ∈ wsX4_isMinute, w.before args s = true) (hr : meth.sig.returnType = (some .boolean)) (hlocks : meth.locks = false) (hname : meth.name = yX4_isMinute.name) (hA : ∀ q, s.heap.size ≤ q → A q) (hNx : ip_Nx s) : ∀ q ∈ pX4_isMinute po, ip_snd p l e rmX4_isMinute s m args below meth c D cA A (MQ below (ip_Q ip_Sta D cA ad0 S0 A po) args s 0 0 A) 1 (fun _ => (0, 0)) ip_Sta ad0 S0 q.1 q.2 := by
  have hIs : ∀ S, ip_Sta S → ip_Sta S := fun _ h => h
  have hIn := ip_In_Sta
  have hS9 : CallFix p m c cX4_isMinute 1 s args wsX4_isMinute RX4 := ⟨hx, hb, hml, hown, hts⟩
  refine List.forall_mem_cons.mpr ⟨ip_s_iload_n hx hb dX4_isMinute_0 rfl rfl, ?_⟩
  refine List.forall_mem_cons.mpr ⟨ip_s_iconst hx hb dX4_isMinute_1 rfl rfl, ?_⟩
  refine List.forall_mem_cons.mpr ⟨ip_s_sipush hx hb dX4_isMinute_2 rfl rfl, ?_⟩
  refine List.forall_mem_cons.mpr ⟨ip_s_callS hNx hS9 (ctX4_within l) (va_cwS 3 hts gX4_isMinute_X4_within rfl rfl rfl (by decide +kernel) ⟨Nat.le_of_ble_eq_true rfl, Nat.le_of_ble_eq_true rfl⟩) (fun as S hI h => shsX4_within as S hI h) hA dX4_isMinute_5 ⟨Nat.le_of_ble_eq_true rfl, Nat.le_of_ble_eq_true rfl⟩ rfl, ?_⟩
  refine List.forall_mem_cons.mpr ⟨ip_s_zret hx hb hr hlocks (Nat.le_of_ble_eq_true rfl) (Nat.le_of_ble_eq_true rfl) dX4_isMinute_8, ?_⟩
  exact fun _ h => absurd h List.not_mem_nil
set_option maxRecDepth 100000 in
set_option maxHeartbeats 4000000 in
theorem vX4_isMinute (n : Int32) (S : ip_S) (hS : ip_Sta S) (hp : True) : ip_run (pX4_isMinute (postX4_isMinute [.inl n] S)) (fun _ => false) (fun _ _ _ _ => False) 20 0 [some (.inl n)] [] S := by
  refine And.intro trivial ?_
  rintro r S' ⟨rfl, rfl⟩
  exact And.intro ip_01 (And.intro rfl rfl)
theorem ctX4_isMinute (l : Launch) : ip_CT l yX4_isMinute wsX4_isMinute rmX4_isMinute ip_Sta preX4_isMinute postX4_isMinute := by
  refine ip_of (cc := cX4_isMinute) (maxL := 1) (ret := (some .boolean)) (by decide +kernel) rfl (fun _ => (0, 0)) rfl ?_ ?_
  · intro as S h
    obtain ⟨n, rfl, hq⟩ := ip_e_i h
    exact ⟨Nat.le_of_ble_eq_true rfl, by simp⟩
  intro p e s m args below meth c D cA A ad0 as S h hI hx hb hml hown hts hr hlocks hname hA hNx
  obtain ⟨n, rfl, hq⟩ := ip_e_i h
  refine ip_run_ok (stop := fun _ => false) (tX4_isMinute hx hb hml hown hts hr hlocks hname hA hNx) (fun _ _ _ _ h => False.elim h) 20 0 _ _ S ?_
  exact vX4_isMinute n S hI hq

def preX4_areSpans : List ip_V → ip_S → Prop := ip_h_iiii (fun _ => False) (fun a b c d S => True)
def postX4_areSpans : List ip_V → ip_S → List ip_V → ip_S → Prop := ip_h_iiii (fun _ _ _ => True) (fun a b c d S r S' => r = [.inl (if a ≤ 100 ∧ b ≤ a ∧ c ≤ b ∧ d ≤ c ∧ 0 ≤ d then 1 else 0)] ∧ S' = S)
theorem shsX4_areSpans : ∀ as S, ip_Sta S → preX4_areSpans as S → as.length = 4 := by
  intro as S hI h
  obtain ⟨a, b, c, d, rfl, hq⟩ := ip_e_iiii h
  rfl
def rmX4_areSpans : Room := { frames := 1, cells := 0, slots := 0, locals := 40 }
def pX4_areSpans (po : List ip_V → ip_S → Prop) : List (Nat × ip_T) := [(0, ip_t_il 0 1), (1, ip_t_ci 100 3), (3, ip_t_icgt 29 6), (6, ip_t_il 1 7), (7, ip_t_il 0 8), (8, ip_t_icgt 29 11), (11, ip_t_il 2 12), (12, ip_t_il 1 13), (13, ip_t_icgt 29 16), (16, ip_t_il 3 17), (17, ip_t_il 2 18), (18, ip_t_icgt 29 21), (21, ip_t_il 3 22), (22, ip_t_iflt 29 25), (25, ip_t_ci 1 26), (26, ip_t_go 30), (29, ip_t_ci 0 30), (30, ip_t_zret po)]
set_option maxRecDepth 100000 in
set_option maxHeartbeats 4000000 in
theorem tX4_areSpans {p : Program} {l : Launch} {e : Env} {s : State} {m : MethodId} {args : Array Value} {below : List Frame} {meth : Method} {c : Code} {D : va_G} {cA : Nat → ClassId} {A : Nat → Prop} {ad0 : Nat → Nat} {S0 : ip_S} {po : List ip_V → ip_S → Prop} (hx : p.tables.exec = Jvm.exec) (hb : c.code = cX4_areSpans) (hml : c.maxLocals = 4) (hown : s.vm.findClass RX4 = some m.cls) (hts : ∀ w ∈ wsX4_areSpans, w.before args s = true) (hr : meth.sig.returnType = (some .boolean)) (hlocks : meth.locks = false) (hname : meth.name = yX4_areSpans.name) (hA : ∀ q, s.heap.size ≤ q → A q) (hNx : ip_Nx s) : ∀ q ∈ pX4_areSpans po, ip_snd p l e rmX4_areSpans s m args below meth c D cA A (MQ below (ip_Q ip_Sta D cA ad0 S0 A po) args s 0 0 A) 4 (fun _ => (0, 0)) ip_Sta ad0 S0 q.1 q.2 := by
  have hIs : ∀ S, ip_Sta S → ip_Sta S := fun _ h => h
  have hIn := ip_In_Sta
  have hS9 : CallFix p m c cX4_areSpans 4 s args wsX4_areSpans RX4 := ⟨hx, hb, hml, hown, hts⟩
  refine List.forall_mem_cons.mpr ⟨ip_s_iload_n hx hb dX4_areSpans_0 rfl rfl, ?_⟩
  refine List.forall_mem_cons.mpr ⟨ip_s_bipush hx hb dX4_areSpans_1 rfl rfl, ?_⟩
  refine List.forall_mem_cons.mpr ⟨ip_s_icgt (t := 29) hx hb dX4_areSpans_3 (by decide) rfl rfl, ?_⟩
  refine List.forall_mem_cons.mpr ⟨ip_s_iload_n hx hb dX4_areSpans_6 rfl rfl, ?_⟩
  refine List.forall_mem_cons.mpr ⟨ip_s_iload_n hx hb dX4_areSpans_7 rfl rfl, ?_⟩
  refine List.forall_mem_cons.mpr ⟨ip_s_icgt (t := 29) hx hb dX4_areSpans_8 (by decide) rfl rfl, ?_⟩
  refine List.forall_mem_cons.mpr ⟨ip_s_iload_n hx hb dX4_areSpans_11 rfl rfl, ?_⟩
  refine List.forall_mem_cons.mpr ⟨ip_s_iload_n hx hb dX4_areSpans_12 rfl rfl, ?_⟩
  refine List.forall_mem_cons.mpr ⟨ip_s_icgt (t := 29) hx hb dX4_areSpans_13 (by decide) rfl rfl, ?_⟩
  refine List.forall_mem_cons.mpr ⟨ip_s_iload_n hx hb dX4_areSpans_16 rfl rfl, ?_⟩
  refine List.forall_mem_cons.mpr ⟨ip_s_iload_n hx hb dX4_areSpans_17 rfl rfl, ?_⟩
  refine List.forall_mem_cons.mpr ⟨ip_s_icgt (t := 29) hx hb dX4_areSpans_18 (by decide) rfl rfl, ?_⟩
  refine List.forall_mem_cons.mpr ⟨ip_s_iload_n hx hb dX4_areSpans_21 rfl rfl, ?_⟩
  refine List.forall_mem_cons.mpr ⟨ip_s_iflt (t := 29) hx hb dX4_areSpans_22 (by decide) rfl rfl, ?_⟩
  refine List.forall_mem_cons.mpr ⟨ip_s_iconst hx hb dX4_areSpans_25 rfl rfl, ?_⟩
  refine List.forall_mem_cons.mpr ⟨ip_s_go (t := 30) hx hb dX4_areSpans_26 (by decide) (Nat.le_of_ble_eq_true rfl) (Nat.le_of_ble_eq_true rfl), ?_⟩
  refine List.forall_mem_cons.mpr ⟨ip_s_iconst hx hb dX4_areSpans_29 rfl rfl, ?_⟩
  refine List.forall_mem_cons.mpr ⟨ip_s_zret hx hb hr hlocks (Nat.le_of_ble_eq_true rfl) (Nat.le_of_ble_eq_true rfl) dX4_areSpans_30, ?_⟩
  exact fun _ h => absurd h List.not_mem_nil
set_option maxRecDepth 100000 in
set_option maxHeartbeats 4000000 in
theorem vX4_areSpans (a : Int32) (b : Int32) (c : Int32) (d : Int32) (S : ip_S) (hS : ip_Sta S) (hp : True) : ip_run (pX4_areSpans (postX4_areSpans [.inl a, .inl b, .inl c, .inl d] S)) (fun _ => false) (fun _ _ _ _ => False) 40 0 [some (.inl a), some (.inl b), some (.inl c), some (.inl d)] [] S := by
  refine And.intro (fun h1 => ?_) (fun h1 => ?_)
  · refine And.intro (Or.inl rfl) (And.intro ?_ rfl)
    rw [if_neg (fun h => Int32.not_le.mpr h1 h.1)]
  refine And.intro (fun h2 => ?_) (fun h2 => ?_)
  · refine And.intro (Or.inl rfl) (And.intro ?_ rfl)
    rw [if_neg (fun h => Int32.not_le.mpr h2 h.2.1)]
  refine And.intro (fun h3 => ?_) (fun h3 => ?_)
  · refine And.intro (Or.inl rfl) (And.intro ?_ rfl)
    rw [if_neg (fun h => Int32.not_le.mpr h3 h.2.2.1)]
  refine And.intro (fun h4 => ?_) (fun h4 => ?_)
  · refine And.intro (Or.inl rfl) (And.intro ?_ rfl)
    rw [if_neg (fun h => Int32.not_le.mpr h4 h.2.2.2.1)]
  refine And.intro (fun h5 => ?_) (fun h5 => ?_)
  · refine And.intro (Or.inl rfl) (And.intro ?_ rfl)
    rw [if_neg (fun h => Int32.not_le.mpr h5 h.2.2.2.2)]
  refine And.intro (Or.inr rfl) (And.intro ?_ rfl)
  rw [if_pos ⟨Int32.not_lt.mp h1, Int32.not_lt.mp h2, Int32.not_lt.mp h3, Int32.not_lt.mp h4, Int32.not_lt.mp h5⟩]
theorem ctX4_areSpans (l : Launch) : ip_CT l yX4_areSpans wsX4_areSpans rmX4_areSpans ip_Sta preX4_areSpans postX4_areSpans := by
  refine ip_of (cc := cX4_areSpans) (maxL := 4) (ret := (some .boolean)) (by decide +kernel) rfl (fun _ => (0, 0)) rfl ?_ ?_
  · intro as S h
    obtain ⟨a, b, c, d, rfl, hq⟩ := ip_e_iiii h
    exact ⟨Nat.le_of_ble_eq_true rfl, by simp⟩
  intro p e s m args below meth c D cA A ad0 as S h hI hx hb hml hown hts hr hlocks hname hA hNx
  obtain ⟨a, b, c, d, rfl, hq⟩ := ip_e_iiii h
  refine ip_run_ok (stop := fun _ => false) (tX4_areSpans hx hb hml hown hts hr hlocks hname hA hNx) (fun _ _ _ _ h => False.elim h) 40 0 _ _ S ?_
  exact vX4_areSpans a b c d S hI hq

def preX4_oneIf : List ip_V → ip_S → Prop := ip_h_i (fun _ => False) (fun n S => True)
def postX4_oneIf : List ip_V → ip_S → List ip_V → ip_S → Prop := ip_h_i (fun _ _ _ => True) (fun n S r S' => r = [.inl (if n = 0 then 0 else 1)] ∧ S' = S)
theorem shsX4_oneIf : ∀ as S, ip_Sta S → preX4_oneIf as S → as.length = 1 := by
  intro as S hI h
  obtain ⟨n, rfl, hq⟩ := ip_e_i h
  rfl
def rmX4_oneIf : Room := { frames := 1, cells := 0, slots := 0, locals := 40 }
def pX4_oneIf (po : List ip_V → ip_S → Prop) : List (Nat × ip_T) := [(0, ip_t_il 0 1), (1, ip_t_ifeq 8 4), (4, ip_t_ci 1 5), (5, ip_t_go 9), (8, ip_t_ci 0 9), (9, ip_t_iret po)]
set_option maxRecDepth 100000 in
set_option maxHeartbeats 4000000 in
theorem tX4_oneIf {p : Program} {l : Launch} {e : Env} {s : State} {m : MethodId} {args : Array Value} {below : List Frame} {meth : Method} {c : Code} {D : va_G} {cA : Nat → ClassId} {A : Nat → Prop} {ad0 : Nat → Nat} {S0 : ip_S} {po : List ip_V → ip_S → Prop} (hx : p.tables.exec = Jvm.exec) (hb : c.code = cX4_oneIf) (hml : c.maxLocals = 1) (hown : s.vm.findClass RX4 = some m.cls) (hts : ∀ w ∈ wsX4_oneIf, w.before args s = true) (hr : meth.sig.returnType = (some .int)) (hlocks : meth.locks = false) (hname : meth.name = yX4_oneIf.name) (hA : ∀ q, s.heap.size ≤ q → A q) (hNx : ip_Nx s) : ∀ q ∈ pX4_oneIf po, ip_snd p l e rmX4_oneIf s m args below meth c D cA A (MQ below (ip_Q ip_Sta D cA ad0 S0 A po) args s 0 0 A) 1 (fun _ => (0, 0)) ip_Sta ad0 S0 q.1 q.2 := by
  have hIs : ∀ S, ip_Sta S → ip_Sta S := fun _ h => h
  have hIn := ip_In_Sta
  have hS9 : CallFix p m c cX4_oneIf 1 s args wsX4_oneIf RX4 := ⟨hx, hb, hml, hown, hts⟩
  refine List.forall_mem_cons.mpr ⟨ip_s_iload_n hx hb dX4_oneIf_0 rfl rfl, ?_⟩
  refine List.forall_mem_cons.mpr ⟨ip_s_ifeq (t := 8) hx hb dX4_oneIf_1 (by decide) rfl rfl, ?_⟩
  refine List.forall_mem_cons.mpr ⟨ip_s_iconst hx hb dX4_oneIf_4 rfl rfl, ?_⟩
  refine List.forall_mem_cons.mpr ⟨ip_s_go (t := 9) hx hb dX4_oneIf_5 (by decide) (Nat.le_of_ble_eq_true rfl) (Nat.le_of_ble_eq_true rfl), ?_⟩
  refine List.forall_mem_cons.mpr ⟨ip_s_iconst hx hb dX4_oneIf_8 rfl rfl, ?_⟩
  refine List.forall_mem_cons.mpr ⟨ip_s_iret hx hb hr hlocks (Nat.le_of_ble_eq_true rfl) (Nat.le_of_ble_eq_true rfl) dX4_oneIf_9, ?_⟩
  exact fun _ h => absurd h List.not_mem_nil
set_option maxRecDepth 100000 in
set_option maxHeartbeats 4000000 in
theorem vX4_oneIf (n : Int32) (S : ip_S) (hS : ip_Sta S) (hp : True) : ip_run (pX4_oneIf (postX4_oneIf [.inl n] S)) (fun _ => false) (fun _ _ _ _ => False) 20 0 [some (.inl n)] [] S := by
  refine And.intro (fun h1 => ?_) (fun h1 => ?_)
  · refine And.intro ?_ rfl
    rw [if_pos h1]
  · refine And.intro ?_ rfl
    rw [if_neg h1]
theorem ctX4_oneIf (l : Launch) : ip_CT l yX4_oneIf wsX4_oneIf rmX4_oneIf ip_Sta preX4_oneIf postX4_oneIf := by
  refine ip_of (cc := cX4_oneIf) (maxL := 1) (ret := (some .int)) (by decide +kernel) rfl (fun _ => (0, 0)) rfl ?_ ?_
  · intro as S h
    obtain ⟨n, rfl, hq⟩ := ip_e_i h
    exact ⟨Nat.le_of_ble_eq_true rfl, by simp⟩
  intro p e s m args below meth c D cA A ad0 as S h hI hx hb hml hown hts hr hlocks hname hA hNx
  obtain ⟨n, rfl, hq⟩ := ip_e_i h
  refine ip_run_ok (stop := fun _ => false) (tX4_oneIf hx hb hml hown hts hr hlocks hname hA hNx) (fun _ _ _ _ h => False.elim h) 20 0 _ _ S ?_
  exact vX4_oneIf n S hI hq

def preX1_isGone : List ip_V → ip_S → Prop := ip_h_r (fun _ => False) (fun a S => (S.2.2.2 a).1 = 1 ∧ True)
def postX1_isGone : List ip_V → ip_S → List ip_V → ip_S → Prop := ip_h_r (fun _ _ _ => True) (fun a S r S' => r = [.inl (if S.1 a 8 = -900 then 0 else 1)] ∧ S' = S)
theorem shX1_isGone : ∀ as S, ip_Sta S → preX1_isGone as S → ∃ (b : Nat) (as' : List ip_V), as = .inr (.inl (some b)) :: as' ∧ as'.length = 0 ∧ (S.2.2.2 b).1 = 1 := by
  intro as S hI h
  obtain ⟨a, rfl, hq⟩ := ip_e_r h
  exact ⟨_, _, rfl, rfl, hq.1⟩
def rmX1_isGone : Room := { frames := 1, cells := 0, slots := 0, locals := 40 }
def pX1_isGone (po : List ip_V → ip_S → Prop) : List (Nat × ip_T) := [(0, ip_t_ar 0 1), (1, ip_t_gI 1 8 4), (4, ip_t_ci (-900) 7), (7, ip_t_iceq 14 10), (10, ip_t_ci 1 11), (11, ip_t_go 15), (14, ip_t_ci 0 15), (15, ip_t_zret po)]
set_option maxRecDepth 100000 in
set_option maxHeartbeats 4000000 in
theorem tX1_isGone {p : Program} {l : Launch} {e : Env} {s : State} {m : MethodId} {args : Array Value} {below : List Frame} {meth : Method} {c : Code} {D : va_G} {cA : Nat → ClassId} {A : Nat → Prop} {ad0 : Nat → Nat} {S0 : ip_S} {po : List ip_V → ip_S → Prop} (hx : p.tables.exec = Jvm.exec) (hb : c.code = cX1_isGone) (hml : c.maxLocals = 1) (hown : s.vm.findClass RX1 = some m.cls) (hts : ∀ w ∈ wsX1_isGone, w.before args s = true) (hr : meth.sig.returnType = (some .boolean)) (hlocks : meth.locks = false) (hname : meth.name = yX1_isGone.name) (hA : ∀ q, s.heap.size ≤ q → A q) (hNx : ip_Nx s) : ∀ q ∈ pX1_isGone po, ip_snd p l e rmX1_isGone s m args below meth c D cA A (MQ below (ip_Q ip_Sta D cA ad0 S0 A po) args s 0 0 A) 1 (fun _ => (0, 0)) ip_Sta ad0 S0 q.1 q.2 := by
  have hIs : ∀ S, ip_Sta S → ip_Sta S := fun _ h => h
  have hIn := ip_In_Sta
  have hS9 : CallFix p m c cX1_isGone 1 s args wsX1_isGone RX1 := ⟨hx, hb, hml, hown, hts⟩
  have hin1 : ∀ w ∈ u_ws RX1 TX1 11, w ∈ wsX1_isGone := by decide +kernel
  refine List.forall_mem_cons.mpr ⟨ip_s_aload_n hx hb dX1_isGone_0 rfl rfl, ?_⟩
  refine List.forall_mem_cons.mpr ⟨ip_s_gI hx hb hts hin1 hown rfl (by decide) 8 (by decide) (hts (.fieldLink RX1 18 "IcePads$Jet" "flew" "I") (by decide +kernel)) (fun _ h9 => h9) rfl dX1_isGone_1 rfl, ?_⟩
  refine List.forall_mem_cons.mpr ⟨ip_s_sipush hx hb dX1_isGone_4 rfl rfl, ?_⟩
  refine List.forall_mem_cons.mpr ⟨ip_s_iceq (t := 14) hx hb dX1_isGone_7 (by decide) rfl rfl, ?_⟩
  refine List.forall_mem_cons.mpr ⟨ip_s_iconst hx hb dX1_isGone_10 rfl rfl, ?_⟩
  refine List.forall_mem_cons.mpr ⟨ip_s_go (t := 15) hx hb dX1_isGone_11 (by decide) (Nat.le_of_ble_eq_true rfl) (Nat.le_of_ble_eq_true rfl), ?_⟩
  refine List.forall_mem_cons.mpr ⟨ip_s_iconst hx hb dX1_isGone_14 rfl rfl, ?_⟩
  refine List.forall_mem_cons.mpr ⟨ip_s_zret hx hb hr hlocks (Nat.le_of_ble_eq_true rfl) (Nat.le_of_ble_eq_true rfl) dX1_isGone_15, ?_⟩
  exact fun _ h => absurd h List.not_mem_nil
set_option maxRecDepth 100000 in
set_option maxHeartbeats 4000000 in
theorem vX1_isGone (a : Nat) (S : ip_S) (hS : ip_Sta S) (hp : (S.2.2.2 a).1 = 1 ∧ True) : ip_run (pX1_isGone (postX1_isGone [.inr (.inl (some a))] S)) (fun _ => false) (fun _ _ _ _ => False) 20 0 [some (.inr (.inl (some a)))] [] S := by
  refine And.intro hp.1 ?_
  refine And.intro (fun h1 => ?_) (fun h1 => ?_)
  · refine And.intro (Or.inl rfl) (And.intro ?_ rfl)
    rw [if_pos h1]
  · refine And.intro (Or.inr rfl) (And.intro ?_ rfl)
    rw [if_neg h1]
theorem ctX1_isGone (l : Launch) : ip_CT l yX1_isGone wsX1_isGone rmX1_isGone ip_Sta preX1_isGone postX1_isGone := by
  refine ip_of (cc := cX1_isGone) (maxL := 1) (ret := (some .boolean)) (by decide +kernel) rfl (fun _ => (0, 0)) rfl ?_ ?_
  · intro as S h
    obtain ⟨a, rfl, hq⟩ := ip_e_r h
    exact ⟨Nat.le_of_ble_eq_true rfl, by simp⟩
  intro p e s m args below meth c D cA A ad0 as S h hI hx hb hml hown hts hr hlocks hname hA hNx
  obtain ⟨a, rfl, hq⟩ := ip_e_r h
  refine ip_run_ok (stop := fun _ => false) (tX1_isGone hx hb hml hown hts hr hlocks hname hA hNx) (fun _ _ _ _ h => False.elim h) 20 0 _ _ S ?_
  exact vX1_isGone a S hI hq

def preX1_state : List ip_V → ip_S → Prop := ip_h_r (fun _ => False) (fun a S => (S.2.2.2 a).1 = 1 ∧ True)
def postX1_state : List ip_V → ip_S → List ip_V → ip_S → Prop := ip_h_r (fun _ _ _ => True) (fun a S r S' => r = [.inl (if S.1 a 8 = -900 then (if S.1 a 6 = -900 then 0 else 1) else 2)] ∧ S' = S)
theorem shX1_state : ∀ as S, ip_Sta S → preX1_state as S → ∃ (b : Nat) (as' : List ip_V), as = .inr (.inl (some b)) :: as' ∧ as'.length = 0 ∧ (S.2.2.2 b).1 = 1 := by
  intro as S hI h
  obtain ⟨a, rfl, hq⟩ := ip_e_r h
  exact ⟨_, _, rfl, rfl, hq.1⟩
def rmX1_state : Room := { frames := 2, cells := 0, slots := 0, locals := 80 }
def pX1_state (po : List ip_V → ip_S → Prop) : List (Nat × ip_T) := [(0, ip_t_ar 0 1), (1, ip_t_call 1 preX1_isGone postX1_isGone 4), (4, ip_t_ifeq 9 7), (7, ip_t_ci 2 8), (8, ip_t_iret po), (9, ip_t_ar 0 10), (10, ip_t_gI 1 6 13), (13, ip_t_ci (-900) 16), (16, ip_t_icne 23 19), (19, ip_t_ci 0 20), (20, ip_t_go 24), (23, ip_t_ci 1 24), (24, ip_t_iret po)]
set_option maxRecDepth 100000 in
set_option maxHeartbeats 4000000 in
theorem tX1_state {p : Program} {l : Launch} {e : Env} {s : State} {m : MethodId} {args : Array Value} {below : List Frame} {meth : Method} {c : Code} {D : va_G} {cA : Nat → ClassId} {A : Nat → Prop} {ad0 : Nat → Nat} {S0 : ip_S} {po : List ip_V → ip_S → Prop} (hx : p.tables.exec = Jvm.exec) (hb : c.code = cX1_state) (hml : c.maxLocals = 1) (hown : s.vm.findClass RX1 = some m.cls) (hts : ∀ w ∈ wsX1_state, w.before args s = true) (hr : meth.sig.returnType = (some .int)) (hlocks : meth.locks = false) (hname : meth.name = yX1_state.name) (hA : ∀ q, s.heap.size ≤ q → A q) (hNx : ip_Nx s) : ∀ q ∈ pX1_state po, ip_snd p l e rmX1_state s m args below meth c D cA A (MQ below (ip_Q ip_Sta D cA ad0 S0 A po) args s 0 0 A) 1 (fun _ => (0, 0)) ip_Sta ad0 S0 q.1 q.2 := by
  have hIs : ∀ S, ip_Sta S → ip_Sta S := fun _ h => h
  have hIn := ip_In_Sta
  have hS9 : CallFix p m c cX1_state 1 s args wsX1_state RX1 := ⟨hx, hb, hml, hown, hts⟩
  have hin1 : ∀ w ∈ u_ws RX1 TX1 11, w ∈ wsX1_state := by decide +kernel
  refine List.forall_mem_cons.mpr ⟨ip_s_aload_n hx hb dX1_state_0 rfl rfl, ?_⟩
  refine List.forall_mem_cons.mpr ⟨ip_s_callV hNx hS9 (ctX1_isGone l) (cwV 0 hts gX1_state_X1_isGone rfl rfl rfl (by decide +kernel) ⟨Nat.le_of_ble_eq_true rfl, Nat.le_of_ble_eq_true rfl⟩) (ci := 1) rfl rfl (by decide) (fun as S hI h => shX1_isGone as S hI h) hA dX1_state_1 ⟨Nat.le_of_ble_eq_true rfl, Nat.le_of_ble_eq_true rfl⟩ rfl, ?_⟩
  refine List.forall_mem_cons.mpr ⟨ip_s_ifeq (t := 9) hx hb dX1_state_4 (by decide) rfl rfl, ?_⟩
  refine List.forall_mem_cons.mpr ⟨ip_s_iconst hx hb dX1_state_7 rfl rfl, ?_⟩
  refine List.forall_mem_cons.mpr ⟨ip_s_iret hx hb hr hlocks (Nat.le_of_ble_eq_true rfl) (Nat.le_of_ble_eq_true rfl) dX1_state_8, ?_⟩
  refine List.forall_mem_cons.mpr ⟨ip_s_aload_n hx hb dX1_state_9 rfl rfl, ?_⟩
  refine List.forall_mem_cons.mpr ⟨ip_s_gI hx hb hts hin1 hown rfl (by decide) 6 (by decide) (hts (.fieldLink RX1 9 "IcePads$Jet" "pad" "I") (by decide +kernel)) (fun _ h9 => h9) rfl dX1_state_10 rfl, ?_⟩
  refine List.forall_mem_cons.mpr ⟨ip_s_sipush hx hb dX1_state_13 rfl rfl, ?_⟩
  refine List.forall_mem_cons.mpr ⟨ip_s_icne (t := 23) hx hb dX1_state_16 (by decide) rfl rfl, ?_⟩
  refine List.forall_mem_cons.mpr ⟨ip_s_iconst hx hb dX1_state_19 rfl rfl, ?_⟩
  refine List.forall_mem_cons.mpr ⟨ip_s_go (t := 24) hx hb dX1_state_20 (by decide) (Nat.le_of_ble_eq_true rfl) (Nat.le_of_ble_eq_true rfl), ?_⟩
  refine List.forall_mem_cons.mpr ⟨ip_s_iconst hx hb dX1_state_23 rfl rfl, ?_⟩
  refine List.forall_mem_cons.mpr ⟨ip_s_iret hx hb hr hlocks (Nat.le_of_ble_eq_true rfl) (Nat.le_of_ble_eq_true rfl) dX1_state_24, ?_⟩
  exact fun _ h => absurd h List.not_mem_nil
set_option maxRecDepth 100000 in
set_option maxHeartbeats 4000000 in
theorem vX1_state (a : Nat) (S : ip_S) (hS : ip_Sta S) (hp : (S.2.2.2 a).1 = 1 ∧ True) : ip_run (pX1_state (postX1_state [.inr (.inl (some a))] S)) (fun _ => false) (fun _ _ _ _ => False) 30 0 [some (.inr (.inl (some a)))] [] S := by
  refine And.intro hp ?_
  rintro r S' ⟨rfl, rfl⟩
  refine And.intro (fun h1 => ?_) (fun h1 => ?_)
  · have h2 : S'.1 a 8 = -900 := by
      by_cases q : S'.1 a 8 = -900
      · exact q
      · rw [if_neg q] at h1; exact absurd h1 (by decide)
    refine And.intro hp.1 ?_
    refine And.intro (fun h3 => ?_) (fun h3 => ?_)
    · refine And.intro ?_ rfl
      rw [if_pos h2, if_neg h3]
    · refine And.intro ?_ rfl
      rw [if_pos h2, if_pos h3]
  · have h2 : ¬ S'.1 a 8 = -900 := by
      intro q
      rw [if_pos q] at h1; exact h1 rfl
    refine And.intro ?_ rfl
    rw [if_neg h2]
theorem ctX1_state (l : Launch) : ip_CT l yX1_state wsX1_state rmX1_state ip_Sta preX1_state postX1_state := by
  refine ip_of (cc := cX1_state) (maxL := 1) (ret := (some .int)) (by decide +kernel) rfl (fun _ => (0, 0)) rfl ?_ ?_
  · intro as S h
    obtain ⟨a, rfl, hq⟩ := ip_e_r h
    exact ⟨Nat.le_of_ble_eq_true rfl, by simp⟩
  intro p e s m args below meth c D cA A ad0 as S h hI hx hb hml hown hts hr hlocks hname hA hNx
  obtain ⟨a, rfl, hq⟩ := ip_e_r h
  refine ip_run_ok (stop := fun _ => false) (tX1_state hx hb hml hown hts hr hlocks hname hA hNx) (fun _ _ _ _ h => False.elim h) 30 0 _ _ S ?_
  exact vX1_state a S hI hq

def preX1_treatment : List ip_V → ip_S → Prop := ip_h_r (fun _ => False) (fun a S => (S.2.2.2 a).1 = 1 ∧ True)
def postX1_treatment : List ip_V → ip_S → List ip_V → ip_S → Prop := ip_h_r (fun _ _ _ => True) (fun a S r S' => r = [.inl (2 * S.1 a 3)] ∧ S' = S)
theorem shX1_treatment : ∀ as S, ip_Sta S → preX1_treatment as S → ∃ (b : Nat) (as' : List ip_V), as = .inr (.inl (some b)) :: as' ∧ as'.length = 0 ∧ (S.2.2.2 b).1 = 1 := by
  intro as S hI h
  obtain ⟨a, rfl, hq⟩ := ip_e_r h
  exact ⟨_, _, rfl, rfl, hq.1⟩
def rmX1_treatment : Room := { frames := 1, cells := 0, slots := 0, locals := 40 }
def pX1_treatment (po : List ip_V → ip_S → Prop) : List (Nat × ip_T) := [(0, ip_t_ci 2 1), (1, ip_t_ar 0 2), (2, ip_t_gI 1 3 5), (5, ip_t_imul 6), (6, ip_t_iret po)]
set_option maxRecDepth 100000 in
set_option maxHeartbeats 4000000 in
theorem tX1_treatment {p : Program} {l : Launch} {e : Env} {s : State} {m : MethodId} {args : Array Value} {below : List Frame} {meth : Method} {c : Code} {D : va_G} {cA : Nat → ClassId} {A : Nat → Prop} {ad0 : Nat → Nat} {S0 : ip_S} {po : List ip_V → ip_S → Prop} (hx : p.tables.exec = Jvm.exec) (hb : c.code = cX1_treatment) (hml : c.maxLocals = 1) (hown : s.vm.findClass RX1 = some m.cls) (hts : ∀ w ∈ wsX1_treatment, w.before args s = true) (hr : meth.sig.returnType = (some .int)) (hlocks : meth.locks = false) (hname : meth.name = yX1_treatment.name) (hA : ∀ q, s.heap.size ≤ q → A q) (hNx : ip_Nx s) : ∀ q ∈ pX1_treatment po, ip_snd p l e rmX1_treatment s m args below meth c D cA A (MQ below (ip_Q ip_Sta D cA ad0 S0 A po) args s 0 0 A) 1 (fun _ => (0, 0)) ip_Sta ad0 S0 q.1 q.2 := by
  have hIs : ∀ S, ip_Sta S → ip_Sta S := fun _ h => h
  have hIn := ip_In_Sta
  have hS9 : CallFix p m c cX1_treatment 1 s args wsX1_treatment RX1 := ⟨hx, hb, hml, hown, hts⟩
  have hin1 : ∀ w ∈ u_ws RX1 TX1 11, w ∈ wsX1_treatment := by decide +kernel
  refine List.forall_mem_cons.mpr ⟨ip_s_iconst hx hb dX1_treatment_0 rfl rfl, ?_⟩
  refine List.forall_mem_cons.mpr ⟨ip_s_aload_n hx hb dX1_treatment_1 rfl rfl, ?_⟩
  refine List.forall_mem_cons.mpr ⟨ip_s_gI hx hb hts hin1 hown rfl (by decide) 3 (by decide) (hts (.fieldLink RX1 24 "IcePads$Jet" "size" "I") (by decide +kernel)) (fun _ h9 => h9) rfl dX1_treatment_2 rfl, ?_⟩
  refine List.forall_mem_cons.mpr ⟨ip_s_imul hx hb dX1_treatment_5 rfl, ?_⟩
  refine List.forall_mem_cons.mpr ⟨ip_s_iret hx hb hr hlocks (Nat.le_of_ble_eq_true rfl) (Nat.le_of_ble_eq_true rfl) dX1_treatment_6, ?_⟩
  exact fun _ h => absurd h List.not_mem_nil
set_option maxRecDepth 100000 in
set_option maxHeartbeats 4000000 in
theorem vX1_treatment (a : Nat) (S : ip_S) (hS : ip_Sta S) (hp : (S.2.2.2 a).1 = 1 ∧ True) : ip_run (pX1_treatment (postX1_treatment [.inr (.inl (some a))] S)) (fun _ => false) (fun _ _ _ _ => False) 20 0 [some (.inr (.inl (some a)))] [] S := by
  refine And.intro hp.1 ?_
  exact And.intro rfl rfl
theorem ctX1_treatment (l : Launch) : ip_CT l yX1_treatment wsX1_treatment rmX1_treatment ip_Sta preX1_treatment postX1_treatment := by
  refine ip_of (cc := cX1_treatment) (maxL := 1) (ret := (some .int)) (by decide +kernel) rfl (fun _ => (0, 0)) rfl ?_ ?_
  · intro as S h
    obtain ⟨a, rfl, hq⟩ := ip_e_r h
    exact ⟨Nat.le_of_ble_eq_true rfl, by simp⟩
  intro p e s m args below meth c D cA A ad0 as S h hI hx hb hml hown hts hr hlocks hname hA hNx
  obtain ⟨a, rfl, hq⟩ := ip_e_r h
  refine ip_run_ok (stop := fun _ => false) (tX1_treatment hx hb hml hown hts hr hlocks hname hA hNx) (fun _ _ _ _ h => False.elim h) 20 0 _ _ S ?_
  exact vX1_treatment a S hI hq

def preX1_litresNeeded : List ip_V → ip_S → Prop := ip_h_r (fun _ => False) (fun a S => (S.2.2.2 a).1 = 1 ∧ True)
def postX1_litresNeeded : List ip_V → ip_S → List ip_V → ip_S → Prop := ip_h_r (fun _ _ _ => True) (fun a S r S' => r = [.inl (10 * S.1 a 3)] ∧ S' = S)
theorem shX1_litresNeeded : ∀ as S, ip_Sta S → preX1_litresNeeded as S → ∃ (b : Nat) (as' : List ip_V), as = .inr (.inl (some b)) :: as' ∧ as'.length = 0 ∧ (S.2.2.2 b).1 = 1 := by
  intro as S hI h
  obtain ⟨a, rfl, hq⟩ := ip_e_r h
  exact ⟨_, _, rfl, rfl, hq.1⟩
def rmX1_litresNeeded : Room := { frames := 1, cells := 0, slots := 0, locals := 40 }
def pX1_litresNeeded (po : List ip_V → ip_S → Prop) : List (Nat × ip_T) := [(0, ip_t_ci 10 2), (2, ip_t_ar 0 3), (3, ip_t_gI 1 3 6), (6, ip_t_imul 7), (7, ip_t_iret po)]
set_option maxRecDepth 100000 in
set_option maxHeartbeats 4000000 in
theorem tX1_litresNeeded {p : Program} {l : Launch} {e : Env} {s : State} {m : MethodId} {args : Array Value} {below : List Frame} {meth : Method} {c : Code} {D : va_G} {cA : Nat → ClassId} {A : Nat → Prop} {ad0 : Nat → Nat} {S0 : ip_S} {po : List ip_V → ip_S → Prop} (hx : p.tables.exec = Jvm.exec) (hb : c.code = cX1_litresNeeded) (hml : c.maxLocals = 1) (hown : s.vm.findClass RX1 = some m.cls) (hts : ∀ w ∈ wsX1_litresNeeded, w.before args s = true) (hr : meth.sig.returnType = (some .int)) (hlocks : meth.locks = false) (hname : meth.name = yX1_litresNeeded.name) (hA : ∀ q, s.heap.size ≤ q → A q) (hNx : ip_Nx s) : ∀ q ∈ pX1_litresNeeded po, ip_snd p l e rmX1_litresNeeded s m args below meth c D cA A (MQ below (ip_Q ip_Sta D cA ad0 S0 A po) args s 0 0 A) 1 (fun _ => (0, 0)) ip_Sta ad0 S0 q.1 q.2 := by
  have hIs : ∀ S, ip_Sta S → ip_Sta S := fun _ h => h
  have hIn := ip_In_Sta
  have hS9 : CallFix p m c cX1_litresNeeded 1 s args wsX1_litresNeeded RX1 := ⟨hx, hb, hml, hown, hts⟩
  have hin1 : ∀ w ∈ u_ws RX1 TX1 11, w ∈ wsX1_litresNeeded := by decide +kernel
  refine List.forall_mem_cons.mpr ⟨ip_s_bipush hx hb dX1_litresNeeded_0 rfl rfl, ?_⟩
  refine List.forall_mem_cons.mpr ⟨ip_s_aload_n hx hb dX1_litresNeeded_2 rfl rfl, ?_⟩
  refine List.forall_mem_cons.mpr ⟨ip_s_gI hx hb hts hin1 hown rfl (by decide) 3 (by decide) (hts (.fieldLink RX1 24 "IcePads$Jet" "size" "I") (by decide +kernel)) (fun _ h9 => h9) rfl dX1_litresNeeded_3 rfl, ?_⟩
  refine List.forall_mem_cons.mpr ⟨ip_s_imul hx hb dX1_litresNeeded_6 rfl, ?_⟩
  refine List.forall_mem_cons.mpr ⟨ip_s_iret hx hb hr hlocks (Nat.le_of_ble_eq_true rfl) (Nat.le_of_ble_eq_true rfl) dX1_litresNeeded_7, ?_⟩
  exact fun _ h => absurd h List.not_mem_nil
set_option maxRecDepth 100000 in
set_option maxHeartbeats 4000000 in
theorem vX1_litresNeeded (a : Nat) (S : ip_S) (hS : ip_Sta S) (hp : (S.2.2.2 a).1 = 1 ∧ True) : ip_run (pX1_litresNeeded (postX1_litresNeeded [.inr (.inl (some a))] S)) (fun _ => false) (fun _ _ _ _ => False) 20 0 [some (.inr (.inl (some a)))] [] S := by
  refine And.intro hp.1 ?_
  exact And.intro rfl rfl
theorem ctX1_litresNeeded (l : Launch) : ip_CT l yX1_litresNeeded wsX1_litresNeeded rmX1_litresNeeded ip_Sta preX1_litresNeeded postX1_litresNeeded := by
  refine ip_of (cc := cX1_litresNeeded) (maxL := 1) (ret := (some .int)) (by decide +kernel) rfl (fun _ => (0, 0)) rfl ?_ ?_
  · intro as S h
    obtain ⟨a, rfl, hq⟩ := ip_e_r h
    exact ⟨Nat.le_of_ble_eq_true rfl, by simp⟩
  intro p e s m args below meth c D cA A ad0 as S h hI hx hb hml hown hts hr hlocks hname hA hNx
  obtain ⟨a, rfl, hq⟩ := ip_e_r h
  refine ip_run_ok (stop := fun _ => false) (tX1_litresNeeded hx hb hml hown hts hr hlocks hname hA hNx) (fun _ _ _ _ h => False.elim h) 20 0 _ _ S ?_
  exact vX1_litresNeeded a S hI hq

def preX1_drainNeeded : List ip_V → ip_S → Prop := ip_h_r (fun _ => False) (fun a S => (S.2.2.2 a).1 = 1 ∧ True)
def postX1_drainNeeded : List ip_V → ip_S → List ip_V → ip_S → Prop := ip_h_r (fun _ _ _ => True) (fun a S r S' => r = [.inl (8 * S.1 a 3)] ∧ S' = S)
theorem shX1_drainNeeded : ∀ as S, ip_Sta S → preX1_drainNeeded as S → ∃ (b : Nat) (as' : List ip_V), as = .inr (.inl (some b)) :: as' ∧ as'.length = 0 ∧ (S.2.2.2 b).1 = 1 := by
  intro as S hI h
  obtain ⟨a, rfl, hq⟩ := ip_e_r h
  exact ⟨_, _, rfl, rfl, hq.1⟩
def rmX1_drainNeeded : Room := { frames := 1, cells := 0, slots := 0, locals := 40 }
def pX1_drainNeeded (po : List ip_V → ip_S → Prop) : List (Nat × ip_T) := [(0, ip_t_ci 8 2), (2, ip_t_ar 0 3), (3, ip_t_gI 1 3 6), (6, ip_t_imul 7), (7, ip_t_iret po)]
set_option maxRecDepth 100000 in
set_option maxHeartbeats 4000000 in
theorem tX1_drainNeeded {p : Program} {l : Launch} {e : Env} {s : State} {m : MethodId} {args : Array Value} {below : List Frame} {meth : Method} {c : Code} {D : va_G} {cA : Nat → ClassId} {A : Nat → Prop} {ad0 : Nat → Nat} {S0 : ip_S} {po : List ip_V → ip_S → Prop} (hx : p.tables.exec = Jvm.exec) (hb : c.code = cX1_drainNeeded) (hml : c.maxLocals = 1) (hown : s.vm.findClass RX1 = some m.cls) (hts : ∀ w ∈ wsX1_drainNeeded, w.before args s = true) (hr : meth.sig.returnType = (some .int)) (hlocks : meth.locks = false) (hname : meth.name = yX1_drainNeeded.name) (hA : ∀ q, s.heap.size ≤ q → A q) (hNx : ip_Nx s) : ∀ q ∈ pX1_drainNeeded po, ip_snd p l e rmX1_drainNeeded s m args below meth c D cA A (MQ below (ip_Q ip_Sta D cA ad0 S0 A po) args s 0 0 A) 1 (fun _ => (0, 0)) ip_Sta ad0 S0 q.1 q.2 := by
  have hIs : ∀ S, ip_Sta S → ip_Sta S := fun _ h => h
  have hIn := ip_In_Sta
  have hS9 : CallFix p m c cX1_drainNeeded 1 s args wsX1_drainNeeded RX1 := ⟨hx, hb, hml, hown, hts⟩
  have hin1 : ∀ w ∈ u_ws RX1 TX1 11, w ∈ wsX1_drainNeeded := by decide +kernel
  refine List.forall_mem_cons.mpr ⟨ip_s_bipush hx hb dX1_drainNeeded_0 rfl rfl, ?_⟩
  refine List.forall_mem_cons.mpr ⟨ip_s_aload_n hx hb dX1_drainNeeded_2 rfl rfl, ?_⟩
  refine List.forall_mem_cons.mpr ⟨ip_s_gI hx hb hts hin1 hown rfl (by decide) 3 (by decide) (hts (.fieldLink RX1 24 "IcePads$Jet" "size" "I") (by decide +kernel)) (fun _ h9 => h9) rfl dX1_drainNeeded_3 rfl, ?_⟩
  refine List.forall_mem_cons.mpr ⟨ip_s_imul hx hb dX1_drainNeeded_6 rfl, ?_⟩
  refine List.forall_mem_cons.mpr ⟨ip_s_iret hx hb hr hlocks (Nat.le_of_ble_eq_true rfl) (Nat.le_of_ble_eq_true rfl) dX1_drainNeeded_7, ?_⟩
  exact fun _ h => absurd h List.not_mem_nil
set_option maxRecDepth 100000 in
set_option maxHeartbeats 4000000 in
theorem vX1_drainNeeded (a : Nat) (S : ip_S) (hS : ip_Sta S) (hp : (S.2.2.2 a).1 = 1 ∧ True) : ip_run (pX1_drainNeeded (postX1_drainNeeded [.inr (.inl (some a))] S)) (fun _ => false) (fun _ _ _ _ => False) 20 0 [some (.inr (.inl (some a)))] [] S := by
  refine And.intro hp.1 ?_
  exact And.intro rfl rfl
theorem ctX1_drainNeeded (l : Launch) : ip_CT l yX1_drainNeeded wsX1_drainNeeded rmX1_drainNeeded ip_Sta preX1_drainNeeded postX1_drainNeeded := by
  refine ip_of (cc := cX1_drainNeeded) (maxL := 1) (ret := (some .int)) (by decide +kernel) rfl (fun _ => (0, 0)) rfl ?_ ?_
  · intro as S h
    obtain ⟨a, rfl, hq⟩ := ip_e_r h
    exact ⟨Nat.le_of_ble_eq_true rfl, by simp⟩
  intro p e s m args below meth c D cA A ad0 as S h hI hx hb hml hown hts hr hlocks hname hA hNx
  obtain ⟨a, rfl, hq⟩ := ip_e_r h
  refine ip_run_ok (stop := fun _ => false) (tX1_drainNeeded hx hb hml hown hts hr hlocks hname hA hNx) (fun _ _ _ _ h => False.elim h) 20 0 _ _ S ?_
  exact vX1_drainNeeded a S hI hq

def preX1_begin : List ip_V → ip_S → Prop := ip_h_riii (fun _ => False) (fun a pad mi ho S => (S.2.2.2 a).1 = 1 ∧ True)
def postX1_begin : List ip_V → ip_S → List ip_V → ip_S → Prop := ip_h_riii (fun _ _ _ => True) (fun a pad mi ho S r S' => r = [] ∧ S' = ip_sI (ip_sI (ip_sI S a 6 pad) a 7 mi) a 10 (mi + ho))
theorem shX1_begin : ∀ as S, ip_Sta S → preX1_begin as S → ∃ (b : Nat) (as' : List ip_V), as = .inr (.inl (some b)) :: as' ∧ as'.length = 3 ∧ (S.2.2.2 b).1 = 1 := by
  intro as S hI h
  obtain ⟨a, pad, mi, ho, rfl, hq⟩ := ip_e_riii h
  exact ⟨_, _, rfl, rfl, hq.1⟩
def rmX1_begin : Room := { frames := 1, cells := 0, slots := 0, locals := 40 }
def pX1_begin (po : List ip_V → ip_S → Prop) : List (Nat × ip_T) := [(0, ip_t_ar 0 1), (1, ip_t_il 1 2), (2, ip_t_pI 1 6 5), (5, ip_t_ar 0 6), (6, ip_t_il 2 7), (7, ip_t_pI 1 7 10), (10, ip_t_ar 0 11), (11, ip_t_il 2 12), (12, ip_t_il 3 13), (13, ip_t_iadd 14), (14, ip_t_pI 1 10 17), (17, ip_t_vret po)]
set_option maxRecDepth 100000 in
set_option maxHeartbeats 4000000 in
theorem tX1_begin {p : Program} {l : Launch} {e : Env} {s : State} {m : MethodId} {args : Array Value} {below : List Frame} {meth : Method} {c : Code} {D : va_G} {cA : Nat → ClassId} {A : Nat → Prop} {ad0 : Nat → Nat} {S0 : ip_S} {po : List ip_V → ip_S → Prop} (hx : p.tables.exec = Jvm.exec) (hb : c.code = cX1_begin) (hml : c.maxLocals = 4) (hown : s.vm.findClass RX1 = some m.cls) (hts : ∀ w ∈ wsX1_begin, w.before args s = true) (hr : meth.sig.returnType = none) (hlocks : meth.locks = false) (hname : meth.name = yX1_begin.name) (hA : ∀ q, s.heap.size ≤ q → A q) (hNx : ip_Nx s) : ∀ q ∈ pX1_begin po, ip_snd p l e rmX1_begin s m args below meth c D cA A (MQ below (ip_Q ip_Sta D cA ad0 S0 A po) args s 0 0 A) 4 (fun _ => (0, 0)) ip_Sta ad0 S0 q.1 q.2 := by
  have hIs : ∀ S, ip_Sta S → ip_Sta S := fun _ h => h
  have hIn := ip_In_Sta
  have hS9 : CallFix p m c cX1_begin 4 s args wsX1_begin RX1 := ⟨hx, hb, hml, hown, hts⟩
  have hin1 : ∀ w ∈ u_ws RX1 TX1 11, w ∈ wsX1_begin := by decide +kernel
  refine List.forall_mem_cons.mpr ⟨ip_s_aload_n hx hb dX1_begin_0 rfl rfl, ?_⟩
  refine List.forall_mem_cons.mpr ⟨ip_s_iload_n hx hb dX1_begin_1 rfl rfl, ?_⟩
  refine List.forall_mem_cons.mpr ⟨ip_s_pI hx hb hts hin1 hown rfl (by decide) 6 (by decide) (hts (.fieldLink RX1 9 "IcePads$Jet" "pad" "I") (by decide +kernel)) (fun _ h9 => h9) tyX1 tyX1_ok nmX1 hIn rfl rfl (by decide +kernel) dX1_begin_2 rfl, ?_⟩
  refine List.forall_mem_cons.mpr ⟨ip_s_aload_n hx hb dX1_begin_5 rfl rfl, ?_⟩
  refine List.forall_mem_cons.mpr ⟨ip_s_iload_n hx hb dX1_begin_6 rfl rfl, ?_⟩
  refine List.forall_mem_cons.mpr ⟨ip_s_pI hx hb hts hin1 hown rfl (by decide) 7 (by decide) (hts (.fieldLink RX1 15 "IcePads$Jet" "start" "I") (by decide +kernel)) (fun _ h9 => h9) tyX1 tyX1_ok nmX1 hIn rfl rfl (by decide +kernel) dX1_begin_7 rfl, ?_⟩
  refine List.forall_mem_cons.mpr ⟨ip_s_aload_n hx hb dX1_begin_10 rfl rfl, ?_⟩
  refine List.forall_mem_cons.mpr ⟨ip_s_iload_n hx hb dX1_begin_11 rfl rfl, ?_⟩
  refine List.forall_mem_cons.mpr ⟨ip_s_iload_n hx hb dX1_begin_12 rfl rfl, ?_⟩
  refine List.forall_mem_cons.mpr ⟨ip_s_iadd hx hb dX1_begin_13 rfl, ?_⟩
  refine List.forall_mem_cons.mpr ⟨ip_s_pI hx hb hts hin1 hown rfl (by decide) 10 (by decide) (hts (.fieldLink RX1 44 "IcePads$Jet" "holdsTill" "I") (by decide +kernel)) (fun _ h9 => h9) tyX1 tyX1_ok nmX1 hIn rfl rfl (by decide +kernel) dX1_begin_14 rfl, ?_⟩
  refine List.forall_mem_cons.mpr ⟨ip_s_vret hx hb hr hlocks (Nat.le_of_ble_eq_true rfl) (Nat.le_of_ble_eq_true rfl) dX1_begin_17, ?_⟩
  exact fun _ h => absurd h List.not_mem_nil
set_option maxRecDepth 100000 in
set_option maxHeartbeats 4000000 in
theorem vX1_begin (a : Nat) (pad : Int32) (mi : Int32) (ho : Int32) (S : ip_S) (hS : ip_Sta S) (hp : (S.2.2.2 a).1 = 1 ∧ True) : ip_run (pX1_begin (postX1_begin [.inr (.inl (some a)), .inl pad, .inl mi, .inl ho] S)) (fun _ => false) (fun _ _ _ _ => False) 30 0 [some (.inr (.inl (some a))), some (.inl pad), some (.inl mi), some (.inl ho)] [] S := by
  refine And.intro hp.1 ?_
  refine And.intro hp.1 ?_
  refine And.intro hp.1 ?_
  exact And.intro rfl rfl
theorem ctX1_begin (l : Launch) : ip_CT l yX1_begin wsX1_begin rmX1_begin ip_Sta preX1_begin postX1_begin := by
  refine ip_of (cc := cX1_begin) (maxL := 4) (ret := none) (by decide +kernel) rfl (fun _ => (0, 0)) rfl ?_ ?_
  · intro as S h
    obtain ⟨a, pad, mi, ho, rfl, hq⟩ := ip_e_riii h
    exact ⟨Nat.le_of_ble_eq_true rfl, by simp⟩
  intro p e s m args below meth c D cA A ad0 as S h hI hx hb hml hown hts hr hlocks hname hA hNx
  obtain ⟨a, pad, mi, ho, rfl, hq⟩ := ip_e_riii h
  refine ip_run_ok (stop := fun _ => false) (tX1_begin hx hb hml hown hts hr hlocks hname hA hNx) (fun _ _ _ _ h => False.elim h) 30 0 _ _ S ?_
  exact vX1_begin a pad mi ho S hI hq

def preX1_leave : List ip_V → ip_S → Prop := ip_h_ri (fun _ => False) (fun a mi S => (S.2.2.2 a).1 = 1 ∧ True)
def postX1_leave : List ip_V → ip_S → List ip_V → ip_S → Prop := ip_h_ri (fun _ _ _ => True) (fun a mi S r S' => r = [] ∧ S' = (if mi + S.1 a 4 ≤ S.1 a 10 then ip_sI (ip_sI S a 6 (-900)) a 8 (mi + S.1 a 4) else ip_sI (ip_sI (ip_sI S a 6 (-900)) a 5 (mi + S.1 a 4)) a 9 (S.1 a 9 + 1)))
theorem shX1_leave : ∀ as S, ip_Sta S → preX1_leave as S → ∃ (b : Nat) (as' : List ip_V), as = .inr (.inl (some b)) :: as' ∧ as'.length = 1 ∧ (S.2.2.2 b).1 = 1 := by
  intro as S hI h
  obtain ⟨a, mi, rfl, hq⟩ := ip_e_ri h
  exact ⟨_, _, rfl, rfl, hq.1⟩
def rmX1_leave : Room := { frames := 1, cells := 0, slots := 0, locals := 40 }
def pX1_leave (po : List ip_V → ip_S → Prop) : List (Nat × ip_T) := [(0, ip_t_il 1 1), (1, ip_t_ar 0 2), (2, ip_t_gI 1 4 5), (5, ip_t_iadd 6), (6, ip_t_is 2 7), (7, ip_t_ar 0 8), (8, ip_t_ci (-900) 11), (11, ip_t_pI 1 6 14), (14, ip_t_il 2 15), (15, ip_t_ar 0 16), (16, ip_t_gI 1 10 19), (19, ip_t_icgt 30 22), (22, ip_t_ar 0 23), (23, ip_t_il 2 24), (24, ip_t_pI 1 8 27), (27, ip_t_go 45), (30, ip_t_ar 0 31), (31, ip_t_il 2 32), (32, ip_t_pI 1 5 35), (35, ip_t_ar 0 36), (36, ip_t_dup 37), (37, ip_t_gI 1 9 40), (40, ip_t_ci 1 41), (41, ip_t_iadd 42), (42, ip_t_pI 1 9 45), (45, ip_t_vret po)]
set_option maxRecDepth 100000 in
set_option maxHeartbeats 4000000 in
theorem tX1_leave {p : Program} {l : Launch} {e : Env} {s : State} {m : MethodId} {args : Array Value} {below : List Frame} {meth : Method} {c : Code} {D : va_G} {cA : Nat → ClassId} {A : Nat → Prop} {ad0 : Nat → Nat} {S0 : ip_S} {po : List ip_V → ip_S → Prop} (hx : p.tables.exec = Jvm.exec) (hb : c.code = cX1_leave) (hml : c.maxLocals = 3) (hown : s.vm.findClass RX1 = some m.cls) (hts : ∀ w ∈ wsX1_leave, w.before args s = true) (hr : meth.sig.returnType = none) (hlocks : meth.locks = false) (hname : meth.name = yX1_leave.name) (hA : ∀ q, s.heap.size ≤ q → A q) (hNx : ip_Nx s) : ∀ q ∈ pX1_leave po, ip_snd p l e rmX1_leave s m args below meth c D cA A (MQ below (ip_Q ip_Sta D cA ad0 S0 A po) args s 0 0 A) 3 (fun _ => (0, 0)) ip_Sta ad0 S0 q.1 q.2 := by
  have hIs : ∀ S, ip_Sta S → ip_Sta S := fun _ h => h
  have hIn := ip_In_Sta
  have hS9 : CallFix p m c cX1_leave 3 s args wsX1_leave RX1 := ⟨hx, hb, hml, hown, hts⟩
  have hin1 : ∀ w ∈ u_ws RX1 TX1 11, w ∈ wsX1_leave := by decide +kernel
  refine List.forall_mem_cons.mpr ⟨ip_s_iload_n hx hb dX1_leave_0 rfl rfl, ?_⟩
  refine List.forall_mem_cons.mpr ⟨ip_s_aload_n hx hb dX1_leave_1 rfl rfl, ?_⟩
  refine List.forall_mem_cons.mpr ⟨ip_s_gI hx hb hts hin1 hown rfl (by decide) 4 (by decide) (hts (.fieldLink RX1 33 "IcePads$Jet" "roll" "I") (by decide +kernel)) (fun _ h9 => h9) rfl dX1_leave_2 rfl, ?_⟩
  refine List.forall_mem_cons.mpr ⟨ip_s_iadd hx hb dX1_leave_5 rfl, ?_⟩
  refine List.forall_mem_cons.mpr ⟨ip_s_istore_n hx hb dX1_leave_6 rfl (by decide) rfl, ?_⟩
  refine List.forall_mem_cons.mpr ⟨ip_s_aload_n hx hb dX1_leave_7 rfl rfl, ?_⟩
  refine List.forall_mem_cons.mpr ⟨ip_s_sipush hx hb dX1_leave_8 rfl rfl, ?_⟩
  refine List.forall_mem_cons.mpr ⟨ip_s_pI hx hb hts hin1 hown rfl (by decide) 6 (by decide) (hts (.fieldLink RX1 9 "IcePads$Jet" "pad" "I") (by decide +kernel)) (fun _ h9 => h9) tyX1 tyX1_ok nmX1 hIn rfl rfl (by decide +kernel) dX1_leave_11 rfl, ?_⟩
  refine List.forall_mem_cons.mpr ⟨ip_s_iload_n hx hb dX1_leave_14 rfl rfl, ?_⟩
  refine List.forall_mem_cons.mpr ⟨ip_s_aload_n hx hb dX1_leave_15 rfl rfl, ?_⟩
  refine List.forall_mem_cons.mpr ⟨ip_s_gI hx hb hts hin1 hown rfl (by decide) 10 (by decide) (hts (.fieldLink RX1 44 "IcePads$Jet" "holdsTill" "I") (by decide +kernel)) (fun _ h9 => h9) rfl dX1_leave_16 rfl, ?_⟩
  refine List.forall_mem_cons.mpr ⟨ip_s_icgt (t := 30) hx hb dX1_leave_19 (by decide) rfl rfl, ?_⟩
  refine List.forall_mem_cons.mpr ⟨ip_s_aload_n hx hb dX1_leave_22 rfl rfl, ?_⟩
  refine List.forall_mem_cons.mpr ⟨ip_s_iload_n hx hb dX1_leave_23 rfl rfl, ?_⟩
  refine List.forall_mem_cons.mpr ⟨ip_s_pI hx hb hts hin1 hown rfl (by decide) 8 (by decide) (hts (.fieldLink RX1 18 "IcePads$Jet" "flew" "I") (by decide +kernel)) (fun _ h9 => h9) tyX1 tyX1_ok nmX1 hIn rfl rfl (by decide +kernel) dX1_leave_24 rfl, ?_⟩
  refine List.forall_mem_cons.mpr ⟨ip_s_go (t := 45) hx hb dX1_leave_27 (by decide) (Nat.le_of_ble_eq_true rfl) (Nat.le_of_ble_eq_true rfl), ?_⟩
  refine List.forall_mem_cons.mpr ⟨ip_s_aload_n hx hb dX1_leave_30 rfl rfl, ?_⟩
  refine List.forall_mem_cons.mpr ⟨ip_s_iload_n hx hb dX1_leave_31 rfl rfl, ?_⟩
  refine List.forall_mem_cons.mpr ⟨ip_s_pI hx hb hts hin1 hown rfl (by decide) 5 (by decide) (hts (.fieldLink RX1 30 "IcePads$Jet" "ready" "I") (by decide +kernel)) (fun _ h9 => h9) tyX1 tyX1_ok nmX1 hIn rfl rfl (by decide +kernel) dX1_leave_32 rfl, ?_⟩
  refine List.forall_mem_cons.mpr ⟨ip_s_aload_n hx hb dX1_leave_35 rfl rfl, ?_⟩
  refine List.forall_mem_cons.mpr ⟨ip_s_dup hx hb dX1_leave_36 rfl, ?_⟩
  refine List.forall_mem_cons.mpr ⟨ip_s_gI hx hb hts hin1 hown rfl (by decide) 9 (by decide) (hts (.fieldLink RX1 47 "IcePads$Jet" "turnsBack" "I") (by decide +kernel)) (fun _ h9 => h9) rfl dX1_leave_37 rfl, ?_⟩
  refine List.forall_mem_cons.mpr ⟨ip_s_iconst hx hb dX1_leave_40 rfl rfl, ?_⟩
  refine List.forall_mem_cons.mpr ⟨ip_s_iadd hx hb dX1_leave_41 rfl, ?_⟩
  refine List.forall_mem_cons.mpr ⟨ip_s_pI hx hb hts hin1 hown rfl (by decide) 9 (by decide) (hts (.fieldLink RX1 47 "IcePads$Jet" "turnsBack" "I") (by decide +kernel)) (fun _ h9 => h9) tyX1 tyX1_ok nmX1 hIn rfl rfl (by decide +kernel) dX1_leave_42 rfl, ?_⟩
  refine List.forall_mem_cons.mpr ⟨ip_s_vret hx hb hr hlocks (Nat.le_of_ble_eq_true rfl) (Nat.le_of_ble_eq_true rfl) dX1_leave_45, ?_⟩
  exact fun _ h => absurd h List.not_mem_nil
set_option maxRecDepth 100000 in
set_option maxHeartbeats 4000000 in
theorem vX1_leave (a : Nat) (mi : Int32) (S : ip_S) (hS : ip_Sta S) (hp : (S.2.2.2 a).1 = 1 ∧ True) : ip_run (pX1_leave (postX1_leave [.inr (.inl (some a)), .inl mi] S)) (fun _ => false) (fun _ _ _ _ => False) 50 0 [some (.inr (.inl (some a))), some (.inl mi), none] [] S := by
  refine And.intro hp.1 ?_
  refine And.intro hp.1 ?_
  refine And.intro hp.1 ?_
  refine And.intro (fun h1 => ?_) (fun h1 => ?_)
  · rw [ip_sI_k (by decide)] at h1
    refine And.intro hp.1 ?_
    refine And.intro hp.1 ?_
    refine And.intro hp.1 ?_
    refine And.intro rfl ?_
    rw [if_neg (Int32.not_le.mpr h1), ip_sI_k (by decide), ip_sI_k (by decide)]
  · rw [ip_sI_k (by decide)] at h1
    refine And.intro hp.1 ?_
    refine And.intro rfl ?_
    rw [if_pos (Int32.not_lt.mp h1)]
theorem ctX1_leave (l : Launch) : ip_CT l yX1_leave wsX1_leave rmX1_leave ip_Sta preX1_leave postX1_leave := by
  refine ip_of (cc := cX1_leave) (maxL := 3) (ret := none) (by decide +kernel) rfl (fun _ => (0, 0)) rfl ?_ ?_
  · intro as S h
    obtain ⟨a, mi, rfl, hq⟩ := ip_e_ri h
    exact ⟨Nat.le_of_ble_eq_true rfl, by simp⟩
  intro p e s m args below meth c D cA A ad0 as S h hI hx hb hml hown hts hr hlocks hname hA hNx
  obtain ⟨a, mi, rfl, hq⟩ := ip_e_ri h
  refine ip_run_ok (stop := fun _ => false) (tX1_leave hx hb hml hown hts hr hlocks hname hA hNx) (fun _ _ _ _ h => False.elim h) 50 0 _ _ S ?_
  exact vX1_leave a mi S hI hq

def preX1_late : List ip_V → ip_S → Prop := ip_h_r (fun _ => False) (fun a S => (S.2.2.2 a).1 = 1 ∧ True)
def postX1_late : List ip_V → ip_S → List ip_V → ip_S → Prop := ip_h_r (fun _ _ _ => True) (fun a S r S' => r = [.inl (S.1 a 8 - S.1 a 1 - 2 * S.1 a 3 - S.1 a 4)] ∧ S' = S)
theorem shX1_late : ∀ as S, ip_Sta S → preX1_late as S → ∃ (b : Nat) (as' : List ip_V), as = .inr (.inl (some b)) :: as' ∧ as'.length = 0 ∧ (S.2.2.2 b).1 = 1 := by
  intro as S hI h
  obtain ⟨a, rfl, hq⟩ := ip_e_r h
  exact ⟨_, _, rfl, rfl, hq.1⟩
def rmX1_late : Room := { frames := 2, cells := 0, slots := 0, locals := 80 }
def pX1_late (po : List ip_V → ip_S → Prop) : List (Nat × ip_T) := [(0, ip_t_ar 0 1), (1, ip_t_gI 1 8 4), (4, ip_t_ar 0 5), (5, ip_t_gI 1 1 8), (8, ip_t_isub 9), (9, ip_t_ar 0 10), (10, ip_t_call 1 preX1_treatment postX1_treatment 13), (13, ip_t_isub 14), (14, ip_t_ar 0 15), (15, ip_t_gI 1 4 18), (18, ip_t_isub 19), (19, ip_t_iret po)]
set_option maxRecDepth 100000 in
set_option maxHeartbeats 4000000 in
theorem tX1_late {p : Program} {l : Launch} {e : Env} {s : State} {m : MethodId} {args : Array Value} {below : List Frame} {meth : Method} {c : Code} {D : va_G} {cA : Nat → ClassId} {A : Nat → Prop} {ad0 : Nat → Nat} {S0 : ip_S} {po : List ip_V → ip_S → Prop} (hx : p.tables.exec = Jvm.exec) (hb : c.code = cX1_late) (hml : c.maxLocals = 1) (hown : s.vm.findClass RX1 = some m.cls) (hts : ∀ w ∈ wsX1_late, w.before args s = true) (hr : meth.sig.returnType = (some .int)) (hlocks : meth.locks = false) (hname : meth.name = yX1_late.name) (hA : ∀ q, s.heap.size ≤ q → A q) (hNx : ip_Nx s) : ∀ q ∈ pX1_late po, ip_snd p l e rmX1_late s m args below meth c D cA A (MQ below (ip_Q ip_Sta D cA ad0 S0 A po) args s 0 0 A) 1 (fun _ => (0, 0)) ip_Sta ad0 S0 q.1 q.2 := by
  have hIs : ∀ S, ip_Sta S → ip_Sta S := fun _ h => h
  have hIn := ip_In_Sta
  have hS9 : CallFix p m c cX1_late 1 s args wsX1_late RX1 := ⟨hx, hb, hml, hown, hts⟩
  have hin1 : ∀ w ∈ u_ws RX1 TX1 11, w ∈ wsX1_late := by decide +kernel
  refine List.forall_mem_cons.mpr ⟨ip_s_aload_n hx hb dX1_late_0 rfl rfl, ?_⟩
  refine List.forall_mem_cons.mpr ⟨ip_s_gI hx hb hts hin1 hown rfl (by decide) 8 (by decide) (hts (.fieldLink RX1 18 "IcePads$Jet" "flew" "I") (by decide +kernel)) (fun _ h9 => h9) rfl dX1_late_1 rfl, ?_⟩
  refine List.forall_mem_cons.mpr ⟨ip_s_aload_n hx hb dX1_late_4 rfl rfl, ?_⟩
  refine List.forall_mem_cons.mpr ⟨ip_s_gI hx hb hts hin1 hown rfl (by decide) 1 (by decide) (hts (.fieldLink RX1 27 "IcePads$Jet" "firstReady" "I") (by decide +kernel)) (fun _ h9 => h9) rfl dX1_late_5 rfl, ?_⟩
  refine List.forall_mem_cons.mpr ⟨ip_s_isub hx hb dX1_late_8 rfl, ?_⟩
  refine List.forall_mem_cons.mpr ⟨ip_s_aload_n hx hb dX1_late_9 rfl rfl, ?_⟩
  refine List.forall_mem_cons.mpr ⟨ip_s_callV hNx hS9 (ctX1_treatment l) (cwV 0 hts gX1_late_X1_treatment rfl rfl rfl (by decide +kernel) ⟨Nat.le_of_ble_eq_true rfl, Nat.le_of_ble_eq_true rfl⟩) (ci := 1) rfl rfl (by decide) (fun as S hI h => shX1_treatment as S hI h) hA dX1_late_10 ⟨Nat.le_of_ble_eq_true rfl, Nat.le_of_ble_eq_true rfl⟩ rfl, ?_⟩
  refine List.forall_mem_cons.mpr ⟨ip_s_isub hx hb dX1_late_13 rfl, ?_⟩
  refine List.forall_mem_cons.mpr ⟨ip_s_aload_n hx hb dX1_late_14 rfl rfl, ?_⟩
  refine List.forall_mem_cons.mpr ⟨ip_s_gI hx hb hts hin1 hown rfl (by decide) 4 (by decide) (hts (.fieldLink RX1 33 "IcePads$Jet" "roll" "I") (by decide +kernel)) (fun _ h9 => h9) rfl dX1_late_15 rfl, ?_⟩
  refine List.forall_mem_cons.mpr ⟨ip_s_isub hx hb dX1_late_18 rfl, ?_⟩
  refine List.forall_mem_cons.mpr ⟨ip_s_iret hx hb hr hlocks (Nat.le_of_ble_eq_true rfl) (Nat.le_of_ble_eq_true rfl) dX1_late_19, ?_⟩
  exact fun _ h => absurd h List.not_mem_nil
set_option maxRecDepth 100000 in
set_option maxHeartbeats 4000000 in
theorem vX1_late (a : Nat) (S : ip_S) (hS : ip_Sta S) (hp : (S.2.2.2 a).1 = 1 ∧ True) : ip_run (pX1_late (postX1_late [.inr (.inl (some a))] S)) (fun _ => false) (fun _ _ _ _ => False) 30 0 [some (.inr (.inl (some a)))] [] S := by
  refine And.intro hp.1 ?_
  refine And.intro hp.1 ?_
  refine And.intro hp ?_
  rintro r S' ⟨rfl, rfl⟩
  refine And.intro hp.1 ?_
  exact And.intro rfl rfl
theorem ctX1_late (l : Launch) : ip_CT l yX1_late wsX1_late rmX1_late ip_Sta preX1_late postX1_late := by
  refine ip_of (cc := cX1_late) (maxL := 1) (ret := (some .int)) (by decide +kernel) rfl (fun _ => (0, 0)) rfl ?_ ?_
  · intro as S h
    obtain ⟨a, rfl, hq⟩ := ip_e_r h
    exact ⟨Nat.le_of_ble_eq_true rfl, by simp⟩
  intro p e s m args below meth c D cA A ad0 as S h hI hx hb hml hown hts hr hlocks hname hA hNx
  obtain ⟨a, rfl, hq⟩ := ip_e_r h
  refine ip_run_ok (stop := fun _ => false) (tX1_late hx hb hml hown hts hr hlocks hname hA hNx) (fun _ _ _ _ h => False.elim h) 30 0 _ _ S ?_
  exact vX1_late a S hI hq
end
section
/-! the weather and the holds, as numbers -/
def ip_cL (T C : Nat → Int32) (n : Nat) : Nat → Option Int32
  | 0 => none
  | b + 1 => if b + 1 ≤ n ∧ ¬ T (n - (b + 1)) = 0 then (match ip_cL T C n b with
    | none => some (C (n - (b + 1)))
    | some v => some (if C (n - (b + 1)) < v then C (n - (b + 1)) else v)) else ip_cL T C n b
def ip_cold (T C : Nat → Int32) (n : Nat) : Int32 := if T n = 0 then (ip_cL T C n 30).getD 0 else C n
def ip_fL (T F : Nat → Int32) (n : Nat) : Nat → Int32
  | 0 => 0
  | b + 1 => if b + 1 ≤ n ∧ ¬ T (n - (b + 1)) = 0 then (if ip_fL T F n b < F (n - (b + 1)) then F (n - (b + 1)) else ip_fL T F n b) else ip_fL T F n b
def ip_fall (T F : Nat → Int32) (n : Nat) : Int32 := if T n = 0 then ip_fL T F n 30 else F n
def ip_thin (sp cold : Int32) : Int32 := if cold < -10 then sp / 2 else sp
def ip_hold (kind times parts sp cold : Int32) : Int32 := if kind = 0 then ip_thin sp cold else if kind = 1 then ip_thin sp cold * times else ip_thin sp cold * times * parts / 10
theorem ip_mi {m : Int32} (h : 0 ≤ m ∧ m ≤ 299) : ∃ n, n < 300 ∧ m = nI n := by
  obtain ⟨j, h1, h2⟩ := nI_of2 (M := 299) (n := 299) rfl (Int32.not_lt.mpr h.1) h.2
  exact ⟨j, by omega, h2⟩
theorem ip_mi' {n : Nat} (h : n < 300) : 0 ≤ nI n ∧ nI n ≤ 299 := ⟨nI_pos' (by omega), nI_le (b := 299) (by omega) (by omega)⟩

def preX0_thinHold : List ip_V → ip_S → Prop := ip_h_rii (fun _ => False) (fun a cold fall S => (S.2.2.2 a).1 = 0 ∧ S.2.1 a 1 = some (a + 4) ∧ S.2.2.2 (a + 4) = (6, 4) ∧ 0 ≤ fall ∧ fall ≤ 3)
def postX0_thinHold : List ip_V → ip_S → List ip_V → ip_S → Prop := ip_h_rii (fun _ _ _ => True) (fun a cold fall S r S' => r = [.inl (ip_thin (S.1 (a + 4) fall.toNatClampNeg) cold)] ∧ S' = S)
theorem shX0_thinHold : ∀ as S, ip_Sta S → preX0_thinHold as S → ∃ (b : Nat) (as' : List ip_V), as = .inr (.inl (some b)) :: as' ∧ as'.length = 2 ∧ (S.2.2.2 b).1 = 0 := by
  intro as S hI h
  obtain ⟨a, cold, fall, rfl, hq⟩ := ip_e_rii h
  exact ⟨_, _, rfl, rfl, hq.1⟩
def rmX0_thinHold : Room := { frames := 1, cells := 0, slots := 0, locals := 40 }
def pX0_thinHold (po : List ip_V → ip_S → Prop) : List (Nat × ip_T) := [(0, ip_t_il 2 1), (1, ip_t_iflt 13 4), (4, ip_t_il 2 5), (5, ip_t_ar 0 6), (6, ip_t_gR 0 1 9), (9, ip_t_lenD 10), (10, ip_t_iclt 15 13), (13, ip_t_ci 0 14), (14, ip_t_iret po), (15, ip_t_il 1 16), (16, ip_t_ci (-10) 18), (18, ip_t_icge 32 21), (21, ip_t_ar 0 22), (22, ip_t_gR 0 1 25), (25, ip_t_il 2 26), (26, ip_t_ldD 27), (27, ip_t_ci 2 28), (28, ip_t_idiv 29), (29, ip_t_go 38), (32, ip_t_ar 0 33), (33, ip_t_gR 0 1 36), (36, ip_t_il 2 37), (37, ip_t_ldD 38), (38, ip_t_iret po)]
set_option maxRecDepth 100000 in
set_option maxHeartbeats 4000000 in
theorem tX0_thinHold {p : Program} {l : Launch} {e : Env} {s : State} {m : MethodId} {args : Array Value} {below : List Frame} {meth : Method} {c : Code} {D : va_G} {cA : Nat → ClassId} {A : Nat → Prop} {ad0 : Nat → Nat} {S0 : ip_S} {po : List ip_V → ip_S → Prop} (hx : p.tables.exec = Jvm.exec) (hb : c.code = cX0_thinHold) (hml : c.maxLocals = 3) (hown : s.vm.findClass RX0 = some m.cls) (hts : ∀ w ∈ wsX0_thinHold, w.before args s = true) (hr : meth.sig.returnType = (some .int)) (hlocks : meth.locks = false) (hname : meth.name = yX0_thinHold.name) (hA : ∀ q, s.heap.size ≤ q → A q) (hNx : ip_Nx s) : ∀ q ∈ pX0_thinHold po, ip_snd p l e rmX0_thinHold s m args below meth c D cA A (MQ below (ip_Q ip_Sta D cA ad0 S0 A po) args s 0 0 A) 3 (fun _ => (0, 0)) ip_Sta ad0 S0 q.1 q.2 := by
  have hIs : ∀ S, ip_Sta S → ip_Sta S := fun _ h => h
  have hIn := ip_In_Sta
  have hS9 : CallFix p m c cX0_thinHold 3 s args wsX0_thinHold RX0 := ⟨hx, hb, hml, hown, hts⟩
  have hin0 : ∀ w ∈ u_ws RX0 TX0 5, w ∈ wsX0_thinHold := by decide +kernel
  refine List.forall_mem_cons.mpr ⟨ip_s_iload_n hx hb dX0_thinHold_0 rfl rfl, ?_⟩
  refine List.forall_mem_cons.mpr ⟨ip_s_iflt (t := 13) hx hb dX0_thinHold_1 (by decide) rfl rfl, ?_⟩
  refine List.forall_mem_cons.mpr ⟨ip_s_iload_n hx hb dX0_thinHold_4 rfl rfl, ?_⟩
  refine List.forall_mem_cons.mpr ⟨ip_s_aload_n hx hb dX0_thinHold_5 rfl rfl, ?_⟩
  refine List.forall_mem_cons.mpr ⟨ip_s_gR hx hb hts hin0 hown rfl (by decide) 1 (by decide) (hts (.fieldLink RX0 13 "IcePads$Fluid" "spans" "[I") (by decide +kernel)) (fun _ h9 => h9) rfl dX0_thinHold_6 rfl, ?_⟩
  refine List.forall_mem_cons.mpr ⟨ip_s_lenD hx hb dX0_thinHold_9 rfl, ?_⟩
  refine List.forall_mem_cons.mpr ⟨ip_s_iclt (t := 15) hx hb dX0_thinHold_10 (by decide) rfl rfl, ?_⟩
  refine List.forall_mem_cons.mpr ⟨ip_s_iconst hx hb dX0_thinHold_13 rfl rfl, ?_⟩
  refine List.forall_mem_cons.mpr ⟨ip_s_iret hx hb hr hlocks (Nat.le_of_ble_eq_true rfl) (Nat.le_of_ble_eq_true rfl) dX0_thinHold_14, ?_⟩
  refine List.forall_mem_cons.mpr ⟨ip_s_iload_n hx hb dX0_thinHold_15 rfl rfl, ?_⟩
  refine List.forall_mem_cons.mpr ⟨ip_s_bipush hx hb dX0_thinHold_16 rfl rfl, ?_⟩
  refine List.forall_mem_cons.mpr ⟨ip_s_icge (t := 32) hx hb dX0_thinHold_18 (by decide) rfl rfl, ?_⟩
  refine List.forall_mem_cons.mpr ⟨ip_s_aload_n hx hb dX0_thinHold_21 rfl rfl, ?_⟩
  refine List.forall_mem_cons.mpr ⟨ip_s_gR hx hb hts hin0 hown rfl (by decide) 1 (by decide) (hts (.fieldLink RX0 13 "IcePads$Fluid" "spans" "[I") (by decide +kernel)) (fun _ h9 => h9) rfl dX0_thinHold_22 rfl, ?_⟩
  refine List.forall_mem_cons.mpr ⟨ip_s_iload_n hx hb dX0_thinHold_25 rfl rfl, ?_⟩
  refine List.forall_mem_cons.mpr ⟨ip_s_ldD hx hb dX0_thinHold_26 rfl, ?_⟩
  refine List.forall_mem_cons.mpr ⟨ip_s_iconst hx hb dX0_thinHold_27 rfl rfl, ?_⟩
  refine List.forall_mem_cons.mpr ⟨ip_s_idiv hx hb dX0_thinHold_28 rfl, ?_⟩
  refine List.forall_mem_cons.mpr ⟨ip_s_go (t := 38) hx hb dX0_thinHold_29 (by decide) (Nat.le_of_ble_eq_true rfl) (Nat.le_of_ble_eq_true rfl), ?_⟩
  refine List.forall_mem_cons.mpr ⟨ip_s_aload_n hx hb dX0_thinHold_32 rfl rfl, ?_⟩
  refine List.forall_mem_cons.mpr ⟨ip_s_gR hx hb hts hin0 hown rfl (by decide) 1 (by decide) (hts (.fieldLink RX0 13 "IcePads$Fluid" "spans" "[I") (by decide +kernel)) (fun _ h9 => h9) rfl dX0_thinHold_33 rfl, ?_⟩
  refine List.forall_mem_cons.mpr ⟨ip_s_iload_n hx hb dX0_thinHold_36 rfl rfl, ?_⟩
  refine List.forall_mem_cons.mpr ⟨ip_s_ldD hx hb dX0_thinHold_37 rfl, ?_⟩
  refine List.forall_mem_cons.mpr ⟨ip_s_iret hx hb hr hlocks (Nat.le_of_ble_eq_true rfl) (Nat.le_of_ble_eq_true rfl) dX0_thinHold_38, ?_⟩
  exact fun _ h => absurd h List.not_mem_nil
set_option maxRecDepth 100000 in
set_option maxHeartbeats 4000000 in
theorem vX0_thinHold (a : Nat) (cold : Int32) (fall : Int32) (S : ip_S) (hS : ip_Sta S) (hp : (S.2.2.2 a).1 = 0 ∧ S.2.1 a 1 = some (a + 4) ∧ S.2.2.2 (a + 4) = (6, 4) ∧ 0 ≤ fall ∧ fall ≤ 3) : ip_run (pX0_thinHold (postX0_thinHold [.inr (.inl (some a)), .inl cold, .inl fall] S)) (fun _ => false) (fun _ _ _ _ => False) 40 0 [some (.inr (.inl (some a))), some (.inl cold), some (.inl fall)] [] S := by
  obtain ⟨h1, h2, h3, h4, h5⟩ := hp
  have hin : vp_in fall 4 := ip_in ⟨h4, h5⟩ rfl
  refine And.intro (fun q => absurd q (Int32.not_lt.mpr h4)) (fun _ => ?_)
  refine And.intro h1 (fun o ho => ?_)
  rw [h2] at ho
  subst ho
  refine Exists.intro 4 (And.intro h3 ?_)
  refine And.intro (fun _ => ?_) (fun q => absurd (Int32.lt_of_le_of_lt h5 (show (3 : Int32) < 4 by decide)) q)
  refine And.intro (fun q1 => ?_) (fun q1 => ?_)
  · refine And.intro h1 (fun o ho => ?_)
    rw [h2] at ho
    subst ho
    refine Exists.intro 4 (And.intro h3 (And.intro hin ?_))
    refine And.intro ?_ rfl
    unfold ip_thin
    rw [if_neg (Int32.not_lt.mpr q1)]
  · refine And.intro h1 (fun o ho => ?_)
    rw [h2] at ho
    subst ho
    refine Exists.intro 4 (And.intro h3 (And.intro hin ?_))
    refine And.intro (by decide) ?_
    refine And.intro ?_ rfl
    unfold ip_thin
    rw [if_pos (Int32.not_le.mp q1)]
theorem ctX0_thinHold (l : Launch) : ip_CT l yX0_thinHold wsX0_thinHold rmX0_thinHold ip_Sta preX0_thinHold postX0_thinHold := by
  refine ip_of (cc := cX0_thinHold) (maxL := 3) (ret := (some .int)) (by decide +kernel) rfl (fun _ => (0, 0)) rfl ?_ ?_
  · intro as S h
    obtain ⟨a, cold, fall, rfl, hq⟩ := ip_e_rii h
    exact ⟨Nat.le_of_ble_eq_true rfl, by simp⟩
  intro p e s m args below meth c D cA A ad0 as S h hI hx hb hml hown hts hr hlocks hname hA hNx
  obtain ⟨a, cold, fall, rfl, hq⟩ := ip_e_rii h
  refine ip_run_ok (stop := fun _ => false) (tX0_thinHold hx hb hml hown hts hr hlocks hname hA hNx) (fun _ _ _ _ h => False.elim h) 40 0 _ _ S ?_
  exact vX0_thinHold a cold fall S hI hq

def preX0_holds : List ip_V → ip_S → Prop := ip_h_rii (fun _ => False) (fun a cold fall S => (S.2.2.2 a).1 = 0 ∧ S.2.1 a 1 = some (a + 4) ∧ S.2.2.2 (a + 4) = (6, 4) ∧ 0 ≤ fall ∧ fall ≤ 3)
def postX0_holds : List ip_V → ip_S → List ip_V → ip_S → Prop := ip_h_rii (fun _ _ _ => True) (fun a cold fall S r S' => r = [.inl (ip_hold (S.1 a 0) (S.1 a 2) (S.1 a 3) (S.1 (a + 4) fall.toNatClampNeg) cold)] ∧ S' = S)
theorem shX0_holds : ∀ as S, ip_Sta S → preX0_holds as S → ∃ (b : Nat) (as' : List ip_V), as = .inr (.inl (some b)) :: as' ∧ as'.length = 2 ∧ (S.2.2.2 b).1 = 0 := by
  intro as S hI h
  obtain ⟨a, cold, fall, rfl, hq⟩ := ip_e_rii h
  exact ⟨_, _, rfl, rfl, hq.1⟩
def rmX0_holds : Room := { frames := 2, cells := 0, slots := 0, locals := 80 }
def pX0_holds (po : List ip_V → ip_S → Prop) : List (Nat × ip_T) := [(0, ip_t_ar 0 1), (1, ip_t_il 1 2), (2, ip_t_il 2 3), (3, ip_t_call 3 preX0_thinHold postX0_thinHold 6), (6, ip_t_is 3 7), (7, ip_t_ar 0 8), (8, ip_t_gI 0 0 11), (11, ip_t_ifne 16 14), (14, ip_t_il 3 15), (15, ip_t_iret po), (16, ip_t_il 3 17), (17, ip_t_ar 0 18), (18, ip_t_gI 0 2 21), (21, ip_t_imul 22), (22, ip_t_is 4 24), (24, ip_t_ar 0 25), (25, ip_t_gI 0 0 28), (28, ip_t_ci 1 29), (29, ip_t_icne 37 32), (32, ip_t_il 4 34), (34, ip_t_go 47), (37, ip_t_il 4 39), (39, ip_t_ar 0 40), (40, ip_t_gI 0 3 43), (43, ip_t_imul 44), (44, ip_t_ci 10 46), (46, ip_t_idiv 47), (47, ip_t_iret po)]
set_option maxRecDepth 100000 in
set_option maxHeartbeats 4000000 in
theorem tX0_holds {p : Program} {l : Launch} {e : Env} {s : State} {m : MethodId} {args : Array Value} {below : List Frame} {meth : Method} {c : Code} {D : va_G} {cA : Nat → ClassId} {A : Nat → Prop} {ad0 : Nat → Nat} {S0 : ip_S} {po : List ip_V → ip_S → Prop} (hx : p.tables.exec = Jvm.exec) (hb : c.code = cX0_holds) (hml : c.maxLocals = 5) (hown : s.vm.findClass RX0 = some m.cls) (hts : ∀ w ∈ wsX0_holds, w.before args s = true) (hr : meth.sig.returnType = (some .int)) (hlocks : meth.locks = false) (hname : meth.name = yX0_holds.name) (hA : ∀ q, s.heap.size ≤ q → A q) (hNx : ip_Nx s) : ∀ q ∈ pX0_holds po, ip_snd p l e rmX0_holds s m args below meth c D cA A (MQ below (ip_Q ip_Sta D cA ad0 S0 A po) args s 0 0 A) 5 (fun _ => (0, 0)) ip_Sta ad0 S0 q.1 q.2 := by
  have hIs : ∀ S, ip_Sta S → ip_Sta S := fun _ h => h
  have hIn := ip_In_Sta
  have hS9 : CallFix p m c cX0_holds 5 s args wsX0_holds RX0 := ⟨hx, hb, hml, hown, hts⟩
  have hin0 : ∀ w ∈ u_ws RX0 TX0 5, w ∈ wsX0_holds := by decide +kernel
  refine List.forall_mem_cons.mpr ⟨ip_s_aload_n hx hb dX0_holds_0 rfl rfl, ?_⟩
  refine List.forall_mem_cons.mpr ⟨ip_s_iload_n hx hb dX0_holds_1 rfl rfl, ?_⟩
  refine List.forall_mem_cons.mpr ⟨ip_s_iload_n hx hb dX0_holds_2 rfl rfl, ?_⟩
  refine List.forall_mem_cons.mpr ⟨ip_s_callV hNx hS9 (ctX0_thinHold l) (cwV 2 hts gX0_holds_X0_thinHold rfl rfl rfl (by decide +kernel) ⟨Nat.le_of_ble_eq_true rfl, Nat.le_of_ble_eq_true rfl⟩) (ci := 0) rfl rfl (by decide) (fun as S hI h => shX0_thinHold as S hI h) hA dX0_holds_3 ⟨Nat.le_of_ble_eq_true rfl, Nat.le_of_ble_eq_true rfl⟩ rfl, ?_⟩
  refine List.forall_mem_cons.mpr ⟨ip_s_istore_n hx hb dX0_holds_6 rfl (by decide) rfl, ?_⟩
  refine List.forall_mem_cons.mpr ⟨ip_s_aload_n hx hb dX0_holds_7 rfl rfl, ?_⟩
  refine List.forall_mem_cons.mpr ⟨ip_s_gI hx hb hts hin0 hown rfl (by decide) 0 (by decide) (hts (.fieldLink RX0 7 "IcePads$Fluid" "kind" "I") (by decide +kernel)) (fun _ h9 => h9) rfl dX0_holds_8 rfl, ?_⟩
  refine List.forall_mem_cons.mpr ⟨ip_s_ifne (t := 16) hx hb dX0_holds_11 (by decide) rfl rfl, ?_⟩
  refine List.forall_mem_cons.mpr ⟨ip_s_iload_n hx hb dX0_holds_14 rfl rfl, ?_⟩
  refine List.forall_mem_cons.mpr ⟨ip_s_iret hx hb hr hlocks (Nat.le_of_ble_eq_true rfl) (Nat.le_of_ble_eq_true rfl) dX0_holds_15, ?_⟩
  refine List.forall_mem_cons.mpr ⟨ip_s_iload_n hx hb dX0_holds_16 rfl rfl, ?_⟩
  refine List.forall_mem_cons.mpr ⟨ip_s_aload_n hx hb dX0_holds_17 rfl rfl, ?_⟩
  refine List.forall_mem_cons.mpr ⟨ip_s_gI hx hb hts hin0 hown rfl (by decide) 2 (by decide) (hts (.fieldLink RX0 17 "IcePads$Fluid" "times" "I") (by decide +kernel)) (fun _ h9 => h9) rfl dX0_holds_18 rfl, ?_⟩
  refine List.forall_mem_cons.mpr ⟨ip_s_imul hx hb dX0_holds_21 rfl, ?_⟩
  refine List.forall_mem_cons.mpr ⟨ip_s_istore hx hb dX0_holds_22 (by decide) rfl, ?_⟩
  refine List.forall_mem_cons.mpr ⟨ip_s_aload_n hx hb dX0_holds_24 rfl rfl, ?_⟩
  refine List.forall_mem_cons.mpr ⟨ip_s_gI hx hb hts hin0 hown rfl (by decide) 0 (by decide) (hts (.fieldLink RX0 7 "IcePads$Fluid" "kind" "I") (by decide +kernel)) (fun _ h9 => h9) rfl dX0_holds_25 rfl, ?_⟩
  refine List.forall_mem_cons.mpr ⟨ip_s_iconst hx hb dX0_holds_28 rfl rfl, ?_⟩
  refine List.forall_mem_cons.mpr ⟨ip_s_icne (t := 37) hx hb dX0_holds_29 (by decide) rfl rfl, ?_⟩
  refine List.forall_mem_cons.mpr ⟨ip_s_iload hx hb dX0_holds_32 rfl, ?_⟩
  refine List.forall_mem_cons.mpr ⟨ip_s_go (t := 47) hx hb dX0_holds_34 (by decide) (Nat.le_of_ble_eq_true rfl) (Nat.le_of_ble_eq_true rfl), ?_⟩
  refine List.forall_mem_cons.mpr ⟨ip_s_iload hx hb dX0_holds_37 rfl, ?_⟩
  refine List.forall_mem_cons.mpr ⟨ip_s_aload_n hx hb dX0_holds_39 rfl rfl, ?_⟩
  refine List.forall_mem_cons.mpr ⟨ip_s_gI hx hb hts hin0 hown rfl (by decide) 3 (by decide) (hts (.fieldLink RX0 20 "IcePads$Fluid" "parts" "I") (by decide +kernel)) (fun _ h9 => h9) rfl dX0_holds_40 rfl, ?_⟩
  refine List.forall_mem_cons.mpr ⟨ip_s_imul hx hb dX0_holds_43 rfl, ?_⟩
  refine List.forall_mem_cons.mpr ⟨ip_s_bipush hx hb dX0_holds_44 rfl rfl, ?_⟩
  refine List.forall_mem_cons.mpr ⟨ip_s_idiv hx hb dX0_holds_46 rfl, ?_⟩
  refine List.forall_mem_cons.mpr ⟨ip_s_iret hx hb hr hlocks (Nat.le_of_ble_eq_true rfl) (Nat.le_of_ble_eq_true rfl) dX0_holds_47, ?_⟩
  exact fun _ h => absurd h List.not_mem_nil
set_option maxRecDepth 100000 in
set_option maxHeartbeats 4000000 in
theorem vX0_holds (a : Nat) (cold : Int32) (fall : Int32) (S : ip_S) (hS : ip_Sta S) (hp : (S.2.2.2 a).1 = 0 ∧ S.2.1 a 1 = some (a + 4) ∧ S.2.2.2 (a + 4) = (6, 4) ∧ 0 ≤ fall ∧ fall ≤ 3) : ip_run (pX0_holds (postX0_holds [.inr (.inl (some a)), .inl cold, .inl fall] S)) (fun _ => false) (fun _ _ _ _ => False) 50 0 [some (.inr (.inl (some a))), some (.inl cold), some (.inl fall), none, none] [] S := by
  refine And.intro hp ?_
  rintro r S' ⟨rfl, rfl⟩
  have h1 := hp.1
  refine And.intro h1 ?_
  refine And.intro (fun q1 => ?_) (fun q1 => ?_)
  · refine And.intro h1 ?_
    refine And.intro h1 ?_
    refine And.intro (fun q2 => ?_) (fun q2 => ?_)
    · refine And.intro h1 ?_
      refine And.intro (by decide) ?_
      refine And.intro ?_ rfl
      unfold ip_hold
      rw [if_neg q1, if_neg q2]
    · refine And.intro ?_ rfl
      unfold ip_hold
      rw [if_neg q1, if_pos q2]
  · refine And.intro ?_ rfl
    unfold ip_hold
    rw [if_pos q1]
theorem ctX0_holds (l : Launch) : ip_CT l yX0_holds wsX0_holds rmX0_holds ip_Sta preX0_holds postX0_holds := by
  refine ip_of (cc := cX0_holds) (maxL := 5) (ret := (some .int)) (by decide +kernel) rfl (fun _ => (0, 0)) rfl ?_ ?_
  · intro as S h
    obtain ⟨a, cold, fall, rfl, hq⟩ := ip_e_rii h
    exact ⟨Nat.le_of_ble_eq_true rfl, by simp⟩
  intro p e s m args below meth c D cA A ad0 as S h hI hx hb hml hown hts hr hlocks hname hA hNx
  obtain ⟨a, cold, fall, rfl, hq⟩ := ip_e_rii h
  refine ip_run_ok (stop := fun _ => false) (tX0_holds hx hb hml hown hts hr hlocks hname hA hNx) (fun _ _ _ _ h => False.elim h) 50 0 _ _ S ?_
  exact vX0_holds a cold fall S hI hq

def preX0_traceOfBodies : List ip_V → ip_S → Prop := ip_h_r (fun _ => False) (fun a S => (S.2.2.2 a).1 = 0 ∧ True)
def postX0_traceOfBodies : List ip_V → ip_S → List ip_V → ip_S → Prop := ip_h_r (fun _ _ _ => True) (fun a S r S' => r = [.inl (if S.1 a 0 = 0 then 1 else if S.1 a 0 = 1 then 11 else 111)] ∧ S' = S)
theorem shX0_traceOfBodies : ∀ as S, ip_Sta S → preX0_traceOfBodies as S → ∃ (b : Nat) (as' : List ip_V), as = .inr (.inl (some b)) :: as' ∧ as'.length = 0 ∧ (S.2.2.2 b).1 = 0 := by
  intro as S hI h
  obtain ⟨a, rfl, hq⟩ := ip_e_r h
  exact ⟨_, _, rfl, rfl, hq.1⟩
def rmX0_traceOfBodies : Room := { frames := 1, cells := 0, slots := 0, locals := 40 }
def pX0_traceOfBodies (po : List ip_V → ip_S → Prop) : List (Nat × ip_T) := [(0, ip_t_ar 0 1), (1, ip_t_gI 0 0 4), (4, ip_t_ifne 9 7), (7, ip_t_ci 1 8), (8, ip_t_iret po), (9, ip_t_ar 0 10), (10, ip_t_gI 0 0 13), (13, ip_t_ci 1 14), (14, ip_t_icne 22 17), (17, ip_t_ci 11 19), (19, ip_t_go 24), (22, ip_t_ci 111 24), (24, ip_t_iret po)]
set_option maxRecDepth 100000 in
set_option maxHeartbeats 4000000 in
theorem tX0_traceOfBodies {p : Program} {l : Launch} {e : Env} {s : State} {m : MethodId} {args : Array Value} {below : List Frame} {meth : Method} {c : Code} {D : va_G} {cA : Nat → ClassId} {A : Nat → Prop} {ad0 : Nat → Nat} {S0 : ip_S} {po : List ip_V → ip_S → Prop} (hx : p.tables.exec = Jvm.exec) (hb : c.code = cX0_traceOfBodies) (hml : c.maxLocals = 1) (hown : s.vm.findClass RX0 = some m.cls) (hts : ∀ w ∈ wsX0_traceOfBodies, w.before args s = true) (hr : meth.sig.returnType = (some .int)) (hlocks : meth.locks = false) (hname : meth.name = yX0_traceOfBodies.name) (hA : ∀ q, s.heap.size ≤ q → A q) (hNx : ip_Nx s) : ∀ q ∈ pX0_traceOfBodies po, ip_snd p l e rmX0_traceOfBodies s m args below meth c D cA A (MQ below (ip_Q ip_Sta D cA ad0 S0 A po) args s 0 0 A) 1 (fun _ => (0, 0)) ip_Sta ad0 S0 q.1 q.2 := by
  have hIs : ∀ S, ip_Sta S → ip_Sta S := fun _ h => h
  have hIn := ip_In_Sta
  have hS9 : CallFix p m c cX0_traceOfBodies 1 s args wsX0_traceOfBodies RX0 := ⟨hx, hb, hml, hown, hts⟩
  have hin0 : ∀ w ∈ u_ws RX0 TX0 5, w ∈ wsX0_traceOfBodies := by decide +kernel
  refine List.forall_mem_cons.mpr ⟨ip_s_aload_n hx hb dX0_traceOfBodies_0 rfl rfl, ?_⟩
  refine List.forall_mem_cons.mpr ⟨ip_s_gI hx hb hts hin0 hown rfl (by decide) 0 (by decide) (hts (.fieldLink RX0 7 "IcePads$Fluid" "kind" "I") (by decide +kernel)) (fun _ h9 => h9) rfl dX0_traceOfBodies_1 rfl, ?_⟩
  refine List.forall_mem_cons.mpr ⟨ip_s_ifne (t := 9) hx hb dX0_traceOfBodies_4 (by decide) rfl rfl, ?_⟩
  refine List.forall_mem_cons.mpr ⟨ip_s_iconst hx hb dX0_traceOfBodies_7 rfl rfl, ?_⟩
  refine List.forall_mem_cons.mpr ⟨ip_s_iret hx hb hr hlocks (Nat.le_of_ble_eq_true rfl) (Nat.le_of_ble_eq_true rfl) dX0_traceOfBodies_8, ?_⟩
  refine List.forall_mem_cons.mpr ⟨ip_s_aload_n hx hb dX0_traceOfBodies_9 rfl rfl, ?_⟩
  refine List.forall_mem_cons.mpr ⟨ip_s_gI hx hb hts hin0 hown rfl (by decide) 0 (by decide) (hts (.fieldLink RX0 7 "IcePads$Fluid" "kind" "I") (by decide +kernel)) (fun _ h9 => h9) rfl dX0_traceOfBodies_10 rfl, ?_⟩
  refine List.forall_mem_cons.mpr ⟨ip_s_iconst hx hb dX0_traceOfBodies_13 rfl rfl, ?_⟩
  refine List.forall_mem_cons.mpr ⟨ip_s_icne (t := 22) hx hb dX0_traceOfBodies_14 (by decide) rfl rfl, ?_⟩
  refine List.forall_mem_cons.mpr ⟨ip_s_bipush hx hb dX0_traceOfBodies_17 rfl rfl, ?_⟩
  refine List.forall_mem_cons.mpr ⟨ip_s_go (t := 24) hx hb dX0_traceOfBodies_19 (by decide) (Nat.le_of_ble_eq_true rfl) (Nat.le_of_ble_eq_true rfl), ?_⟩
  refine List.forall_mem_cons.mpr ⟨ip_s_bipush hx hb dX0_traceOfBodies_22 rfl rfl, ?_⟩
  refine List.forall_mem_cons.mpr ⟨ip_s_iret hx hb hr hlocks (Nat.le_of_ble_eq_true rfl) (Nat.le_of_ble_eq_true rfl) dX0_traceOfBodies_24, ?_⟩
  exact fun _ h => absurd h List.not_mem_nil
set_option maxRecDepth 100000 in
set_option maxHeartbeats 4000000 in
theorem vX0_traceOfBodies (a : Nat) (S : ip_S) (hS : ip_Sta S) (hp : (S.2.2.2 a).1 = 0 ∧ True) : ip_run (pX0_traceOfBodies (postX0_traceOfBodies [.inr (.inl (some a))] S)) (fun _ => false) (fun _ _ _ _ => False) 30 0 [some (.inr (.inl (some a)))] [] S := by
  have h1 := hp.1
  refine And.intro h1 ?_
  refine And.intro (fun q1 => ?_) (fun q1 => ?_)
  · refine And.intro h1 ?_
    refine And.intro (fun q2 => ?_) (fun q2 => ?_)
    · refine And.intro ?_ rfl
      rw [if_neg q1, if_neg q2]
    · refine And.intro ?_ rfl
      rw [if_neg q1, if_pos q2]
  · refine And.intro ?_ rfl
    rw [if_pos q1]
theorem ctX0_traceOfBodies (l : Launch) : ip_CT l yX0_traceOfBodies wsX0_traceOfBodies rmX0_traceOfBodies ip_Sta preX0_traceOfBodies postX0_traceOfBodies := by
  refine ip_of (cc := cX0_traceOfBodies) (maxL := 1) (ret := (some .int)) (by decide +kernel) rfl (fun _ => (0, 0)) rfl ?_ ?_
  · intro as S h
    obtain ⟨a, rfl, hq⟩ := ip_e_r h
    exact ⟨Nat.le_of_ble_eq_true rfl, by simp⟩
  intro p e s m args below meth c D cA A ad0 as S h hI hx hb hml hown hts hr hlocks hname hA hNx
  obtain ⟨a, rfl, hq⟩ := ip_e_r h
  refine ip_run_ok (stop := fun _ => false) (tX0_traceOfBodies hx hb hml hown hts hr hlocks hname hA hNx) (fun _ _ _ _ h => False.elim h) 30 0 _ _ S ?_
  exact vX0_traceOfBodies a S hI hq

def preX3_isTold : List ip_V → ip_S → Prop := ip_h_ri (fun _ => False) (fun a mi S => a = 1 ∧ True)
def postX3_isTold : List ip_V → ip_S → List ip_V → ip_S → Prop := ip_h_ri (fun _ _ _ => True) (fun a mi S r S' => r = [.inl (if 0 ≤ mi ∧ mi < 300 ∧ ¬ S.1 4 mi.toNatClampNeg = 0 then 1 else 0)] ∧ S' = S)
theorem shX3_isTold : ∀ as S, ip_Sta S → preX3_isTold as S → ∃ (b : Nat) (as' : List ip_V), as = .inr (.inl (some b)) :: as' ∧ as'.length = 1 ∧ (S.2.2.2 b).1 = 3 := by
  intro as S hI h
  obtain ⟨a, mi, rfl, hq⟩ := ip_e_ri h
  exact ⟨_, _, rfl, rfl, by rw [hq.1, hI.1 1 (by decide)]; rfl⟩
def rmX3_isTold : Room := { frames := 1, cells := 0, slots := 0, locals := 40 }
def pX3_isTold (po : List ip_V → ip_S → Prop) : List (Nat × ip_T) := [(0, ip_t_il 1 1), (1, ip_t_iflt 26 4), (4, ip_t_il 1 5), (5, ip_t_ar 0 6), (6, ip_t_gR0 1 4 9), (9, ip_t_len 10), (10, ip_t_icge 26 13), (13, ip_t_ar 0 14), (14, ip_t_gR0 1 4 17), (17, ip_t_il 1 18), (18, ip_t_ld 7 19), (19, ip_t_ifeq 26 22), (22, ip_t_ci 1 23), (23, ip_t_go 27), (26, ip_t_ci 0 27), (27, ip_t_zret po)]
set_option maxRecDepth 100000 in
set_option maxHeartbeats 4000000 in
theorem tX3_isTold {p : Program} {l : Launch} {e : Env} {s : State} {m : MethodId} {args : Array Value} {below : List Frame} {meth : Method} {c : Code} {D : va_G} {cA : Nat → ClassId} {A : Nat → Prop} {ad0 : Nat → Nat} {S0 : ip_S} {po : List ip_V → ip_S → Prop} (hx : p.tables.exec = Jvm.exec) (hb : c.code = cX3_isTold) (hml : c.maxLocals = 2) (hown : s.vm.findClass RX3 = some m.cls) (hts : ∀ w ∈ wsX3_isTold, w.before args s = true) (hr : meth.sig.returnType = (some .boolean)) (hlocks : meth.locks = false) (hname : meth.name = yX3_isTold.name) (hA : ∀ q, s.heap.size ≤ q → A q) (hNx : ip_Nx s) : ∀ q ∈ pX3_isTold po, ip_snd p l e rmX3_isTold s m args below meth c D cA A (MQ below (ip_Q ip_Sta D cA ad0 S0 A po) args s 0 0 A) 2 (fun _ => (0, 0)) ip_Sta ad0 S0 q.1 q.2 := by
  have hIs : ∀ S, ip_Sta S → ip_Sta S := fun _ h => h
  have hIn := ip_In_Sta
  have hS9 : CallFix p m c cX3_isTold 2 s args wsX3_isTold RX3 := ⟨hx, hb, hml, hown, hts⟩
  have hin3 : ∀ w ∈ u_ws RX3 TX3 3, w ∈ wsX3_isTold := by decide +kernel
  refine List.forall_mem_cons.mpr ⟨ip_s_iload_n hx hb dX3_isTold_0 rfl rfl, ?_⟩
  refine List.forall_mem_cons.mpr ⟨ip_s_iflt (t := 26) hx hb dX3_isTold_1 (by decide) rfl rfl, ?_⟩
  refine List.forall_mem_cons.mpr ⟨ip_s_iload_n hx hb dX3_isTold_4 rfl rfl, ?_⟩
  refine List.forall_mem_cons.mpr ⟨ip_s_aload_n hx hb dX3_isTold_5 rfl rfl, ?_⟩
  refine List.forall_mem_cons.mpr ⟨ip_s_gR0 hx hb hts hin3 hown rfl (by decide) 2 (by decide) (hts (.fieldLink RX3 18 "IcePads$Sky" "told" "[Z") (by decide +kernel)) (fun _ h9 => h9) hIs 1 4 rfl (by decide) rfl dX3_isTold_6 rfl, ?_⟩
  refine List.forall_mem_cons.mpr ⟨ip_s_len hx hb hIs dX3_isTold_9 rfl, ?_⟩
  refine List.forall_mem_cons.mpr ⟨ip_s_icge (t := 26) hx hb dX3_isTold_10 (by decide) rfl rfl, ?_⟩
  refine List.forall_mem_cons.mpr ⟨ip_s_aload_n hx hb dX3_isTold_13 rfl rfl, ?_⟩
  refine List.forall_mem_cons.mpr ⟨ip_s_gR0 hx hb hts hin3 hown rfl (by decide) 2 (by decide) (hts (.fieldLink RX3 18 "IcePads$Sky" "told" "[Z") (by decide +kernel)) (fun _ h9 => h9) hIs 1 4 rfl (by decide) rfl dX3_isTold_14 rfl, ?_⟩
  refine List.forall_mem_cons.mpr ⟨ip_s_iload_n hx hb dX3_isTold_17 rfl rfl, ?_⟩
  refine List.forall_mem_cons.mpr ⟨ip_s_ldz hx hb hIs dX3_isTold_18 rfl, ?_⟩
  refine List.forall_mem_cons.mpr ⟨ip_s_ifeq (t := 26) hx hb dX3_isTold_19 (by decide) rfl rfl, ?_⟩
  refine List.forall_mem_cons.mpr ⟨ip_s_iconst hx hb dX3_isTold_22 rfl rfl, ?_⟩
  refine List.forall_mem_cons.mpr ⟨ip_s_go (t := 27) hx hb dX3_isTold_23 (by decide) (Nat.le_of_ble_eq_true rfl) (Nat.le_of_ble_eq_true rfl), ?_⟩
  refine List.forall_mem_cons.mpr ⟨ip_s_iconst hx hb dX3_isTold_26 rfl rfl, ?_⟩
  refine List.forall_mem_cons.mpr ⟨ip_s_zret hx hb hr hlocks (Nat.le_of_ble_eq_true rfl) (Nat.le_of_ble_eq_true rfl) dX3_isTold_27, ?_⟩
  exact fun _ h => absurd h List.not_mem_nil
set_option maxRecDepth 100000 in
set_option maxHeartbeats 4000000 in
theorem vX3_isTold (a : Nat) (mi : Int32) (S : ip_S) (hS : ip_Sta S) (hp : a = 1 ∧ True) : ip_run (pX3_isTold (postX3_isTold [.inr (.inl (some a)), .inl mi] S)) (fun _ => false) (fun _ _ _ _ => False) 40 0 [some (.inr (.inl (some a))), some (.inl mi)] [] S := by
  obtain ⟨rfl, -⟩ := hp
  refine And.intro (fun q1 => ?_) (fun q1 => ?_)
  · refine And.intro (Or.inl rfl) (And.intro ?_ rfl)
    rw [if_neg (fun h => absurd h.1 (Int32.not_le.mpr q1))]
  · refine And.intro (fun q2 => ?_) (fun q2 => ?_)
    · have q2 : (300 : Int32) ≤ mi := q2
      refine And.intro (Or.inl rfl) (And.intro ?_ rfl)
      rw [if_neg (fun h => absurd h.2.1 (Int32.not_lt.mpr q2))]
    · have q2 : ¬ (300 : Int32) ≤ mi := q2
      have q1 := Int32.not_lt.mp q1
      have q2 := Int32.not_le.mp q2
      have hin : vp_in mi 300 := by
        rw [vp_in_iff]
        have h1 := Int32.le_iff_toInt_le.mp q1
        have h2 := Int32.lt_iff_toInt_lt.mp q2
        have h3 : (0 : Int32).toInt = 0 := rfl
        have h4 : (300 : Int32).toInt = 300 := rfl
        omega
      refine And.intro hin ?_
      refine And.intro (fun q3 => ?_) (fun q3 => ?_)
      · refine And.intro (Or.inl rfl) (And.intro ?_ rfl)
        rw [if_neg (fun h => h.2.2 q3)]
      · refine And.intro (Or.inr rfl) (And.intro ?_ rfl)
        rw [if_pos ⟨q1, q2, q3⟩]
theorem ctX3_isTold (l : Launch) : ip_CT l yX3_isTold wsX3_isTold rmX3_isTold ip_Sta preX3_isTold postX3_isTold := by
  refine ip_of (cc := cX3_isTold) (maxL := 2) (ret := (some .boolean)) (by decide +kernel) rfl (fun _ => (0, 0)) rfl ?_ ?_
  · intro as S h
    obtain ⟨a, mi, rfl, hq⟩ := ip_e_ri h
    exact ⟨Nat.le_of_ble_eq_true rfl, by simp⟩
  intro p e s m args below meth c D cA A ad0 as S h hI hx hb hml hown hts hr hlocks hname hA hNx
  obtain ⟨a, mi, rfl, hq⟩ := ip_e_ri h
  refine ip_run_ok (stop := fun _ => false) (tX3_isTold hx hb hml hown hts hr hlocks hname hA hNx) (fun _ _ _ _ h => False.elim h) 40 0 _ _ S ?_
  exact vX3_isTold a mi S hI hq

def preX3_tell : List ip_V → ip_S → Prop := ip_h_riii (fun _ => False) (fun a mi c f S => a = 1 ∧ 0 ≤ mi ∧ mi ≤ 299)
def postX3_tell : List ip_V → ip_S → List ip_V → ip_S → Prop := ip_h_riii (fun _ _ _ => True) (fun a mi c f S r S' => r = [] ∧ S' = ip_sI (ip_sI (ip_sI S 2 mi.toNatClampNeg c) 3 mi.toNatClampNeg f) 4 mi.toNatClampNeg 1)
theorem shX3_tell : ∀ as S, ip_Sta S → preX3_tell as S → ∃ (b : Nat) (as' : List ip_V), as = .inr (.inl (some b)) :: as' ∧ as'.length = 3 ∧ (S.2.2.2 b).1 = 3 := by
  intro as S hI h
  obtain ⟨a, mi, c, f, rfl, hq⟩ := ip_e_riii h
  exact ⟨_, _, rfl, rfl, by rw [hq.1, hI.1 1 (by decide)]; rfl⟩
def rmX3_tell : Room := { frames := 3, cells := 0, slots := 0, locals := 120 }
def pX3_tell (po : List ip_V → ip_S → Prop) : List (Nat × ip_T) := [(0, ip_t_il 1 1), (1, ip_t_call 1 preX4_isMinute postX4_isMinute 4), (4, ip_t_ifne 8 7), (7, ip_t_vret po), (8, ip_t_ar 0 9), (9, ip_t_gR0 1 2 12), (12, ip_t_il 1 13), (13, ip_t_il 2 14), (14, ip_t_st 15), (15, ip_t_ar 0 16), (16, ip_t_gR0 1 3 19), (19, ip_t_il 1 20), (20, ip_t_il 3 21), (21, ip_t_st 22), (22, ip_t_ar 0 23), (23, ip_t_gR0 1 4 26), (26, ip_t_il 1 27), (27, ip_t_ci 1 28), (28, ip_t_stz 29), (29, ip_t_vret po)]
set_option maxRecDepth 100000 in
set_option maxHeartbeats 4000000 in
theorem tX3_tell {p : Program} {l : Launch} {e : Env} {s : State} {m : MethodId} {args : Array Value} {below : List Frame} {meth : Method} {c : Code} {D : va_G} {cA : Nat → ClassId} {A : Nat → Prop} {ad0 : Nat → Nat} {S0 : ip_S} {po : List ip_V → ip_S → Prop} (hx : p.tables.exec = Jvm.exec) (hb : c.code = cX3_tell) (hml : c.maxLocals = 4) (hown : s.vm.findClass RX3 = some m.cls) (hts : ∀ w ∈ wsX3_tell, w.before args s = true) (hr : meth.sig.returnType = none) (hlocks : meth.locks = false) (hname : meth.name = yX3_tell.name) (hA : ∀ q, s.heap.size ≤ q → A q) (hNx : ip_Nx s) : ∀ q ∈ pX3_tell po, ip_snd p l e rmX3_tell s m args below meth c D cA A (MQ below (ip_Q ip_Sta D cA ad0 S0 A po) args s 0 0 A) 4 (fun _ => (0, 0)) ip_Sta ad0 S0 q.1 q.2 := by
  have hIs : ∀ S, ip_Sta S → ip_Sta S := fun _ h => h
  have hIn := ip_In_Sta
  have hS9 : CallFix p m c cX3_tell 4 s args wsX3_tell RX3 := ⟨hx, hb, hml, hown, hts⟩
  have hin3 : ∀ w ∈ u_ws RX3 TX3 3, w ∈ wsX3_tell := by decide +kernel
  refine List.forall_mem_cons.mpr ⟨ip_s_iload_n hx hb dX3_tell_0 rfl rfl, ?_⟩
  refine List.forall_mem_cons.mpr ⟨ip_s_callSN hNx hS9 (ctX4_isMinute l) ⟨va_cnB 1 hts gX3_tell_X4_isMinute_n22 rfl rfl rfl hNx.2.2.2.1 (hts (.initialized RX4) (by decide +kernel)) (by decide +kernel) ⟨Nat.le_of_ble_eq_true rfl, Nat.le_of_ble_eq_true rfl⟩, hts (.static yX4_isMinute) (by decide +kernel), trivial⟩ (fun as S hI h => shsX4_isMinute as S hI h) hA dX3_tell_1 ⟨Nat.le_of_ble_eq_true rfl, Nat.le_of_ble_eq_true rfl⟩ rfl, ?_⟩
  refine List.forall_mem_cons.mpr ⟨ip_s_ifne (t := 8) hx hb dX3_tell_4 (by decide) rfl rfl, ?_⟩
  refine List.forall_mem_cons.mpr ⟨ip_s_vret hx hb hr hlocks (Nat.le_of_ble_eq_true rfl) (Nat.le_of_ble_eq_true rfl) dX3_tell_7, ?_⟩
  refine List.forall_mem_cons.mpr ⟨ip_s_aload_n hx hb dX3_tell_8 rfl rfl, ?_⟩
  refine List.forall_mem_cons.mpr ⟨ip_s_gR0 hx hb hts hin3 hown rfl (by decide) 0 (by decide) (hts (.fieldLink RX3 9 "IcePads$Sky" "cold" "[I") (by decide +kernel)) (fun _ h9 => h9) hIs 1 2 rfl (by decide) rfl dX3_tell_9 rfl, ?_⟩
  refine List.forall_mem_cons.mpr ⟨ip_s_iload_n hx hb dX3_tell_12 rfl rfl, ?_⟩
  refine List.forall_mem_cons.mpr ⟨ip_s_iload_n hx hb dX3_tell_13 rfl rfl, ?_⟩
  refine List.forall_mem_cons.mpr ⟨ip_s_sti hx hb hIn hIs dX3_tell_14 rfl, ?_⟩
  refine List.forall_mem_cons.mpr ⟨ip_s_aload_n hx hb dX3_tell_15 rfl rfl, ?_⟩
  refine List.forall_mem_cons.mpr ⟨ip_s_gR0 hx hb hts hin3 hown rfl (by decide) 1 (by decide) (hts (.fieldLink RX3 15 "IcePads$Sky" "fall" "[I") (by decide +kernel)) (fun _ h9 => h9) hIs 1 3 rfl (by decide) rfl dX3_tell_16 rfl, ?_⟩
  refine List.forall_mem_cons.mpr ⟨ip_s_iload_n hx hb dX3_tell_19 rfl rfl, ?_⟩
  refine List.forall_mem_cons.mpr ⟨ip_s_iload_n hx hb dX3_tell_20 rfl rfl, ?_⟩
  refine List.forall_mem_cons.mpr ⟨ip_s_sti hx hb hIn hIs dX3_tell_21 rfl, ?_⟩
  refine List.forall_mem_cons.mpr ⟨ip_s_aload_n hx hb dX3_tell_22 rfl rfl, ?_⟩
  refine List.forall_mem_cons.mpr ⟨ip_s_gR0 hx hb hts hin3 hown rfl (by decide) 2 (by decide) (hts (.fieldLink RX3 18 "IcePads$Sky" "told" "[Z") (by decide +kernel)) (fun _ h9 => h9) hIs 1 4 rfl (by decide) rfl dX3_tell_23 rfl, ?_⟩
  refine List.forall_mem_cons.mpr ⟨ip_s_iload_n hx hb dX3_tell_26 rfl rfl, ?_⟩
  refine List.forall_mem_cons.mpr ⟨ip_s_iconst hx hb dX3_tell_27 rfl rfl, ?_⟩
  refine List.forall_mem_cons.mpr ⟨ip_s_stz hx hb hIn hIs dX3_tell_28 rfl, ?_⟩
  refine List.forall_mem_cons.mpr ⟨ip_s_vret hx hb hr hlocks (Nat.le_of_ble_eq_true rfl) (Nat.le_of_ble_eq_true rfl) dX3_tell_29, ?_⟩
  exact fun _ h => absurd h List.not_mem_nil
set_option maxRecDepth 100000 in
set_option maxHeartbeats 4000000 in
theorem vX3_tell (a : Nat) (mi : Int32) (c : Int32) (f : Int32) (S : ip_S) (hS : ip_Sta S) (hp : a = 1 ∧ 0 ≤ mi ∧ mi ≤ 299) : ip_run (pX3_tell (postX3_tell [.inr (.inl (some a)), .inl mi, .inl c, .inl f] S)) (fun _ => false) (fun _ _ _ _ => False) 40 0 [some (.inr (.inl (some a))), some (.inl mi), some (.inl c), some (.inl f)] [] S := by
  obtain ⟨rfl, hm⟩ := hp
  have hin : vp_in mi 300 := ip_in hm rfl
  refine And.intro trivial ?_
  rintro r S' ⟨rfl, rfl⟩
  refine And.intro (fun _ => ?_) (fun q => absurd (if_pos hm) (fun z => absurd (z.symm.trans q) (by decide)))
  refine And.intro hin ?_
  refine And.intro hin ?_
  refine And.intro hin ?_
  exact And.intro rfl rfl
theorem ctX3_tell (l : Launch) : ip_CT l yX3_tell wsX3_tell rmX3_tell ip_Sta preX3_tell postX3_tell := by
  refine ip_of (cc := cX3_tell) (maxL := 4) (ret := none) (by decide +kernel) rfl (fun _ => (0, 0)) rfl ?_ ?_
  · intro as S h
    obtain ⟨a, mi, c, f, rfl, hq⟩ := ip_e_riii h
    exact ⟨Nat.le_of_ble_eq_true rfl, by simp⟩
  intro p e s m args below meth c D cA A ad0 as S h hI hx hb hml hown hts hr hlocks hname hA hNx
  obtain ⟨a, mi, c, f, rfl, hq⟩ := ip_e_riii h
  refine ip_run_ok (stop := fun _ => false) (tX3_tell hx hb hml hown hts hr hlocks hname hA hNx) (fun _ _ _ _ h => False.elim h) 40 0 _ _ S ?_
  exact vX3_tell a mi c f S hI hq

def preX3_lose : List ip_V → ip_S → Prop := ip_h_ri (fun _ => False) (fun a mi S => a = 1 ∧ 0 ≤ mi ∧ mi ≤ 299)
def postX3_lose : List ip_V → ip_S → List ip_V → ip_S → Prop := ip_h_ri (fun _ _ _ => True) (fun a mi S r S' => r = [] ∧ S' = ip_sI S 4 mi.toNatClampNeg 0)
theorem shX3_lose : ∀ as S, ip_Sta S → preX3_lose as S → ∃ (b : Nat) (as' : List ip_V), as = .inr (.inl (some b)) :: as' ∧ as'.length = 1 ∧ (S.2.2.2 b).1 = 3 := by
  intro as S hI h
  obtain ⟨a, mi, rfl, hq⟩ := ip_e_ri h
  exact ⟨_, _, rfl, rfl, by rw [hq.1, hI.1 1 (by decide)]; rfl⟩
def rmX3_lose : Room := { frames := 3, cells := 0, slots := 0, locals := 120 }
def pX3_lose (po : List ip_V → ip_S → Prop) : List (Nat × ip_T) := [(0, ip_t_il 1 1), (1, ip_t_call 1 preX4_isMinute postX4_isMinute 4), (4, ip_t_ifeq 14 7), (7, ip_t_ar 0 8), (8, ip_t_gR0 1 4 11), (11, ip_t_il 1 12), (12, ip_t_ci 0 13), (13, ip_t_stz 14), (14, ip_t_vret po)]
set_option maxRecDepth 100000 in
set_option maxHeartbeats 4000000 in
theorem tX3_lose {p : Program} {l : Launch} {e : Env} {s : State} {m : MethodId} {args : Array Value} {below : List Frame} {meth : Method} {c : Code} {D : va_G} {cA : Nat → ClassId} {A : Nat → Prop} {ad0 : Nat → Nat} {S0 : ip_S} {po : List ip_V → ip_S → Prop} (hx : p.tables.exec = Jvm.exec) (hb : c.code = cX3_lose) (hml : c.maxLocals = 2) (hown : s.vm.findClass RX3 = some m.cls) (hts : ∀ w ∈ wsX3_lose, w.before args s = true) (hr : meth.sig.returnType = none) (hlocks : meth.locks = false) (hname : meth.name = yX3_lose.name) (hA : ∀ q, s.heap.size ≤ q → A q) (hNx : ip_Nx s) : ∀ q ∈ pX3_lose po, ip_snd p l e rmX3_lose s m args below meth c D cA A (MQ below (ip_Q ip_Sta D cA ad0 S0 A po) args s 0 0 A) 2 (fun _ => (0, 0)) ip_Sta ad0 S0 q.1 q.2 := by
  have hIs : ∀ S, ip_Sta S → ip_Sta S := fun _ h => h
  have hIn := ip_In_Sta
  have hS9 : CallFix p m c cX3_lose 2 s args wsX3_lose RX3 := ⟨hx, hb, hml, hown, hts⟩
  have hin3 : ∀ w ∈ u_ws RX3 TX3 3, w ∈ wsX3_lose := by decide +kernel
  refine List.forall_mem_cons.mpr ⟨ip_s_iload_n hx hb dX3_lose_0 rfl rfl, ?_⟩
  refine List.forall_mem_cons.mpr ⟨ip_s_callSN hNx hS9 (ctX4_isMinute l) ⟨va_cnB 1 hts gX3_lose_X4_isMinute_n22 rfl rfl rfl hNx.2.2.2.1 (hts (.initialized RX4) (by decide +kernel)) (by decide +kernel) ⟨Nat.le_of_ble_eq_true rfl, Nat.le_of_ble_eq_true rfl⟩, hts (.static yX4_isMinute) (by decide +kernel), trivial⟩ (fun as S hI h => shsX4_isMinute as S hI h) hA dX3_lose_1 ⟨Nat.le_of_ble_eq_true rfl, Nat.le_of_ble_eq_true rfl⟩ rfl, ?_⟩
  refine List.forall_mem_cons.mpr ⟨ip_s_ifeq (t := 14) hx hb dX3_lose_4 (by decide) rfl rfl, ?_⟩
  refine List.forall_mem_cons.mpr ⟨ip_s_aload_n hx hb dX3_lose_7 rfl rfl, ?_⟩
  refine List.forall_mem_cons.mpr ⟨ip_s_gR0 hx hb hts hin3 hown rfl (by decide) 2 (by decide) (hts (.fieldLink RX3 18 "IcePads$Sky" "told" "[Z") (by decide +kernel)) (fun _ h9 => h9) hIs 1 4 rfl (by decide) rfl dX3_lose_8 rfl, ?_⟩
  refine List.forall_mem_cons.mpr ⟨ip_s_iload_n hx hb dX3_lose_11 rfl rfl, ?_⟩
  refine List.forall_mem_cons.mpr ⟨ip_s_iconst hx hb dX3_lose_12 rfl rfl, ?_⟩
  refine List.forall_mem_cons.mpr ⟨ip_s_stz hx hb hIn hIs dX3_lose_13 rfl, ?_⟩
  refine List.forall_mem_cons.mpr ⟨ip_s_vret hx hb hr hlocks (Nat.le_of_ble_eq_true rfl) (Nat.le_of_ble_eq_true rfl) dX3_lose_14, ?_⟩
  exact fun _ h => absurd h List.not_mem_nil
set_option maxRecDepth 100000 in
set_option maxHeartbeats 4000000 in
theorem vX3_lose (a : Nat) (mi : Int32) (S : ip_S) (hS : ip_Sta S) (hp : a = 1 ∧ 0 ≤ mi ∧ mi ≤ 299) : ip_run (pX3_lose (postX3_lose [.inr (.inl (some a)), .inl mi] S)) (fun _ => false) (fun _ _ _ _ => False) 40 0 [some (.inr (.inl (some a))), some (.inl mi)] [] S := by
  obtain ⟨rfl, hm⟩ := hp
  have hin : vp_in mi 300 := ip_in hm rfl
  refine And.intro trivial ?_
  rintro r S' ⟨rfl, rfl⟩
  refine And.intro (fun q => absurd (if_pos hm) (fun z => absurd (z.symm.trans q) (by decide))) (fun _ => ?_)
  refine And.intro hin ?_
  exact And.intro rfl rfl
theorem ctX3_lose (l : Launch) : ip_CT l yX3_lose wsX3_lose rmX3_lose ip_Sta preX3_lose postX3_lose := by
  refine ip_of (cc := cX3_lose) (maxL := 2) (ret := none) (by decide +kernel) rfl (fun _ => (0, 0)) rfl ?_ ?_
  · intro as S h
    obtain ⟨a, mi, rfl, hq⟩ := ip_e_ri h
    exact ⟨Nat.le_of_ble_eq_true rfl, by simp⟩
  intro p e s m args below meth c D cA A ad0 as S h hI hx hb hml hown hts hr hlocks hname hA hNx
  obtain ⟨a, mi, rfl, hq⟩ := ip_e_ri h
  refine ip_run_ok (stop := fun _ => false) (tX3_lose hx hb hml hown hts hr hlocks hname hA hNx) (fun _ _ _ _ h => False.elim h) 40 0 _ _ S ?_
  exact vX3_lose a mi S hI hq

def preX3_coldIn : List ip_V → ip_S → Prop := ip_h_ri (fun _ => False) (fun a mi S => a = 1 ∧ 0 ≤ mi ∧ mi ≤ 299)
def postX3_coldIn : List ip_V → ip_S → List ip_V → ip_S → Prop := ip_h_ri (fun _ _ _ => True) (fun a mi S r S' => r = [.inl (ip_cold (S.1 4) (S.1 2) mi.toNatClampNeg)] ∧ S' = S)
theorem shX3_coldIn : ∀ as S, ip_Sta S → preX3_coldIn as S → ∃ (b : Nat) (as' : List ip_V), as = .inr (.inl (some b)) :: as' ∧ as'.length = 1 ∧ (S.2.2.2 b).1 = 3 := by
  intro as S hI h
  obtain ⟨a, mi, rfl, hq⟩ := ip_e_ri h
  exact ⟨_, _, rfl, rfl, by rw [hq.1, hI.1 1 (by decide)]; rfl⟩
def rmX3_coldIn : Room := { frames := 2, cells := 0, slots := 0, locals := 80 }
def pX3_coldIn (po : List ip_V → ip_S → Prop) : List (Nat × ip_T) := [(0, ip_t_ar 0 1), (1, ip_t_il 1 2), (2, ip_t_call 2 preX3_isTold postX3_isTold 5), (5, ip_t_ifeq 15 8), (8, ip_t_ar 0 9), (9, ip_t_gR0 1 2 12), (12, ip_t_il 1 13), (13, ip_t_ld 6 14), (14, ip_t_iret po), (15, ip_t_ci 0 16), (16, ip_t_is 2 17), (17, ip_t_ci 0 18), (18, ip_t_is 3 19), (19, ip_t_ci 1 20), (20, ip_t_is 4 22), (22, ip_t_il 4 24), (24, ip_t_ci 30 26), (26, ip_t_icgt 81 29), (29, ip_t_il 1 30), (30, ip_t_il 4 32), (32, ip_t_isub 33), (33, ip_t_is 5 35), (35, ip_t_ar 0 36), (36, ip_t_il 5 38), (38, ip_t_call 2 preX3_isTold postX3_isTold 41), (41, ip_t_ifne 47 44), (44, ip_t_go 75), (47, ip_t_il 2 48), (48, ip_t_ifeq 65 51), (51, ip_t_il 3 52), (52, ip_t_ar 0 53), (53, ip_t_gR0 1 2 56), (56, ip_t_il 5 58), (58, ip_t_ld 6 59), (59, ip_t_min 62), (62, ip_t_go 72), (65, ip_t_ar 0 66), (66, ip_t_gR0 1 2 69), (69, ip_t_il 5 71), (71, ip_t_ld 6 72), (72, ip_t_is 3 73), (73, ip_t_ci 1 74), (74, ip_t_is 2 75), (75, ip_t_inc 4 1 78), (78, ip_t_go 22), (81, ip_t_il 3 82), (82, ip_t_iret po)]
set_option maxRecDepth 100000 in
set_option maxHeartbeats 4000000 in
theorem tX3_coldIn {p : Program} {l : Launch} {e : Env} {s : State} {m : MethodId} {args : Array Value} {below : List Frame} {meth : Method} {c : Code} {D : va_G} {cA : Nat → ClassId} {A : Nat → Prop} {ad0 : Nat → Nat} {S0 : ip_S} {po : List ip_V → ip_S → Prop} (hx : p.tables.exec = Jvm.exec) (hb : c.code = cX3_coldIn) (hml : c.maxLocals = 6) (hown : s.vm.findClass RX3 = some m.cls) (hts : ∀ w ∈ wsX3_coldIn, w.before args s = true) (hr : meth.sig.returnType = (some .int)) (hlocks : meth.locks = false) (hname : meth.name = yX3_coldIn.name) (hA : ∀ q, s.heap.size ≤ q → A q) (hNx : ip_Nx s) : ∀ q ∈ pX3_coldIn po, ip_snd p l e rmX3_coldIn s m args below meth c D cA A (MQ below (ip_Q ip_Sta D cA ad0 S0 A po) args s 0 0 A) 6 (fun _ => (0, 0)) ip_Sta ad0 S0 q.1 q.2 := by
  have hIs : ∀ S, ip_Sta S → ip_Sta S := fun _ h => h
  have hIn := ip_In_Sta
  have hS9 : CallFix p m c cX3_coldIn 6 s args wsX3_coldIn RX3 := ⟨hx, hb, hml, hown, hts⟩
  have hin3 : ∀ w ∈ u_ws RX3 TX3 3, w ∈ wsX3_coldIn := by decide +kernel
  refine List.forall_mem_cons.mpr ⟨ip_s_aload_n hx hb dX3_coldIn_0 rfl rfl, ?_⟩
  refine List.forall_mem_cons.mpr ⟨ip_s_iload_n hx hb dX3_coldIn_1 rfl rfl, ?_⟩
  refine List.forall_mem_cons.mpr ⟨ip_s_callV hNx hS9 (ctX3_isTold l) (cwV 1 hts gX3_coldIn_X3_isTold rfl rfl rfl (by decide +kernel) ⟨Nat.le_of_ble_eq_true rfl, Nat.le_of_ble_eq_true rfl⟩) (ci := 3) rfl rfl (by decide) (fun as S hI h => shX3_isTold as S hI h) hA dX3_coldIn_2 ⟨Nat.le_of_ble_eq_true rfl, Nat.le_of_ble_eq_true rfl⟩ rfl, ?_⟩
  refine List.forall_mem_cons.mpr ⟨ip_s_ifeq (t := 15) hx hb dX3_coldIn_5 (by decide) rfl rfl, ?_⟩
  refine List.forall_mem_cons.mpr ⟨ip_s_aload_n hx hb dX3_coldIn_8 rfl rfl, ?_⟩
  refine List.forall_mem_cons.mpr ⟨ip_s_gR0 hx hb hts hin3 hown rfl (by decide) 0 (by decide) (hts (.fieldLink RX3 9 "IcePads$Sky" "cold" "[I") (by decide +kernel)) (fun _ h9 => h9) hIs 1 2 rfl (by decide) rfl dX3_coldIn_9 rfl, ?_⟩
  refine List.forall_mem_cons.mpr ⟨ip_s_iload_n hx hb dX3_coldIn_12 rfl rfl, ?_⟩
  refine List.forall_mem_cons.mpr ⟨ip_s_ldi hx hb hIs dX3_coldIn_13 rfl, ?_⟩
  refine List.forall_mem_cons.mpr ⟨ip_s_iret hx hb hr hlocks (Nat.le_of_ble_eq_true rfl) (Nat.le_of_ble_eq_true rfl) dX3_coldIn_14, ?_⟩
  refine List.forall_mem_cons.mpr ⟨ip_s_iconst hx hb dX3_coldIn_15 rfl rfl, ?_⟩
  refine List.forall_mem_cons.mpr ⟨ip_s_istore_n hx hb dX3_coldIn_16 rfl (by decide) rfl, ?_⟩
  refine List.forall_mem_cons.mpr ⟨ip_s_iconst hx hb dX3_coldIn_17 rfl rfl, ?_⟩
  refine List.forall_mem_cons.mpr ⟨ip_s_istore_n hx hb dX3_coldIn_18 rfl (by decide) rfl, ?_⟩
  refine List.forall_mem_cons.mpr ⟨ip_s_iconst hx hb dX3_coldIn_19 rfl rfl, ?_⟩
  refine List.forall_mem_cons.mpr ⟨ip_s_istore hx hb dX3_coldIn_20 (by decide) rfl, ?_⟩
  refine List.forall_mem_cons.mpr ⟨ip_s_iload hx hb dX3_coldIn_22 rfl, ?_⟩
  refine List.forall_mem_cons.mpr ⟨ip_s_bipush hx hb dX3_coldIn_24 rfl rfl, ?_⟩
  refine List.forall_mem_cons.mpr ⟨ip_s_icgt (t := 81) hx hb dX3_coldIn_26 (by decide) rfl rfl, ?_⟩
  refine List.forall_mem_cons.mpr ⟨ip_s_iload_n hx hb dX3_coldIn_29 rfl rfl, ?_⟩
  refine List.forall_mem_cons.mpr ⟨ip_s_iload hx hb dX3_coldIn_30 rfl, ?_⟩
  refine List.forall_mem_cons.mpr ⟨ip_s_isub hx hb dX3_coldIn_32 rfl, ?_⟩
  refine List.forall_mem_cons.mpr ⟨ip_s_istore hx hb dX3_coldIn_33 (by decide) rfl, ?_⟩
  refine List.forall_mem_cons.mpr ⟨ip_s_aload_n hx hb dX3_coldIn_35 rfl rfl, ?_⟩
  refine List.forall_mem_cons.mpr ⟨ip_s_iload hx hb dX3_coldIn_36 rfl, ?_⟩
  refine List.forall_mem_cons.mpr ⟨ip_s_callV hNx hS9 (ctX3_isTold l) (cwV 1 hts gX3_coldIn_X3_isTold rfl rfl rfl (by decide +kernel) ⟨Nat.le_of_ble_eq_true rfl, Nat.le_of_ble_eq_true rfl⟩) (ci := 3) rfl rfl (by decide) (fun as S hI h => shX3_isTold as S hI h) hA dX3_coldIn_38 ⟨Nat.le_of_ble_eq_true rfl, Nat.le_of_ble_eq_true rfl⟩ rfl, ?_⟩
  refine List.forall_mem_cons.mpr ⟨ip_s_ifne (t := 47) hx hb dX3_coldIn_41 (by decide) rfl rfl, ?_⟩
  refine List.forall_mem_cons.mpr ⟨ip_s_go (t := 75) hx hb dX3_coldIn_44 (by decide) (Nat.le_of_ble_eq_true rfl) (Nat.le_of_ble_eq_true rfl), ?_⟩
  refine List.forall_mem_cons.mpr ⟨ip_s_iload_n hx hb dX3_coldIn_47 rfl rfl, ?_⟩
  refine List.forall_mem_cons.mpr ⟨ip_s_ifeq (t := 65) hx hb dX3_coldIn_48 (by decide) rfl rfl, ?_⟩
  refine List.forall_mem_cons.mpr ⟨ip_s_iload_n hx hb dX3_coldIn_51 rfl rfl, ?_⟩
  refine List.forall_mem_cons.mpr ⟨ip_s_aload_n hx hb dX3_coldIn_52 rfl rfl, ?_⟩
  refine List.forall_mem_cons.mpr ⟨ip_s_gR0 hx hb hts hin3 hown rfl (by decide) 0 (by decide) (hts (.fieldLink RX3 9 "IcePads$Sky" "cold" "[I") (by decide +kernel)) (fun _ h9 => h9) hIs 1 2 rfl (by decide) rfl dX3_coldIn_53 rfl, ?_⟩
  refine List.forall_mem_cons.mpr ⟨ip_s_iload hx hb dX3_coldIn_56 rfl, ?_⟩
  refine List.forall_mem_cons.mpr ⟨ip_s_ldi hx hb hIs dX3_coldIn_58 rfl, ?_⟩
  refine List.forall_mem_cons.mpr ⟨ip_s_min hx hb hml hown (hts (.methodLink RX3 29 Lib.Math.min.name) (by decide +kernel)) (hts (.static Lib.Math.min.name) (by decide +kernel)) (hts (.initialized "java/lang/Math") (by decide +kernel)) (hts (.code Lib.Math.min.name Lib.Math.min.code 2 (some .int)) (by decide +kernel)) ⟨Nat.le_of_ble_eq_true rfl, Nat.le_of_ble_eq_true rfl⟩ ⟨Nat.zero_le _, Nat.zero_le _⟩ dX3_coldIn_59 rfl, ?_⟩
  refine List.forall_mem_cons.mpr ⟨ip_s_go (t := 72) hx hb dX3_coldIn_62 (by decide) (Nat.le_of_ble_eq_true rfl) (Nat.le_of_ble_eq_true rfl), ?_⟩
  refine List.forall_mem_cons.mpr ⟨ip_s_aload_n hx hb dX3_coldIn_65 rfl rfl, ?_⟩
  refine List.forall_mem_cons.mpr ⟨ip_s_gR0 hx hb hts hin3 hown rfl (by decide) 0 (by decide) (hts (.fieldLink RX3 9 "IcePads$Sky" "cold" "[I") (by decide +kernel)) (fun _ h9 => h9) hIs 1 2 rfl (by decide) rfl dX3_coldIn_66 rfl, ?_⟩
  refine List.forall_mem_cons.mpr ⟨ip_s_iload hx hb dX3_coldIn_69 rfl, ?_⟩
  refine List.forall_mem_cons.mpr ⟨ip_s_ldi hx hb hIs dX3_coldIn_71 rfl, ?_⟩
  refine List.forall_mem_cons.mpr ⟨ip_s_istore_n hx hb dX3_coldIn_72 rfl (by decide) rfl, ?_⟩
  refine List.forall_mem_cons.mpr ⟨ip_s_iconst hx hb dX3_coldIn_73 rfl rfl, ?_⟩
  refine List.forall_mem_cons.mpr ⟨ip_s_istore_n hx hb dX3_coldIn_74 rfl (by decide) rfl, ?_⟩
  refine List.forall_mem_cons.mpr ⟨ip_s_iinc hx hb dX3_coldIn_75 rfl (by decide) rfl, ?_⟩
  refine List.forall_mem_cons.mpr ⟨ip_s_go (t := 22) hx hb dX3_coldIn_78 (by decide) (Nat.le_of_ble_eq_true rfl) (Nat.le_of_ble_eq_true rfl), ?_⟩
  refine List.forall_mem_cons.mpr ⟨ip_s_iload_n hx hb dX3_coldIn_81 rfl rfl, ?_⟩
  refine List.forall_mem_cons.mpr ⟨ip_s_iret hx hb hr hlocks (Nat.le_of_ble_eq_true rfl) (Nat.le_of_ble_eq_true rfl) dX3_coldIn_82, ?_⟩
  exact fun _ h => absurd h List.not_mem_nil
abbrev iX3_coldIn (a : Nat) (mi : Int32) (S : ip_S) : Nat → ip_N := fun k pc loc st S1 => ∃ (b : Nat) (x5 : Option ip_V) (any least x4 : Int32), x4 = nI (b + 1) ∧ b ≤ 30 ∧ k + b = 30 ∧ pc = 22 ∧ st = [] ∧ S1 = S ∧ loc = [some (.inr (.inl (some a))), some (.inl mi), some (.inl any), some (.inl least), some (.inl x4), x5] ∧ S.1 4 mi.toNatClampNeg = 0 ∧ (match ip_cL (S.1 4) (S.1 2) mi.toNatClampNeg b with
    | none => any = 0 ∧ least = 0
    | some v => any = 1 ∧ least = v)
set_option maxRecDepth 100000 in
set_option maxHeartbeats 4000000 in
theorem lpX3_coldIn (a : Nat) (mi : Int32) (S : ip_S) (hS : ip_Sta S) (hp : a = 1 ∧ 0 ≤ mi ∧ mi ≤ 299) : ∀ k pc loc st S1, iX3_coldIn a mi S k pc loc st S1 → ip_run (pX3_coldIn (postX3_coldIn [.inr (.inl (some a)), .inl mi] S)) (fun pc => Nat.beq pc 22) (fun pc loc st S2 => ∃ k', k' < k ∧ iX3_coldIn a mi S k' pc loc st S2) 60 pc loc st S1 := by
  obtain ⟨rfl, hm⟩ := hp
  obtain ⟨n, hn, rfl⟩ := ip_mi hm
  have hcn : (nI n).toNatClampNeg = n := nI_clamp (by omega)
  rintro k pc loc st S1 ⟨b, x5, any, least, x4, rfl, hb, hk, rfl, rfl, rfl, rfl, ht, hv⟩
  refine And.intro (fun q => ?_) (fun q => ?_)
  · have q : nI 30 < nI (b + 1) := q
    rw [nI_ltI (by omega) (by omega)] at q
    have hb30 : b = 30 := by omega
    subst hb30
    refine And.intro ?_ rfl
    unfold ip_cold
    rw [if_pos ht]
    generalize ip_cL (S1.1 4) (S1.1 2) (nI n).toNatClampNeg 30 = o at hv
    cases o with
    | none => rw [hv.2]; rfl
    | some v => rw [hv.2]; rfl
  · have q : ¬ nI 30 < nI (b + 1) := q
    rw [nI_ltI (by omega) (by omega)] at q
    have hstep : ip_cL (S1.1 4) (S1.1 2) (nI n).toNatClampNeg (b + 1) = if b + 1 ≤ n ∧ ¬ S1.1 4 (n - (b + 1)) = 0 then (match ip_cL (S1.1 4) (S1.1 2) (nI n).toNatClampNeg b with
      | none => some (S1.1 2 (n - (b + 1)))
      | some v => some (if S1.1 2 (n - (b + 1)) < v then S1.1 2 (n - (b + 1)) else v)) else ip_cL (S1.1 4) (S1.1 2) (nI n).toNatClampNeg b := by
      rw [hcn]; rfl
    refine And.intro ⟨rfl, trivial⟩ ?_
    rintro r S' ⟨rfl, rfl⟩
    by_cases hle : b + 1 ≤ n
    · have he : nI n - nI (b + 1) = nI (n - (b + 1)) := pk_sub hle
      have hcl : (nI (n - (b + 1))).toNatClampNeg = n - (b + 1) := nI_clamp (by omega)
      have hrg : 0 ≤ nI (n - (b + 1)) ∧ nI (n - (b + 1)) ≤ 299 := ip_mi' (by omega)
      have hin : vp_in (nI n - nI (b + 1)) 300 := by rw [he]; exact ip_in hrg rfl
      refine And.intro (fun q2 => ?_) (fun q2 => ?_)
      · have q2 := ip_if1 q2
        rw [he, hcl] at q2
        rw [if_pos ⟨hle, q2.2.2⟩] at hstep
        refine And.intro (fun q3 => ?_) (fun q3 => ?_)
        · refine And.intro hin ?_
          refine Exists.intro (k - 1) (And.intro (by omega) ⟨b + 1, _, _, _, _, nI_1 _, by omega, by omega, rfl, rfl, rfl, rfl, ht, ?_⟩)
          rw [hstep, he, hcl]
          generalize ip_cL (S'.1 4) (S'.1 2) (nI n).toNatClampNeg b = o at hv
          cases o with
          | none => exact ⟨rfl, rfl⟩
          | some v => exact absurd (hv.1.symm.trans q3) (by decide)
        · refine And.intro hin ?_
          refine Exists.intro (k - 1) (And.intro (by omega) ⟨b + 1, _, _, _, _, nI_1 _, by omega, by omega, rfl, rfl, rfl, rfl, ht, ?_⟩)
          rw [hstep, he, hcl]
          generalize ip_cL (S'.1 4) (S'.1 2) (nI n).toNatClampNeg b = o at hv
          cases o with
          | none => exact absurd hv.1 q3
          | some v => rw [hv.2]; exact ⟨rfl, rfl⟩
      · have q2 := ip_if0 q2
        rw [he, hcl] at q2
        rw [if_neg (fun z => q2 ⟨hrg.1, Int32.lt_of_le_of_lt hrg.2 (by decide), z.2⟩)] at hstep
        refine Exists.intro (k - 1) (And.intro (by omega) ⟨b + 1, _, _, _, _, nI_1 _, by omega, by omega, rfl, rfl, rfl, rfl, ht, ?_⟩)
        rw [hstep]
        exact hv
    · have hneg : nI n - nI (b + 1) < 0 := pk_sneg (by omega) (by omega)
      rw [if_neg (fun z => hle z.1)] at hstep
      refine And.intro (fun q2 => ?_) (fun q2 => ?_)
      · exact absurd (ip_if1 q2).1 (Int32.not_le.mpr hneg)
      · refine Exists.intro (k - 1) (And.intro (by omega) ⟨b + 1, _, _, _, _, nI_1 _, by omega, by omega, rfl, rfl, rfl, rfl, ht, ?_⟩)
        rw [hstep]
        exact hv
set_option maxRecDepth 100000 in
set_option maxHeartbeats 4000000 in
theorem vX3_coldIn (a : Nat) (mi : Int32) (S : ip_S) (hS : ip_Sta S) (hp : a = 1 ∧ 0 ≤ mi ∧ mi ≤ 299) : ip_run (pX3_coldIn (postX3_coldIn [.inr (.inl (some a)), .inl mi] S)) (fun pc => Nat.beq pc 22) (fun pc loc st S2 => ∃ k, iX3_coldIn a mi S k pc loc st S2) 60 0 [some (.inr (.inl (some a))), some (.inl mi), none, none, none, none] [] S := by
  obtain ⟨rfl, hm⟩ := hp
  obtain ⟨n, hn, rfl⟩ := ip_mi hm
  have hcn : (nI n).toNatClampNeg = n := nI_clamp (by omega)
  refine And.intro ⟨rfl, trivial⟩ ?_
  rintro r S' ⟨rfl, rfl⟩
  refine And.intro (fun q => ?_) (fun q => ?_)
  · have q := ip_if0 q
    have ht : S'.1 4 (nI n).toNatClampNeg = 0 := Classical.byContradiction (fun z => q ⟨hm.1, Int32.lt_of_le_of_lt hm.2 (by decide), z⟩)
    exact Exists.intro 30 ⟨0, none, 0, 0, 1, rfl, by omega, rfl, rfl, rfl, rfl, rfl, ht, rfl, rfl⟩
  · have q := ip_if1 q
    refine And.intro (ip_in hm rfl) (And.intro ?_ rfl)
    unfold ip_cold
    rw [if_neg q.2.2]
theorem ctX3_coldIn (l : Launch) : ip_CT l yX3_coldIn wsX3_coldIn rmX3_coldIn ip_Sta preX3_coldIn postX3_coldIn := by
  refine ip_of (cc := cX3_coldIn) (maxL := 6) (ret := (some .int)) (by decide +kernel) rfl (fun _ => (0, 0)) rfl ?_ ?_
  · intro as S h
    obtain ⟨a, mi, rfl, hq⟩ := ip_e_ri h
    exact ⟨Nat.le_of_ble_eq_true rfl, by simp⟩
  intro p e s m args below meth c D cA A ad0 as S h hI hx hb hml hown hts hr hlocks hname hA hNx
  obtain ⟨a, mi, rfl, hq⟩ := ip_e_ri h
  have ht := tX3_coldIn (D := D) (cA := cA) (A := A) (ad0 := ad0) (l := l) (e := e) (below := below) (S0 := S) (po := postX3_coldIn [.inr (.inl (some a)), .inl mi] S) hx hb hml hown hts hr hlocks hname hA hNx
  refine ip_run_ok ht (fun pc loc st S2 hh => ?_) 60 0 _ _ S (vX3_coldIn a mi S hI hq)
  obtain ⟨k, hk⟩ := hh
  exact ip_loop ht (iX3_coldIn a mi S) (lpX3_coldIn a mi S hI hq) k pc loc st S2 hk
end
section
def preX3_fallIn : List ip_V → ip_S → Prop := ip_h_ri (fun _ => False) (fun a mi S => a = 1 ∧ 0 ≤ mi ∧ mi ≤ 299)
def postX3_fallIn : List ip_V → ip_S → List ip_V → ip_S → Prop := ip_h_ri (fun _ _ _ => True) (fun a mi S r S' => r = [.inl (ip_fall (S.1 4) (S.1 3) mi.toNatClampNeg)] ∧ S' = S)
theorem shX3_fallIn : ∀ as S, ip_Sta S → preX3_fallIn as S → ∃ (b : Nat) (as' : List ip_V), as = .inr (.inl (some b)) :: as' ∧ as'.length = 1 ∧ (S.2.2.2 b).1 = 3 := by
  intro as S hI h
  obtain ⟨a, mi, rfl, hq⟩ := ip_e_ri h
  exact ⟨_, _, rfl, rfl, by rw [hq.1, hI.1 1 (by decide)]; rfl⟩
def rmX3_fallIn : Room := { frames := 2, cells := 0, slots := 0, locals := 80 }
def pX3_fallIn (po : List ip_V → ip_S → Prop) : List (Nat × ip_T) := [(0, ip_t_ar 0 1), (1, ip_t_il 1 2), (2, ip_t_call 2 preX3_isTold postX3_isTold 5), (5, ip_t_ifeq 15 8), (8, ip_t_ar 0 9), (9, ip_t_gR0 1 3 12), (12, ip_t_il 1 13), (13, ip_t_ld 6 14), (14, ip_t_iret po), (15, ip_t_ci 0 16), (16, ip_t_is 2 17), (17, ip_t_ci 1 18), (18, ip_t_is 3 19), (19, ip_t_il 3 20), (20, ip_t_ci 30 22), (22, ip_t_icgt 57 25), (25, ip_t_il 1 26), (26, ip_t_il 3 27), (27, ip_t_isub 28), (28, ip_t_is 4 30), (30, ip_t_ar 0 31), (31, ip_t_il 4 33), (33, ip_t_call 2 preX3_isTold postX3_isTold 36), (36, ip_t_ifeq 51 39), (39, ip_t_il 2 40), (40, ip_t_ar 0 41), (41, ip_t_gR0 1 3 44), (44, ip_t_il 4 46), (46, ip_t_ld 6 47), (47, ip_t_max 50), (50, ip_t_is 2 51), (51, ip_t_inc 3 1 54), (54, ip_t_go 19), (57, ip_t_il 2 58), (58, ip_t_iret po)]
set_option maxRecDepth 100000 in
set_option maxHeartbeats 4000000 in
theorem tX3_fallIn {p : Program} {l : Launch} {e : Env} {s : State} {m : MethodId} {args : Array Value} {below : List Frame} {meth : Method} {c : Code} {D : va_G} {cA : Nat → ClassId} {A : Nat → Prop} {ad0 : Nat → Nat} {S0 : ip_S} {po : List ip_V → ip_S → Prop} (hx : p.tables.exec = Jvm.exec) (hb : c.code = cX3_fallIn) (hml : c.maxLocals = 5) (hown : s.vm.findClass RX3 = some m.cls) (hts : ∀ w ∈ wsX3_fallIn, w.before args s = true) (hr : meth.sig.returnType = (some .int)) (hlocks : meth.locks = false) (hname : meth.name = yX3_fallIn.name) (hA : ∀ q, s.heap.size ≤ q → A q) (hNx : ip_Nx s) : ∀ q ∈ pX3_fallIn po, ip_snd p l e rmX3_fallIn s m args below meth c D cA A (MQ below (ip_Q ip_Sta D cA ad0 S0 A po) args s 0 0 A) 5 (fun _ => (0, 0)) ip_Sta ad0 S0 q.1 q.2 := by
  have hIs : ∀ S, ip_Sta S → ip_Sta S := fun _ h => h
  have hIn := ip_In_Sta
  have hS9 : CallFix p m c cX3_fallIn 5 s args wsX3_fallIn RX3 := ⟨hx, hb, hml, hown, hts⟩
  have hin3 : ∀ w ∈ u_ws RX3 TX3 3, w ∈ wsX3_fallIn := by decide +kernel
  refine List.forall_mem_cons.mpr ⟨ip_s_aload_n hx hb dX3_fallIn_0 rfl rfl, ?_⟩
  refine List.forall_mem_cons.mpr ⟨ip_s_iload_n hx hb dX3_fallIn_1 rfl rfl, ?_⟩
  refine List.forall_mem_cons.mpr ⟨ip_s_callV hNx hS9 (ctX3_isTold l) (cwV 1 hts gX3_fallIn_X3_isTold rfl rfl rfl (by decide +kernel) ⟨Nat.le_of_ble_eq_true rfl, Nat.le_of_ble_eq_true rfl⟩) (ci := 3) rfl rfl (by decide) (fun as S hI h => shX3_isTold as S hI h) hA dX3_fallIn_2 ⟨Nat.le_of_ble_eq_true rfl, Nat.le_of_ble_eq_true rfl⟩ rfl, ?_⟩
  refine List.forall_mem_cons.mpr ⟨ip_s_ifeq (t := 15) hx hb dX3_fallIn_5 (by decide) rfl rfl, ?_⟩
  refine List.forall_mem_cons.mpr ⟨ip_s_aload_n hx hb dX3_fallIn_8 rfl rfl, ?_⟩
  refine List.forall_mem_cons.mpr ⟨ip_s_gR0 hx hb hts hin3 hown rfl (by decide) 1 (by decide) (hts (.fieldLink RX3 15 "IcePads$Sky" "fall" "[I") (by decide +kernel)) (fun _ h9 => h9) hIs 1 3 rfl (by decide) rfl dX3_fallIn_9 rfl, ?_⟩
  refine List.forall_mem_cons.mpr ⟨ip_s_iload_n hx hb dX3_fallIn_12 rfl rfl, ?_⟩
  refine List.forall_mem_cons.mpr ⟨ip_s_ldi hx hb hIs dX3_fallIn_13 rfl, ?_⟩
  refine List.forall_mem_cons.mpr ⟨ip_s_iret hx hb hr hlocks (Nat.le_of_ble_eq_true rfl) (Nat.le_of_ble_eq_true rfl) dX3_fallIn_14, ?_⟩
  refine List.forall_mem_cons.mpr ⟨ip_s_iconst hx hb dX3_fallIn_15 rfl rfl, ?_⟩
  refine List.forall_mem_cons.mpr ⟨ip_s_istore_n hx hb dX3_fallIn_16 rfl (by decide) rfl, ?_⟩
  refine List.forall_mem_cons.mpr ⟨ip_s_iconst hx hb dX3_fallIn_17 rfl rfl, ?_⟩
  refine List.forall_mem_cons.mpr ⟨ip_s_istore_n hx hb dX3_fallIn_18 rfl (by decide) rfl, ?_⟩
  refine List.forall_mem_cons.mpr ⟨ip_s_iload_n hx hb dX3_fallIn_19 rfl rfl, ?_⟩
  refine List.forall_mem_cons.mpr ⟨ip_s_bipush hx hb dX3_fallIn_20 rfl rfl, ?_⟩
  refine List.forall_mem_cons.mpr ⟨ip_s_icgt (t := 57) hx hb dX3_fallIn_22 (by decide) rfl rfl, ?_⟩
  refine List.forall_mem_cons.mpr ⟨ip_s_iload_n hx hb dX3_fallIn_25 rfl rfl, ?_⟩
  refine List.forall_mem_cons.mpr ⟨ip_s_iload_n hx hb dX3_fallIn_26 rfl rfl, ?_⟩
  refine List.forall_mem_cons.mpr ⟨ip_s_isub hx hb dX3_fallIn_27 rfl, ?_⟩
  refine List.forall_mem_cons.mpr ⟨ip_s_istore hx hb dX3_fallIn_28 (by decide) rfl, ?_⟩
  refine List.forall_mem_cons.mpr ⟨ip_s_aload_n hx hb dX3_fallIn_30 rfl rfl, ?_⟩
  refine List.forall_mem_cons.mpr ⟨ip_s_iload hx hb dX3_fallIn_31 rfl, ?_⟩
  refine List.forall_mem_cons.mpr ⟨ip_s_callV hNx hS9 (ctX3_isTold l) (cwV 1 hts gX3_fallIn_X3_isTold rfl rfl rfl (by decide +kernel) ⟨Nat.le_of_ble_eq_true rfl, Nat.le_of_ble_eq_true rfl⟩) (ci := 3) rfl rfl (by decide) (fun as S hI h => shX3_isTold as S hI h) hA dX3_fallIn_33 ⟨Nat.le_of_ble_eq_true rfl, Nat.le_of_ble_eq_true rfl⟩ rfl, ?_⟩
  refine List.forall_mem_cons.mpr ⟨ip_s_ifeq (t := 51) hx hb dX3_fallIn_36 (by decide) rfl rfl, ?_⟩
  refine List.forall_mem_cons.mpr ⟨ip_s_iload_n hx hb dX3_fallIn_39 rfl rfl, ?_⟩
  refine List.forall_mem_cons.mpr ⟨ip_s_aload_n hx hb dX3_fallIn_40 rfl rfl, ?_⟩
  refine List.forall_mem_cons.mpr ⟨ip_s_gR0 hx hb hts hin3 hown rfl (by decide) 1 (by decide) (hts (.fieldLink RX3 15 "IcePads$Sky" "fall" "[I") (by decide +kernel)) (fun _ h9 => h9) hIs 1 3 rfl (by decide) rfl dX3_fallIn_41 rfl, ?_⟩
  refine List.forall_mem_cons.mpr ⟨ip_s_iload hx hb dX3_fallIn_44 rfl, ?_⟩
  refine List.forall_mem_cons.mpr ⟨ip_s_ldi hx hb hIs dX3_fallIn_46 rfl, ?_⟩
  refine List.forall_mem_cons.mpr ⟨ip_s_max hx hb hml hown (hts (.methodLink RX3 35 Lib.Math.max.name) (by decide +kernel)) (hts (.static Lib.Math.max.name) (by decide +kernel)) (hts (.initialized "java/lang/Math") (by decide +kernel)) (hts (.code Lib.Math.max.name Lib.Math.max.code 2 (some .int)) (by decide +kernel)) ⟨Nat.le_of_ble_eq_true rfl, Nat.le_of_ble_eq_true rfl⟩ ⟨Nat.zero_le _, Nat.zero_le _⟩ dX3_fallIn_47 rfl, ?_⟩
  refine List.forall_mem_cons.mpr ⟨ip_s_istore_n hx hb dX3_fallIn_50 rfl (by decide) rfl, ?_⟩
  refine List.forall_mem_cons.mpr ⟨ip_s_iinc hx hb dX3_fallIn_51 rfl (by decide) rfl, ?_⟩
  refine List.forall_mem_cons.mpr ⟨ip_s_go (t := 19) hx hb dX3_fallIn_54 (by decide) (Nat.le_of_ble_eq_true rfl) (Nat.le_of_ble_eq_true rfl), ?_⟩
  refine List.forall_mem_cons.mpr ⟨ip_s_iload_n hx hb dX3_fallIn_57 rfl rfl, ?_⟩
  refine List.forall_mem_cons.mpr ⟨ip_s_iret hx hb hr hlocks (Nat.le_of_ble_eq_true rfl) (Nat.le_of_ble_eq_true rfl) dX3_fallIn_58, ?_⟩
  exact fun _ h => absurd h List.not_mem_nil
abbrev iX3_fallIn (a : Nat) (mi : Int32) (S : ip_S) : Nat → ip_N := fun k pc loc st S1 => ∃ (b : Nat) (x4 : Option ip_V) (g x3 : Int32), x3 = nI (b + 1) ∧ b ≤ 30 ∧ k + b = 30 ∧ pc = 19 ∧ st = [] ∧ S1 = S ∧ loc = [some (.inr (.inl (some a))), some (.inl mi), some (.inl g), some (.inl x3), x4] ∧ S.1 4 mi.toNatClampNeg = 0 ∧ g = ip_fL (S.1 4) (S.1 3) mi.toNatClampNeg b
set_option maxRecDepth 100000 in
set_option maxHeartbeats 4000000 in
theorem lpX3_fallIn (a : Nat) (mi : Int32) (S : ip_S) (hS : ip_Sta S) (hp : a = 1 ∧ 0 ≤ mi ∧ mi ≤ 299) : ∀ k pc loc st S1, iX3_fallIn a mi S k pc loc st S1 → ip_run (pX3_fallIn (postX3_fallIn [.inr (.inl (some a)), .inl mi] S)) (fun pc => Nat.beq pc 19) (fun pc loc st S2 => ∃ k', k' < k ∧ iX3_fallIn a mi S k' pc loc st S2) 60 pc loc st S1 := by
  obtain ⟨rfl, hm⟩ := hp
  obtain ⟨n, hn, rfl⟩ := ip_mi hm
  have hcn : (nI n).toNatClampNeg = n := nI_clamp (by omega)
  rintro k pc loc st S1 ⟨b, x4, g, x3, rfl, hb, hk, rfl, rfl, rfl, rfl, ht, hv⟩
  refine And.intro (fun q => ?_) (fun q => ?_)
  · have q : nI 30 < nI (b + 1) := q
    rw [nI_ltI (by omega) (by omega)] at q
    have hb30 : b = 30 := by omega
    subst hb30
    refine And.intro ?_ rfl
    unfold ip_fall
    rw [if_pos ht, hv]
  · have q : ¬ nI 30 < nI (b + 1) := q
    rw [nI_ltI (by omega) (by omega)] at q
    have hstep : ip_fL (S1.1 4) (S1.1 3) (nI n).toNatClampNeg (b + 1) = if b + 1 ≤ n ∧ ¬ S1.1 4 (n - (b + 1)) = 0 then (if ip_fL (S1.1 4) (S1.1 3) (nI n).toNatClampNeg b < S1.1 3 (n - (b + 1)) then S1.1 3 (n - (b + 1)) else ip_fL (S1.1 4) (S1.1 3) (nI n).toNatClampNeg b) else ip_fL (S1.1 4) (S1.1 3) (nI n).toNatClampNeg b := by
      rw [hcn]; rfl
    refine And.intro ⟨rfl, trivial⟩ ?_
    rintro r S' ⟨rfl, rfl⟩
    by_cases hle : b + 1 ≤ n
    · have he : nI n - nI (b + 1) = nI (n - (b + 1)) := pk_sub hle
      have hcl : (nI (n - (b + 1))).toNatClampNeg = n - (b + 1) := nI_clamp (by omega)
      have hrg : 0 ≤ nI (n - (b + 1)) ∧ nI (n - (b + 1)) ≤ 299 := ip_mi' (by omega)
      have hin : vp_in (nI n - nI (b + 1)) 300 := by rw [he]; exact ip_in hrg rfl
      refine And.intro (fun q2 => ?_) (fun q2 => ?_)
      · have q2 := ip_if0 q2
        rw [he, hcl] at q2
        rw [if_neg (fun z => q2 ⟨hrg.1, Int32.lt_of_le_of_lt hrg.2 (by decide), z.2⟩)] at hstep
        refine Exists.intro (k - 1) (And.intro (by omega) ⟨b + 1, _, _, _, nI_1 _, by omega, by omega, rfl, rfl, rfl, rfl, ht, ?_⟩)
        rw [hstep]
        exact hv
      · have q2 := ip_if1 q2
        rw [he, hcl] at q2
        rw [if_pos ⟨hle, q2.2.2⟩] at hstep
        refine And.intro hin ?_
        refine Exists.intro (k - 1) (And.intro (by omega) ⟨b + 1, _, _, _, nI_1 _, by omega, by omega, rfl, rfl, rfl, rfl, ht, ?_⟩)
        rw [hstep, he, hcl, hv]
    · have hneg : nI n - nI (b + 1) < 0 := pk_sneg (by omega) (by omega)
      rw [if_neg (fun z => hle z.1)] at hstep
      refine And.intro (fun q2 => ?_) (fun q2 => ?_)
      · refine Exists.intro (k - 1) (And.intro (by omega) ⟨b + 1, _, _, _, nI_1 _, by omega, by omega, rfl, rfl, rfl, rfl, ht, ?_⟩)
        rw [hstep]
        exact hv
      · exact absurd (ip_if1 q2).1 (Int32.not_le.mpr hneg)
set_option maxRecDepth 100000 in
set_option maxHeartbeats 4000000 in
theorem vX3_fallIn (a : Nat) (mi : Int32) (S : ip_S) (hS : ip_Sta S) (hp : a = 1 ∧ 0 ≤ mi ∧ mi ≤ 299) : ip_run (pX3_fallIn (postX3_fallIn [.inr (.inl (some a)), .inl mi] S)) (fun pc => Nat.beq pc 19) (fun pc loc st S2 => ∃ k, iX3_fallIn a mi S k pc loc st S2) 60 0 [some (.inr (.inl (some a))), some (.inl mi), none, none, none] [] S := by
  obtain ⟨rfl, hm⟩ := hp
  refine And.intro ⟨rfl, trivial⟩ ?_
  rintro r S' ⟨rfl, rfl⟩
  refine And.intro (fun q => ?_) (fun q => ?_)
  · have q := ip_if0 q
    have ht : S'.1 4 mi.toNatClampNeg = 0 := Classical.byContradiction (fun z => q ⟨hm.1, Int32.lt_of_le_of_lt hm.2 (by decide), z⟩)
    exact Exists.intro 30 ⟨0, none, 0, 1, rfl, by omega, rfl, rfl, rfl, rfl, rfl, ht, rfl⟩
  · have q := ip_if1 q
    refine And.intro (ip_in hm rfl) (And.intro ?_ rfl)
    unfold ip_fall
    rw [if_neg q.2.2]
theorem ctX3_fallIn (l : Launch) : ip_CT l yX3_fallIn wsX3_fallIn rmX3_fallIn ip_Sta preX3_fallIn postX3_fallIn := by
  refine ip_of (cc := cX3_fallIn) (maxL := 5) (ret := (some .int)) (by decide +kernel) rfl (fun _ => (0, 0)) rfl ?_ ?_
  · intro as S h
    obtain ⟨a, mi, rfl, hq⟩ := ip_e_ri h
    exact ⟨Nat.le_of_ble_eq_true rfl, by simp⟩
  intro p e s m args below meth c D cA A ad0 as S h hI hx hb hml hown hts hr hlocks hname hA hNx
  obtain ⟨a, mi, rfl, hq⟩ := ip_e_ri h
  have ht := tX3_fallIn (D := D) (cA := cA) (A := A) (ad0 := ad0) (l := l) (e := e) (below := below) (S0 := S) (po := postX3_fallIn [.inr (.inl (some a)), .inl mi] S) hx hb hml hown hts hr hlocks hname hA hNx
  refine ip_run_ok ht (fun pc loc st S2 hh => ?_) 60 0 _ _ S (vX3_fallIn a mi S hI hq)
  obtain ⟨k, hk⟩ := hh
  exact ip_loop ht (iX3_fallIn a mi S) (lpX3_fallIn a mi S hI hq) k pc loc st S2 hk

def preX0_init : List ip_V → ip_S → Prop := ip_h_ririii (fun _ => False) (fun a kind sp times parts li S => (S.2.2.2 a).1 = 0 ∧ True)
def postX0_init : List ip_V → ip_S → List ip_V → ip_S → Prop := ip_h_ririii (fun _ _ _ => True) (fun a kind sp times parts li S r S' => r = [] ∧ S' = ip_sI (ip_sI (ip_sI (ip_sR (ip_sI S a 0 kind) a 1 (some sp)) a 2 times) a 3 parts) a 4 li)
theorem shX0_init : ∀ as S, ip_Sta S → preX0_init as S → ∃ (b : Nat) (as' : List ip_V), as = .inr (.inl (some b)) :: as' ∧ as'.length = 5 := by
  intro as S hI h
  obtain ⟨a, kind, sp, times, parts, li, rfl, hq⟩ := ip_e_ririii h
  exact ⟨_, _, rfl, rfl⟩
def rmX0_init : Room := { frames := 1, cells := 0, slots := 0, locals := 40 }
def pX0_init (po : List ip_V → ip_S → Prop) : List (Nat × ip_T) := [(0, ip_t_ar 0 1), (1, ip_t_oi 4), (4, ip_t_ar 0 5), (5, ip_t_il 1 6), (6, ip_t_pI 0 0 9), (9, ip_t_ar 0 10), (10, ip_t_ar 2 11), (11, ip_t_pR 0 1 14), (14, ip_t_ar 0 15), (15, ip_t_il 3 16), (16, ip_t_pI 0 2 19), (19, ip_t_ar 0 20), (20, ip_t_il 4 22), (22, ip_t_pI 0 3 25), (25, ip_t_ar 0 26), (26, ip_t_il 5 28), (28, ip_t_pI 0 4 31), (31, ip_t_vret po)]
set_option maxRecDepth 100000 in
set_option maxHeartbeats 4000000 in
theorem tX0_init {p : Program} {l : Launch} {e : Env} {s : State} {m : MethodId} {args : Array Value} {below : List Frame} {meth : Method} {c : Code} {D : va_G} {cA : Nat → ClassId} {A : Nat → Prop} {ad0 : Nat → Nat} {S0 : ip_S} {po : List ip_V → ip_S → Prop} (hx : p.tables.exec = Jvm.exec) (hb : c.code = cX0_init) (hml : c.maxLocals = 6) (hown : s.vm.findClass RX0 = some m.cls) (hts : ∀ w ∈ wsX0_init, w.before args s = true) (hr : meth.sig.returnType = none) (hlocks : meth.locks = false) (hname : meth.name = yX0_init.name) (hA : ∀ q, s.heap.size ≤ q → A q) (hNx : ip_Nx s) : ∀ q ∈ pX0_init po, ip_snd p l e rmX0_init s m args below meth c D cA A (MQ below (ip_Q ip_Sta D cA ad0 S0 A po) args s 0 0 A) 6 (fun _ => (0, 0)) ip_Sta ad0 S0 q.1 q.2 := by
  have hIs : ∀ S, ip_Sta S → ip_Sta S := fun _ h => h
  have hIn := ip_In_Sta
  have hS9 : CallFix p m c cX0_init 6 s args wsX0_init RX0 := ⟨hx, hb, hml, hown, hts⟩
  have hin0 : ∀ w ∈ u_ws RX0 TX0 5, w ∈ wsX0_init := by decide +kernel
  refine List.forall_mem_cons.mpr ⟨ip_s_aload_n hx hb dX0_init_0 rfl rfl, ?_⟩
  refine List.forall_mem_cons.mpr ⟨ip_s_oi hx hb hml hown (hts (.methodLink RX0 1 objectInit) (by decide +kernel)) (hts (.instanceMethod objectInit) (by decide +kernel)) (hts (.code objectInit ⟨#[0xb1]⟩ 1 none) (by decide +kernel)) ⟨Nat.le_of_ble_eq_true rfl, Nat.le_of_ble_eq_true rfl⟩ dX0_init_1 rfl, ?_⟩
  refine List.forall_mem_cons.mpr ⟨ip_s_aload_n hx hb dX0_init_4 rfl rfl, ?_⟩
  refine List.forall_mem_cons.mpr ⟨ip_s_iload_n hx hb dX0_init_5 rfl rfl, ?_⟩
  refine List.forall_mem_cons.mpr ⟨ip_s_pIF hx hb hts hin0 hown rfl (by decide) 0 (by decide) (hts (.fieldLink RX0 7 "IcePads$Fluid" "kind" "I") (by decide +kernel)) (fun _ h9 => h9) tyX0 tyX0_ok nmX0 hIn rfl hname rfl rfl (by decide +kernel) dX0_init_6 rfl, ?_⟩
  refine List.forall_mem_cons.mpr ⟨ip_s_aload_n hx hb dX0_init_9 rfl rfl, ?_⟩
  refine List.forall_mem_cons.mpr ⟨ip_s_aload_n hx hb dX0_init_10 rfl rfl, ?_⟩
  refine List.forall_mem_cons.mpr ⟨ip_s_pRF (fty := (.array .int)) hx hb hts hin0 hown rfl (by decide) 1 (by decide) (hts (.fieldLink RX0 13 "IcePads$Fluid" "spans" "[I") (by decide +kernel)) (fun _ h9 => h9) tyX0 tyX0_ok nmX0 (fun S q o hS hk => hIn.2.2.1 S q 1 o hS (Or.inl (by omega))) rfl hname rfl rfl (by decide +kernel) (fun o => by cases o <;> exact ⟨rfl, rfl⟩) dX0_init_11 rfl, ?_⟩
  refine List.forall_mem_cons.mpr ⟨ip_s_aload_n hx hb dX0_init_14 rfl rfl, ?_⟩
  refine List.forall_mem_cons.mpr ⟨ip_s_iload_n hx hb dX0_init_15 rfl rfl, ?_⟩
  refine List.forall_mem_cons.mpr ⟨ip_s_pIF hx hb hts hin0 hown rfl (by decide) 2 (by decide) (hts (.fieldLink RX0 17 "IcePads$Fluid" "times" "I") (by decide +kernel)) (fun _ h9 => h9) tyX0 tyX0_ok nmX0 hIn rfl hname rfl rfl (by decide +kernel) dX0_init_16 rfl, ?_⟩
  refine List.forall_mem_cons.mpr ⟨ip_s_aload_n hx hb dX0_init_19 rfl rfl, ?_⟩
  refine List.forall_mem_cons.mpr ⟨ip_s_iload hx hb dX0_init_20 rfl, ?_⟩
  refine List.forall_mem_cons.mpr ⟨ip_s_pIF hx hb hts hin0 hown rfl (by decide) 3 (by decide) (hts (.fieldLink RX0 20 "IcePads$Fluid" "parts" "I") (by decide +kernel)) (fun _ h9 => h9) tyX0 tyX0_ok nmX0 hIn rfl hname rfl rfl (by decide +kernel) dX0_init_22 rfl, ?_⟩
  refine List.forall_mem_cons.mpr ⟨ip_s_aload_n hx hb dX0_init_25 rfl rfl, ?_⟩
  refine List.forall_mem_cons.mpr ⟨ip_s_iload hx hb dX0_init_26 rfl, ?_⟩
  refine List.forall_mem_cons.mpr ⟨ip_s_pI hx hb hts hin0 hown rfl (by decide) 4 (by decide) (hts (.fieldLink RX0 23 "IcePads$Fluid" "litresLeft" "I") (by decide +kernel)) (fun _ h9 => h9) tyX0 tyX0_ok nmX0 hIn rfl rfl (by decide +kernel) dX0_init_28 rfl, ?_⟩
  refine List.forall_mem_cons.mpr ⟨ip_s_vret hx hb hr hlocks (Nat.le_of_ble_eq_true rfl) (Nat.le_of_ble_eq_true rfl) dX0_init_31, ?_⟩
  exact fun _ h => absurd h List.not_mem_nil
set_option maxRecDepth 100000 in
set_option maxHeartbeats 4000000 in
theorem vX0_init (a : Nat) (kind : Int32) (sp : Nat) (times : Int32) (parts : Int32) (li : Int32) (S : ip_S) (hS : ip_Sta S) (hp : (S.2.2.2 a).1 = 0 ∧ True) : ip_run (pX0_init (postX0_init [.inr (.inl (some a)), .inl kind, .inr (.inl (some sp)), .inl times, .inl parts, .inl li] S)) (fun _ => false) (fun _ _ _ _ => False) 60 0 [some (.inr (.inl (some a))), some (.inl kind), some (.inr (.inl (some sp))), some (.inl times), some (.inl parts), some (.inl li)] [] S := by
  have h1 := hp.1
  refine And.intro h1 ?_
  refine And.intro h1 ?_
  refine And.intro h1 ?_
  refine And.intro h1 ?_
  refine And.intro h1 ?_
  exact And.intro rfl rfl
theorem ctX0_init (l : Launch) : ip_CT l yX0_init wsX0_init rmX0_init ip_Sta preX0_init postX0_init := by
  refine ip_of (cc := cX0_init) (maxL := 6) (ret := none) (by decide +kernel) rfl (fun _ => (0, 0)) rfl ?_ ?_
  · intro as S h
    obtain ⟨a, kind, sp, times, parts, li, rfl, hq⟩ := ip_e_ririii h
    exact ⟨Nat.le_of_ble_eq_true rfl, by simp⟩
  intro p e s m args below meth c D cA A ad0 as S h hI hx hb hml hown hts hr hlocks hname hA hNx
  obtain ⟨a, kind, sp, times, parts, li, rfl, hq⟩ := ip_e_ririii h
  refine ip_run_ok (stop := fun _ => false) (tX0_init hx hb hml hown hts hr hlocks hname hA hNx) (fun _ _ _ _ h => False.elim h) 60 0 _ _ S ?_
  exact vX0_init a kind sp times parts li S hI hq

def preX1_init : List ip_V → ip_S → Prop := ip_h_riiiir (fun _ => False) (fun a nu si re ro fl S => (S.2.2.2 a).1 = 1 ∧ True)
def postX1_init : List ip_V → ip_S → List ip_V → ip_S → Prop := ip_h_riiiir (fun _ _ _ => True) (fun a nu si re ro fl S r S' => r = [] ∧ S' = ip_sR (ip_sI (ip_sI (ip_sI (ip_sI (ip_sI (ip_sI (ip_sI (ip_sI S a 6 (-900)) a 7 (-900)) a 8 (-900)) a 0 nu) a 3 si) a 1 re) a 5 re) a 4 ro) a 2 (some fl))
theorem shX1_init : ∀ as S, ip_Sta S → preX1_init as S → ∃ (b : Nat) (as' : List ip_V), as = .inr (.inl (some b)) :: as' ∧ as'.length = 5 := by
  intro as S hI h
  obtain ⟨a, nu, si, re, ro, fl, rfl, hq⟩ := ip_e_riiiir h
  exact ⟨_, _, rfl, rfl⟩
def rmX1_init : Room := { frames := 1, cells := 0, slots := 0, locals := 40 }
def pX1_init (po : List ip_V → ip_S → Prop) : List (Nat × ip_T) := [(0, ip_t_ar 0 1), (1, ip_t_oi 4), (4, ip_t_ar 0 5), (5, ip_t_ci (-900) 8), (8, ip_t_pI 1 6 11), (11, ip_t_ar 0 12), (12, ip_t_ci (-900) 15), (15, ip_t_pI 1 7 18), (18, ip_t_ar 0 19), (19, ip_t_ci (-900) 22), (22, ip_t_pI 1 8 25), (25, ip_t_ar 0 26), (26, ip_t_il 1 27), (27, ip_t_pI 1 0 30), (30, ip_t_ar 0 31), (31, ip_t_il 2 32), (32, ip_t_pI 1 3 35), (35, ip_t_ar 0 36), (36, ip_t_il 3 37), (37, ip_t_pI 1 1 40), (40, ip_t_ar 0 41), (41, ip_t_il 3 42), (42, ip_t_pI 1 5 45), (45, ip_t_ar 0 46), (46, ip_t_il 4 48), (48, ip_t_pI 1 4 51), (51, ip_t_ar 0 52), (52, ip_t_ar 5 54), (54, ip_t_pR 1 2 57), (57, ip_t_vret po)]
set_option maxRecDepth 100000 in
set_option maxHeartbeats 4000000 in
theorem tX1_init {p : Program} {l : Launch} {e : Env} {s : State} {m : MethodId} {args : Array Value} {below : List Frame} {meth : Method} {c : Code} {D : va_G} {cA : Nat → ClassId} {A : Nat → Prop} {ad0 : Nat → Nat} {S0 : ip_S} {po : List ip_V → ip_S → Prop} (hx : p.tables.exec = Jvm.exec) (hb : c.code = cX1_init) (hml : c.maxLocals = 6) (hown : s.vm.findClass RX1 = some m.cls) (hts : ∀ w ∈ wsX1_init, w.before args s = true) (hr : meth.sig.returnType = none) (hlocks : meth.locks = false) (hname : meth.name = yX1_init.name) (hA : ∀ q, s.heap.size ≤ q → A q) (hNx : ip_Nx s) : ∀ q ∈ pX1_init po, ip_snd p l e rmX1_init s m args below meth c D cA A (MQ below (ip_Q ip_Sta D cA ad0 S0 A po) args s 0 0 A) 6 (fun _ => (0, 0)) ip_Sta ad0 S0 q.1 q.2 := by
  have hIs : ∀ S, ip_Sta S → ip_Sta S := fun _ h => h
  have hIn := ip_In_Sta
  have hS9 : CallFix p m c cX1_init 6 s args wsX1_init RX1 := ⟨hx, hb, hml, hown, hts⟩
  have hin1 : ∀ w ∈ u_ws RX1 TX1 11, w ∈ wsX1_init := by decide +kernel
  refine List.forall_mem_cons.mpr ⟨ip_s_aload_n hx hb dX1_init_0 rfl rfl, ?_⟩
  refine List.forall_mem_cons.mpr ⟨ip_s_oi hx hb hml hown (hts (.methodLink RX1 3 objectInit) (by decide +kernel)) (hts (.instanceMethod objectInit) (by decide +kernel)) (hts (.code objectInit ⟨#[0xb1]⟩ 1 none) (by decide +kernel)) ⟨Nat.le_of_ble_eq_true rfl, Nat.le_of_ble_eq_true rfl⟩ dX1_init_1 rfl, ?_⟩
  refine List.forall_mem_cons.mpr ⟨ip_s_aload_n hx hb dX1_init_4 rfl rfl, ?_⟩
  refine List.forall_mem_cons.mpr ⟨ip_s_sipush hx hb dX1_init_5 rfl rfl, ?_⟩
  refine List.forall_mem_cons.mpr ⟨ip_s_pI hx hb hts hin1 hown rfl (by decide) 6 (by decide) (hts (.fieldLink RX1 9 "IcePads$Jet" "pad" "I") (by decide +kernel)) (fun _ h9 => h9) tyX1 tyX1_ok nmX1 hIn rfl rfl (by decide +kernel) dX1_init_8 rfl, ?_⟩
  refine List.forall_mem_cons.mpr ⟨ip_s_aload_n hx hb dX1_init_11 rfl rfl, ?_⟩
  refine List.forall_mem_cons.mpr ⟨ip_s_sipush hx hb dX1_init_12 rfl rfl, ?_⟩
  refine List.forall_mem_cons.mpr ⟨ip_s_pI hx hb hts hin1 hown rfl (by decide) 7 (by decide) (hts (.fieldLink RX1 15 "IcePads$Jet" "start" "I") (by decide +kernel)) (fun _ h9 => h9) tyX1 tyX1_ok nmX1 hIn rfl rfl (by decide +kernel) dX1_init_15 rfl, ?_⟩
  refine List.forall_mem_cons.mpr ⟨ip_s_aload_n hx hb dX1_init_18 rfl rfl, ?_⟩
  refine List.forall_mem_cons.mpr ⟨ip_s_sipush hx hb dX1_init_19 rfl rfl, ?_⟩
  refine List.forall_mem_cons.mpr ⟨ip_s_pI hx hb hts hin1 hown rfl (by decide) 8 (by decide) (hts (.fieldLink RX1 18 "IcePads$Jet" "flew" "I") (by decide +kernel)) (fun _ h9 => h9) tyX1 tyX1_ok nmX1 hIn rfl rfl (by decide +kernel) dX1_init_22 rfl, ?_⟩
  refine List.forall_mem_cons.mpr ⟨ip_s_aload_n hx hb dX1_init_25 rfl rfl, ?_⟩
  refine List.forall_mem_cons.mpr ⟨ip_s_iload_n hx hb dX1_init_26 rfl rfl, ?_⟩
  refine List.forall_mem_cons.mpr ⟨ip_s_pIF hx hb hts hin1 hown rfl (by decide) 0 (by decide) (hts (.fieldLink RX1 21 "IcePads$Jet" "number" "I") (by decide +kernel)) (fun _ h9 => h9) tyX1 tyX1_ok nmX1 hIn rfl hname rfl rfl (by decide +kernel) dX1_init_27 rfl, ?_⟩
  refine List.forall_mem_cons.mpr ⟨ip_s_aload_n hx hb dX1_init_30 rfl rfl, ?_⟩
  refine List.forall_mem_cons.mpr ⟨ip_s_iload_n hx hb dX1_init_31 rfl rfl, ?_⟩
  refine List.forall_mem_cons.mpr ⟨ip_s_pIF hx hb hts hin1 hown rfl (by decide) 3 (by decide) (hts (.fieldLink RX1 24 "IcePads$Jet" "size" "I") (by decide +kernel)) (fun _ h9 => h9) tyX1 tyX1_ok nmX1 hIn rfl hname rfl rfl (by decide +kernel) dX1_init_32 rfl, ?_⟩
  refine List.forall_mem_cons.mpr ⟨ip_s_aload_n hx hb dX1_init_35 rfl rfl, ?_⟩
  refine List.forall_mem_cons.mpr ⟨ip_s_iload_n hx hb dX1_init_36 rfl rfl, ?_⟩
  refine List.forall_mem_cons.mpr ⟨ip_s_pIF hx hb hts hin1 hown rfl (by decide) 1 (by decide) (hts (.fieldLink RX1 27 "IcePads$Jet" "firstReady" "I") (by decide +kernel)) (fun _ h9 => h9) tyX1 tyX1_ok nmX1 hIn rfl hname rfl rfl (by decide +kernel) dX1_init_37 rfl, ?_⟩
  refine List.forall_mem_cons.mpr ⟨ip_s_aload_n hx hb dX1_init_40 rfl rfl, ?_⟩
  refine List.forall_mem_cons.mpr ⟨ip_s_iload_n hx hb dX1_init_41 rfl rfl, ?_⟩
  refine List.forall_mem_cons.mpr ⟨ip_s_pI hx hb hts hin1 hown rfl (by decide) 5 (by decide) (hts (.fieldLink RX1 30 "IcePads$Jet" "ready" "I") (by decide +kernel)) (fun _ h9 => h9) tyX1 tyX1_ok nmX1 hIn rfl rfl (by decide +kernel) dX1_init_42 rfl, ?_⟩
  refine List.forall_mem_cons.mpr ⟨ip_s_aload_n hx hb dX1_init_45 rfl rfl, ?_⟩
  refine List.forall_mem_cons.mpr ⟨ip_s_iload hx hb dX1_init_46 rfl, ?_⟩
  refine List.forall_mem_cons.mpr ⟨ip_s_pIF hx hb hts hin1 hown rfl (by decide) 4 (by decide) (hts (.fieldLink RX1 33 "IcePads$Jet" "roll" "I") (by decide +kernel)) (fun _ h9 => h9) tyX1 tyX1_ok nmX1 hIn rfl hname rfl rfl (by decide +kernel) dX1_init_48 rfl, ?_⟩
  refine List.forall_mem_cons.mpr ⟨ip_s_aload_n hx hb dX1_init_51 rfl rfl, ?_⟩
  refine List.forall_mem_cons.mpr ⟨ip_s_aload hx hb dX1_init_52 rfl, ?_⟩
  refine List.forall_mem_cons.mpr ⟨ip_s_pRF (fty := (.object "IcePads$Fluid")) hx hb hts hin1 hown rfl (by decide) 2 (by decide) (hts (.fieldLink RX1 36 "IcePads$Jet" "fluid" "LIcePads$Fluid;") (by decide +kernel)) (fun _ h9 => h9) tyX1 tyX1_ok nmX1 (fun S q o hS hk => hIn.2.2.1 S q 2 o hS (Or.inl (by omega))) rfl hname rfl rfl (by decide +kernel) (fun o => by cases o <;> exact ⟨rfl, rfl⟩) dX1_init_54 rfl, ?_⟩
  refine List.forall_mem_cons.mpr ⟨ip_s_vret hx hb hr hlocks (Nat.le_of_ble_eq_true rfl) (Nat.le_of_ble_eq_true rfl) dX1_init_57, ?_⟩
  exact fun _ h => absurd h List.not_mem_nil
set_option maxRecDepth 100000 in
set_option maxHeartbeats 4000000 in
theorem vX1_init (a : Nat) (nu : Int32) (si : Int32) (re : Int32) (ro : Int32) (fl : Nat) (S : ip_S) (hS : ip_Sta S) (hp : (S.2.2.2 a).1 = 1 ∧ True) : ip_run (pX1_init (postX1_init [.inr (.inl (some a)), .inl nu, .inl si, .inl re, .inl ro, .inr (.inl (some fl))] S)) (fun _ => false) (fun _ _ _ _ => False) 80 0 [some (.inr (.inl (some a))), some (.inl nu), some (.inl si), some (.inl re), some (.inl ro), some (.inr (.inl (some fl)))] [] S := by
  have h1 := hp.1
  refine And.intro h1 ?_
  refine And.intro h1 ?_
  refine And.intro h1 ?_
  refine And.intro h1 ?_
  refine And.intro h1 ?_
  refine And.intro h1 ?_
  refine And.intro h1 ?_
  refine And.intro h1 ?_
  refine And.intro h1 ?_
  exact And.intro rfl rfl
theorem ctX1_init (l : Launch) : ip_CT l yX1_init wsX1_init rmX1_init ip_Sta preX1_init postX1_init := by
  refine ip_of (cc := cX1_init) (maxL := 6) (ret := none) (by decide +kernel) rfl (fun _ => (0, 0)) rfl ?_ ?_
  · intro as S h
    obtain ⟨a, nu, si, re, ro, fl, rfl, hq⟩ := ip_e_riiiir h
    exact ⟨Nat.le_of_ble_eq_true rfl, by simp⟩
  intro p e s m args below meth c D cA A ad0 as S h hI hx hb hml hown hts hr hlocks hname hA hNx
  obtain ⟨a, nu, si, re, ro, fl, rfl, hq⟩ := ip_e_riiiir h
  refine ip_run_ok (stop := fun _ => false) (tX1_init hx hb hml hown hts hr hlocks hname hA hNx) (fun _ _ _ _ h => False.elim h) 80 0 _ _ S ?_
  exact vX1_init a nu si re ro fl S hI hq

/-- what X3_init() leaves -/
def ip_cX3 (S : ip_S) : ip_S :=
  let S := ip_nw S 2 (6, 300)
  let S := ip_sR S 1 0 (some 2)
  let S := ip_nw S 3 (6, 300)
  let S := ip_sR S 1 1 (some 3)
  let S := ip_nw S 4 (7, 300)
  let S := ip_sR S 1 2 (some 4)
  S

def preX3_init : List ip_V → ip_S → Prop := ip_h_r (fun _ => False) (fun a S => (S.2.2.2 a).1 = 3 ∧ a = 1 ∧ ∀ q, 2 ≤ q → q ≤ 4 → 10 ≤ (S.2.2.2 q).1)
def postX3_init : List ip_V → ip_S → List ip_V → ip_S → Prop := ip_h_r (fun _ _ _ => True) (fun a S r S' => r = [] ∧ S' = ip_cX3 S)
theorem shX3_init : ∀ as S, ip_Tr S → preX3_init as S → ∃ (b : Nat) (as' : List ip_V), as = .inr (.inl (some b)) :: as' ∧ as'.length = 0 := by
  intro as S hI h
  obtain ⟨a, rfl, hq⟩ := ip_e_r h
  exact ⟨_, _, rfl, rfl⟩
def rmX3_init : Room := { frames := 1, cells := 3, slots := 900, locals := 40 }
def pX3_init (po : List ip_V → ip_S → Prop) : List (Nat × ip_T) := [(0, ip_t_ar 0 1), (1, ip_t_oi 4), (4, ip_t_ar 0 5), (5, ip_t_ci 300 8), (8, ip_t_newa 6 300 10), (10, ip_t_pR 3 0 13), (13, ip_t_ar 0 14), (14, ip_t_ci 300 17), (17, ip_t_newa 6 300 19), (19, ip_t_pR 3 1 22), (22, ip_t_ar 0 23), (23, ip_t_ci 300 26), (26, ip_t_newa 7 300 28), (28, ip_t_pR 3 2 31), (31, ip_t_vret po)]
set_option maxRecDepth 100000 in
set_option maxHeartbeats 4000000 in
theorem tX3_init {p : Program} {l : Launch} {e : Env} {s : State} {m : MethodId} {args : Array Value} {below : List Frame} {meth : Method} {c : Code} {D : va_G} {cA : Nat → ClassId} {A : Nat → Prop} {ad0 : Nat → Nat} {S0 : ip_S} {po : List ip_V → ip_S → Prop} (hx : p.tables.exec = Jvm.exec) (hb : c.code = cX3_init) (hml : c.maxLocals = 1) (hown : s.vm.findClass RX3 = some m.cls) (hts : ∀ w ∈ wsX3_init, w.before args s = true) (hr : meth.sig.returnType = none) (hlocks : meth.locks = false) (hname : meth.name = yX3_init.name) (hA : ∀ q, s.heap.size ≤ q → A q) (hNx : ip_Nx s) : ∀ q ∈ pX3_init po, ip_snd p l e rmX3_init s m args below meth c D cA A (MQ below (ip_Q ip_Tr D cA ad0 S0 A po) args s 3 900 A) 1 (fun pc => bif Nat.ble pc 8 then (0, 0) else bif Nat.ble pc 17 then (1, 300) else bif Nat.ble pc 26 then (2, 600) else (3, 900)) ip_Tr ad0 S0 q.1 q.2 := by
  have hIn := ip_In_Tr
  have hS9 : CallFix p m c cX3_init 1 s args wsX3_init RX3 := ⟨hx, hb, hml, hown, hts⟩
  have hin3 : ∀ w ∈ u_ws RX3 TX3 3, w ∈ wsX3_init := by decide +kernel
  refine List.forall_mem_cons.mpr ⟨ip_s_aload_n hx hb dX3_init_0 rfl rfl, ?_⟩
  refine List.forall_mem_cons.mpr ⟨ip_s_oi hx hb hml hown (hts (.methodLink RX3 3 objectInit) (by decide +kernel)) (hts (.instanceMethod objectInit) (by decide +kernel)) (hts (.code objectInit ⟨#[0xb1]⟩ 1 none) (by decide +kernel)) ⟨Nat.le_of_ble_eq_true rfl, Nat.le_of_ble_eq_true rfl⟩ dX3_init_1 rfl, ?_⟩
  refine List.forall_mem_cons.mpr ⟨ip_s_aload_n hx hb dX3_init_4 rfl rfl, ?_⟩
  refine List.forall_mem_cons.mpr ⟨ip_s_sipush hx hb dX3_init_5 rfl rfl, ?_⟩
  refine List.forall_mem_cons.mpr ⟨ip_s_newi hx hb (hts (.arrayClass .int) (by decide +kernel)) hA hIn (by decide) (Nat.le_of_ble_eq_true rfl) (Nat.le_of_ble_eq_true rfl) dX3_init_8 rfl, ?_⟩
  refine List.forall_mem_cons.mpr ⟨ip_s_pRF (fty := (.array .int)) hx hb hts hin3 hown rfl (by decide) 0 (by decide) (hts (.fieldLink RX3 9 "IcePads$Sky" "cold" "[I") (by decide +kernel)) (fun _ h9 => h9) tyX3 tyX3_ok nmX3 (fun _ _ _ _ _ => trivial) rfl hname rfl rfl (by decide +kernel) (fun o => by cases o <;> exact ⟨rfl, rfl⟩) dX3_init_10 rfl, ?_⟩
  refine List.forall_mem_cons.mpr ⟨ip_s_aload_n hx hb dX3_init_13 rfl rfl, ?_⟩
  refine List.forall_mem_cons.mpr ⟨ip_s_sipush hx hb dX3_init_14 rfl rfl, ?_⟩
  refine List.forall_mem_cons.mpr ⟨ip_s_newi hx hb (hts (.arrayClass .int) (by decide +kernel)) hA hIn (by decide) (Nat.le_of_ble_eq_true rfl) (Nat.le_of_ble_eq_true rfl) dX3_init_17 rfl, ?_⟩
  refine List.forall_mem_cons.mpr ⟨ip_s_pRF (fty := (.array .int)) hx hb hts hin3 hown rfl (by decide) 1 (by decide) (hts (.fieldLink RX3 15 "IcePads$Sky" "fall" "[I") (by decide +kernel)) (fun _ h9 => h9) tyX3 tyX3_ok nmX3 (fun _ _ _ _ _ => trivial) rfl hname rfl rfl (by decide +kernel) (fun o => by cases o <;> exact ⟨rfl, rfl⟩) dX3_init_19 rfl, ?_⟩
  refine List.forall_mem_cons.mpr ⟨ip_s_aload_n hx hb dX3_init_22 rfl rfl, ?_⟩
  refine List.forall_mem_cons.mpr ⟨ip_s_sipush hx hb dX3_init_23 rfl rfl, ?_⟩
  refine List.forall_mem_cons.mpr ⟨ip_s_newz hx hb (hts (.arrayClass .boolean) (by decide +kernel)) hA hIn (by decide) (Nat.le_of_ble_eq_true rfl) (Nat.le_of_ble_eq_true rfl) dX3_init_26 rfl, ?_⟩
  refine List.forall_mem_cons.mpr ⟨ip_s_pRF (fty := (.array .boolean)) hx hb hts hin3 hown rfl (by decide) 2 (by decide) (hts (.fieldLink RX3 18 "IcePads$Sky" "told" "[Z") (by decide +kernel)) (fun _ h9 => h9) tyX3 tyX3_ok nmX3 (fun _ _ _ _ _ => trivial) rfl hname rfl rfl (by decide +kernel) (fun o => by cases o <;> exact ⟨rfl, rfl⟩) dX3_init_28 rfl, ?_⟩
  refine List.forall_mem_cons.mpr ⟨ip_s_vret hx hb hr hlocks (Nat.le_of_ble_eq_true rfl) (Nat.le_of_ble_eq_true rfl) dX3_init_31, ?_⟩
  exact fun _ h => absurd h List.not_mem_nil
set_option maxRecDepth 100000 in
set_option maxHeartbeats 4000000 in
theorem vX3_init (a : Nat) (S : ip_S) (hS : ip_Tr S) (hp : (S.2.2.2 a).1 = 3 ∧ a = 1 ∧ ∀ q, 2 ≤ q → q ≤ 4 → 10 ≤ (S.2.2.2 q).1) : ip_run (pX3_init (postX3_init [.inr (.inl (some a))] S)) (fun _ => false) (fun _ _ _ _ => False) 130 0 [some (.inr (.inl (some a)))] [] S := by
  obtain ⟨h1, rfl, hu⟩ := hp
  refine And.intro rfl (Exists.intro 2 (And.intro (hu 2 (by decide) (by decide)) (And.intro (by decide) ?_)))
  refine And.intro h1 ?_
  refine And.intro rfl (Exists.intro 3 (And.intro (hu 3 (by decide) (by decide)) (And.intro (by decide) ?_)))
  refine And.intro h1 ?_
  refine And.intro rfl (Exists.intro 4 (And.intro (hu 4 (by decide) (by decide)) (And.intro (by decide) ?_)))
  refine And.intro h1 ?_
  exact And.intro rfl rfl
theorem ctX3_init (l : Launch) : ip_CT l yX3_init wsX3_init rmX3_init ip_Tr preX3_init postX3_init := by
  refine ip_of (cc := cX3_init) (maxL := 1) (ret := none) (by decide +kernel) rfl (fun pc => bif Nat.ble pc 8 then (0, 0) else bif Nat.ble pc 17 then (1, 300) else bif Nat.ble pc 26 then (2, 600) else (3, 900)) rfl ?_ ?_
  · intro as S h
    obtain ⟨a, rfl, hq⟩ := ip_e_r h
    exact ⟨Nat.le_of_ble_eq_true rfl, by simp⟩
  intro p e s m args below meth c D cA A ad0 as S h hI hx hb hml hown hts hr hlocks hname hA hNx
  obtain ⟨a, rfl, hq⟩ := ip_e_r h
  refine ip_run_ok (stop := fun _ => false) (tX3_init hx hb hml hown hts hr hlocks hname hA hNx) (fun _ _ _ _ h => False.elim h) 130 0 _ _ S ?_
  exact vX3_init a S hI hq

/-- what X2_init() leaves -/
def ip_cX2 (S : ip_S) : ip_S :=
  let S := ip_nw S 9 (9, 5)
  let S := ip_sR S 8 0 (some 9)
  let S := ip_nw S 10 (7, 5)
  let S := ip_sR S 8 1 (some 10)
  let S := ip_nw S 11 (6, 5)
  let S := ip_sR S 8 2 (some 11)
  let S := ip_nw S 12 (6, 5)
  let S := ip_sR S 8 3 (some 12)
  S

def preX2_init : List ip_V → ip_S → Prop := ip_h_r (fun _ => False) (fun a S => (S.2.2.2 a).1 = 2 ∧ a = 8 ∧ ∀ q, 9 ≤ q → q ≤ 12 → 10 ≤ (S.2.2.2 q).1)
def postX2_init : List ip_V → ip_S → List ip_V → ip_S → Prop := ip_h_r (fun _ _ _ => True) (fun a S r S' => r = [] ∧ S' = ip_cX2 S)
theorem shX2_init : ∀ as S, ip_Tr S → preX2_init as S → ∃ (b : Nat) (as' : List ip_V), as = .inr (.inl (some b)) :: as' ∧ as'.length = 0 := by
  intro as S hI h
  obtain ⟨a, rfl, hq⟩ := ip_e_r h
  exact ⟨_, _, rfl, rfl⟩
def rmX2_init : Room := { frames := 1, cells := 4, slots := 20, locals := 40 }
def pX2_init (po : List ip_V → ip_S → Prop) : List (Nat × ip_T) := [(0, ip_t_ar 0 1), (1, ip_t_oi 4), (4, ip_t_ar 0 5), (5, ip_t_ci 5 6), (6, ip_t_newa 9 5 9), (9, ip_t_pR 2 0 12), (12, ip_t_ar 0 13), (13, ip_t_ci 5 14), (14, ip_t_newa 7 5 16), (16, ip_t_pR 2 1 19), (19, ip_t_ar 0 20), (20, ip_t_ci 5 21), (21, ip_t_newa 6 5 23), (23, ip_t_pR 2 2 26), (26, ip_t_ar 0 27), (27, ip_t_ci 5 28), (28, ip_t_newa 6 5 30), (30, ip_t_pR 2 3 33), (33, ip_t_vret po)]
set_option maxRecDepth 100000 in
set_option maxHeartbeats 4000000 in
theorem tX2_init {p : Program} {l : Launch} {e : Env} {s : State} {m : MethodId} {args : Array Value} {below : List Frame} {meth : Method} {c : Code} {D : va_G} {cA : Nat → ClassId} {A : Nat → Prop} {ad0 : Nat → Nat} {S0 : ip_S} {po : List ip_V → ip_S → Prop} (hx : p.tables.exec = Jvm.exec) (hb : c.code = cX2_init) (hml : c.maxLocals = 1) (hown : s.vm.findClass RX2 = some m.cls) (hts : ∀ w ∈ wsX2_init, w.before args s = true) (hr : meth.sig.returnType = none) (hlocks : meth.locks = false) (hname : meth.name = yX2_init.name) (hA : ∀ q, s.heap.size ≤ q → A q) (hNx : ip_Nx s) : ∀ q ∈ pX2_init po, ip_snd p l e rmX2_init s m args below meth c D cA A (MQ below (ip_Q ip_Tr D cA ad0 S0 A po) args s 4 20 A) 1 (fun pc => bif Nat.ble pc 6 then (0, 0) else bif Nat.ble pc 14 then (1, 5) else bif Nat.ble pc 21 then (2, 10) else bif Nat.ble pc 28 then (3, 15) else (4, 20)) ip_Tr ad0 S0 q.1 q.2 := by
  have hIn := ip_In_Tr
  have hS9 : CallFix p m c cX2_init 1 s args wsX2_init RX2 := ⟨hx, hb, hml, hown, hts⟩
  have hin2 : ∀ w ∈ u_ws RX2 TX2 6, w ∈ wsX2_init := by decide +kernel
  refine List.forall_mem_cons.mpr ⟨ip_s_aload_n hx hb dX2_init_0 rfl rfl, ?_⟩
  refine List.forall_mem_cons.mpr ⟨ip_s_oi hx hb hml hown (hts (.methodLink RX2 3 objectInit) (by decide +kernel)) (hts (.instanceMethod objectInit) (by decide +kernel)) (hts (.code objectInit ⟨#[0xb1]⟩ 1 none) (by decide +kernel)) ⟨Nat.le_of_ble_eq_true rfl, Nat.le_of_ble_eq_true rfl⟩ dX2_init_1 rfl, ?_⟩
  refine List.forall_mem_cons.mpr ⟨ip_s_aload_n hx hb dX2_init_4 rfl rfl, ?_⟩
  refine List.forall_mem_cons.mpr ⟨ip_s_iconst hx hb dX2_init_5 rfl rfl, ?_⟩
  refine List.forall_mem_cons.mpr ⟨ip_s_newq9 hx hb hown (hts (.classLink RX2 9 RX1) (by decide +kernel)) hNx.2.2.2.2.2 hA hIn (by decide) (Nat.le_of_ble_eq_true rfl) (Nat.le_of_ble_eq_true rfl) dX2_init_6 rfl, ?_⟩
  refine List.forall_mem_cons.mpr ⟨ip_s_pRF (fty := (.array (.object "IcePads$Jet"))) hx hb hts hin2 hown rfl (by decide) 0 (by decide) (hts (.fieldLink RX2 11 "IcePads$Planner" "waiting" "[LIcePads$Jet;") (by decide +kernel)) (fun _ h9 => h9) tyX2 tyX2_ok nmX2 (fun _ _ _ _ _ => trivial) rfl hname rfl rfl (by decide +kernel) (fun o => by cases o <;> exact ⟨rfl, rfl⟩) dX2_init_9 rfl, ?_⟩
  refine List.forall_mem_cons.mpr ⟨ip_s_aload_n hx hb dX2_init_12 rfl rfl, ?_⟩
  refine List.forall_mem_cons.mpr ⟨ip_s_iconst hx hb dX2_init_13 rfl rfl, ?_⟩
  refine List.forall_mem_cons.mpr ⟨ip_s_newz hx hb (hts (.arrayClass .boolean) (by decide +kernel)) hA hIn (by decide) (Nat.le_of_ble_eq_true rfl) (Nat.le_of_ble_eq_true rfl) dX2_init_14 rfl, ?_⟩
  refine List.forall_mem_cons.mpr ⟨ip_s_pRF (fty := (.array .boolean)) hx hb hts hin2 hown rfl (by decide) 1 (by decide) (hts (.fieldLink RX2 17 "IcePads$Planner" "placed" "[Z") (by decide +kernel)) (fun _ h9 => h9) tyX2 tyX2_ok nmX2 (fun _ _ _ _ _ => trivial) rfl hname rfl rfl (by decide +kernel) (fun o => by cases o <;> exact ⟨rfl, rfl⟩) dX2_init_16 rfl, ?_⟩
  refine List.forall_mem_cons.mpr ⟨ip_s_aload_n hx hb dX2_init_19 rfl rfl, ?_⟩
  refine List.forall_mem_cons.mpr ⟨ip_s_iconst hx hb dX2_init_20 rfl rfl, ?_⟩
  refine List.forall_mem_cons.mpr ⟨ip_s_newi hx hb (hts (.arrayClass .int) (by decide +kernel)) hA hIn (by decide) (Nat.le_of_ble_eq_true rfl) (Nat.le_of_ble_eq_true rfl) dX2_init_21 rfl, ?_⟩
  refine List.forall_mem_cons.mpr ⟨ip_s_pRF (fty := (.array .int)) hx hb hts hin2 hown rfl (by decide) 2 (by decide) (hts (.fieldLink RX2 21 "IcePads$Planner" "order" "[I") (by decide +kernel)) (fun _ h9 => h9) tyX2 tyX2_ok nmX2 (fun _ _ _ _ _ => trivial) rfl hname rfl rfl (by decide +kernel) (fun o => by cases o <;> exact ⟨rfl, rfl⟩) dX2_init_23 rfl, ?_⟩
  refine List.forall_mem_cons.mpr ⟨ip_s_aload_n hx hb dX2_init_26 rfl rfl, ?_⟩
  refine List.forall_mem_cons.mpr ⟨ip_s_iconst hx hb dX2_init_27 rfl rfl, ?_⟩
  refine List.forall_mem_cons.mpr ⟨ip_s_newi hx hb (hts (.arrayClass .int) (by decide +kernel)) hA hIn (by decide) (Nat.le_of_ble_eq_true rfl) (Nat.le_of_ble_eq_true rfl) dX2_init_28 rfl, ?_⟩
  refine List.forall_mem_cons.mpr ⟨ip_s_pRF (fty := (.array .int)) hx hb hts hin2 hown rfl (by decide) 3 (by decide) (hts (.fieldLink RX2 25 "IcePads$Planner" "best" "[I") (by decide +kernel)) (fun _ h9 => h9) tyX2 tyX2_ok nmX2 (fun _ _ _ _ _ => trivial) rfl hname rfl rfl (by decide +kernel) (fun o => by cases o <;> exact ⟨rfl, rfl⟩) dX2_init_30 rfl, ?_⟩
  refine List.forall_mem_cons.mpr ⟨ip_s_vret hx hb hr hlocks (Nat.le_of_ble_eq_true rfl) (Nat.le_of_ble_eq_true rfl) dX2_init_33, ?_⟩
  exact fun _ h => absurd h List.not_mem_nil
set_option maxRecDepth 100000 in
set_option maxHeartbeats 4000000 in
theorem vX2_init (a : Nat) (S : ip_S) (hS : ip_Tr S) (hp : (S.2.2.2 a).1 = 2 ∧ a = 8 ∧ ∀ q, 9 ≤ q → q ≤ 12 → 10 ≤ (S.2.2.2 q).1) : ip_run (pX2_init (postX2_init [.inr (.inl (some a))] S)) (fun _ => false) (fun _ _ _ _ => False) 130 0 [some (.inr (.inl (some a)))] [] S := by
  obtain ⟨h1, rfl, hu⟩ := hp
  refine And.intro rfl (Exists.intro 9 (And.intro (hu 9 (by decide) (by decide)) (And.intro (by decide) ?_)))
  refine And.intro h1 ?_
  refine And.intro rfl (Exists.intro 10 (And.intro (hu 10 (by decide) (by decide)) (And.intro (by decide) ?_)))
  refine And.intro h1 ?_
  refine And.intro rfl (Exists.intro 11 (And.intro (hu 11 (by decide) (by decide)) (And.intro (by decide) ?_)))
  refine And.intro h1 ?_
  refine And.intro rfl (Exists.intro 12 (And.intro (hu 12 (by decide) (by decide)) (And.intro (by decide) ?_)))
  refine And.intro h1 ?_
  exact And.intro rfl rfl
theorem ctX2_init (l : Launch) : ip_CT l yX2_init wsX2_init rmX2_init ip_Tr preX2_init postX2_init := by
  refine ip_of (cc := cX2_init) (maxL := 1) (ret := none) (by decide +kernel) rfl (fun pc => bif Nat.ble pc 6 then (0, 0) else bif Nat.ble pc 14 then (1, 5) else bif Nat.ble pc 21 then (2, 10) else bif Nat.ble pc 28 then (3, 15) else (4, 20)) rfl ?_ ?_
  · intro as S h
    obtain ⟨a, rfl, hq⟩ := ip_e_r h
    exact ⟨Nat.le_of_ble_eq_true rfl, by simp⟩
  intro p e s m args below meth c D cA A ad0 as S h hI hx hb hml hown hts hr hlocks hname hA hNx
  obtain ⟨a, rfl, hq⟩ := ip_e_r h
  refine ip_run_ok (stop := fun _ => false) (tX2_init hx hb hml hown hts hr hlocks hname hA hNx) (fun _ _ _ _ h => False.elim h) 130 0 _ _ S ?_
  exact vX2_init a S hI hq

/-- what X4_init() leaves -/
def ip_cX4 (S : ip_S) : ip_S :=
  let S := ip_nw S 1 (3, 0)
  let S := ip_cX3 S
  let S := ip_sR S 0 0 (some 1)
  let S := ip_nw S 5 (8, 4)
  let S := ip_sR S 0 1 (some 5)
  let S := ip_nw S 6 (9, 12)
  let S := ip_sR S 0 3 (some 6)
  let S := ip_nw S 7 (9, 3)
  let S := ip_sR S 0 5 (some 7)
  let S := ip_nw S 8 (2, 0)
  let S := ip_cX2 S
  let S := ip_sR S 0 7 (some 8)
  let S := ip_sI S 0 6 1
  let S := ip_sI S 0 9 200
  let S := ip_sI S 0 10 5
  S

def preX4_init : List ip_V → ip_S → Prop := ip_h_r (fun _ => False) (fun a S => (S.2.2.2 a).1 = 4 ∧ a = 0 ∧ ∀ q, 1 ≤ q → q ≤ 12 → 10 ≤ (S.2.2.2 q).1)
def postX4_init : List ip_V → ip_S → List ip_V → ip_S → Prop := ip_h_r (fun _ _ _ => True) (fun a S r S' => r = [] ∧ S' = ip_cX4 S)
theorem shX4_init : ∀ as S, ip_Tr S → preX4_init as S → ∃ (b : Nat) (as' : List ip_V), as = .inr (.inl (some b)) :: as' ∧ as'.length = 0 := by
  intro as S hI h
  obtain ⟨a, rfl, hq⟩ := ip_e_r h
  exact ⟨_, _, rfl, rfl⟩
def rmX4_init : Room := { frames := 2, cells := 12, slots := 948, locals := 80 }
def pX4_init (po : List ip_V → ip_S → Prop) : List (Nat × ip_T) := [(0, ip_t_ar 0 1), (1, ip_t_oi 4), (4, ip_t_ar 0 5), (5, ip_t_new 3 8), (8, ip_t_dup 9), (9, ip_t_call 1 preX3_init postX3_init 12), (12, ip_t_pR 4 0 15), (15, ip_t_ar 0 16), (16, ip_t_ci 4 17), (17, ip_t_newa 8 4 20), (20, ip_t_pR 4 1 23), (23, ip_t_ar 0 24), (24, ip_t_ci 12 26), (26, ip_t_newa 9 12 29), (29, ip_t_pR 4 3 32), (32, ip_t_ar 0 33), (33, ip_t_ci 3 34), (34, ip_t_newa 9 3 37), (37, ip_t_pR 4 5 40), (40, ip_t_ar 0 41), (41, ip_t_new 2 44), (44, ip_t_dup 45), (45, ip_t_call 1 preX2_init postX2_init 48), (48, ip_t_pR 4 7 51), (51, ip_t_ar 0 52), (52, ip_t_ci 1 53), (53, ip_t_pI 4 6 56), (56, ip_t_ar 0 57), (57, ip_t_ci 200 60), (60, ip_t_pI 4 9 63), (63, ip_t_ar 0 64), (64, ip_t_ci 5 65), (65, ip_t_pI 4 10 68), (68, ip_t_vret po)]
set_option maxRecDepth 100000 in
set_option maxHeartbeats 4000000 in
theorem tX4_init {p : Program} {l : Launch} {e : Env} {s : State} {m : MethodId} {args : Array Value} {below : List Frame} {meth : Method} {c : Code} {D : va_G} {cA : Nat → ClassId} {A : Nat → Prop} {ad0 : Nat → Nat} {S0 : ip_S} {po : List ip_V → ip_S → Prop} (hx : p.tables.exec = Jvm.exec) (hb : c.code = cX4_init) (hml : c.maxLocals = 1) (hown : s.vm.findClass RX4 = some m.cls) (hts : ∀ w ∈ wsX4_init, w.before args s = true) (hr : meth.sig.returnType = none) (hlocks : meth.locks = false) (hname : meth.name = yX4_init.name) (hA : ∀ q, s.heap.size ≤ q → A q) (hNx : ip_Nx s) : ∀ q ∈ pX4_init po, ip_snd p l e rmX4_init s m args below meth c D cA A (MQ below (ip_Q ip_Tr D cA ad0 S0 A po) args s 12 948 A) 1 (fun pc => bif Nat.ble pc 5 then (0, 0) else bif Nat.ble pc 9 then (1, 3) else bif Nat.ble pc 17 then (4, 903) else bif Nat.ble pc 26 then (5, 907) else bif Nat.ble pc 34 then (6, 919) else bif Nat.ble pc 41 then (7, 922) else bif Nat.ble pc 45 then (8, 928) else (12, 948)) ip_Tr ad0 S0 q.1 q.2 := by
  have hIn := ip_In_Tr
  have hS9 : CallFix p m c cX4_init 1 s args wsX4_init RX4 := ⟨hx, hb, hml, hown, hts⟩
  have hin2 : ∀ w ∈ u_ws RX2 TX2 6, w ∈ wsX4_init := by decide +kernel
  have hin3 : ∀ w ∈ u_ws RX3 TX3 3, w ∈ wsX4_init := by decide +kernel
  have hin4 : ∀ w ∈ u_ws RX4 TX4 14, w ∈ wsX4_init := by decide +kernel
  refine List.forall_mem_cons.mpr ⟨ip_s_aload_n hx hb dX4_init_0 rfl rfl, ?_⟩
  refine List.forall_mem_cons.mpr ⟨ip_s_oi hx hb hml hown (hts (.methodLink RX4 1 objectInit) (by decide +kernel)) (hts (.instanceMethod objectInit) (by decide +kernel)) (hts (.code objectInit ⟨#[0xb1]⟩ 1 none) (by decide +kernel)) ⟨Nat.le_of_ble_eq_true rfl, Nat.le_of_ble_eq_true rfl⟩ dX4_init_1 rfl, ?_⟩
  refine List.forall_mem_cons.mpr ⟨ip_s_aload_n hx hb dX4_init_4 rfl rfl, ?_⟩
  refine List.forall_mem_cons.mpr ⟨ip_s_new hx hb hts hin3 tyX3 tyX3_ok hown (hts (.classLink RX4 7 RX3) (by decide +kernel)) (hts (.instantiable RX3 3) (by decide +kernel)) (hts (.initialized RX3) (by decide +kernel)) hA hIn rfl (by decide) ip_df3 (Nat.le_of_ble_eq_true rfl) (Nat.le_of_ble_eq_true rfl) dX4_init_5 rfl, ?_⟩
  refine List.forall_mem_cons.mpr ⟨ip_s_dup hx hb dX4_init_8 rfl, ?_⟩
  refine List.forall_mem_cons.mpr ⟨ip_s_callIN hNx hS9 (ctX3_init l) ⟨va_cnB 0 hts gX4_init_X3_init_n9 rfl rfl rfl hNx.2.1 (hts (.initialized RX3) (by decide +kernel)) (by decide +kernel) ⟨Nat.le_of_ble_eq_true rfl, Nat.le_of_ble_eq_true rfl⟩, rfl, hts (.instanceMethod yX3_init) (by decide +kernel)⟩ (fun as S hI h => shX3_init as S hI h) hA dX4_init_9 ⟨Nat.le_of_ble_eq_true rfl, Nat.le_of_ble_eq_true rfl⟩ rfl, ?_⟩
  refine List.forall_mem_cons.mpr ⟨ip_s_pRF (fty := (.object "IcePads$Sky")) hx hb hts hin4 hown rfl (by decide) 0 (by decide) (hts (.fieldLink RX4 10 "IcePads" "sky" "LIcePads$Sky;") (by decide +kernel)) (fun _ h9 => h9) tyX4 tyX4_ok nmX4 (fun _ _ _ _ _ => trivial) rfl hname rfl rfl (by decide +kernel) (fun o => by cases o <;> exact ⟨rfl, rfl⟩) dX4_init_12 rfl, ?_⟩
  refine List.forall_mem_cons.mpr ⟨ip_s_aload_n hx hb dX4_init_15 rfl rfl, ?_⟩
  refine List.forall_mem_cons.mpr ⟨ip_s_iconst hx hb dX4_init_16 rfl rfl, ?_⟩
  refine List.forall_mem_cons.mpr ⟨ip_s_newq8 hx hb hown (hts (.classLink RX4 16 RX0) (by decide +kernel)) hNx.2.2.2.2.1 hA hIn (by decide) (Nat.le_of_ble_eq_true rfl) (Nat.le_of_ble_eq_true rfl) dX4_init_17 rfl, ?_⟩
  refine List.forall_mem_cons.mpr ⟨ip_s_pRF (fty := (.array (.object "IcePads$Fluid"))) hx hb hts hin4 hown rfl (by decide) 1 (by decide) (hts (.fieldLink RX4 18 "IcePads" "fluids" "[LIcePads$Fluid;") (by decide +kernel)) (fun _ h9 => h9) tyX4 tyX4_ok nmX4 (fun _ _ _ _ _ => trivial) rfl hname rfl rfl (by decide +kernel) (fun o => by cases o <;> exact ⟨rfl, rfl⟩) dX4_init_20 rfl, ?_⟩
  refine List.forall_mem_cons.mpr ⟨ip_s_aload_n hx hb dX4_init_23 rfl rfl, ?_⟩
  refine List.forall_mem_cons.mpr ⟨ip_s_bipush hx hb dX4_init_24 rfl rfl, ?_⟩
  refine List.forall_mem_cons.mpr ⟨ip_s_newq9 hx hb hown (hts (.classLink RX4 22 RX1) (by decide +kernel)) hNx.2.2.2.2.2 hA hIn (by decide) (Nat.le_of_ble_eq_true rfl) (Nat.le_of_ble_eq_true rfl) dX4_init_26 rfl, ?_⟩
  refine List.forall_mem_cons.mpr ⟨ip_s_pRF (fty := (.array (.object "IcePads$Jet"))) hx hb hts hin4 hown rfl (by decide) 3 (by decide) (hts (.fieldLink RX4 24 "IcePads" "jets" "[LIcePads$Jet;") (by decide +kernel)) (fun _ h9 => h9) tyX4 tyX4_ok nmX4 (fun _ _ _ _ _ => trivial) rfl hname rfl rfl (by decide +kernel) (fun o => by cases o <;> exact ⟨rfl, rfl⟩) dX4_init_29 rfl, ?_⟩
  refine List.forall_mem_cons.mpr ⟨ip_s_aload_n hx hb dX4_init_32 rfl rfl, ?_⟩
  refine List.forall_mem_cons.mpr ⟨ip_s_iconst hx hb dX4_init_33 rfl rfl, ?_⟩
  refine List.forall_mem_cons.mpr ⟨ip_s_newq9 hx hb hown (hts (.classLink RX4 22 RX1) (by decide +kernel)) hNx.2.2.2.2.2 hA hIn (by decide) (Nat.le_of_ble_eq_true rfl) (Nat.le_of_ble_eq_true rfl) dX4_init_34 rfl, ?_⟩
  refine List.forall_mem_cons.mpr ⟨ip_s_pRF (fty := (.array (.object "IcePads$Jet"))) hx hb hts hin4 hown rfl (by decide) 5 (by decide) (hts (.fieldLink RX4 28 "IcePads" "pads" "[LIcePads$Jet;") (by decide +kernel)) (fun _ h9 => h9) tyX4 tyX4_ok nmX4 (fun _ _ _ _ _ => trivial) rfl hname rfl rfl (by decide +kernel) (fun o => by cases o <;> exact ⟨rfl, rfl⟩) dX4_init_37 rfl, ?_⟩
  refine List.forall_mem_cons.mpr ⟨ip_s_aload_n hx hb dX4_init_40 rfl rfl, ?_⟩
  refine List.forall_mem_cons.mpr ⟨ip_s_new hx hb hts hin2 tyX2 tyX2_ok hown (hts (.classLink RX4 31 RX2) (by decide +kernel)) (hts (.instantiable RX2 6) (by decide +kernel)) (hts (.initialized RX2) (by decide +kernel)) hA hIn rfl (by decide) ip_df2 (Nat.le_of_ble_eq_true rfl) (Nat.le_of_ble_eq_true rfl) dX4_init_41 rfl, ?_⟩
  refine List.forall_mem_cons.mpr ⟨ip_s_dup hx hb dX4_init_44 rfl, ?_⟩
  refine List.forall_mem_cons.mpr ⟨ip_s_callIN hNx hS9 (ctX2_init l) ⟨va_cnB 0 hts gX4_init_X2_init_n33 rfl rfl rfl hNx.1 (hts (.initialized RX2) (by decide +kernel)) (by decide +kernel) ⟨Nat.le_of_ble_eq_true rfl, Nat.le_of_ble_eq_true rfl⟩, rfl, hts (.instanceMethod yX2_init) (by decide +kernel)⟩ (fun as S hI h => shX2_init as S hI h) hA dX4_init_45 ⟨Nat.le_of_ble_eq_true rfl, Nat.le_of_ble_eq_true rfl⟩ rfl, ?_⟩
  refine List.forall_mem_cons.mpr ⟨ip_s_pRF (fty := (.object "IcePads$Planner")) hx hb hts hin4 hown rfl (by decide) 7 (by decide) (hts (.fieldLink RX4 34 "IcePads" "planner" "LIcePads$Planner;") (by decide +kernel)) (fun _ h9 => h9) tyX4 tyX4_ok nmX4 (fun _ _ _ _ _ => trivial) rfl hname rfl rfl (by decide +kernel) (fun o => by cases o <;> exact ⟨rfl, rfl⟩) dX4_init_48 rfl, ?_⟩
  refine List.forall_mem_cons.mpr ⟨ip_s_aload_n hx hb dX4_init_51 rfl rfl, ?_⟩
  refine List.forall_mem_cons.mpr ⟨ip_s_iconst hx hb dX4_init_52 rfl rfl, ?_⟩
  refine List.forall_mem_cons.mpr ⟨ip_s_pI hx hb hts hin4 hown rfl (by decide) 6 (by decide) (hts (.fieldLink RX4 38 "IcePads" "padCount" "I") (by decide +kernel)) (fun _ h9 => h9) tyX4 tyX4_ok nmX4 hIn rfl rfl (by decide +kernel) dX4_init_53 rfl, ?_⟩
  refine List.forall_mem_cons.mpr ⟨ip_s_aload_n hx hb dX4_init_56 rfl rfl, ?_⟩
  refine List.forall_mem_cons.mpr ⟨ip_s_sipush hx hb dX4_init_57 rfl rfl, ?_⟩
  refine List.forall_mem_cons.mpr ⟨ip_s_pI hx hb hts hin4 hown rfl (by decide) 9 (by decide) (hts (.fieldLink RX4 42 "IcePads" "limit" "I") (by decide +kernel)) (fun _ h9 => h9) tyX4 tyX4_ok nmX4 hIn rfl rfl (by decide +kernel) dX4_init_60 rfl, ?_⟩
  refine List.forall_mem_cons.mpr ⟨ip_s_aload_n hx hb dX4_init_63 rfl rfl, ?_⟩
  refine List.forall_mem_cons.mpr ⟨ip_s_iconst hx hb dX4_init_64 rfl rfl, ?_⟩
  refine List.forall_mem_cons.mpr ⟨ip_s_pI hx hb hts hin4 hown rfl (by decide) 10 (by decide) (hts (.fieldLink RX4 45 "IcePads" "rate" "I") (by decide +kernel)) (fun _ h9 => h9) tyX4 tyX4_ok nmX4 hIn rfl rfl (by decide +kernel) dX4_init_65 rfl, ?_⟩
  refine List.forall_mem_cons.mpr ⟨ip_s_vret hx hb hr hlocks (Nat.le_of_ble_eq_true rfl) (Nat.le_of_ble_eq_true rfl) dX4_init_68, ?_⟩
  exact fun _ h => absurd h List.not_mem_nil
set_option maxRecDepth 100000 in
set_option maxHeartbeats 4000000 in
theorem vX4_init (a : Nat) (S : ip_S) (hS : ip_Tr S) (hp : (S.2.2.2 a).1 = 4 ∧ a = 0 ∧ ∀ q, 1 ≤ q → q ≤ 12 → 10 ≤ (S.2.2.2 q).1) : ip_run (pX4_init (postX4_init [.inr (.inl (some a))] S)) (fun _ => false) (fun _ _ _ _ => False) 130 0 [some (.inr (.inl (some a)))] [] S := by
  obtain ⟨h1, rfl, hu⟩ := hp
  refine Exists.intro 1 (And.intro (hu 1 (by decide) (by decide)) (And.intro (by decide) ?_))
  refine And.intro (And.intro rfl (And.intro rfl (fun q h2 h3 => by rcases (show q = 2 ∨ q = 3 ∨ q = 4 by omega) with rfl | rfl | rfl <;> exact hu _ (by decide) (by decide)))) ?_
  rintro r S' ⟨rfl, rfl⟩
  refine And.intro h1 ?_
  refine And.intro rfl (Exists.intro 5 (And.intro (hu 5 (by decide) (by decide)) (And.intro (by decide) ?_)))
  refine And.intro h1 ?_
  refine And.intro rfl (Exists.intro 6 (And.intro (hu 6 (by decide) (by decide)) (And.intro (by decide) ?_)))
  refine And.intro h1 ?_
  refine And.intro rfl (Exists.intro 7 (And.intro (hu 7 (by decide) (by decide)) (And.intro (by decide) ?_)))
  refine And.intro h1 ?_
  refine Exists.intro 8 (And.intro (hu 8 (by decide) (by decide)) (And.intro (by decide) ?_))
  refine And.intro (And.intro rfl (And.intro rfl (fun q h2 h3 => by rcases (show q = 9 ∨ q = 10 ∨ q = 11 ∨ q = 12 by omega) with rfl | rfl | rfl | rfl <;> exact hu _ (by decide) (by decide)))) ?_
  rintro r S' ⟨rfl, rfl⟩
  refine And.intro h1 ?_
  refine And.intro h1 ?_
  refine And.intro h1 ?_
  refine And.intro h1 ?_
  exact And.intro rfl rfl
theorem ctX4_init (l : Launch) : ip_CT l yX4_init wsX4_init rmX4_init ip_Tr preX4_init postX4_init := by
  refine ip_of (cc := cX4_init) (maxL := 1) (ret := none) (by decide +kernel) rfl (fun pc => bif Nat.ble pc 5 then (0, 0) else bif Nat.ble pc 9 then (1, 3) else bif Nat.ble pc 17 then (4, 903) else bif Nat.ble pc 26 then (5, 907) else bif Nat.ble pc 34 then (6, 919) else bif Nat.ble pc 41 then (7, 922) else bif Nat.ble pc 45 then (8, 928) else (12, 948)) rfl ?_ ?_
  · intro as S h
    obtain ⟨a, rfl, hq⟩ := ip_e_r h
    exact ⟨Nat.le_of_ble_eq_true rfl, by simp⟩
  intro p e s m args below meth c D cA A ad0 as S h hI hx hb hml hown hts hr hlocks hname hA hNx
  obtain ⟨a, rfl, hq⟩ := ip_e_r h
  refine ip_run_ok (stop := fun _ => false) (tX4_init hx hb hml hown hts hr hlocks hname hA hNx) (fun _ _ _ _ h => False.elim h) 130 0 _ _ S ?_
  exact vX4_init a S hI hq

/-- what X5_init() leaves -/
def ip_cX5 (S : ip_S) : ip_S :=
  let S := ip_nw S 51 (7, 300)
  let S := ip_sR S 50 1 (some 51)
  let S := ip_nw S 52 (6, 300)
  let S := ip_sR S 50 2 (some 52)
  let S := ip_nw S 53 (6, 300)
  let S := ip_sR S 50 3 (some 53)
  let S := ip_nw S 55 (6, 4)
  let S := ip_sR S 50 5 (some 55)
  let S := ip_nw S 56 (6, 16)
  let S := ip_sR S 50 6 (some 56)
  let S := ip_nw S 57 (6, 4)
  let S := ip_sR S 50 7 (some 57)
  let S := ip_nw S 58 (6, 4)
  let S := ip_sR S 50 8 (some 58)
  let S := ip_nw S 59 (6, 4)
  let S := ip_sR S 50 9 (some 59)
  let S := ip_sI S 50 10 1
  let S := ip_sI S 50 11 200
  let S := ip_sI S 50 12 5
  let S := ip_nw S 64 (6, 3)
  let S := ip_sR S 50 14 (some 64)
  let S := ip_nw S 66 (6, 12)
  let S := ip_sR S 50 16 (some 66)
  let S := ip_nw S 67 (6, 12)
  let S := ip_sR S 50 17 (some 67)
  let S := ip_nw S 68 (6, 12)
  let S := ip_sR S 50 18 (some 68)
  let S := ip_nw S 69 (6, 12)
  let S := ip_sR S 50 19 (some 69)
  let S := ip_nw S 70 (6, 12)
  let S := ip_sR S 50 20 (some 70)
  let S := ip_nw S 71 (6, 12)
  let S := ip_sR S 50 21 (some 71)
  let S := ip_nw S 72 (6, 12)
  let S := ip_sR S 50 22 (some 72)
  let S := ip_nw S 73 (6, 12)
  let S := ip_sR S 50 23 (some 73)
  let S := ip_nw S 74 (6, 12)
  let S := ip_sR S 50 24 (some 74)
  let S := ip_nw S 75 (6, 12)
  let S := ip_sR S 50 25 (some 75)
  let S := ip_nw S 79 (6, 5)
  let S := ip_sR S 50 29 (some 79)
  let S := ip_nw S 80 (6, 5)
  let S := ip_sR S 50 30 (some 80)
  let S := ip_nw S 81 (6, 5)
  let S := ip_sR S 50 31 (some 81)
  let S := ip_sI S 50 0 0
  S

def preX5_init : List ip_V → ip_S → Prop := ip_h_r (fun _ => False) (fun a S => (S.2.2.2 a).1 = 5 ∧ a = 50 ∧ ∀ q, 51 ≤ q → q ≤ 81 → 10 ≤ (S.2.2.2 q).1)
def postX5_init : List ip_V → ip_S → List ip_V → ip_S → Prop := ip_h_r (fun _ _ _ => True) (fun a S r S' => r = [] ∧ S' = ip_cX5 S)
theorem shX5_init : ∀ as S, ip_Tr S → preX5_init as S → ∃ (b : Nat) (as' : List ip_V), as = .inr (.inl (some b)) :: as' ∧ as'.length = 0 := by
  intro as S hI h
  obtain ⟨a, rfl, hq⟩ := ip_e_r h
  exact ⟨_, _, rfl, rfl⟩
def rmX5_init : Room := { frames := 1, cells := 22, slots := 1070, locals := 40 }
def pX5_init (po : List ip_V → ip_S → Prop) : List (Nat × ip_T) := [(0, ip_t_ar 0 1), (1, ip_t_oi 4), (4, ip_t_ar 0 5), (5, ip_t_ci 300 8), (8, ip_t_newa 7 300 10), (10, ip_t_pR 5 1 13), (13, ip_t_ar 0 14), (14, ip_t_ci 300 17), (17, ip_t_newa 6 300 19), (19, ip_t_pR 5 2 22), (22, ip_t_ar 0 23), (23, ip_t_ci 300 26), (26, ip_t_newa 6 300 28), (28, ip_t_pR 5 3 31), (31, ip_t_ar 0 32), (32, ip_t_ci 4 33), (33, ip_t_newa 6 4 35), (35, ip_t_pR 5 5 38), (38, ip_t_ar 0 39), (39, ip_t_ci 16 41), (41, ip_t_newa 6 16 43), (43, ip_t_pR 5 6 46), (46, ip_t_ar 0 47), (47, ip_t_ci 4 48), (48, ip_t_newa 6 4 50), (50, ip_t_pR 5 7 53), (53, ip_t_ar 0 54), (54, ip_t_ci 4 55), (55, ip_t_newa 6 4 57), (57, ip_t_pR 5 8 60), (60, ip_t_ar 0 61), (61, ip_t_ci 4 62), (62, ip_t_newa 6 4 64), (64, ip_t_pR 5 9 67), (67, ip_t_ar 0 68), (68, ip_t_ci 1 69), (69, ip_t_pI 5 10 72), (72, ip_t_ar 0 73), (73, ip_t_ci 200 76), (76, ip_t_pI 5 11 79), (79, ip_t_ar 0 80), (80, ip_t_ci 5 81), (81, ip_t_pI 5 12 84), (84, ip_t_ar 0 85), (85, ip_t_ci 3 86), (86, ip_t_newa 6 3 88), (88, ip_t_pR 5 14 91), (91, ip_t_ar 0 92), (92, ip_t_ci 12 94), (94, ip_t_newa 6 12 96), (96, ip_t_pR 5 16 99), (99, ip_t_ar 0 100), (100, ip_t_ci 12 102), (102, ip_t_newa 6 12 104), (104, ip_t_pR 5 17 107), (107, ip_t_ar 0 108), (108, ip_t_ci 12 110), (110, ip_t_newa 6 12 112), (112, ip_t_pR 5 18 115), (115, ip_t_ar 0 116), (116, ip_t_ci 12 118), (118, ip_t_newa 6 12 120), (120, ip_t_pR 5 19 123), (123, ip_t_ar 0 124), (124, ip_t_ci 12 126), (126, ip_t_newa 6 12 128), (128, ip_t_pR 5 20 131), (131, ip_t_ar 0 132), (132, ip_t_ci 12 134), (134, ip_t_newa 6 12 136), (136, ip_t_pR 5 21 139), (139, ip_t_ar 0 140), (140, ip_t_ci 12 142), (142, ip_t_newa 6 12 144), (144, ip_t_pR 5 22 147), (147, ip_t_ar 0 148), (148, ip_t_ci 12 150), (150, ip_t_newa 6 12 152), (152, ip_t_pR 5 23 155), (155, ip_t_ar 0 156), (156, ip_t_ci 12 158), (158, ip_t_newa 6 12 160), (160, ip_t_pR 5 24 163), (163, ip_t_ar 0 164), (164, ip_t_ci 12 166), (166, ip_t_newa 6 12 168), (168, ip_t_pR 5 25 171), (171, ip_t_ar 0 172), (172, ip_t_ci 5 173), (173, ip_t_newa 6 5 175), (175, ip_t_pR 5 29 178), (178, ip_t_ar 0 179), (179, ip_t_ci 5 180), (180, ip_t_newa 6 5 182), (182, ip_t_pR 5 30 185), (185, ip_t_ar 0 186), (186, ip_t_ci 5 187), (187, ip_t_newa 6 5 189), (189, ip_t_pR 5 31 192), (192, ip_t_ar 0 193), (193, ip_t_ci 0 194), (194, ip_t_pI 5 0 197), (197, ip_t_vret po)]
set_option maxRecDepth 100000 in
set_option maxHeartbeats 4000000 in
theorem tX5_init {p : Program} {l : Launch} {e : Env} {s : State} {m : MethodId} {args : Array Value} {below : List Frame} {meth : Method} {c : Code} {D : va_G} {cA : Nat → ClassId} {A : Nat → Prop} {ad0 : Nat → Nat} {S0 : ip_S} {po : List ip_V → ip_S → Prop} (hx : p.tables.exec = Jvm.exec) (hb : c.code = cX5_init) (hml : c.maxLocals = 1) (hown : s.vm.findClass RX5 = some m.cls) (hts : ∀ w ∈ wsX5_init, w.before args s = true) (hr : meth.sig.returnType = none) (hlocks : meth.locks = false) (hname : meth.name = yX5_init.name) (hA : ∀ q, s.heap.size ≤ q → A q) (hNx : ip_Nx s) : ∀ q ∈ pX5_init po, ip_snd p l e rmX5_init s m args below meth c D cA A (MQ below (ip_Q ip_Tr D cA ad0 S0 A po) args s 22 1070 A) 1 (fun pc => bif Nat.ble pc 8 then (0, 0) else bif Nat.ble pc 17 then (1, 300) else bif Nat.ble pc 26 then (2, 600) else bif Nat.ble pc 33 then (3, 900) else bif Nat.ble pc 41 then (4, 904) else bif Nat.ble pc 48 then (5, 920) else bif Nat.ble pc 55 then (6, 924) else bif Nat.ble pc 62 then (7, 928) else bif Nat.ble pc 86 then (8, 932) else bif Nat.ble pc 94 then (9, 935) else bif Nat.ble pc 102 then (10, 947) else bif Nat.ble pc 110 then (11, 959) else bif Nat.ble pc 118 then (12, 971) else bif Nat.ble pc 126 then (13, 983) else bif Nat.ble pc 134 then (14, 995) else bif Nat.ble pc 142 then (15, 1007) else bif Nat.ble pc 150 then (16, 1019) else bif Nat.ble pc 158 then (17, 1031) else bif Nat.ble pc 166 then (18, 1043) else bif Nat.ble pc 173 then (19, 1055) else bif Nat.ble pc 180 then (20, 1060) else bif Nat.ble pc 187 then (21, 1065) else (22, 1070)) ip_Tr ad0 S0 q.1 q.2 := by
  have hIn := ip_In_Tr
  have hS9 : CallFix p m c cX5_init 1 s args wsX5_init RX5 := ⟨hx, hb, hml, hown, hts⟩
  have hin5 : ∀ w ∈ u_ws RX5 TX5 32, w ∈ wsX5_init := by decide +kernel
  refine List.forall_mem_cons.mpr ⟨ip_s_aload_n hx hb dX5_init_0 rfl rfl, ?_⟩
  refine List.forall_mem_cons.mpr ⟨ip_s_oi hx hb hml hown (hts (.methodLink RX5 1 objectInit) (by decide +kernel)) (hts (.instanceMethod objectInit) (by decide +kernel)) (hts (.code objectInit ⟨#[0xb1]⟩ 1 none) (by decide +kernel)) ⟨Nat.le_of_ble_eq_true rfl, Nat.le_of_ble_eq_true rfl⟩ dX5_init_1 rfl, ?_⟩
  refine List.forall_mem_cons.mpr ⟨ip_s_aload_n hx hb dX5_init_4 rfl rfl, ?_⟩
  refine List.forall_mem_cons.mpr ⟨ip_s_sipush hx hb dX5_init_5 rfl rfl, ?_⟩
  refine List.forall_mem_cons.mpr ⟨ip_s_newz hx hb (hts (.arrayClass .boolean) (by decide +kernel)) hA hIn (by decide) (Nat.le_of_ble_eq_true rfl) (Nat.le_of_ble_eq_true rfl) dX5_init_8 rfl, ?_⟩
  refine List.forall_mem_cons.mpr ⟨ip_s_pRF (fty := (.array .boolean)) hx hb hts hin5 hown rfl (by decide) 1 (by decide) (hts (.fieldLink RX5 7 "IcePadsModel" "isTold" "[Z") (by decide +kernel)) (fun _ h9 => h9) tyX5 tyX5_ok nmX5 (fun _ _ _ _ _ => trivial) rfl hname rfl rfl (by decide +kernel) (fun o => by cases o <;> exact ⟨rfl, rfl⟩) dX5_init_10 rfl, ?_⟩
  refine List.forall_mem_cons.mpr ⟨ip_s_aload_n hx hb dX5_init_13 rfl rfl, ?_⟩
  refine List.forall_mem_cons.mpr ⟨ip_s_sipush hx hb dX5_init_14 rfl rfl, ?_⟩
  refine List.forall_mem_cons.mpr ⟨ip_s_newi hx hb (hts (.arrayClass .int) (by decide +kernel)) hA hIn (by decide) (Nat.le_of_ble_eq_true rfl) (Nat.le_of_ble_eq_true rfl) dX5_init_17 rfl, ?_⟩
  refine List.forall_mem_cons.mpr ⟨ip_s_pRF (fty := (.array .int)) hx hb hts hin5 hown rfl (by decide) 2 (by decide) (hts (.fieldLink RX5 13 "IcePadsModel" "cold" "[I") (by decide +kernel)) (fun _ h9 => h9) tyX5 tyX5_ok nmX5 (fun _ _ _ _ _ => trivial) rfl hname rfl rfl (by decide +kernel) (fun o => by cases o <;> exact ⟨rfl, rfl⟩) dX5_init_19 rfl, ?_⟩
  refine List.forall_mem_cons.mpr ⟨ip_s_aload_n hx hb dX5_init_22 rfl rfl, ?_⟩
  refine List.forall_mem_cons.mpr ⟨ip_s_sipush hx hb dX5_init_23 rfl rfl, ?_⟩
  refine List.forall_mem_cons.mpr ⟨ip_s_newi hx hb (hts (.arrayClass .int) (by decide +kernel)) hA hIn (by decide) (Nat.le_of_ble_eq_true rfl) (Nat.le_of_ble_eq_true rfl) dX5_init_26 rfl, ?_⟩
  refine List.forall_mem_cons.mpr ⟨ip_s_pRF (fty := (.array .int)) hx hb hts hin5 hown rfl (by decide) 3 (by decide) (hts (.fieldLink RX5 17 "IcePadsModel" "fall" "[I") (by decide +kernel)) (fun _ h9 => h9) tyX5 tyX5_ok nmX5 (fun _ _ _ _ _ => trivial) rfl hname rfl rfl (by decide +kernel) (fun o => by cases o <;> exact ⟨rfl, rfl⟩) dX5_init_28 rfl, ?_⟩
  refine List.forall_mem_cons.mpr ⟨ip_s_aload_n hx hb dX5_init_31 rfl rfl, ?_⟩
  refine List.forall_mem_cons.mpr ⟨ip_s_iconst hx hb dX5_init_32 rfl rfl, ?_⟩
  refine List.forall_mem_cons.mpr ⟨ip_s_newi hx hb (hts (.arrayClass .int) (by decide +kernel)) hA hIn (by decide) (Nat.le_of_ble_eq_true rfl) (Nat.le_of_ble_eq_true rfl) dX5_init_33 rfl, ?_⟩
  refine List.forall_mem_cons.mpr ⟨ip_s_pRF (fty := (.array .int)) hx hb hts hin5 hown rfl (by decide) 5 (by decide) (hts (.fieldLink RX5 20 "IcePadsModel" "kind" "[I") (by decide +kernel)) (fun _ h9 => h9) tyX5 tyX5_ok nmX5 (fun _ _ _ _ _ => trivial) rfl hname rfl rfl (by decide +kernel) (fun o => by cases o <;> exact ⟨rfl, rfl⟩) dX5_init_35 rfl, ?_⟩
  refine List.forall_mem_cons.mpr ⟨ip_s_aload_n hx hb dX5_init_38 rfl rfl, ?_⟩
  refine List.forall_mem_cons.mpr ⟨ip_s_bipush hx hb dX5_init_39 rfl rfl, ?_⟩
  refine List.forall_mem_cons.mpr ⟨ip_s_newi hx hb (hts (.arrayClass .int) (by decide +kernel)) hA hIn (by decide) (Nat.le_of_ble_eq_true rfl) (Nat.le_of_ble_eq_true rfl) dX5_init_41 rfl, ?_⟩
  refine List.forall_mem_cons.mpr ⟨ip_s_pRF (fty := (.array .int)) hx hb hts hin5 hown rfl (by decide) 6 (by decide) (hts (.fieldLink RX5 23 "IcePadsModel" "span" "[I") (by decide +kernel)) (fun _ h9 => h9) tyX5 tyX5_ok nmX5 (fun _ _ _ _ _ => trivial) rfl hname rfl rfl (by decide +kernel) (fun o => by cases o <;> exact ⟨rfl, rfl⟩) dX5_init_43 rfl, ?_⟩
  refine List.forall_mem_cons.mpr ⟨ip_s_aload_n hx hb dX5_init_46 rfl rfl, ?_⟩
  refine List.forall_mem_cons.mpr ⟨ip_s_iconst hx hb dX5_init_47 rfl rfl, ?_⟩
  refine List.forall_mem_cons.mpr ⟨ip_s_newi hx hb (hts (.arrayClass .int) (by decide +kernel)) hA hIn (by decide) (Nat.le_of_ble_eq_true rfl) (Nat.le_of_ble_eq_true rfl) dX5_init_48 rfl, ?_⟩
  refine List.forall_mem_cons.mpr ⟨ip_s_pRF (fty := (.array .int)) hx hb hts hin5 hown rfl (by decide) 7 (by decide) (hts (.fieldLink RX5 26 "IcePadsModel" "times" "[I") (by decide +kernel)) (fun _ h9 => h9) tyX5 tyX5_ok nmX5 (fun _ _ _ _ _ => trivial) rfl hname rfl rfl (by decide +kernel) (fun o => by cases o <;> exact ⟨rfl, rfl⟩) dX5_init_50 rfl, ?_⟩
  refine List.forall_mem_cons.mpr ⟨ip_s_aload_n hx hb dX5_init_53 rfl rfl, ?_⟩
  refine List.forall_mem_cons.mpr ⟨ip_s_iconst hx hb dX5_init_54 rfl rfl, ?_⟩
  refine List.forall_mem_cons.mpr ⟨ip_s_newi hx hb (hts (.arrayClass .int) (by decide +kernel)) hA hIn (by decide) (Nat.le_of_ble_eq_true rfl) (Nat.le_of_ble_eq_true rfl) dX5_init_55 rfl, ?_⟩
  refine List.forall_mem_cons.mpr ⟨ip_s_pRF (fty := (.array .int)) hx hb hts hin5 hown rfl (by decide) 8 (by decide) (hts (.fieldLink RX5 29 "IcePadsModel" "parts" "[I") (by decide +kernel)) (fun _ h9 => h9) tyX5 tyX5_ok nmX5 (fun _ _ _ _ _ => trivial) rfl hname rfl rfl (by decide +kernel) (fun o => by cases o <;> exact ⟨rfl, rfl⟩) dX5_init_57 rfl, ?_⟩
  refine List.forall_mem_cons.mpr ⟨ip_s_aload_n hx hb dX5_init_60 rfl rfl, ?_⟩
  refine List.forall_mem_cons.mpr ⟨ip_s_iconst hx hb dX5_init_61 rfl rfl, ?_⟩
  refine List.forall_mem_cons.mpr ⟨ip_s_newi hx hb (hts (.arrayClass .int) (by decide +kernel)) hA hIn (by decide) (Nat.le_of_ble_eq_true rfl) (Nat.le_of_ble_eq_true rfl) dX5_init_62 rfl, ?_⟩
  refine List.forall_mem_cons.mpr ⟨ip_s_pRF (fty := (.array .int)) hx hb hts hin5 hown rfl (by decide) 9 (by decide) (hts (.fieldLink RX5 32 "IcePadsModel" "litres" "[I") (by decide +kernel)) (fun _ h9 => h9) tyX5 tyX5_ok nmX5 (fun _ _ _ _ _ => trivial) rfl hname rfl rfl (by decide +kernel) (fun o => by cases o <;> exact ⟨rfl, rfl⟩) dX5_init_64 rfl, ?_⟩
  refine List.forall_mem_cons.mpr ⟨ip_s_aload_n hx hb dX5_init_67 rfl rfl, ?_⟩
  refine List.forall_mem_cons.mpr ⟨ip_s_iconst hx hb dX5_init_68 rfl rfl, ?_⟩
  refine List.forall_mem_cons.mpr ⟨ip_s_pI hx hb hts hin5 hown rfl (by decide) 10 (by decide) (hts (.fieldLink RX5 35 "IcePadsModel" "pads" "I") (by decide +kernel)) (fun _ h9 => h9) tyX5 tyX5_ok nmX5 hIn rfl rfl (by decide +kernel) dX5_init_69 rfl, ?_⟩
  refine List.forall_mem_cons.mpr ⟨ip_s_aload_n hx hb dX5_init_72 rfl rfl, ?_⟩
  refine List.forall_mem_cons.mpr ⟨ip_s_sipush hx hb dX5_init_73 rfl rfl, ?_⟩
  refine List.forall_mem_cons.mpr ⟨ip_s_pI hx hb hts hin5 hown rfl (by decide) 11 (by decide) (hts (.fieldLink RX5 39 "IcePadsModel" "limit" "I") (by decide +kernel)) (fun _ h9 => h9) tyX5 tyX5_ok nmX5 hIn rfl rfl (by decide +kernel) dX5_init_76 rfl, ?_⟩
  refine List.forall_mem_cons.mpr ⟨ip_s_aload_n hx hb dX5_init_79 rfl rfl, ?_⟩
  refine List.forall_mem_cons.mpr ⟨ip_s_iconst hx hb dX5_init_80 rfl rfl, ?_⟩
  refine List.forall_mem_cons.mpr ⟨ip_s_pI hx hb hts hin5 hown rfl (by decide) 12 (by decide) (hts (.fieldLink RX5 42 "IcePadsModel" "rate" "I") (by decide +kernel)) (fun _ h9 => h9) tyX5 tyX5_ok nmX5 hIn rfl rfl (by decide +kernel) dX5_init_81 rfl, ?_⟩
  refine List.forall_mem_cons.mpr ⟨ip_s_aload_n hx hb dX5_init_84 rfl rfl, ?_⟩
  refine List.forall_mem_cons.mpr ⟨ip_s_iconst hx hb dX5_init_85 rfl rfl, ?_⟩
  refine List.forall_mem_cons.mpr ⟨ip_s_newi hx hb (hts (.arrayClass .int) (by decide +kernel)) hA hIn (by decide) (Nat.le_of_ble_eq_true rfl) (Nat.le_of_ble_eq_true rfl) dX5_init_86 rfl, ?_⟩
  refine List.forall_mem_cons.mpr ⟨ip_s_pRF (fty := (.array .int)) hx hb hts hin5 hown rfl (by decide) 14 (by decide) (hts (.fieldLink RX5 45 "IcePadsModel" "onPad" "[I") (by decide +kernel)) (fun _ h9 => h9) tyX5 tyX5_ok nmX5 (fun _ _ _ _ _ => trivial) rfl hname rfl rfl (by decide +kernel) (fun o => by cases o <;> exact ⟨rfl, rfl⟩) dX5_init_88 rfl, ?_⟩
  refine List.forall_mem_cons.mpr ⟨ip_s_aload_n hx hb dX5_init_91 rfl rfl, ?_⟩
  refine List.forall_mem_cons.mpr ⟨ip_s_bipush hx hb dX5_init_92 rfl rfl, ?_⟩
  refine List.forall_mem_cons.mpr ⟨ip_s_newi hx hb (hts (.arrayClass .int) (by decide +kernel)) hA hIn (by decide) (Nat.le_of_ble_eq_true rfl) (Nat.le_of_ble_eq_true rfl) dX5_init_94 rfl, ?_⟩
  refine List.forall_mem_cons.mpr ⟨ip_s_pRF (fty := (.array .int)) hx hb hts hin5 hown rfl (by decide) 16 (by decide) (hts (.fieldLink RX5 48 "IcePadsModel" "size" "[I") (by decide +kernel)) (fun _ h9 => h9) tyX5 tyX5_ok nmX5 (fun _ _ _ _ _ => trivial) rfl hname rfl rfl (by decide +kernel) (fun o => by cases o <;> exact ⟨rfl, rfl⟩) dX5_init_96 rfl, ?_⟩
  refine List.forall_mem_cons.mpr ⟨ip_s_aload_n hx hb dX5_init_99 rfl rfl, ?_⟩
  refine List.forall_mem_cons.mpr ⟨ip_s_bipush hx hb dX5_init_100 rfl rfl, ?_⟩
  refine List.forall_mem_cons.mpr ⟨ip_s_newi hx hb (hts (.arrayClass .int) (by decide +kernel)) hA hIn (by decide) (Nat.le_of_ble_eq_true rfl) (Nat.le_of_ble_eq_true rfl) dX5_init_102 rfl, ?_⟩
  refine List.forall_mem_cons.mpr ⟨ip_s_pRF (fty := (.array .int)) hx hb hts hin5 hown rfl (by decide) 17 (by decide) (hts (.fieldLink RX5 51 "IcePadsModel" "first" "[I") (by decide +kernel)) (fun _ h9 => h9) tyX5 tyX5_ok nmX5 (fun _ _ _ _ _ => trivial) rfl hname rfl rfl (by decide +kernel) (fun o => by cases o <;> exact ⟨rfl, rfl⟩) dX5_init_104 rfl, ?_⟩
  refine List.forall_mem_cons.mpr ⟨ip_s_aload_n hx hb dX5_init_107 rfl rfl, ?_⟩
  refine List.forall_mem_cons.mpr ⟨ip_s_bipush hx hb dX5_init_108 rfl rfl, ?_⟩
  refine List.forall_mem_cons.mpr ⟨ip_s_newi hx hb (hts (.arrayClass .int) (by decide +kernel)) hA hIn (by decide) (Nat.le_of_ble_eq_true rfl) (Nat.le_of_ble_eq_true rfl) dX5_init_110 rfl, ?_⟩
  refine List.forall_mem_cons.mpr ⟨ip_s_pRF (fty := (.array .int)) hx hb hts hin5 hown rfl (by decide) 18 (by decide) (hts (.fieldLink RX5 54 "IcePadsModel" "ready" "[I") (by decide +kernel)) (fun _ h9 => h9) tyX5 tyX5_ok nmX5 (fun _ _ _ _ _ => trivial) rfl hname rfl rfl (by decide +kernel) (fun o => by cases o <;> exact ⟨rfl, rfl⟩) dX5_init_112 rfl, ?_⟩
  refine List.forall_mem_cons.mpr ⟨ip_s_aload_n hx hb dX5_init_115 rfl rfl, ?_⟩
  refine List.forall_mem_cons.mpr ⟨ip_s_bipush hx hb dX5_init_116 rfl rfl, ?_⟩
  refine List.forall_mem_cons.mpr ⟨ip_s_newi hx hb (hts (.arrayClass .int) (by decide +kernel)) hA hIn (by decide) (Nat.le_of_ble_eq_true rfl) (Nat.le_of_ble_eq_true rfl) dX5_init_118 rfl, ?_⟩
  refine List.forall_mem_cons.mpr ⟨ip_s_pRF (fty := (.array .int)) hx hb hts hin5 hown rfl (by decide) 19 (by decide) (hts (.fieldLink RX5 57 "IcePadsModel" "roll" "[I") (by decide +kernel)) (fun _ h9 => h9) tyX5 tyX5_ok nmX5 (fun _ _ _ _ _ => trivial) rfl hname rfl rfl (by decide +kernel) (fun o => by cases o <;> exact ⟨rfl, rfl⟩) dX5_init_120 rfl, ?_⟩
  refine List.forall_mem_cons.mpr ⟨ip_s_aload_n hx hb dX5_init_123 rfl rfl, ?_⟩
  refine List.forall_mem_cons.mpr ⟨ip_s_bipush hx hb dX5_init_124 rfl rfl, ?_⟩
  refine List.forall_mem_cons.mpr ⟨ip_s_newi hx hb (hts (.arrayClass .int) (by decide +kernel)) hA hIn (by decide) (Nat.le_of_ble_eq_true rfl) (Nat.le_of_ble_eq_true rfl) dX5_init_126 rfl, ?_⟩
  refine List.forall_mem_cons.mpr ⟨ip_s_pRF (fty := (.array .int)) hx hb hts hin5 hown rfl (by decide) 20 (by decide) (hts (.fieldLink RX5 60 "IcePadsModel" "fluid" "[I") (by decide +kernel)) (fun _ h9 => h9) tyX5 tyX5_ok nmX5 (fun _ _ _ _ _ => trivial) rfl hname rfl rfl (by decide +kernel) (fun o => by cases o <;> exact ⟨rfl, rfl⟩) dX5_init_128 rfl, ?_⟩
  refine List.forall_mem_cons.mpr ⟨ip_s_aload_n hx hb dX5_init_131 rfl rfl, ?_⟩
  refine List.forall_mem_cons.mpr ⟨ip_s_bipush hx hb dX5_init_132 rfl rfl, ?_⟩
  refine List.forall_mem_cons.mpr ⟨ip_s_newi hx hb (hts (.arrayClass .int) (by decide +kernel)) hA hIn (by decide) (Nat.le_of_ble_eq_true rfl) (Nat.le_of_ble_eq_true rfl) dX5_init_134 rfl, ?_⟩
  refine List.forall_mem_cons.mpr ⟨ip_s_pRF (fty := (.array .int)) hx hb hts hin5 hown rfl (by decide) 21 (by decide) (hts (.fieldLink RX5 63 "IcePadsModel" "state" "[I") (by decide +kernel)) (fun _ h9 => h9) tyX5 tyX5_ok nmX5 (fun _ _ _ _ _ => trivial) rfl hname rfl rfl (by decide +kernel) (fun o => by cases o <;> exact ⟨rfl, rfl⟩) dX5_init_136 rfl, ?_⟩
  refine List.forall_mem_cons.mpr ⟨ip_s_aload_n hx hb dX5_init_139 rfl rfl, ?_⟩
  refine List.forall_mem_cons.mpr ⟨ip_s_bipush hx hb dX5_init_140 rfl rfl, ?_⟩
  refine List.forall_mem_cons.mpr ⟨ip_s_newi hx hb (hts (.arrayClass .int) (by decide +kernel)) hA hIn (by decide) (Nat.le_of_ble_eq_true rfl) (Nat.le_of_ble_eq_true rfl) dX5_init_142 rfl, ?_⟩
  refine List.forall_mem_cons.mpr ⟨ip_s_pRF (fty := (.array .int)) hx hb hts hin5 hown rfl (by decide) 22 (by decide) (hts (.fieldLink RX5 66 "IcePadsModel" "start" "[I") (by decide +kernel)) (fun _ h9 => h9) tyX5 tyX5_ok nmX5 (fun _ _ _ _ _ => trivial) rfl hname rfl rfl (by decide +kernel) (fun o => by cases o <;> exact ⟨rfl, rfl⟩) dX5_init_144 rfl, ?_⟩
  refine List.forall_mem_cons.mpr ⟨ip_s_aload_n hx hb dX5_init_147 rfl rfl, ?_⟩
  refine List.forall_mem_cons.mpr ⟨ip_s_bipush hx hb dX5_init_148 rfl rfl, ?_⟩
  refine List.forall_mem_cons.mpr ⟨ip_s_newi hx hb (hts (.arrayClass .int) (by decide +kernel)) hA hIn (by decide) (Nat.le_of_ble_eq_true rfl) (Nat.le_of_ble_eq_true rfl) dX5_init_150 rfl, ?_⟩
  refine List.forall_mem_cons.mpr ⟨ip_s_pRF (fty := (.array .int)) hx hb hts hin5 hown rfl (by decide) 23 (by decide) (hts (.fieldLink RX5 69 "IcePadsModel" "holds" "[I") (by decide +kernel)) (fun _ h9 => h9) tyX5 tyX5_ok nmX5 (fun _ _ _ _ _ => trivial) rfl hname rfl rfl (by decide +kernel) (fun o => by cases o <;> exact ⟨rfl, rfl⟩) dX5_init_152 rfl, ?_⟩
  refine List.forall_mem_cons.mpr ⟨ip_s_aload_n hx hb dX5_init_155 rfl rfl, ?_⟩
  refine List.forall_mem_cons.mpr ⟨ip_s_bipush hx hb dX5_init_156 rfl rfl, ?_⟩
  refine List.forall_mem_cons.mpr ⟨ip_s_newi hx hb (hts (.arrayClass .int) (by decide +kernel)) hA hIn (by decide) (Nat.le_of_ble_eq_true rfl) (Nat.le_of_ble_eq_true rfl) dX5_init_158 rfl, ?_⟩
  refine List.forall_mem_cons.mpr ⟨ip_s_pRF (fty := (.array .int)) hx hb hts hin5 hown rfl (by decide) 24 (by decide) (hts (.fieldLink RX5 72 "IcePadsModel" "backs" "[I") (by decide +kernel)) (fun _ h9 => h9) tyX5 tyX5_ok nmX5 (fun _ _ _ _ _ => trivial) rfl hname rfl rfl (by decide +kernel) (fun o => by cases o <;> exact ⟨rfl, rfl⟩) dX5_init_160 rfl, ?_⟩
  refine List.forall_mem_cons.mpr ⟨ip_s_aload_n hx hb dX5_init_163 rfl rfl, ?_⟩
  refine List.forall_mem_cons.mpr ⟨ip_s_bipush hx hb dX5_init_164 rfl rfl, ?_⟩
  refine List.forall_mem_cons.mpr ⟨ip_s_newi hx hb (hts (.arrayClass .int) (by decide +kernel)) hA hIn (by decide) (Nat.le_of_ble_eq_true rfl) (Nat.le_of_ble_eq_true rfl) dX5_init_166 rfl, ?_⟩
  refine List.forall_mem_cons.mpr ⟨ip_s_pRF (fty := (.array .int)) hx hb hts hin5 hown rfl (by decide) 25 (by decide) (hts (.fieldLink RX5 75 "IcePadsModel" "flew" "[I") (by decide +kernel)) (fun _ h9 => h9) tyX5 tyX5_ok nmX5 (fun _ _ _ _ _ => trivial) rfl hname rfl rfl (by decide +kernel) (fun o => by cases o <;> exact ⟨rfl, rfl⟩) dX5_init_168 rfl, ?_⟩
  refine List.forall_mem_cons.mpr ⟨ip_s_aload_n hx hb dX5_init_171 rfl rfl, ?_⟩
  refine List.forall_mem_cons.mpr ⟨ip_s_iconst hx hb dX5_init_172 rfl rfl, ?_⟩
  refine List.forall_mem_cons.mpr ⟨ip_s_newi hx hb (hts (.arrayClass .int) (by decide +kernel)) hA hIn (by decide) (Nat.le_of_ble_eq_true rfl) (Nat.le_of_ble_eq_true rfl) dX5_init_173 rfl, ?_⟩
  refine List.forall_mem_cons.mpr ⟨ip_s_pRF (fty := (.array .int)) hx hb hts hin5 hown rfl (by decide) 29 (by decide) (hts (.fieldLink RX5 78 "IcePadsModel" "waiting" "[I") (by decide +kernel)) (fun _ h9 => h9) tyX5 tyX5_ok nmX5 (fun _ _ _ _ _ => trivial) rfl hname rfl rfl (by decide +kernel) (fun o => by cases o <;> exact ⟨rfl, rfl⟩) dX5_init_175 rfl, ?_⟩
  refine List.forall_mem_cons.mpr ⟨ip_s_aload_n hx hb dX5_init_178 rfl rfl, ?_⟩
  refine List.forall_mem_cons.mpr ⟨ip_s_iconst hx hb dX5_init_179 rfl rfl, ?_⟩
  refine List.forall_mem_cons.mpr ⟨ip_s_newi hx hb (hts (.arrayClass .int) (by decide +kernel)) hA hIn (by decide) (Nat.le_of_ble_eq_true rfl) (Nat.le_of_ble_eq_true rfl) dX5_init_180 rfl, ?_⟩
  refine List.forall_mem_cons.mpr ⟨ip_s_pRF (fty := (.array .int)) hx hb hts hin5 hown rfl (by decide) 30 (by decide) (hts (.fieldLink RX5 81 "IcePadsModel" "row" "[I") (by decide +kernel)) (fun _ h9 => h9) tyX5 tyX5_ok nmX5 (fun _ _ _ _ _ => trivial) rfl hname rfl rfl (by decide +kernel) (fun o => by cases o <;> exact ⟨rfl, rfl⟩) dX5_init_182 rfl, ?_⟩
  refine List.forall_mem_cons.mpr ⟨ip_s_aload_n hx hb dX5_init_185 rfl rfl, ?_⟩
  refine List.forall_mem_cons.mpr ⟨ip_s_iconst hx hb dX5_init_186 rfl rfl, ?_⟩
  refine List.forall_mem_cons.mpr ⟨ip_s_newi hx hb (hts (.arrayClass .int) (by decide +kernel)) hA hIn (by decide) (Nat.le_of_ble_eq_true rfl) (Nat.le_of_ble_eq_true rfl) dX5_init_187 rfl, ?_⟩
  refine List.forall_mem_cons.mpr ⟨ip_s_pRF (fty := (.array .int)) hx hb hts hin5 hown rfl (by decide) 31 (by decide) (hts (.fieldLink RX5 84 "IcePadsModel" "bestRow" "[I") (by decide +kernel)) (fun _ h9 => h9) tyX5 tyX5_ok nmX5 (fun _ _ _ _ _ => trivial) rfl hname rfl rfl (by decide +kernel) (fun o => by cases o <;> exact ⟨rfl, rfl⟩) dX5_init_189 rfl, ?_⟩
  refine List.forall_mem_cons.mpr ⟨ip_s_aload_n hx hb dX5_init_192 rfl rfl, ?_⟩
  refine List.forall_mem_cons.mpr ⟨ip_s_iconst hx hb dX5_init_193 rfl rfl, ?_⟩
  refine List.forall_mem_cons.mpr ⟨ip_s_pI hx hb hts hin5 hown rfl (by decide) 0 (by decide) (hts (.fieldLink RX5 87 "IcePadsModel" "now" "I") (by decide +kernel)) (fun _ h9 => h9) tyX5 tyX5_ok nmX5 hIn rfl rfl (by decide +kernel) dX5_init_194 rfl, ?_⟩
  refine List.forall_mem_cons.mpr ⟨ip_s_vret hx hb hr hlocks (Nat.le_of_ble_eq_true rfl) (Nat.le_of_ble_eq_true rfl) dX5_init_197, ?_⟩
  exact fun _ h => absurd h List.not_mem_nil
set_option maxRecDepth 100000 in
set_option maxHeartbeats 4000000 in
theorem vX5_init (a : Nat) (S : ip_S) (hS : ip_Tr S) (hp : (S.2.2.2 a).1 = 5 ∧ a = 50 ∧ ∀ q, 51 ≤ q → q ≤ 81 → 10 ≤ (S.2.2.2 q).1) : ip_run (pX5_init (postX5_init [.inr (.inl (some a))] S)) (fun _ => false) (fun _ _ _ _ => False) 130 0 [some (.inr (.inl (some a)))] [] S := by
  obtain ⟨h1, rfl, hu⟩ := hp
  refine And.intro rfl (Exists.intro 51 (And.intro (hu 51 (by decide) (by decide)) (And.intro (by decide) ?_)))
  refine And.intro h1 ?_
  refine And.intro rfl (Exists.intro 52 (And.intro (hu 52 (by decide) (by decide)) (And.intro (by decide) ?_)))
  refine And.intro h1 ?_
  refine And.intro rfl (Exists.intro 53 (And.intro (hu 53 (by decide) (by decide)) (And.intro (by decide) ?_)))
  refine And.intro h1 ?_
  refine And.intro rfl (Exists.intro 55 (And.intro (hu 55 (by decide) (by decide)) (And.intro (by decide) ?_)))
  refine And.intro h1 ?_
  refine And.intro rfl (Exists.intro 56 (And.intro (hu 56 (by decide) (by decide)) (And.intro (by decide) ?_)))
  refine And.intro h1 ?_
  refine And.intro rfl (Exists.intro 57 (And.intro (hu 57 (by decide) (by decide)) (And.intro (by decide) ?_)))
  refine And.intro h1 ?_
  refine And.intro rfl (Exists.intro 58 (And.intro (hu 58 (by decide) (by decide)) (And.intro (by decide) ?_)))
  refine And.intro h1 ?_
  refine And.intro rfl (Exists.intro 59 (And.intro (hu 59 (by decide) (by decide)) (And.intro (by decide) ?_)))
  refine And.intro h1 ?_
  refine And.intro h1 ?_
  refine And.intro h1 ?_
  refine And.intro h1 ?_
  refine And.intro rfl (Exists.intro 64 (And.intro (hu 64 (by decide) (by decide)) (And.intro (by decide) ?_)))
  refine And.intro h1 ?_
  refine And.intro rfl (Exists.intro 66 (And.intro (hu 66 (by decide) (by decide)) (And.intro (by decide) ?_)))
  refine And.intro h1 ?_
  refine And.intro rfl (Exists.intro 67 (And.intro (hu 67 (by decide) (by decide)) (And.intro (by decide) ?_)))
  refine And.intro h1 ?_
  refine And.intro rfl (Exists.intro 68 (And.intro (hu 68 (by decide) (by decide)) (And.intro (by decide) ?_)))
  refine And.intro h1 ?_
  refine And.intro rfl (Exists.intro 69 (And.intro (hu 69 (by decide) (by decide)) (And.intro (by decide) ?_)))
  refine And.intro h1 ?_
  refine And.intro rfl (Exists.intro 70 (And.intro (hu 70 (by decide) (by decide)) (And.intro (by decide) ?_)))
  refine And.intro h1 ?_
  refine And.intro rfl (Exists.intro 71 (And.intro (hu 71 (by decide) (by decide)) (And.intro (by decide) ?_)))
  refine And.intro h1 ?_
  refine And.intro rfl (Exists.intro 72 (And.intro (hu 72 (by decide) (by decide)) (And.intro (by decide) ?_)))
  refine And.intro h1 ?_
  refine And.intro rfl (Exists.intro 73 (And.intro (hu 73 (by decide) (by decide)) (And.intro (by decide) ?_)))
  refine And.intro h1 ?_
  refine And.intro rfl (Exists.intro 74 (And.intro (hu 74 (by decide) (by decide)) (And.intro (by decide) ?_)))
  refine And.intro h1 ?_
  refine And.intro rfl (Exists.intro 75 (And.intro (hu 75 (by decide) (by decide)) (And.intro (by decide) ?_)))
  refine And.intro h1 ?_
  refine And.intro rfl (Exists.intro 79 (And.intro (hu 79 (by decide) (by decide)) (And.intro (by decide) ?_)))
  refine And.intro h1 ?_
  refine And.intro rfl (Exists.intro 80 (And.intro (hu 80 (by decide) (by decide)) (And.intro (by decide) ?_)))
  refine And.intro h1 ?_
  refine And.intro rfl (Exists.intro 81 (And.intro (hu 81 (by decide) (by decide)) (And.intro (by decide) ?_)))
  refine And.intro h1 ?_
  refine And.intro h1 ?_
  exact And.intro rfl rfl
theorem ctX5_init (l : Launch) : ip_CT l yX5_init wsX5_init rmX5_init ip_Tr preX5_init postX5_init := by
  refine ip_of (cc := cX5_init) (maxL := 1) (ret := none) (by decide +kernel) rfl (fun pc => bif Nat.ble pc 8 then (0, 0) else bif Nat.ble pc 17 then (1, 300) else bif Nat.ble pc 26 then (2, 600) else bif Nat.ble pc 33 then (3, 900) else bif Nat.ble pc 41 then (4, 904) else bif Nat.ble pc 48 then (5, 920) else bif Nat.ble pc 55 then (6, 924) else bif Nat.ble pc 62 then (7, 928) else bif Nat.ble pc 86 then (8, 932) else bif Nat.ble pc 94 then (9, 935) else bif Nat.ble pc 102 then (10, 947) else bif Nat.ble pc 110 then (11, 959) else bif Nat.ble pc 118 then (12, 971) else bif Nat.ble pc 126 then (13, 983) else bif Nat.ble pc 134 then (14, 995) else bif Nat.ble pc 142 then (15, 1007) else bif Nat.ble pc 150 then (16, 1019) else bif Nat.ble pc 158 then (17, 1031) else bif Nat.ble pc 166 then (18, 1043) else bif Nat.ble pc 173 then (19, 1055) else bif Nat.ble pc 180 then (20, 1060) else bif Nat.ble pc 187 then (21, 1065) else (22, 1070)) rfl ?_ ?_
  · intro as S h
    obtain ⟨a, rfl, hq⟩ := ip_e_r h
    exact ⟨Nat.le_of_ble_eq_true rfl, by simp⟩
  intro p e s m args below meth c D cA A ad0 as S h hI hx hb hml hown hts hr hlocks hname hA hNx
  obtain ⟨a, rfl, hq⟩ := ip_e_r h
  refine ip_run_ok (stop := fun _ => false) (tX5_init hx hb hml hown hts hr hlocks hname hA hNx) (fun _ _ _ _ h => False.elim h) 130 0 _ _ S ?_
  exact vX5_init a S hI hq
end
section
/-! contracts with a number picture beside them -/
def ip_t_callG {Θ : Type} (na : Nat) (pre : Θ → List ip_V → ip_S → Prop) (post : Θ → List ip_V → ip_S → List ip_V → ip_S → Prop) (n : Nat) : ip_T := fun N loc st S => ∃ θ, ip_t_call na (pre θ) (post θ) n N loc st S
theorem ip_s_G {p : Program} {l : Launch} {e : Env} {R : Room} {s : State} {m : MethodId} {args : Array Value} {below : List Frame} {meth : Method} {c : Code} {D : va_G} {cA : Nat → ClassId} {A : Nat → Prop} {Q : State → Prop} {nL : Nat} {cnt : Nat → Nat × Nat} {I : ip_S → Prop} {ad0 : Nat → Nat} {S0 : ip_S} {pc : Nat} {Θ : Type} {na n : Nat} {pre : Θ → List ip_V → ip_S → Prop} {post : Θ → List ip_V → ip_S → List ip_V → ip_S → Prop}
    (h : ∀ θ, ip_snd p l e R s m args below meth c D cA A Q nL cnt I ad0 S0 pc (ip_t_call na (pre θ) (post θ) n)) : ip_snd p l e R s m args below meth c D cA A Q nL cnt I ad0 S0 pc (ip_t_callG na pre post n) :=
  fun N hN loc st S ⟨θ, hθ⟩ => h θ N hN loc st S hθ
/-! THE NUMBER PICTURE: M p i, by the reference's places -/
abbrev ip_M : Type := Nat → Nat → Int32
def ip_u (M : ip_M) (p k : Nat) (v : Int32) : ip_M := fun q j => if q = p ∧ j = k then v else M q j
theorem ip_u_same {M : ip_M} {p k : Nat} {v : Int32} : ip_u M p k v p k = v := by simp [ip_u]
theorem ip_u_ne {M : ip_M} {p k q j : Nat} {v : Int32} (h : ¬ (q = p ∧ j = k)) : ip_u M p k v q j = M q j := by simp only [ip_u, if_neg h]
theorem ip_u_p {M : ip_M} {p k q j : Nat} {v : Int32} (h : q ≠ p) : ip_u M p k v q j = M q j := ip_u_ne (fun z => h z.1)
theorem ip_u_P {M : ip_M} {p k q : Nat} {v : Int32} (h : q ≠ p) : ip_u M p k v q = M q := funext (fun _ => ip_u_p h)
theorem ip_u_k {M : ip_M} {p k q j : Nat} {v : Int32} (h : j ≠ k) : ip_u M p k v q j = M q j := ip_u_ne (fun z => h z.2)
/-- the reference's cells hold M -/
def ip_eM (M : ip_M) (S : ip_S) : Prop := ∀ p, 50 ≤ p → S.1 p = M p
/-- only the reference's numbers changed -/
def ip_fM (S S' : ip_S) : Prop := (∀ p, p < 50 → S'.1 p = S.1 p) ∧ S'.2 = S.2
def ip_EM (M : ip_M) (S0 S : ip_S) : Prop := ip_eM M S ∧ ip_fM S0 S
theorem ip_fM.rf {S : ip_S} : ip_fM S S := ⟨fun _ _ => rfl, rfl⟩
theorem ip_fM.tr {S S1 S2 : ip_S} (h : ip_fM S S1) (h2 : ip_fM S1 S2) : ip_fM S S2 := ⟨fun p hp => (h2.1 p hp).trans (h.1 p hp), h2.2.trans h.2⟩
theorem ip_EM.rf {M : ip_M} {S : ip_S} (h : ip_eM M S) : ip_EM M S S := ⟨h, ip_fM.rf⟩
theorem ip_EM.u {M : ip_M} {S0 S : ip_S} (h : ip_EM M S0 S) {p : Nat} (hp : 50 ≤ p) (k : Nat) (v : Int32) : ip_EM (ip_u M p k v) S0 (ip_sI S p k v) := by
  refine ⟨fun q hq => funext (fun j => ?_), fun q hq => (funext (fun j => ?_)).trans (h.2.1 q hq), h.2.2⟩
  · show (if q = p ∧ j = k then v else S.1 q j) = (if q = p ∧ j = k then v else M q j)
    rw [h.1 q hq]
  · show (if q = p ∧ j = k then v else S.1 q j) = S.1 q j
    rw [if_neg (fun z => by omega)]
theorem ip_EM.tr {M M1 : ip_M} {S0 S S1 : ip_S} (h : ip_EM M S0 S) (h1 : ip_EM M1 S S1) : ip_EM M1 S0 S1 := ⟨h1.1, h.2.tr h1.2⟩
/-! what a picture always keeps -/
def ip_vn (M : ip_M) (nf nj np : Nat) : Prop := M 50 4 = nI nf ∧ nf ≤ 4 ∧ M 50 15 = nI nj ∧ nj ≤ 12 ∧ M 50 10 = nI np ∧ 1 ≤ np ∧ np ≤ 3
def ip_vw (M : ip_M) : Prop := ∀ i, ¬ M 51 i = 0 → -30 ≤ (M 52 i).toInt ∧ (M 52 i).toInt ≤ 5 ∧ 0 ≤ (M 53 i).toInt ∧ (M 53 i).toInt ≤ 3
def ip_vs (M : ip_M) : Prop := (0 ≤ (M 50 0).toInt ∧ (M 50 0).toInt ≤ 299) ∧ (10 ≤ (M 50 11).toInt ∧ (M 50 11).toInt ≤ 1000) ∧ (0 ≤ (M 50 12).toInt ∧ (M 50 12).toInt ≤ 50) ∧ (0 ≤ (M 50 13).toInt ∧ (M 50 13).toInt ≤ 1000)
def ip_vf (M : ip_M) (nf : Nat) : Prop := ∀ i, i < nf → (M 55 i = 0 ∨ M 55 i = 1 ∨ M 55 i = 2) ∧ (∀ j, j < 4 → 0 ≤ (M 56 (4 * i + j)).toInt ∧ (M 56 (4 * i + j)).toInt ≤ 100) ∧ (¬ M 55 i = 0 → 1 ≤ (M 57 i).toInt ∧ (M 57 i).toInt ≤ 4) ∧ (M 55 i = 2 → 1 ≤ (M 58 i).toInt ∧ (M 58 i).toInt ≤ 10)
def ip_vj (M : ip_M) (nf nj : Nat) : Prop := ∀ j, j < nj → (1 ≤ (M 66 j).toInt ∧ (M 66 j).toInt ≤ 5) ∧ (1 ≤ (M 69 j).toInt ∧ (M 69 j).toInt ≤ 20) ∧ (0 ≤ (M 67 j).toInt ∧ (M 67 j).toInt ≤ 299) ∧ ((M 67 j).toInt ≤ (M 68 j).toInt ∧ (M 68 j).toInt ≤ 319) ∧ (∃ f, f < nf ∧ M 70 j = nI f) ∧ (M 71 j = 0 ∨ M 71 j = 1 ∨ M 71 j = 2) ∧ (M 71 j = 1 → (0 ≤ (M 72 j).toInt ∧ (M 72 j).toInt ≤ 299) ∧ (M 50 0).toInt ≤ (M 72 j).toInt + 2 * (M 66 j).toInt ∧ (0 ≤ (M 73 j).toInt ∧ (M 73 j).toInt ≤ 400)) ∧ (M 71 j = 2 ↔ ¬ M 75 j = -900)
def ip_vp (M : ip_M) (nj np : Nat) : Prop := (∀ p, p < 3 → M 64 p = 0 ∨ (p < np ∧ ∃ j, j < nj ∧ M 64 p = nI (j + 1) ∧ M 71 j = 1)) ∧ (∀ j, j < nj → M 71 j = 1 → ∃ p, p < np ∧ M 64 p = nI (j + 1)) ∧ ∀ p q, p < 3 → q < 3 → M 64 p = M 64 q → ¬ M 64 p = 0 → p = q
def ip_vv (M : ip_M) (nf nj np : Nat) : Prop := ip_vn M nf nj np ∧ ip_vw M ∧ ip_vs M ∧ ip_vf M nf ∧ ip_vj M nf nj ∧ ip_vp M nj np
end
section
def preX5_in : List ip_V → ip_S → Prop := ip_h_iii (fun _ => False) (fun n lo hi S => True)
def postX5_in : List ip_V → ip_S → List ip_V → ip_S → Prop := ip_h_iii (fun _ _ _ => True) (fun n lo hi S r S' => r = [.inl (if lo ≤ n ∧ n ≤ hi then 1 else 0)] ∧ S' = S)
theorem shsX5_in : ∀ as S, ip_Sta S → preX5_in as S → as.length = 3 := by
  intro as S hI h
  obtain ⟨n, lo, hi, rfl, hq⟩ := ip_e_iii h
  rfl
def rmX5_in : Room := { frames := 1, cells := 0, slots := 0, locals := 40 }
def pX5_in (po : List ip_V → ip_S → Prop) : List (Nat × ip_T) := [(0, ip_t_il 0 1), (1, ip_t_il 1 2), (2, ip_t_iclt 14 5), (5, ip_t_il 0 6), (6, ip_t_il 2 7), (7, ip_t_icgt 14 10), (10, ip_t_ci 1 11), (11, ip_t_go 15), (14, ip_t_ci 0 15), (15, ip_t_zret po)]
set_option maxRecDepth 100000 in
set_option maxHeartbeats 4000000 in
theorem tX5_in {p : Program} {l : Launch} {e : Env} {s : State} {m : MethodId} {args : Array Value} {below : List Frame} {meth : Method} {c : Code} {D : va_G} {cA : Nat → ClassId} {A : Nat → Prop} {ad0 : Nat → Nat} {S0 : ip_S} {po : List ip_V → ip_S → Prop} (hx : p.tables.exec = Jvm.exec) (hb : c.code = cX5_in) (hml : c.maxLocals = 3) (hown : s.vm.findClass RX5 = some m.cls) (hts : ∀ w ∈ wsX5_in, w.before args s = true) (hr : meth.sig.returnType = (some .boolean)) (hlocks : meth.locks = false) (hname : meth.name = yX5_in.name) (hA : ∀ q, s.heap.size ≤ q → A q) (hNx : ip_Nx s) : ∀ q ∈ pX5_in po, ip_snd p l e rmX5_in s m args below meth c D cA A (MQ below (ip_Q ip_Sta D cA ad0 S0 A po) args s 0 0 A) 3 (fun _ => (0, 0)) ip_Sta ad0 S0 q.1 q.2 := by
  have hIs : ∀ S, ip_Sta S → ip_Sta S := fun _ h => h
  have hIn := ip_In_Sta
  have hS9 : CallFix p m c cX5_in 3 s args wsX5_in RX5 := ⟨hx, hb, hml, hown, hts⟩
  refine List.forall_mem_cons.mpr ⟨ip_s_iload_n hx hb dX5_in_0 rfl rfl, ?_⟩
  refine List.forall_mem_cons.mpr ⟨ip_s_iload_n hx hb dX5_in_1 rfl rfl, ?_⟩
  refine List.forall_mem_cons.mpr ⟨ip_s_iclt (t := 14) hx hb dX5_in_2 (by decide) rfl rfl, ?_⟩
  refine List.forall_mem_cons.mpr ⟨ip_s_iload_n hx hb dX5_in_5 rfl rfl, ?_⟩
  refine List.forall_mem_cons.mpr ⟨ip_s_iload_n hx hb dX5_in_6 rfl rfl, ?_⟩
  refine List.forall_mem_cons.mpr ⟨ip_s_icgt (t := 14) hx hb dX5_in_7 (by decide) rfl rfl, ?_⟩
  refine List.forall_mem_cons.mpr ⟨ip_s_iconst hx hb dX5_in_10 rfl rfl, ?_⟩
  refine List.forall_mem_cons.mpr ⟨ip_s_go (t := 15) hx hb dX5_in_11 (by decide) (Nat.le_of_ble_eq_true rfl) (Nat.le_of_ble_eq_true rfl), ?_⟩
  refine List.forall_mem_cons.mpr ⟨ip_s_iconst hx hb dX5_in_14 rfl rfl, ?_⟩
  refine List.forall_mem_cons.mpr ⟨ip_s_zret hx hb hr hlocks (Nat.le_of_ble_eq_true rfl) (Nat.le_of_ble_eq_true rfl) dX5_in_15, ?_⟩
  exact fun _ h => absurd h List.not_mem_nil
set_option maxRecDepth 100000 in
set_option maxHeartbeats 4000000 in
theorem vX5_in (n : Int32) (lo : Int32) (hi : Int32) (S : ip_S) (hS : ip_Sta S) (hp : True) : ip_run (pX5_in (postX5_in [.inl n, .inl lo, .inl hi] S)) (fun _ => false) (fun _ _ _ _ => False) 20 0 [some (.inl n), some (.inl lo), some (.inl hi)] [] S := by
  refine And.intro (fun h1 => ?_) (fun h1 => ?_)
  · refine And.intro (Or.inl rfl) (And.intro ?_ rfl)
    rw [if_neg (fun h => Int32.not_le.mpr h1 h.1)]
  · refine And.intro (fun h2 => ?_) (fun h2 => ?_)
    · refine And.intro (Or.inl rfl) (And.intro ?_ rfl)
      rw [if_neg (fun h => Int32.not_le.mpr h2 h.2)]
    · refine And.intro (Or.inr rfl) (And.intro ?_ rfl)
      rw [if_pos ⟨Int32.not_lt.mp h1, Int32.not_lt.mp h2⟩]
theorem ctX5_in (l : Launch) : ip_CT l yX5_in wsX5_in rmX5_in ip_Sta (preX5_in) (postX5_in) := by
  refine ip_of (cc := cX5_in) (maxL := 3) (ret := (some .boolean)) (by decide +kernel) rfl (fun _ => (0, 0)) rfl ?_ ?_
  · intro as S h
    obtain ⟨n, lo, hi, rfl, hq⟩ := ip_e_iii h
    exact ⟨Nat.le_of_ble_eq_true rfl, by simp⟩
  intro p e s m args below meth c D cA A ad0 as S h hI hx hb hml hown hts hr hlocks hname hA hNx
  obtain ⟨n, lo, hi, rfl, hq⟩ := ip_e_iii h
  refine ip_run_ok (stop := fun _ => false) (tX5_in hx hb hml hown hts hr hlocks hname hA hNx) (fun _ _ _ _ h => False.elim h) 20 0 _ _ S ?_
  exact vX5_in n lo hi S hI hq

def g_weather (M : ip_M) (m c f : Int32) : Int32 × ip_M := if (0 ≤ m ∧ m ≤ 299) ∧ (-30 ≤ c ∧ c ≤ 5) ∧ (0 ≤ f ∧ f ≤ 3) then (if m < M 50 0 then (-200, M) else (1, ip_u (ip_u (ip_u M 51 m.toNatClampNeg 1) 52 m.toNatClampNeg c) 53 m.toNatClampNeg f)) else (-100, M)
def g_loses (M : ip_M) (m : Int32) : Int32 × ip_M := if 0 ≤ m ∧ m ≤ 299 then (if m < M 50 0 then (-200, M) else (if M 51 m.toNatClampNeg = 0 then 0 else 1, ip_u M 51 m.toNatClampNeg 0)) else (-100, M)

def preX5_weather (M : ip_M) : List ip_V → ip_S → Prop := ip_h_riii (fun _ => False) (fun a m c f S => a = 50 ∧ ip_eM M S)
def postX5_weather (M : ip_M) : List ip_V → ip_S → List ip_V → ip_S → Prop := ip_h_riii (fun _ _ _ => True) (fun a m c f S r S' => r = [.inl (g_weather M m c f).1] ∧ ip_EM (g_weather M m c f).2 S S')
theorem shX5_weather (M : ip_M) : ∀ as S, ip_Sta S → preX5_weather M as S → ∃ (b : Nat) (as' : List ip_V), as = .inr (.inl (some b)) :: as' ∧ as'.length = 3 ∧ (S.2.2.2 b).1 = 5 := by
  intro as S hI h
  obtain ⟨a, m, c, f, rfl, hq⟩ := ip_e_riii h
  exact ⟨_, _, rfl, rfl, by rw [hq.1, hI.1 50 (by decide)]; rfl⟩
def rmX5_weather : Room := { frames := 2, cells := 0, slots := 0, locals := 80 }
def pX5_weather (po : List ip_V → ip_S → Prop) : List (Nat × ip_T) := [(0, ip_t_il 1 1), (1, ip_t_ci 0 2), (2, ip_t_ci 299 5), (5, ip_t_call 3 preX5_in postX5_in 8), (8, ip_t_ifeq 30 11), (11, ip_t_il 2 12), (12, ip_t_ci (-30) 14), (14, ip_t_ci 5 15), (15, ip_t_call 3 preX5_in postX5_in 18), (18, ip_t_ifeq 30 21), (21, ip_t_il 3 22), (22, ip_t_ci 0 23), (23, ip_t_ci 3 24), (24, ip_t_call 3 preX5_in postX5_in 27), (27, ip_t_ifne 33 30), (30, ip_t_ci (-100) 32), (32, ip_t_iret po), (33, ip_t_il 1 34), (34, ip_t_ar 0 35), (35, ip_t_gI0 50 0 38), (38, ip_t_icge 45 41), (41, ip_t_ci (-200) 44), (44, ip_t_iret po), (45, ip_t_ar 0 46), (46, ip_t_gR0 50 51 49), (49, ip_t_il 1 50), (50, ip_t_ci 1 51), (51, ip_t_stz 52), (52, ip_t_ar 0 53), (53, ip_t_gR0 50 52 56), (56, ip_t_il 1 57), (57, ip_t_il 2 58), (58, ip_t_st 59), (59, ip_t_ar 0 60), (60, ip_t_gR0 50 53 63), (63, ip_t_il 1 64), (64, ip_t_il 3 65), (65, ip_t_st 66), (66, ip_t_ci 1 67), (67, ip_t_iret po)]
set_option maxRecDepth 100000 in
set_option maxHeartbeats 4000000 in
theorem tX5_weather {p : Program} {l : Launch} {e : Env} {s : State} {m : MethodId} {args : Array Value} {below : List Frame} {meth : Method} {c : Code} {D : va_G} {cA : Nat → ClassId} {A : Nat → Prop} {ad0 : Nat → Nat} {S0 : ip_S} {po : List ip_V → ip_S → Prop} (hx : p.tables.exec = Jvm.exec) (hb : c.code = cX5_weather) (hml : c.maxLocals = 4) (hown : s.vm.findClass RX5 = some m.cls) (hts : ∀ w ∈ wsX5_weather, w.before args s = true) (hr : meth.sig.returnType = (some .int)) (hlocks : meth.locks = false) (hname : meth.name = yX5_weather.name) (hA : ∀ q, s.heap.size ≤ q → A q) (hNx : ip_Nx s) : ∀ q ∈ pX5_weather po, ip_snd p l e rmX5_weather s m args below meth c D cA A (MQ below (ip_Q ip_Sta D cA ad0 S0 A po) args s 0 0 A) 4 (fun _ => (0, 0)) ip_Sta ad0 S0 q.1 q.2 := by
  have hIs : ∀ S, ip_Sta S → ip_Sta S := fun _ h => h
  have hIn := ip_In_Sta
  have hS9 : CallFix p m c cX5_weather 4 s args wsX5_weather RX5 := ⟨hx, hb, hml, hown, hts⟩
  have hin5 : ∀ w ∈ u_ws RX5 TX5 32, w ∈ wsX5_weather := by decide +kernel
  refine List.forall_mem_cons.mpr ⟨ip_s_iload_n hx hb dX5_weather_0 rfl rfl, ?_⟩
  refine List.forall_mem_cons.mpr ⟨ip_s_iconst hx hb dX5_weather_1 rfl rfl, ?_⟩
  refine List.forall_mem_cons.mpr ⟨ip_s_sipush hx hb dX5_weather_2 rfl rfl, ?_⟩
  refine List.forall_mem_cons.mpr ⟨ip_s_callS hNx hS9 (ctX5_in l) (va_cwS 3 hts gX5_weather_X5_in rfl rfl rfl (by decide +kernel) ⟨Nat.le_of_ble_eq_true rfl, Nat.le_of_ble_eq_true rfl⟩) (fun as S hI h => shsX5_in as S hI h) hA dX5_weather_5 ⟨Nat.le_of_ble_eq_true rfl, Nat.le_of_ble_eq_true rfl⟩ rfl, ?_⟩
  refine List.forall_mem_cons.mpr ⟨ip_s_ifeq (t := 30) hx hb dX5_weather_8 (by decide) rfl rfl, ?_⟩
  refine List.forall_mem_cons.mpr ⟨ip_s_iload_n hx hb dX5_weather_11 rfl rfl, ?_⟩
  refine List.forall_mem_cons.mpr ⟨ip_s_bipush hx hb dX5_weather_12 rfl rfl, ?_⟩
  refine List.forall_mem_cons.mpr ⟨ip_s_iconst hx hb dX5_weather_14 rfl rfl, ?_⟩
  refine List.forall_mem_cons.mpr ⟨ip_s_callS hNx hS9 (ctX5_in l) (va_cwS 3 hts gX5_weather_X5_in rfl rfl rfl (by decide +kernel) ⟨Nat.le_of_ble_eq_true rfl, Nat.le_of_ble_eq_true rfl⟩) (fun as S hI h => shsX5_in as S hI h) hA dX5_weather_15 ⟨Nat.le_of_ble_eq_true rfl, Nat.le_of_ble_eq_true rfl⟩ rfl, ?_⟩
  refine List.forall_mem_cons.mpr ⟨ip_s_ifeq (t := 30) hx hb dX5_weather_18 (by decide) rfl rfl, ?_⟩
  refine List.forall_mem_cons.mpr ⟨ip_s_iload_n hx hb dX5_weather_21 rfl rfl, ?_⟩
  refine List.forall_mem_cons.mpr ⟨ip_s_iconst hx hb dX5_weather_22 rfl rfl, ?_⟩
  refine List.forall_mem_cons.mpr ⟨ip_s_iconst hx hb dX5_weather_23 rfl rfl, ?_⟩
  refine List.forall_mem_cons.mpr ⟨ip_s_callS hNx hS9 (ctX5_in l) (va_cwS 3 hts gX5_weather_X5_in rfl rfl rfl (by decide +kernel) ⟨Nat.le_of_ble_eq_true rfl, Nat.le_of_ble_eq_true rfl⟩) (fun as S hI h => shsX5_in as S hI h) hA dX5_weather_24 ⟨Nat.le_of_ble_eq_true rfl, Nat.le_of_ble_eq_true rfl⟩ rfl, ?_⟩
  refine List.forall_mem_cons.mpr ⟨ip_s_ifne (t := 33) hx hb dX5_weather_27 (by decide) rfl rfl, ?_⟩
  refine List.forall_mem_cons.mpr ⟨ip_s_bipush hx hb dX5_weather_30 rfl rfl, ?_⟩
  refine List.forall_mem_cons.mpr ⟨ip_s_iret hx hb hr hlocks (Nat.le_of_ble_eq_true rfl) (Nat.le_of_ble_eq_true rfl) dX5_weather_32, ?_⟩
  refine List.forall_mem_cons.mpr ⟨ip_s_iload_n hx hb dX5_weather_33 rfl rfl, ?_⟩
  refine List.forall_mem_cons.mpr ⟨ip_s_aload_n hx hb dX5_weather_34 rfl rfl, ?_⟩
  refine List.forall_mem_cons.mpr ⟨ip_s_gI0 hx hb hts hin5 hown rfl (by decide) 0 (by decide) (hts (.fieldLink RX5 87 "IcePadsModel" "now" "I") (by decide +kernel)) (fun _ h9 => h9) hIs 50 rfl rfl dX5_weather_35 rfl, ?_⟩
  refine List.forall_mem_cons.mpr ⟨ip_s_icge (t := 45) hx hb dX5_weather_38 (by decide) rfl rfl, ?_⟩
  refine List.forall_mem_cons.mpr ⟨ip_s_sipush hx hb dX5_weather_41 rfl rfl, ?_⟩
  refine List.forall_mem_cons.mpr ⟨ip_s_iret hx hb hr hlocks (Nat.le_of_ble_eq_true rfl) (Nat.le_of_ble_eq_true rfl) dX5_weather_44, ?_⟩
  refine List.forall_mem_cons.mpr ⟨ip_s_aload_n hx hb dX5_weather_45 rfl rfl, ?_⟩
  refine List.forall_mem_cons.mpr ⟨ip_s_gR0 hx hb hts hin5 hown rfl (by decide) 1 (by decide) (hts (.fieldLink RX5 7 "IcePadsModel" "isTold" "[Z") (by decide +kernel)) (fun _ h9 => h9) hIs 50 51 rfl (by decide) rfl dX5_weather_46 rfl, ?_⟩
  refine List.forall_mem_cons.mpr ⟨ip_s_iload_n hx hb dX5_weather_49 rfl rfl, ?_⟩
  refine List.forall_mem_cons.mpr ⟨ip_s_iconst hx hb dX5_weather_50 rfl rfl, ?_⟩
  refine List.forall_mem_cons.mpr ⟨ip_s_stz hx hb hIn hIs dX5_weather_51 rfl, ?_⟩
  refine List.forall_mem_cons.mpr ⟨ip_s_aload_n hx hb dX5_weather_52 rfl rfl, ?_⟩
  refine List.forall_mem_cons.mpr ⟨ip_s_gR0 hx hb hts hin5 hown rfl (by decide) 2 (by decide) (hts (.fieldLink RX5 13 "IcePadsModel" "cold" "[I") (by decide +kernel)) (fun _ h9 => h9) hIs 50 52 rfl (by decide) rfl dX5_weather_53 rfl, ?_⟩
  refine List.forall_mem_cons.mpr ⟨ip_s_iload_n hx hb dX5_weather_56 rfl rfl, ?_⟩
  refine List.forall_mem_cons.mpr ⟨ip_s_iload_n hx hb dX5_weather_57 rfl rfl, ?_⟩
  refine List.forall_mem_cons.mpr ⟨ip_s_sti hx hb hIn hIs dX5_weather_58 rfl, ?_⟩
  refine List.forall_mem_cons.mpr ⟨ip_s_aload_n hx hb dX5_weather_59 rfl rfl, ?_⟩
  refine List.forall_mem_cons.mpr ⟨ip_s_gR0 hx hb hts hin5 hown rfl (by decide) 3 (by decide) (hts (.fieldLink RX5 17 "IcePadsModel" "fall" "[I") (by decide +kernel)) (fun _ h9 => h9) hIs 50 53 rfl (by decide) rfl dX5_weather_60 rfl, ?_⟩
  refine List.forall_mem_cons.mpr ⟨ip_s_iload_n hx hb dX5_weather_63 rfl rfl, ?_⟩
  refine List.forall_mem_cons.mpr ⟨ip_s_iload_n hx hb dX5_weather_64 rfl rfl, ?_⟩
  refine List.forall_mem_cons.mpr ⟨ip_s_sti hx hb hIn hIs dX5_weather_65 rfl, ?_⟩
  refine List.forall_mem_cons.mpr ⟨ip_s_iconst hx hb dX5_weather_66 rfl rfl, ?_⟩
  refine List.forall_mem_cons.mpr ⟨ip_s_iret hx hb hr hlocks (Nat.le_of_ble_eq_true rfl) (Nat.le_of_ble_eq_true rfl) dX5_weather_67, ?_⟩
  exact fun _ h => absurd h List.not_mem_nil
set_option maxRecDepth 100000 in
set_option maxHeartbeats 4000000 in
theorem vX5_weather (M : ip_M) (a : Nat) (m : Int32) (c : Int32) (f : Int32) (S : ip_S) (hS : ip_Sta S) (hp : a = 50 ∧ ip_eM M S) : ip_run (pX5_weather (postX5_weather M [.inr (.inl (some a)), .inl m, .inl c, .inl f] S)) (fun _ => false) (fun _ _ _ _ => False) 60 0 [some (.inr (.inl (some a))), some (.inl m), some (.inl c), some (.inl f)] [] S := by
  obtain ⟨rfl, hE⟩ := hp
  refine And.intro trivial ?_
  rintro r S' ⟨rfl, rfl⟩
  refine And.intro (fun q1 => ?_) (fun q1 => ?_)
  · refine And.intro ?_ ?_ <;> unfold g_weather <;> rw [if_neg (fun z => ip_if0 q1 z.1)]
    exact ip_EM.rf hE
  have q1 := ip_if1 q1
  refine And.intro trivial ?_
  rintro r S' ⟨rfl, rfl⟩
  refine And.intro (fun q2 => ?_) (fun q2 => ?_)
  · refine And.intro ?_ ?_ <;> unfold g_weather <;> rw [if_neg (fun z => ip_if0 q2 z.2.1)]
    exact ip_EM.rf hE
  have q2 := ip_if1 q2
  refine And.intro trivial ?_
  rintro r S' ⟨rfl, rfl⟩
  refine And.intro (fun q3 => ?_) (fun q3 => ?_)
  · have q3 := ip_if1 q3
    have hin : vp_in m 300 := ip_in q1 rfl
    have e0 : S'.1 50 0 = M 50 0 := congrFun (hE 50 (by decide)) 0
    refine And.intro (fun q4 => ?_) (fun q4 => ?_)
    · rw [e0] at q4
      refine And.intro hin ?_
      refine And.intro hin ?_
      refine And.intro hin ?_
      refine And.intro ?_ ?_ <;> unfold g_weather <;> rw [if_pos ⟨q1, q2, q3⟩, if_neg (Int32.not_lt.mpr q4)]
      exact ((((ip_EM.rf hE).u (by decide) _ _).u (by decide) _ _).u (by decide) _ _)
    · rw [e0] at q4
      refine And.intro ?_ ?_ <;> unfold g_weather <;> rw [if_pos ⟨q1, q2, q3⟩, if_pos (Int32.not_le.mp q4)]
      exact ip_EM.rf hE
  · refine And.intro ?_ ?_ <;> unfold g_weather <;> rw [if_neg (fun z => ip_if0 q3 z.2.2)]
    exact ip_EM.rf hE
theorem ctX5_weather (l : Launch) (M : ip_M) : ip_CT l yX5_weather wsX5_weather rmX5_weather ip_Sta (preX5_weather M) (postX5_weather M) := by
  refine ip_of (cc := cX5_weather) (maxL := 4) (ret := (some .int)) (by decide +kernel) rfl (fun _ => (0, 0)) rfl ?_ ?_
  · intro as S h
    obtain ⟨a, m, c, f, rfl, hq⟩ := ip_e_riii h
    exact ⟨Nat.le_of_ble_eq_true rfl, by simp⟩
  intro p e s m args below meth c D cA A ad0 as S h hI hx hb hml hown hts hr hlocks hname hA hNx
  obtain ⟨a, m, c, f, rfl, hq⟩ := ip_e_riii h
  refine ip_run_ok (stop := fun _ => false) (tX5_weather hx hb hml hown hts hr hlocks hname hA hNx) (fun _ _ _ _ h => False.elim h) 60 0 _ _ S ?_
  exact vX5_weather M a m c f S hI hq

def preX5_loses (M : ip_M) : List ip_V → ip_S → Prop := ip_h_ri (fun _ => False) (fun a m S => a = 50 ∧ ip_eM M S)
def postX5_loses (M : ip_M) : List ip_V → ip_S → List ip_V → ip_S → Prop := ip_h_ri (fun _ _ _ => True) (fun a m S r S' => r = [.inl (g_loses M m).1] ∧ ip_EM (g_loses M m).2 S S')
theorem shX5_loses (M : ip_M) : ∀ as S, ip_Sta S → preX5_loses M as S → ∃ (b : Nat) (as' : List ip_V), as = .inr (.inl (some b)) :: as' ∧ as'.length = 1 ∧ (S.2.2.2 b).1 = 5 := by
  intro as S hI h
  obtain ⟨a, m, rfl, hq⟩ := ip_e_ri h
  exact ⟨_, _, rfl, rfl, by rw [hq.1, hI.1 50 (by decide)]; rfl⟩
def rmX5_loses : Room := { frames := 2, cells := 0, slots := 0, locals := 80 }
def pX5_loses (po : List ip_V → ip_S → Prop) : List (Nat × ip_T) := [(0, ip_t_il 1 1), (1, ip_t_ci 0 2), (2, ip_t_ci 299 5), (5, ip_t_call 3 preX5_in postX5_in 8), (8, ip_t_ifne 14 11), (11, ip_t_ci (-100) 13), (13, ip_t_iret po), (14, ip_t_il 1 15), (15, ip_t_ar 0 16), (16, ip_t_gI0 50 0 19), (19, ip_t_icge 26 22), (22, ip_t_ci (-200) 25), (25, ip_t_iret po), (26, ip_t_ar 0 27), (27, ip_t_gR0 50 51 30), (30, ip_t_il 1 31), (31, ip_t_ld 7 32), (32, ip_t_ifeq 39 35), (35, ip_t_ci 1 36), (36, ip_t_go 40), (39, ip_t_ci 0 40), (40, ip_t_is 2 41), (41, ip_t_ar 0 42), (42, ip_t_gR0 50 51 45), (45, ip_t_il 1 46), (46, ip_t_ci 0 47), (47, ip_t_stz 48), (48, ip_t_il 2 49), (49, ip_t_iret po)]
set_option maxRecDepth 100000 in
set_option maxHeartbeats 4000000 in
theorem tX5_loses {p : Program} {l : Launch} {e : Env} {s : State} {m : MethodId} {args : Array Value} {below : List Frame} {meth : Method} {c : Code} {D : va_G} {cA : Nat → ClassId} {A : Nat → Prop} {ad0 : Nat → Nat} {S0 : ip_S} {po : List ip_V → ip_S → Prop} (hx : p.tables.exec = Jvm.exec) (hb : c.code = cX5_loses) (hml : c.maxLocals = 3) (hown : s.vm.findClass RX5 = some m.cls) (hts : ∀ w ∈ wsX5_loses, w.before args s = true) (hr : meth.sig.returnType = (some .int)) (hlocks : meth.locks = false) (hname : meth.name = yX5_loses.name) (hA : ∀ q, s.heap.size ≤ q → A q) (hNx : ip_Nx s) : ∀ q ∈ pX5_loses po, ip_snd p l e rmX5_loses s m args below meth c D cA A (MQ below (ip_Q ip_Sta D cA ad0 S0 A po) args s 0 0 A) 3 (fun _ => (0, 0)) ip_Sta ad0 S0 q.1 q.2 := by
  have hIs : ∀ S, ip_Sta S → ip_Sta S := fun _ h => h
  have hIn := ip_In_Sta
  have hS9 : CallFix p m c cX5_loses 3 s args wsX5_loses RX5 := ⟨hx, hb, hml, hown, hts⟩
  have hin5 : ∀ w ∈ u_ws RX5 TX5 32, w ∈ wsX5_loses := by decide +kernel
  refine List.forall_mem_cons.mpr ⟨ip_s_iload_n hx hb dX5_loses_0 rfl rfl, ?_⟩
  refine List.forall_mem_cons.mpr ⟨ip_s_iconst hx hb dX5_loses_1 rfl rfl, ?_⟩
  refine List.forall_mem_cons.mpr ⟨ip_s_sipush hx hb dX5_loses_2 rfl rfl, ?_⟩
  refine List.forall_mem_cons.mpr ⟨ip_s_callS hNx hS9 (ctX5_in l) (va_cwS 3 hts gX5_loses_X5_in rfl rfl rfl (by decide +kernel) ⟨Nat.le_of_ble_eq_true rfl, Nat.le_of_ble_eq_true rfl⟩) (fun as S hI h => shsX5_in as S hI h) hA dX5_loses_5 ⟨Nat.le_of_ble_eq_true rfl, Nat.le_of_ble_eq_true rfl⟩ rfl, ?_⟩
  refine List.forall_mem_cons.mpr ⟨ip_s_ifne (t := 14) hx hb dX5_loses_8 (by decide) rfl rfl, ?_⟩
  refine List.forall_mem_cons.mpr ⟨ip_s_bipush hx hb dX5_loses_11 rfl rfl, ?_⟩
  refine List.forall_mem_cons.mpr ⟨ip_s_iret hx hb hr hlocks (Nat.le_of_ble_eq_true rfl) (Nat.le_of_ble_eq_true rfl) dX5_loses_13, ?_⟩
  refine List.forall_mem_cons.mpr ⟨ip_s_iload_n hx hb dX5_loses_14 rfl rfl, ?_⟩
  refine List.forall_mem_cons.mpr ⟨ip_s_aload_n hx hb dX5_loses_15 rfl rfl, ?_⟩
  refine List.forall_mem_cons.mpr ⟨ip_s_gI0 hx hb hts hin5 hown rfl (by decide) 0 (by decide) (hts (.fieldLink RX5 87 "IcePadsModel" "now" "I") (by decide +kernel)) (fun _ h9 => h9) hIs 50 rfl rfl dX5_loses_16 rfl, ?_⟩
  refine List.forall_mem_cons.mpr ⟨ip_s_icge (t := 26) hx hb dX5_loses_19 (by decide) rfl rfl, ?_⟩
  refine List.forall_mem_cons.mpr ⟨ip_s_sipush hx hb dX5_loses_22 rfl rfl, ?_⟩
  refine List.forall_mem_cons.mpr ⟨ip_s_iret hx hb hr hlocks (Nat.le_of_ble_eq_true rfl) (Nat.le_of_ble_eq_true rfl) dX5_loses_25, ?_⟩
  refine List.forall_mem_cons.mpr ⟨ip_s_aload_n hx hb dX5_loses_26 rfl rfl, ?_⟩
  refine List.forall_mem_cons.mpr ⟨ip_s_gR0 hx hb hts hin5 hown rfl (by decide) 1 (by decide) (hts (.fieldLink RX5 7 "IcePadsModel" "isTold" "[Z") (by decide +kernel)) (fun _ h9 => h9) hIs 50 51 rfl (by decide) rfl dX5_loses_27 rfl, ?_⟩
  refine List.forall_mem_cons.mpr ⟨ip_s_iload_n hx hb dX5_loses_30 rfl rfl, ?_⟩
  refine List.forall_mem_cons.mpr ⟨ip_s_ldz hx hb hIs dX5_loses_31 rfl, ?_⟩
  refine List.forall_mem_cons.mpr ⟨ip_s_ifeq (t := 39) hx hb dX5_loses_32 (by decide) rfl rfl, ?_⟩
  refine List.forall_mem_cons.mpr ⟨ip_s_iconst hx hb dX5_loses_35 rfl rfl, ?_⟩
  refine List.forall_mem_cons.mpr ⟨ip_s_go (t := 40) hx hb dX5_loses_36 (by decide) (Nat.le_of_ble_eq_true rfl) (Nat.le_of_ble_eq_true rfl), ?_⟩
  refine List.forall_mem_cons.mpr ⟨ip_s_iconst hx hb dX5_loses_39 rfl rfl, ?_⟩
  refine List.forall_mem_cons.mpr ⟨ip_s_istore_n hx hb dX5_loses_40 rfl (by decide) rfl, ?_⟩
  refine List.forall_mem_cons.mpr ⟨ip_s_aload_n hx hb dX5_loses_41 rfl rfl, ?_⟩
  refine List.forall_mem_cons.mpr ⟨ip_s_gR0 hx hb hts hin5 hown rfl (by decide) 1 (by decide) (hts (.fieldLink RX5 7 "IcePadsModel" "isTold" "[Z") (by decide +kernel)) (fun _ h9 => h9) hIs 50 51 rfl (by decide) rfl dX5_loses_42 rfl, ?_⟩
  refine List.forall_mem_cons.mpr ⟨ip_s_iload_n hx hb dX5_loses_45 rfl rfl, ?_⟩
  refine List.forall_mem_cons.mpr ⟨ip_s_iconst hx hb dX5_loses_46 rfl rfl, ?_⟩
  refine List.forall_mem_cons.mpr ⟨ip_s_stz hx hb hIn hIs dX5_loses_47 rfl, ?_⟩
  refine List.forall_mem_cons.mpr ⟨ip_s_iload_n hx hb dX5_loses_48 rfl rfl, ?_⟩
  refine List.forall_mem_cons.mpr ⟨ip_s_iret hx hb hr hlocks (Nat.le_of_ble_eq_true rfl) (Nat.le_of_ble_eq_true rfl) dX5_loses_49, ?_⟩
  exact fun _ h => absurd h List.not_mem_nil
set_option maxRecDepth 100000 in
set_option maxHeartbeats 4000000 in
theorem vX5_loses (M : ip_M) (a : Nat) (m : Int32) (S : ip_S) (hS : ip_Sta S) (hp : a = 50 ∧ ip_eM M S) : ip_run (pX5_loses (postX5_loses M [.inr (.inl (some a)), .inl m] S)) (fun _ => false) (fun _ _ _ _ => False) 60 0 [some (.inr (.inl (some a))), some (.inl m), none] [] S := by
  obtain ⟨rfl, hE⟩ := hp
  refine And.intro trivial ?_
  rintro r S' ⟨rfl, rfl⟩
  refine And.intro (fun q1 => ?_) (fun q1 => ?_)
  · have q1 := ip_if1 q1
    have hin : vp_in m 300 := ip_in q1 rfl
    have e0 : S'.1 50 0 = M 50 0 := congrFun (hE 50 (by decide)) 0
    refine And.intro (fun q4 => ?_) (fun q4 => ?_)
    · rw [e0] at q4
      have e1 : S'.1 51 m.toNatClampNeg = M 51 m.toNatClampNeg := congrFun (hE 51 (by decide)) _
      refine And.intro hin ?_
      refine And.intro (fun q5 => ?_) (fun q5 => ?_)
      · rw [e1] at q5
        refine And.intro hin ?_
        refine And.intro ?_ ?_ <;> unfold g_loses <;> rw [if_pos q1, if_neg (Int32.not_lt.mpr q4)]
        · rw [if_pos q5]
        · exact ((ip_EM.rf hE).u (by decide) _ _)
      · rw [e1] at q5
        refine And.intro hin ?_
        refine And.intro ?_ ?_ <;> unfold g_loses <;> rw [if_pos q1, if_neg (Int32.not_lt.mpr q4)]
        · rw [if_neg q5]
        · exact ((ip_EM.rf hE).u (by decide) _ _)
    · rw [e0] at q4
      refine And.intro ?_ ?_ <;> unfold g_loses <;> rw [if_pos q1, if_pos (Int32.not_le.mp q4)]
      exact ip_EM.rf hE
  · refine And.intro ?_ ?_ <;> unfold g_loses <;> rw [if_neg (ip_if0 q1)]
    exact ip_EM.rf hE
theorem ctX5_loses (l : Launch) (M : ip_M) : ip_CT l yX5_loses wsX5_loses rmX5_loses ip_Sta (preX5_loses M) (postX5_loses M) := by
  refine ip_of (cc := cX5_loses) (maxL := 3) (ret := (some .int)) (by decide +kernel) rfl (fun _ => (0, 0)) rfl ?_ ?_
  · intro as S h
    obtain ⟨a, m, rfl, hq⟩ := ip_e_ri h
    exact ⟨Nat.le_of_ble_eq_true rfl, by simp⟩
  intro p e s m args below meth c D cA A ad0 as S h hI hx hb hml hown hts hr hlocks hname hA hNx
  obtain ⟨a, m, rfl, hq⟩ := ip_e_ri h
  refine ip_run_ok (stop := fun _ => false) (tX5_loses hx hb hml hown hts hr hlocks hname hA hNx) (fun _ _ _ _ h => False.elim h) 60 0 _ _ S ?_
  exact vX5_loses M a m S hI hq
end
section
/-! numbers of 32 bits as integers -/
theorem ip_addI {a b : Int32} (h1 : -2147483648 ≤ a.toInt + b.toInt) (h2 : a.toInt + b.toInt < 2147483648) : (a + b).toInt = a.toInt + b.toInt := by
  rw [Int32.toInt_add]
  exact Int.bmod_eq_of_le (by omega) (by omega)
theorem ip_subI {a b : Int32} (h1 : -2147483648 ≤ a.toInt - b.toInt) (h2 : a.toInt - b.toInt < 2147483648) : (a - b).toInt = a.toInt - b.toInt := by
  rw [Int32.toInt_sub]
  exact Int.bmod_eq_of_le (by omega) (by omega)
theorem ip_mulI {a b : Int32} (h1 : -2147483648 ≤ a.toInt * b.toInt) (h2 : a.toInt * b.toInt < 2147483648) : (a * b).toInt = a.toInt * b.toInt := by
  rw [Int32.toInt_mul]
  exact Int.bmod_eq_of_le (by omega) (by omega)
theorem ip_ofI {x : Int32} {k : Nat} (h : x.toInt = k) : x = nI k := by
  have h1 : x.toInt < 2147483648 := Int32.toInt_lt x
  exact Int32.toInt_inj.mp (by rw [h, nI_toInt (by omega)])
theorem ip_ltI {a b : Int32} : a < b ↔ a.toInt < b.toInt := Int32.lt_iff_toInt_lt
theorem ip_leI {a b : Int32} : a ≤ b ↔ a.toInt ≤ b.toInt := Int32.le_iff_toInt_le
theorem ip_eqI {a b : Int32} : a = b ↔ a.toInt = b.toInt := Int32.toInt_inj.symm
theorem ip_cL_stop {T C : Nat → Int32} {n : Nat} : ∀ (d b : Nat), n ≤ b → ip_cL T C n (b + d) = ip_cL T C n b
  | 0, b, h => rfl
  | d + 1, b, h => by
    rw [show b + (d + 1) = b + d + 1 by omega, ip_cL, if_neg (fun z => by omega)]
    exact ip_cL_stop d b h
theorem ip_fL_stop {T C : Nat → Int32} {n : Nat} : ∀ (d b : Nat), n ≤ b → ip_fL T C n (b + d) = ip_fL T C n b
  | 0, b, h => rfl
  | d + 1, b, h => by
    rw [show b + (d + 1) = b + d + 1 by omega, ip_fL, if_neg (fun z => by omega)]
    exact ip_fL_stop d b h
theorem ip_cL_rng {T C : Nat → Int32} {n : Nat} (hv : ∀ i, ¬ T i = 0 → -30 ≤ (C i).toInt ∧ (C i).toInt ≤ 5) : ∀ (b : Nat) (c : Int32), ip_cL T C n b = some c → -30 ≤ c.toInt ∧ c.toInt ≤ 5
  | 0, c, h => by simp [ip_cL] at h
  | b + 1, c, h => by
    rw [ip_cL] at h
    split at h
    · rename_i hc
      have h1 := hv _ hc.2
      cases ho : ip_cL T C n b with
      | none => rw [ho] at h; cases h; exact h1
      | some v =>
        rw [ho] at h
        have h2 := ip_cL_rng hv b v ho
        simp only [Option.some.injEq] at h
        split at h
        · rw [← h]; exact h1
        · rw [← h]; exact h2
    · exact ip_cL_rng hv b c h
theorem ip_fL_rng {T F : Nat → Int32} {n : Nat} (hv : ∀ i, ¬ T i = 0 → 0 ≤ (F i).toInt ∧ (F i).toInt ≤ 3) : ∀ (b : Nat), 0 ≤ (ip_fL T F n b).toInt ∧ (ip_fL T F n b).toInt ≤ 3
  | 0 => by
    have : (ip_fL T F n 0).toInt = 0 := rfl
    omega
  | b + 1 => by
    rw [ip_fL]
    split
    · rename_i hc
      have h1 := hv _ hc.2
      have h2 := ip_fL_rng (n := n) hv b
      split
      · exact h1
      · exact h2
    · exact ip_fL_rng hv b
theorem ip_fall_rng {T F : Nat → Int32} {n : Nat} (hv : ∀ i, ¬ T i = 0 → 0 ≤ (F i).toInt ∧ (F i).toInt ≤ 3) : 0 ≤ (ip_fall T F n).toInt ∧ (ip_fall T F n).toInt ≤ 3 := by
  unfold ip_fall
  split
  · exact ip_fL_rng hv 30
  · exact hv n ‹_›
end
section
theorem ip_b2 {n b k : Nat} {x y z : Int} (h : x = (n : Int) - 1 - b) (q : ¬ x < 0) (q2 : ¬ x < y - z) (hy : y = n) (hz : z = 30) (hk : k + b = 30) (hn : n < 300) : b + 1 ≤ n ∧ b + 1 ≤ 30 ∧ k - 1 < k ∧ k - 1 + (b + 1) = 30 ∧ x = ((n - (b + 1) : Nat) : Int) ∧ 0 ≤ x ∧ x < 300 := by
  subst hy hz
  refine ⟨by omega, by omega, by omega, by omega, by omega, by omega, by omega⟩
theorem ip_b3 {n b : Nat} {x y : Int} (h : x = (n : Int) - 1 - b) (q : 0 ≤ x ∧ x < 300) (hy : y = -1) : -2147483648 ≤ x + y ∧ x + y < 2147483648 ∧ x + y = (n : Int) - 1 - ((b + 1 : Nat) : Int) := by
  subst hy
  refine ⟨by omega, by omega, by omega⟩
theorem ip_nsm {n b : Nat} (h : n < 300) : n - (b + 1) < 2 ^ 31 := by omega

def preX5_coldOf (M : ip_M) : List ip_V → ip_S → Prop := ip_h_ri (fun _ => False) (fun a m S => a = 50 ∧ ip_eM M S ∧ ip_vw M ∧ 0 ≤ m ∧ m ≤ 299)
def postX5_coldOf (M : ip_M) : List ip_V → ip_S → List ip_V → ip_S → Prop := ip_h_ri (fun _ _ _ => True) (fun a m S r S' => r = [.inl (ip_cold (M 51) (M 52) m.toNatClampNeg)] ∧ S' = S)
theorem shX5_coldOf (M : ip_M) : ∀ as S, ip_Sta S → preX5_coldOf M as S → ∃ (b : Nat) (as' : List ip_V), as = .inr (.inl (some b)) :: as' ∧ as'.length = 1 ∧ (S.2.2.2 b).1 = 5 := by
  intro as S hI h
  obtain ⟨a, m, rfl, hq⟩ := ip_e_ri h
  exact ⟨_, _, rfl, rfl, by rw [hq.1, hI.1 50 (by decide)]; rfl⟩
def rmX5_coldOf : Room := { frames := 1, cells := 0, slots := 0, locals := 40 }
def pX5_coldOf (po : List ip_V → ip_S → Prop) : List (Nat × ip_T) := [(0, ip_t_ar 0 1), (1, ip_t_gR0 50 51 4), (4, ip_t_il 1 5), (5, ip_t_ld 7 6), (6, ip_t_ifeq 16 9), (9, ip_t_ar 0 10), (10, ip_t_gR0 50 52 13), (13, ip_t_il 1 14), (14, ip_t_ld 6 15), (15, ip_t_iret po), (16, ip_t_ci 100 18), (18, ip_t_is 2 19), (19, ip_t_il 1 20), (20, ip_t_ci 1 21), (21, ip_t_isub 22), (22, ip_t_is 3 23), (23, ip_t_il 3 24), (24, ip_t_iflt 71 27), (27, ip_t_il 3 28), (28, ip_t_il 1 29), (29, ip_t_ci 30 31), (31, ip_t_isub 32), (32, ip_t_iclt 71 35), (35, ip_t_ar 0 36), (36, ip_t_gR0 50 51 39), (39, ip_t_il 3 40), (40, ip_t_ld 7 41), (41, ip_t_ifeq 63 44), (44, ip_t_ar 0 45), (45, ip_t_gR0 50 52 48), (48, ip_t_il 3 49), (49, ip_t_ld 6 50), (50, ip_t_il 2 51), (51, ip_t_icge 63 54), (54, ip_t_ar 0 55), (55, ip_t_gR0 50 52 58), (58, ip_t_il 3 59), (59, ip_t_ld 6 60), (60, ip_t_go 64), (63, ip_t_il 2 64), (64, ip_t_is 2 65), (65, ip_t_inc 3 (-1) 68), (68, ip_t_go 23), (71, ip_t_il 2 72), (72, ip_t_ci 100 74), (74, ip_t_icne 81 77), (77, ip_t_ci 0 78), (78, ip_t_go 82), (81, ip_t_il 2 82), (82, ip_t_iret po)]
set_option maxRecDepth 100000 in
set_option maxHeartbeats 4000000 in
theorem tX5_coldOf {p : Program} {l : Launch} {e : Env} {s : State} {m : MethodId} {args : Array Value} {below : List Frame} {meth : Method} {c : Code} {D : va_G} {cA : Nat → ClassId} {A : Nat → Prop} {ad0 : Nat → Nat} {S0 : ip_S} {po : List ip_V → ip_S → Prop} (hx : p.tables.exec = Jvm.exec) (hb : c.code = cX5_coldOf) (hml : c.maxLocals = 4) (hown : s.vm.findClass RX5 = some m.cls) (hts : ∀ w ∈ wsX5_coldOf, w.before args s = true) (hr : meth.sig.returnType = (some .int)) (hlocks : meth.locks = false) (hname : meth.name = yX5_coldOf.name) (hA : ∀ q, s.heap.size ≤ q → A q) (hNx : ip_Nx s) : ∀ q ∈ pX5_coldOf po, ip_snd p l e rmX5_coldOf s m args below meth c D cA A (MQ below (ip_Q ip_Sta D cA ad0 S0 A po) args s 0 0 A) 4 (fun _ => (0, 0)) ip_Sta ad0 S0 q.1 q.2 := by
  have hIs : ∀ S, ip_Sta S → ip_Sta S := fun _ h => h
  have hIn := ip_In_Sta
  have hS9 : CallFix p m c cX5_coldOf 4 s args wsX5_coldOf RX5 := ⟨hx, hb, hml, hown, hts⟩
  have hin5 : ∀ w ∈ u_ws RX5 TX5 32, w ∈ wsX5_coldOf := by decide +kernel
  refine List.forall_mem_cons.mpr ⟨ip_s_aload_n hx hb dX5_coldOf_0 rfl rfl, ?_⟩
  refine List.forall_mem_cons.mpr ⟨ip_s_gR0 hx hb hts hin5 hown rfl (by decide) 1 (by decide) (hts (.fieldLink RX5 7 "IcePadsModel" "isTold" "[Z") (by decide +kernel)) (fun _ h9 => h9) hIs 50 51 rfl (by decide) rfl dX5_coldOf_1 rfl, ?_⟩
  refine List.forall_mem_cons.mpr ⟨ip_s_iload_n hx hb dX5_coldOf_4 rfl rfl, ?_⟩
  refine List.forall_mem_cons.mpr ⟨ip_s_ldz hx hb hIs dX5_coldOf_5 rfl, ?_⟩
  refine List.forall_mem_cons.mpr ⟨ip_s_ifeq (t := 16) hx hb dX5_coldOf_6 (by decide) rfl rfl, ?_⟩
  refine List.forall_mem_cons.mpr ⟨ip_s_aload_n hx hb dX5_coldOf_9 rfl rfl, ?_⟩
  refine List.forall_mem_cons.mpr ⟨ip_s_gR0 hx hb hts hin5 hown rfl (by decide) 2 (by decide) (hts (.fieldLink RX5 13 "IcePadsModel" "cold" "[I") (by decide +kernel)) (fun _ h9 => h9) hIs 50 52 rfl (by decide) rfl dX5_coldOf_10 rfl, ?_⟩
  refine List.forall_mem_cons.mpr ⟨ip_s_iload_n hx hb dX5_coldOf_13 rfl rfl, ?_⟩
  refine List.forall_mem_cons.mpr ⟨ip_s_ldi hx hb hIs dX5_coldOf_14 rfl, ?_⟩
  refine List.forall_mem_cons.mpr ⟨ip_s_iret hx hb hr hlocks (Nat.le_of_ble_eq_true rfl) (Nat.le_of_ble_eq_true rfl) dX5_coldOf_15, ?_⟩
  refine List.forall_mem_cons.mpr ⟨ip_s_bipush hx hb dX5_coldOf_16 rfl rfl, ?_⟩
  refine List.forall_mem_cons.mpr ⟨ip_s_istore_n hx hb dX5_coldOf_18 rfl (by decide) rfl, ?_⟩
  refine List.forall_mem_cons.mpr ⟨ip_s_iload_n hx hb dX5_coldOf_19 rfl rfl, ?_⟩
  refine List.forall_mem_cons.mpr ⟨ip_s_iconst hx hb dX5_coldOf_20 rfl rfl, ?_⟩
  refine List.forall_mem_cons.mpr ⟨ip_s_isub hx hb dX5_coldOf_21 rfl, ?_⟩
  refine List.forall_mem_cons.mpr ⟨ip_s_istore_n hx hb dX5_coldOf_22 rfl (by decide) rfl, ?_⟩
  refine List.forall_mem_cons.mpr ⟨ip_s_iload_n hx hb dX5_coldOf_23 rfl rfl, ?_⟩
  refine List.forall_mem_cons.mpr ⟨ip_s_iflt (t := 71) hx hb dX5_coldOf_24 (by decide) rfl rfl, ?_⟩
  refine List.forall_mem_cons.mpr ⟨ip_s_iload_n hx hb dX5_coldOf_27 rfl rfl, ?_⟩
  refine List.forall_mem_cons.mpr ⟨ip_s_iload_n hx hb dX5_coldOf_28 rfl rfl, ?_⟩
  refine List.forall_mem_cons.mpr ⟨ip_s_bipush hx hb dX5_coldOf_29 rfl rfl, ?_⟩
  refine List.forall_mem_cons.mpr ⟨ip_s_isub hx hb dX5_coldOf_31 rfl, ?_⟩
  refine List.forall_mem_cons.mpr ⟨ip_s_iclt (t := 71) hx hb dX5_coldOf_32 (by decide) rfl rfl, ?_⟩
  refine List.forall_mem_cons.mpr ⟨ip_s_aload_n hx hb dX5_coldOf_35 rfl rfl, ?_⟩
  refine List.forall_mem_cons.mpr ⟨ip_s_gR0 hx hb hts hin5 hown rfl (by decide) 1 (by decide) (hts (.fieldLink RX5 7 "IcePadsModel" "isTold" "[Z") (by decide +kernel)) (fun _ h9 => h9) hIs 50 51 rfl (by decide) rfl dX5_coldOf_36 rfl, ?_⟩
  refine List.forall_mem_cons.mpr ⟨ip_s_iload_n hx hb dX5_coldOf_39 rfl rfl, ?_⟩
  refine List.forall_mem_cons.mpr ⟨ip_s_ldz hx hb hIs dX5_coldOf_40 rfl, ?_⟩
  refine List.forall_mem_cons.mpr ⟨ip_s_ifeq (t := 63) hx hb dX5_coldOf_41 (by decide) rfl rfl, ?_⟩
  refine List.forall_mem_cons.mpr ⟨ip_s_aload_n hx hb dX5_coldOf_44 rfl rfl, ?_⟩
  refine List.forall_mem_cons.mpr ⟨ip_s_gR0 hx hb hts hin5 hown rfl (by decide) 2 (by decide) (hts (.fieldLink RX5 13 "IcePadsModel" "cold" "[I") (by decide +kernel)) (fun _ h9 => h9) hIs 50 52 rfl (by decide) rfl dX5_coldOf_45 rfl, ?_⟩
  refine List.forall_mem_cons.mpr ⟨ip_s_iload_n hx hb dX5_coldOf_48 rfl rfl, ?_⟩
  refine List.forall_mem_cons.mpr ⟨ip_s_ldi hx hb hIs dX5_coldOf_49 rfl, ?_⟩
  refine List.forall_mem_cons.mpr ⟨ip_s_iload_n hx hb dX5_coldOf_50 rfl rfl, ?_⟩
  refine List.forall_mem_cons.mpr ⟨ip_s_icge (t := 63) hx hb dX5_coldOf_51 (by decide) rfl rfl, ?_⟩
  refine List.forall_mem_cons.mpr ⟨ip_s_aload_n hx hb dX5_coldOf_54 rfl rfl, ?_⟩
  refine List.forall_mem_cons.mpr ⟨ip_s_gR0 hx hb hts hin5 hown rfl (by decide) 2 (by decide) (hts (.fieldLink RX5 13 "IcePadsModel" "cold" "[I") (by decide +kernel)) (fun _ h9 => h9) hIs 50 52 rfl (by decide) rfl dX5_coldOf_55 rfl, ?_⟩
  refine List.forall_mem_cons.mpr ⟨ip_s_iload_n hx hb dX5_coldOf_58 rfl rfl, ?_⟩
  refine List.forall_mem_cons.mpr ⟨ip_s_ldi hx hb hIs dX5_coldOf_59 rfl, ?_⟩
  refine List.forall_mem_cons.mpr ⟨ip_s_go (t := 64) hx hb dX5_coldOf_60 (by decide) (Nat.le_of_ble_eq_true rfl) (Nat.le_of_ble_eq_true rfl), ?_⟩
  refine List.forall_mem_cons.mpr ⟨ip_s_iload_n hx hb dX5_coldOf_63 rfl rfl, ?_⟩
  refine List.forall_mem_cons.mpr ⟨ip_s_istore_n hx hb dX5_coldOf_64 rfl (by decide) rfl, ?_⟩
  refine List.forall_mem_cons.mpr ⟨ip_s_iinc hx hb dX5_coldOf_65 rfl (by decide) rfl, ?_⟩
  refine List.forall_mem_cons.mpr ⟨ip_s_go (t := 23) hx hb dX5_coldOf_68 (by decide) (Nat.le_of_ble_eq_true rfl) (Nat.le_of_ble_eq_true rfl), ?_⟩
  refine List.forall_mem_cons.mpr ⟨ip_s_iload_n hx hb dX5_coldOf_71 rfl rfl, ?_⟩
  refine List.forall_mem_cons.mpr ⟨ip_s_bipush hx hb dX5_coldOf_72 rfl rfl, ?_⟩
  refine List.forall_mem_cons.mpr ⟨ip_s_icne (t := 81) hx hb dX5_coldOf_74 (by decide) rfl rfl, ?_⟩
  refine List.forall_mem_cons.mpr ⟨ip_s_iconst hx hb dX5_coldOf_77 rfl rfl, ?_⟩
  refine List.forall_mem_cons.mpr ⟨ip_s_go (t := 82) hx hb dX5_coldOf_78 (by decide) (Nat.le_of_ble_eq_true rfl) (Nat.le_of_ble_eq_true rfl), ?_⟩
  refine List.forall_mem_cons.mpr ⟨ip_s_iload_n hx hb dX5_coldOf_81 rfl rfl, ?_⟩
  refine List.forall_mem_cons.mpr ⟨ip_s_iret hx hb hr hlocks (Nat.le_of_ble_eq_true rfl) (Nat.le_of_ble_eq_true rfl) dX5_coldOf_82, ?_⟩
  exact fun _ h => absurd h List.not_mem_nil
abbrev iX5_coldOf (M : ip_M) (a : Nat) (m : Int32) (S : ip_S) : Nat → ip_N := fun k pc loc st S1 => ∃ (b : Nat) (x2 x3 : Int32), x3.toInt = (m.toNatClampNeg : Int) - 1 - b ∧ b ≤ 30 ∧ b ≤ m.toNatClampNeg ∧ k + b = 30 ∧ pc = 23 ∧ st = [] ∧ S1 = S ∧ loc = [some (.inr (.inl (some a))), some (.inl m), some (.inl x2), some (.inl x3)] ∧ M 51 m.toNatClampNeg = 0 ∧ x2 = (ip_cL (M 51) (M 52) m.toNatClampNeg b).getD 100
set_option maxRecDepth 100000 in
set_option maxHeartbeats 4000000 in
theorem lpX5_coldOf (M : ip_M) (a : Nat) (m : Int32) (S : ip_S) (hS : ip_Sta S) (hp : a = 50 ∧ ip_eM M S ∧ ip_vw M ∧ 0 ≤ m ∧ m ≤ 299) : ∀ k pc loc st S1, iX5_coldOf M a m S k pc loc st S1 → ip_run (pX5_coldOf (postX5_coldOf M [.inr (.inl (some a)), .inl m] S)) (fun pc => Nat.beq pc 23) (fun pc loc st S2 => ∃ k', k' < k ∧ iX5_coldOf M a m S k' pc loc st S2) 60 pc loc st S1 := by
  obtain ⟨rfl, hE, hw, hm⟩ := hp
  obtain ⟨n, hn, rfl⟩ := ip_mi hm
  have hcn : (nI n).toNatClampNeg = n := nI_clamp (by omega)
  have hni : (nI n).toInt = n := nI_toInt (by omega)
  have h30 : (30 : Int32).toInt = 30 := rfl
  have h100 : (100 : Int32).toInt = 100 := rfl
  have h0 : (0 : Int32).toInt = 0 := rfl
  have hm1 : (-1 : Int32).toInt = -1 := rfl
  have hw' : ∀ i, ¬ M 51 i = 0 → -30 ≤ (M 52 i).toInt ∧ (M 52 i).toInt ≤ 5 := fun i h => ⟨(hw i h).1, (hw i h).2.1⟩
  rintro k pc loc st S1 ⟨b, x2, x3, hx3, hb, hbn, hk, rfl, rfl, rfl, rfl, ht, hv⟩
  rw [hcn] at hx3 hbn ht hv
  have hr1 : ip_cL (M 51) (M 52) n 30 = ip_cL (M 51) (M 52) n b → ¬ x2 = 100 → x2 = ip_cold (M 51) (M 52) n := by
    intro he q
    unfold ip_cold
    rw [if_pos ht, he]
    generalize ip_cL (M 51) (M 52) n b = o at hv
    cases o with
    | none => exact absurd hv q
    | some v => rw [hv]; rfl
  have hr2 : ip_cL (M 51) (M 52) n 30 = ip_cL (M 51) (M 52) n b → x2 = 100 → 0 = ip_cold (M 51) (M 52) n := by
    intro he q
    unfold ip_cold
    rw [if_pos ht, he]
    cases ho : ip_cL (M 51) (M 52) n b with
    | none => rfl
    | some v =>
      rw [ho] at hv
      have h1 := ip_cL_rng hw' b v ho
      have h2 : x2 = v := hv
      rw [← h2, q, h100] at h1
      omega
  refine And.intro (fun q => ?_) (fun q => ?_)
  · rw [ip_ltI, h0] at q
    have hbn' : n ≤ b := by omega
    have he : ip_cL (M 51) (M 52) n 30 = ip_cL (M 51) (M 52) n b := by rw [show (30 : Nat) = b + (30 - b) by omega]; exact ip_cL_stop _ _ hbn'
    refine And.intro (fun q => And.intro ?_ rfl) (fun q => And.intro ?_ rfl)
    · rw [hcn, ← hr1 he q]
    · rw [hcn, ← hr2 he q]
  · rw [ip_ltI, h0] at q
    refine And.intro (fun q2 => ?_) (fun q2 => ?_)
    · rw [ip_ltI, ip_subI (by omega) (by omega)] at q2
      have he : ip_cL (M 51) (M 52) n 30 = ip_cL (M 51) (M 52) n b := by rw [show b = 30 by omega]
      refine And.intro (fun q => And.intro ?_ rfl) (fun q => And.intro ?_ rfl)
      · rw [hcn, ← hr1 he q]
      · rw [hcn, ← hr2 he q]
    · rw [ip_ltI, ip_subI (by omega) (by omega)] at q2
      obtain ⟨hb1, hk2, hk1, hk3, hxx, hx0, hx9⟩ := ip_b2 hx3 q q2 hni h30 hk hn
      obtain ⟨hy1, hy2, hy3⟩ := ip_b3 hx3 ⟨hx0, hx9⟩ hm1
      have hnx : (x3 + -1).toInt = (n : Int) - 1 - ((b + 1 : Nat) : Int) := (ip_addI hy1 hy2).trans hy3
      have hin : vp_in x3 300 := vp_in_iff.mpr ⟨hx0, hx9⟩
      have hx : x3 = nI (n - (b + 1)) := ip_ofI hxx
      have hcl : x3.toNatClampNeg = n - (b + 1) := by rw [hx]; exact nI_clamp (ip_nsm hn)
      have e1 : S1.1 51 x3.toNatClampNeg = M 51 (n - (b + 1)) := by rw [hcl]; exact congrFun (hE 51 (by decide)) _
      have e2 : S1.1 52 x3.toNatClampNeg = M 52 (n - (b + 1)) := by rw [hcl]; exact congrFun (hE 52 (by decide)) _
      refine And.intro hin ?_
      refine And.intro (fun q3 => ?_) (fun q3 => ?_)
      · rw [e1] at q3
        refine Exists.intro (k - 1) (And.intro hk1 ⟨b + 1, _, _, ?_, hk2, ?_, hk3, rfl, rfl, rfl, rfl, ?_, ?_⟩)
        · rw [hcn]; exact hnx
        · rw [hcn]; exact hb1
        · rw [hcn]; exact ht
        · rw [hcn, hv, ip_cL, if_neg (fun z => z.2 q3)]
      · rw [e1] at q3
        refine And.intro hin ?_
        refine And.intro (fun q4 => ?_) (fun q4 => ?_)
        · rw [e2] at q4
          refine Exists.intro (k - 1) (And.intro hk1 ⟨b + 1, _, _, ?_, hk2, ?_, hk3, rfl, rfl, rfl, rfl, ?_, ?_⟩)
          · rw [hcn]; exact hnx
          · rw [hcn]; exact hb1
          · rw [hcn]; exact ht
          · rw [hcn, ip_cL, if_pos ⟨hb1, q3⟩]
            cases ho : ip_cL (M 51) (M 52) n b with
            | none =>
              rw [ho] at hv
              have h1 := (hw' _ q3).2
              rw [ip_leI, hv] at q4
              exact absurd (Int.le_trans q4 h1) (by decide)
            | some v =>
              rw [ho] at hv
              have h2 : x2 = v := hv
              rw [h2] at q4
              simp only [Option.getD_some]
              rw [if_neg (Int32.not_lt.mpr q4), h2]
        · rw [e2] at q4
          refine And.intro hin ?_
          refine Exists.intro (k - 1) (And.intro hk1 ⟨b + 1, _, _, ?_, hk2, ?_, hk3, rfl, rfl, rfl, rfl, ?_, ?_⟩)
          · rw [hcn]; exact hnx
          · rw [hcn]; exact hb1
          · rw [hcn]; exact ht
          · rw [hcn, e2, ip_cL, if_pos ⟨hb1, q3⟩]
            cases ho : ip_cL (M 51) (M 52) n b with
            | none => rfl
            | some v =>
              rw [ho] at hv
              have h2 : x2 = v := hv
              rw [h2] at q4
              simp only [Option.getD_some]
              rw [if_pos (Int32.not_le.mp q4)]
set_option maxRecDepth 100000 in
set_option maxHeartbeats 4000000 in
theorem vX5_coldOf (M : ip_M) (a : Nat) (m : Int32) (S : ip_S) (hS : ip_Sta S) (hp : a = 50 ∧ ip_eM M S ∧ ip_vw M ∧ 0 ≤ m ∧ m ≤ 299) : ip_run (pX5_coldOf (postX5_coldOf M [.inr (.inl (some a)), .inl m] S)) (fun pc => Nat.beq pc 23) (fun pc loc st S2 => ∃ k, iX5_coldOf M a m S k pc loc st S2) 60 0 [some (.inr (.inl (some a))), some (.inl m), none, none] [] S := by
  obtain ⟨rfl, hE, hw, hm⟩ := hp
  obtain ⟨n, hn, rfl⟩ := ip_mi hm
  have hcn : (nI n).toNatClampNeg = n := nI_clamp (by omega)
  have e1 : S.1 51 (nI n).toNatClampNeg = M 51 (nI n).toNatClampNeg := congrFun (hE 51 (by decide)) _
  have e2 : S.1 52 (nI n).toNatClampNeg = M 52 (nI n).toNatClampNeg := congrFun (hE 52 (by decide)) _
  refine And.intro (ip_in hm rfl) ?_
  refine And.intro (fun q => ?_) (fun q => ?_)
  · rw [e1] at q
    refine Exists.intro 30 ⟨0, 100, nI n - 1, ?_, by omega, by omega, rfl, rfl, rfl, rfl, rfl, q, rfl⟩
    have h1 : (nI n).toInt = n := nI_toInt (by omega)
    have h2 : (1 : Int32).toInt = 1 := rfl
    rw [ip_subI (by omega) (by omega), hcn]
    omega
  · rw [e1] at q
    refine And.intro (ip_in hm rfl) (And.intro ?_ rfl)
    unfold ip_cold
    rw [if_neg q, e2]
theorem ctX5_coldOf (l : Launch) (M : ip_M) : ip_CT l yX5_coldOf wsX5_coldOf rmX5_coldOf ip_Sta (preX5_coldOf M) (postX5_coldOf M) := by
  refine ip_of (cc := cX5_coldOf) (maxL := 4) (ret := (some .int)) (by decide +kernel) rfl (fun _ => (0, 0)) rfl ?_ ?_
  · intro as S h
    obtain ⟨a, m, rfl, hq⟩ := ip_e_ri h
    exact ⟨Nat.le_of_ble_eq_true rfl, by simp⟩
  intro p e s m args below meth c D cA A ad0 as S h hI hx hb hml hown hts hr hlocks hname hA hNx
  obtain ⟨a, m, rfl, hq⟩ := ip_e_ri h
  have ht := tX5_coldOf (D := D) (cA := cA) (A := A) (ad0 := ad0) (l := l) (e := e) (below := below) (S0 := S) (po := postX5_coldOf M [.inr (.inl (some a)), .inl m] S) hx hb hml hown hts hr hlocks hname hA hNx
  refine ip_run_ok ht (fun pc loc st S2 hh => ?_) 60 0 _ _ S (vX5_coldOf M a m S hI hq)
  obtain ⟨k, hk⟩ := hh
  exact ip_loop ht (iX5_coldOf M a m S) (lpX5_coldOf M a m S hI hq) k pc loc st S2 hk

def preX5_fallOf (M : ip_M) : List ip_V → ip_S → Prop := ip_h_ri (fun _ => False) (fun a m S => a = 50 ∧ ip_eM M S ∧ ip_vw M ∧ 0 ≤ m ∧ m ≤ 299)
def postX5_fallOf (M : ip_M) : List ip_V → ip_S → List ip_V → ip_S → Prop := ip_h_ri (fun _ _ _ => True) (fun a m S r S' => r = [.inl (ip_fall (M 51) (M 53) m.toNatClampNeg)] ∧ S' = S)
theorem shX5_fallOf (M : ip_M) : ∀ as S, ip_Sta S → preX5_fallOf M as S → ∃ (b : Nat) (as' : List ip_V), as = .inr (.inl (some b)) :: as' ∧ as'.length = 1 ∧ (S.2.2.2 b).1 = 5 := by
  intro as S hI h
  obtain ⟨a, m, rfl, hq⟩ := ip_e_ri h
  exact ⟨_, _, rfl, rfl, by rw [hq.1, hI.1 50 (by decide)]; rfl⟩
def rmX5_fallOf : Room := { frames := 1, cells := 0, slots := 0, locals := 40 }
def pX5_fallOf (po : List ip_V → ip_S → Prop) : List (Nat × ip_T) := [(0, ip_t_ar 0 1), (1, ip_t_gR0 50 51 4), (4, ip_t_il 1 5), (5, ip_t_ld 7 6), (6, ip_t_ifeq 16 9), (9, ip_t_ar 0 10), (10, ip_t_gR0 50 53 13), (13, ip_t_il 1 14), (14, ip_t_ld 6 15), (15, ip_t_iret po), (16, ip_t_ci 0 17), (17, ip_t_is 2 18), (18, ip_t_il 1 19), (19, ip_t_ci 1 20), (20, ip_t_isub 21), (21, ip_t_is 3 22), (22, ip_t_il 3 23), (23, ip_t_iflt 70 26), (26, ip_t_il 3 27), (27, ip_t_il 1 28), (28, ip_t_ci 30 30), (30, ip_t_isub 31), (31, ip_t_iclt 70 34), (34, ip_t_ar 0 35), (35, ip_t_gR0 50 51 38), (38, ip_t_il 3 39), (39, ip_t_ld 7 40), (40, ip_t_ifeq 62 43), (43, ip_t_ar 0 44), (44, ip_t_gR0 50 53 47), (47, ip_t_il 3 48), (48, ip_t_ld 6 49), (49, ip_t_il 2 50), (50, ip_t_icle 62 53), (53, ip_t_ar 0 54), (54, ip_t_gR0 50 53 57), (57, ip_t_il 3 58), (58, ip_t_ld 6 59), (59, ip_t_go 63), (62, ip_t_il 2 63), (63, ip_t_is 2 64), (64, ip_t_inc 3 (-1) 67), (67, ip_t_go 22), (70, ip_t_il 2 71), (71, ip_t_iret po)]
set_option maxRecDepth 100000 in
set_option maxHeartbeats 4000000 in
theorem tX5_fallOf {p : Program} {l : Launch} {e : Env} {s : State} {m : MethodId} {args : Array Value} {below : List Frame} {meth : Method} {c : Code} {D : va_G} {cA : Nat → ClassId} {A : Nat → Prop} {ad0 : Nat → Nat} {S0 : ip_S} {po : List ip_V → ip_S → Prop} (hx : p.tables.exec = Jvm.exec) (hb : c.code = cX5_fallOf) (hml : c.maxLocals = 4) (hown : s.vm.findClass RX5 = some m.cls) (hts : ∀ w ∈ wsX5_fallOf, w.before args s = true) (hr : meth.sig.returnType = (some .int)) (hlocks : meth.locks = false) (hname : meth.name = yX5_fallOf.name) (hA : ∀ q, s.heap.size ≤ q → A q) (hNx : ip_Nx s) : ∀ q ∈ pX5_fallOf po, ip_snd p l e rmX5_fallOf s m args below meth c D cA A (MQ below (ip_Q ip_Sta D cA ad0 S0 A po) args s 0 0 A) 4 (fun _ => (0, 0)) ip_Sta ad0 S0 q.1 q.2 := by
  have hIs : ∀ S, ip_Sta S → ip_Sta S := fun _ h => h
  have hIn := ip_In_Sta
  have hS9 : CallFix p m c cX5_fallOf 4 s args wsX5_fallOf RX5 := ⟨hx, hb, hml, hown, hts⟩
  have hin5 : ∀ w ∈ u_ws RX5 TX5 32, w ∈ wsX5_fallOf := by decide +kernel
  refine List.forall_mem_cons.mpr ⟨ip_s_aload_n hx hb dX5_fallOf_0 rfl rfl, ?_⟩
  refine List.forall_mem_cons.mpr ⟨ip_s_gR0 hx hb hts hin5 hown rfl (by decide) 1 (by decide) (hts (.fieldLink RX5 7 "IcePadsModel" "isTold" "[Z") (by decide +kernel)) (fun _ h9 => h9) hIs 50 51 rfl (by decide) rfl dX5_fallOf_1 rfl, ?_⟩
  refine List.forall_mem_cons.mpr ⟨ip_s_iload_n hx hb dX5_fallOf_4 rfl rfl, ?_⟩
  refine List.forall_mem_cons.mpr ⟨ip_s_ldz hx hb hIs dX5_fallOf_5 rfl, ?_⟩
  refine List.forall_mem_cons.mpr ⟨ip_s_ifeq (t := 16) hx hb dX5_fallOf_6 (by decide) rfl rfl, ?_⟩
  refine List.forall_mem_cons.mpr ⟨ip_s_aload_n hx hb dX5_fallOf_9 rfl rfl, ?_⟩
  refine List.forall_mem_cons.mpr ⟨ip_s_gR0 hx hb hts hin5 hown rfl (by decide) 3 (by decide) (hts (.fieldLink RX5 17 "IcePadsModel" "fall" "[I") (by decide +kernel)) (fun _ h9 => h9) hIs 50 53 rfl (by decide) rfl dX5_fallOf_10 rfl, ?_⟩
  refine List.forall_mem_cons.mpr ⟨ip_s_iload_n hx hb dX5_fallOf_13 rfl rfl, ?_⟩
  refine List.forall_mem_cons.mpr ⟨ip_s_ldi hx hb hIs dX5_fallOf_14 rfl, ?_⟩
  refine List.forall_mem_cons.mpr ⟨ip_s_iret hx hb hr hlocks (Nat.le_of_ble_eq_true rfl) (Nat.le_of_ble_eq_true rfl) dX5_fallOf_15, ?_⟩
  refine List.forall_mem_cons.mpr ⟨ip_s_iconst hx hb dX5_fallOf_16 rfl rfl, ?_⟩
  refine List.forall_mem_cons.mpr ⟨ip_s_istore_n hx hb dX5_fallOf_17 rfl (by decide) rfl, ?_⟩
  refine List.forall_mem_cons.mpr ⟨ip_s_iload_n hx hb dX5_fallOf_18 rfl rfl, ?_⟩
  refine List.forall_mem_cons.mpr ⟨ip_s_iconst hx hb dX5_fallOf_19 rfl rfl, ?_⟩
  refine List.forall_mem_cons.mpr ⟨ip_s_isub hx hb dX5_fallOf_20 rfl, ?_⟩
  refine List.forall_mem_cons.mpr ⟨ip_s_istore_n hx hb dX5_fallOf_21 rfl (by decide) rfl, ?_⟩
  refine List.forall_mem_cons.mpr ⟨ip_s_iload_n hx hb dX5_fallOf_22 rfl rfl, ?_⟩
  refine List.forall_mem_cons.mpr ⟨ip_s_iflt (t := 70) hx hb dX5_fallOf_23 (by decide) rfl rfl, ?_⟩
  refine List.forall_mem_cons.mpr ⟨ip_s_iload_n hx hb dX5_fallOf_26 rfl rfl, ?_⟩
  refine List.forall_mem_cons.mpr ⟨ip_s_iload_n hx hb dX5_fallOf_27 rfl rfl, ?_⟩
  refine List.forall_mem_cons.mpr ⟨ip_s_bipush hx hb dX5_fallOf_28 rfl rfl, ?_⟩
  refine List.forall_mem_cons.mpr ⟨ip_s_isub hx hb dX5_fallOf_30 rfl, ?_⟩
  refine List.forall_mem_cons.mpr ⟨ip_s_iclt (t := 70) hx hb dX5_fallOf_31 (by decide) rfl rfl, ?_⟩
  refine List.forall_mem_cons.mpr ⟨ip_s_aload_n hx hb dX5_fallOf_34 rfl rfl, ?_⟩
  refine List.forall_mem_cons.mpr ⟨ip_s_gR0 hx hb hts hin5 hown rfl (by decide) 1 (by decide) (hts (.fieldLink RX5 7 "IcePadsModel" "isTold" "[Z") (by decide +kernel)) (fun _ h9 => h9) hIs 50 51 rfl (by decide) rfl dX5_fallOf_35 rfl, ?_⟩
  refine List.forall_mem_cons.mpr ⟨ip_s_iload_n hx hb dX5_fallOf_38 rfl rfl, ?_⟩
  refine List.forall_mem_cons.mpr ⟨ip_s_ldz hx hb hIs dX5_fallOf_39 rfl, ?_⟩
  refine List.forall_mem_cons.mpr ⟨ip_s_ifeq (t := 62) hx hb dX5_fallOf_40 (by decide) rfl rfl, ?_⟩
  refine List.forall_mem_cons.mpr ⟨ip_s_aload_n hx hb dX5_fallOf_43 rfl rfl, ?_⟩
  refine List.forall_mem_cons.mpr ⟨ip_s_gR0 hx hb hts hin5 hown rfl (by decide) 3 (by decide) (hts (.fieldLink RX5 17 "IcePadsModel" "fall" "[I") (by decide +kernel)) (fun _ h9 => h9) hIs 50 53 rfl (by decide) rfl dX5_fallOf_44 rfl, ?_⟩
  refine List.forall_mem_cons.mpr ⟨ip_s_iload_n hx hb dX5_fallOf_47 rfl rfl, ?_⟩
  refine List.forall_mem_cons.mpr ⟨ip_s_ldi hx hb hIs dX5_fallOf_48 rfl, ?_⟩
  refine List.forall_mem_cons.mpr ⟨ip_s_iload_n hx hb dX5_fallOf_49 rfl rfl, ?_⟩
  refine List.forall_mem_cons.mpr ⟨ip_s_icle (t := 62) hx hb dX5_fallOf_50 (by decide) rfl rfl, ?_⟩
  refine List.forall_mem_cons.mpr ⟨ip_s_aload_n hx hb dX5_fallOf_53 rfl rfl, ?_⟩
  refine List.forall_mem_cons.mpr ⟨ip_s_gR0 hx hb hts hin5 hown rfl (by decide) 3 (by decide) (hts (.fieldLink RX5 17 "IcePadsModel" "fall" "[I") (by decide +kernel)) (fun _ h9 => h9) hIs 50 53 rfl (by decide) rfl dX5_fallOf_54 rfl, ?_⟩
  refine List.forall_mem_cons.mpr ⟨ip_s_iload_n hx hb dX5_fallOf_57 rfl rfl, ?_⟩
  refine List.forall_mem_cons.mpr ⟨ip_s_ldi hx hb hIs dX5_fallOf_58 rfl, ?_⟩
  refine List.forall_mem_cons.mpr ⟨ip_s_go (t := 63) hx hb dX5_fallOf_59 (by decide) (Nat.le_of_ble_eq_true rfl) (Nat.le_of_ble_eq_true rfl), ?_⟩
  refine List.forall_mem_cons.mpr ⟨ip_s_iload_n hx hb dX5_fallOf_62 rfl rfl, ?_⟩
  refine List.forall_mem_cons.mpr ⟨ip_s_istore_n hx hb dX5_fallOf_63 rfl (by decide) rfl, ?_⟩
  refine List.forall_mem_cons.mpr ⟨ip_s_iinc hx hb dX5_fallOf_64 rfl (by decide) rfl, ?_⟩
  refine List.forall_mem_cons.mpr ⟨ip_s_go (t := 22) hx hb dX5_fallOf_67 (by decide) (Nat.le_of_ble_eq_true rfl) (Nat.le_of_ble_eq_true rfl), ?_⟩
  refine List.forall_mem_cons.mpr ⟨ip_s_iload_n hx hb dX5_fallOf_70 rfl rfl, ?_⟩
  refine List.forall_mem_cons.mpr ⟨ip_s_iret hx hb hr hlocks (Nat.le_of_ble_eq_true rfl) (Nat.le_of_ble_eq_true rfl) dX5_fallOf_71, ?_⟩
  exact fun _ h => absurd h List.not_mem_nil
abbrev iX5_fallOf (M : ip_M) (a : Nat) (m : Int32) (S : ip_S) : Nat → ip_N := fun k pc loc st S1 => ∃ (b : Nat) (x2 x3 : Int32), x3.toInt = (m.toNatClampNeg : Int) - 1 - b ∧ b ≤ 30 ∧ b ≤ m.toNatClampNeg ∧ k + b = 30 ∧ pc = 22 ∧ st = [] ∧ S1 = S ∧ loc = [some (.inr (.inl (some a))), some (.inl m), some (.inl x2), some (.inl x3)] ∧ M 51 m.toNatClampNeg = 0 ∧ x2 = ip_fL (M 51) (M 53) m.toNatClampNeg b
set_option maxRecDepth 100000 in
set_option maxHeartbeats 4000000 in
theorem lpX5_fallOf (M : ip_M) (a : Nat) (m : Int32) (S : ip_S) (hS : ip_Sta S) (hp : a = 50 ∧ ip_eM M S ∧ ip_vw M ∧ 0 ≤ m ∧ m ≤ 299) : ∀ k pc loc st S1, iX5_fallOf M a m S k pc loc st S1 → ip_run (pX5_fallOf (postX5_fallOf M [.inr (.inl (some a)), .inl m] S)) (fun pc => Nat.beq pc 22) (fun pc loc st S2 => ∃ k', k' < k ∧ iX5_fallOf M a m S k' pc loc st S2) 60 pc loc st S1 := by
  obtain ⟨rfl, hE, hw, hm⟩ := hp
  obtain ⟨n, hn, rfl⟩ := ip_mi hm
  have hcn : (nI n).toNatClampNeg = n := nI_clamp (by omega)
  have hni : (nI n).toInt = n := nI_toInt (by omega)
  have h30 : (30 : Int32).toInt = 30 := rfl
  have h0 : (0 : Int32).toInt = 0 := rfl
  have hm1 : (-1 : Int32).toInt = -1 := rfl
  rintro k pc loc st S1 ⟨b, x2, x3, hx3, hb, hbn, hk, rfl, rfl, rfl, rfl, ht, hv⟩
  rw [hcn] at hx3 hbn ht hv
  have hr1 : ip_fL (M 51) (M 53) n 30 = ip_fL (M 51) (M 53) n b → x2 = ip_fall (M 51) (M 53) n := by
    intro he
    unfold ip_fall
    rw [if_pos ht, he, hv]
  refine And.intro (fun q => ?_) (fun q => ?_)
  · rw [ip_ltI, h0] at q
    have hbn' : n ≤ b := by omega
    have he : ip_fL (M 51) (M 53) n 30 = ip_fL (M 51) (M 53) n b := by rw [show (30 : Nat) = b + (30 - b) by omega]; exact ip_fL_stop _ _ hbn'
    refine And.intro ?_ rfl
    rw [hcn, ← hr1 he]
  · rw [ip_ltI, h0] at q
    refine And.intro (fun q2 => ?_) (fun q2 => ?_)
    · rw [ip_ltI, ip_subI (by omega) (by omega)] at q2
      have he : ip_fL (M 51) (M 53) n 30 = ip_fL (M 51) (M 53) n b := by rw [show b = 30 by omega]
      refine And.intro ?_ rfl
      rw [hcn, ← hr1 he]
    · rw [ip_ltI, ip_subI (by omega) (by omega)] at q2
      obtain ⟨hb1, hk2, hk1, hk3, hxx, hx0, hx9⟩ := ip_b2 hx3 q q2 hni h30 hk hn
      obtain ⟨hy1, hy2, hy3⟩ := ip_b3 hx3 ⟨hx0, hx9⟩ hm1
      have hnx : (x3 + -1).toInt = (n : Int) - 1 - ((b + 1 : Nat) : Int) := (ip_addI hy1 hy2).trans hy3
      have hin : vp_in x3 300 := vp_in_iff.mpr ⟨hx0, hx9⟩
      have hx : x3 = nI (n - (b + 1)) := ip_ofI hxx
      have hcl : x3.toNatClampNeg = n - (b + 1) := by rw [hx]; exact nI_clamp (ip_nsm hn)
      have e1 : S1.1 51 x3.toNatClampNeg = M 51 (n - (b + 1)) := by rw [hcl]; exact congrFun (hE 51 (by decide)) _
      have e2 : S1.1 53 x3.toNatClampNeg = M 53 (n - (b + 1)) := by rw [hcl]; exact congrFun (hE 53 (by decide)) _
      refine And.intro hin ?_
      refine And.intro (fun q3 => ?_) (fun q3 => ?_)
      · rw [e1] at q3
        refine Exists.intro (k - 1) (And.intro hk1 ⟨b + 1, _, _, ?_, hk2, ?_, hk3, rfl, rfl, rfl, rfl, ?_, ?_⟩)
        · rw [hcn]; exact hnx
        · rw [hcn]; exact hb1
        · rw [hcn]; exact ht
        · rw [hcn, hv, ip_fL, if_neg (fun z => z.2 q3)]
      · rw [e1] at q3
        refine And.intro hin ?_
        refine And.intro (fun q4 => ?_) (fun q4 => ?_)
        · rw [e2] at q4
          refine Exists.intro (k - 1) (And.intro hk1 ⟨b + 1, _, _, ?_, hk2, ?_, hk3, rfl, rfl, rfl, rfl, ?_, ?_⟩)
          · rw [hcn]; exact hnx
          · rw [hcn]; exact hb1
          · rw [hcn]; exact ht
          · rw [hcn, ip_fL, if_pos ⟨hb1, q3⟩, ← hv, if_neg (Int32.not_lt.mpr q4)]
        · rw [e2] at q4
          refine And.intro hin ?_
          refine Exists.intro (k - 1) (And.intro hk1 ⟨b + 1, _, _, ?_, hk2, ?_, hk3, rfl, rfl, rfl, rfl, ?_, ?_⟩)
          · rw [hcn]; exact hnx
          · rw [hcn]; exact hb1
          · rw [hcn]; exact ht
          · rw [hcn, e2, ip_fL, if_pos ⟨hb1, q3⟩, ← hv, if_pos (Int32.not_le.mp q4)]
set_option maxRecDepth 100000 in
set_option maxHeartbeats 4000000 in
theorem vX5_fallOf (M : ip_M) (a : Nat) (m : Int32) (S : ip_S) (hS : ip_Sta S) (hp : a = 50 ∧ ip_eM M S ∧ ip_vw M ∧ 0 ≤ m ∧ m ≤ 299) : ip_run (pX5_fallOf (postX5_fallOf M [.inr (.inl (some a)), .inl m] S)) (fun pc => Nat.beq pc 22) (fun pc loc st S2 => ∃ k, iX5_fallOf M a m S k pc loc st S2) 60 0 [some (.inr (.inl (some a))), some (.inl m), none, none] [] S := by
  obtain ⟨rfl, hE, hw, hm⟩ := hp
  obtain ⟨n, hn, rfl⟩ := ip_mi hm
  have hcn : (nI n).toNatClampNeg = n := nI_clamp (by omega)
  have e1 : S.1 51 (nI n).toNatClampNeg = M 51 (nI n).toNatClampNeg := congrFun (hE 51 (by decide)) _
  have e2 : S.1 53 (nI n).toNatClampNeg = M 53 (nI n).toNatClampNeg := congrFun (hE 53 (by decide)) _
  refine And.intro (ip_in hm rfl) ?_
  refine And.intro (fun q => ?_) (fun q => ?_)
  · rw [e1] at q
    refine Exists.intro 30 ⟨0, 0, nI n - 1, ?_, by omega, by omega, rfl, rfl, rfl, rfl, rfl, q, rfl⟩
    have h1 : (nI n).toInt = n := nI_toInt (by omega)
    have h2 : (1 : Int32).toInt = 1 := rfl
    rw [ip_subI (by omega) (by omega), hcn]
    omega
  · rw [e1] at q
    refine And.intro (ip_in hm rfl) (And.intro ?_ rfl)
    unfold ip_fall
    rw [if_neg q, e2]
theorem ctX5_fallOf (l : Launch) (M : ip_M) : ip_CT l yX5_fallOf wsX5_fallOf rmX5_fallOf ip_Sta (preX5_fallOf M) (postX5_fallOf M) := by
  refine ip_of (cc := cX5_fallOf) (maxL := 4) (ret := (some .int)) (by decide +kernel) rfl (fun _ => (0, 0)) rfl ?_ ?_
  · intro as S h
    obtain ⟨a, m, rfl, hq⟩ := ip_e_ri h
    exact ⟨Nat.le_of_ble_eq_true rfl, by simp⟩
  intro p e s m args below meth c D cA A ad0 as S h hI hx hb hml hown hts hr hlocks hname hA hNx
  obtain ⟨a, m, rfl, hq⟩ := ip_e_ri h
  have ht := tX5_fallOf (D := D) (cA := cA) (A := A) (ad0 := ad0) (l := l) (e := e) (below := below) (S0 := S) (po := postX5_fallOf M [.inr (.inl (some a)), .inl m] S) hx hb hml hown hts hr hlocks hname hA hNx
  refine ip_run_ok ht (fun pc loc st S2 hh => ?_) 60 0 _ _ S (vX5_fallOf M a m S hI hq)
  obtain ⟨k, hk⟩ := hh
  exact ip_loop ht (iX5_fallOf M a m S) (lpX5_fallOf M a m S hI hq) k pc loc st S2 hk
end
section
/-! what the answers are, and what becomes of the picture -/
def ip_VV (M : ip_M) : Prop := ∃ nf nj np, ip_vv M nf nj np
abbrev ip_isF (M : ip_M) (f : Int32) : Prop := 0 ≤ f ∧ f ≤ M 50 4 - 1
theorem ip_isF_of {M : ip_M} {nf : Nat} (h : M 50 4 = nI nf) (hn : nf ≤ 4) (f : Int32) : ip_isF M f ↔ ∃ i, i < nf ∧ f = nI i := by
  have h1 : (M 50 4).toInt = nf := by rw [h]; exact nI_toInt (by omega)
  have h2 : (1 : Int32).toInt = 1 := rfl
  have h0 : (0 : Int32).toInt = 0 := rfl
  have h3 : (M 50 4 - 1).toInt = (nf : Int) - 1 := by rw [ip_subI (by omega) (by omega)]; omega
  unfold ip_isF
  rw [ip_leI, ip_leI, h3, h0]
  constructor
  · rintro ⟨a, b⟩
    exact ⟨f.toInt.toNat, by omega, ip_ofI (by omega)⟩
  · rintro ⟨i, hi, rfl⟩
    have : (nI i).toInt = i := nI_toInt (by omega)
    omega
theorem ip_isF_vv {M : ip_M} {nf nj np : Nat} (h : ip_vv M nf nj np) (f : Int32) : ip_isF M f ↔ ∃ i, i < nf ∧ f = nI i := ip_isF_of h.1.1 h.1.2.1 f
def g_known (M : ip_M) (m w : Int32) : Int32 := if 0 ≤ m ∧ m ≤ 299 then (if w = 0 then ip_cold (M 51) (M 52) m.toNatClampNeg else if w = 1 then ip_fall (M 51) (M 53) m.toNatClampNeg else if w = 2 then (if M 51 m.toNatClampNeg = 0 then 0 else 1) else -100) else -100
def g_hold (M : ip_M) (f n : Nat) : Int32 := ip_hold (M 55 f) (M 57 f) (M 58 f) (M 56 (4 * f + (ip_fall (M 51) (M 53) n).toNatClampNeg)) (ip_cold (M 51) (M 52) n)
def g_tb (M : ip_M) (f : Nat) : Int64 := if M 55 f = 0 then 1 else if M 55 f = 1 then 11 else 111
theorem ip_w2 {w : Int32} : (0 ≤ w ∧ w ≤ 2) ↔ (w = 0 ∨ w = 1 ∨ w = 2) := by
  rw [ip_leI, ip_leI, ip_eqI, ip_eqI, ip_eqI]
  have h0 : (0 : Int32).toInt = 0 := rfl
  have h1 : (1 : Int32).toInt = 1 := rfl
  have h2 : (2 : Int32).toInt = 2 := rfl
  omega
theorem ip_fallN {M : ip_M} (hw : ip_vw M) (n : Nat) : ∃ j, j < 4 ∧ ip_fall (M 51) (M 53) n = nI j ∧ (ip_fall (M 51) (M 53) n).toNatClampNeg = j := by
  have h := ip_fall_rng (T := M 51) (F := M 53) (n := n) (fun i h => ⟨(hw i h).2.2.1, (hw i h).2.2.2⟩)
  have h1 : ip_fall (M 51) (M 53) n = nI (ip_fall (M 51) (M 53) n).toInt.toNat := ip_ofI (by omega)
  refine ⟨_, by omega, h1, ?_⟩
  have h2 := nI_clamp (n := (ip_fall (M 51) (M 53) n).toInt.toNat) (by omega)
  rw [← h1] at h2
  exact h2
/-- the reference's way to a hold -/
theorem ip_holdM {k t p sp c : Int32} (hk : k = 0 ∨ k = 1 ∨ k = 2) : (if k = 2 then (if 0 < k then (if c < -10 then sp / 2 else sp) * t else (if c < -10 then sp / 2 else sp)) * p / 10 else (if 0 < k then (if c < -10 then sp / 2 else sp) * t else (if c < -10 then sp / 2 else sp))) = ip_hold k t p sp c := by
  rcases hk with rfl | rfl | rfl <;> simp [ip_hold, ip_thin]
def g_fill (M : ip_M) (f n : Int32) : Int32 × ip_M := if ip_isF M f ∧ 0 ≤ n ∧ n ≤ 2000 then (M 59 f.toNatClampNeg, ip_u M 59 f.toNatClampNeg n) else (-100, M)
def g_litres (M : ip_M) (f : Int32) : Int32 := if ip_isF M f then M 59 f.toNatClampNeg else -100
def g_set (M : ip_M) (w v : Int32) : Int32 × ip_M := if w = 0 ∧ 1 ≤ v ∧ v ≤ 3 then (if 0 < M 64 0 + M 64 1 + M 64 2 then (-200, M) else (M 50 10, ip_u M 50 10 v)) else if w = 1 ∧ 10 ≤ v ∧ v ≤ 1000 then (M 50 11, ip_u M 50 11 v) else if w = 2 ∧ 0 ≤ v ∧ v ≤ 50 then (M 50 12, ip_u M 50 12 v) else (-100, M)
theorem ip_inN {i n N : Nat} (h : i < n) (hn : n ≤ N) (hN : N < 1000) : vp_in (nI i) N ∧ (nI i).toNatClampNeg = i := ⟨vp_in_nI (by omega) (by omega), nI_clamp (by omega)⟩
end
section
def preX5_known (M : ip_M) : List ip_V → ip_S → Prop := ip_h_rii (fun _ => False) (fun a m w S => a = 50 ∧ ip_eM M S ∧ ip_VV M)
def postX5_known (M : ip_M) : List ip_V → ip_S → List ip_V → ip_S → Prop := ip_h_rii (fun _ _ _ => True) (fun a m w S r S' => r = [.inl (g_known M m w)] ∧ S' = S)
theorem shX5_known (M : ip_M) : ∀ as S, ip_Sta S → preX5_known M as S → ∃ (b : Nat) (as' : List ip_V), as = .inr (.inl (some b)) :: as' ∧ as'.length = 2 ∧ (S.2.2.2 b).1 = 5 := by
  intro as S hI h
  obtain ⟨a, m, w, rfl, hq⟩ := ip_e_rii h
  exact ⟨_, _, rfl, rfl, by rw [hq.1, hI.1 50 (by decide)]; rfl⟩
def rmX5_known : Room := { frames := 2, cells := 0, slots := 0, locals := 80 }
def pX5_known (po : List ip_V → ip_S → Prop) : List (Nat × ip_T) := [(0, ip_t_il 1 1), (1, ip_t_ci 0 2), (2, ip_t_ci 299 5), (5, ip_t_call 3 preX5_in postX5_in 8), (8, ip_t_ifeq 20 11), (11, ip_t_il 2 12), (12, ip_t_ci 0 13), (13, ip_t_ci 2 14), (14, ip_t_call 3 preX5_in postX5_in 17), (17, ip_t_ifne 23 20), (20, ip_t_ci (-100) 22), (22, ip_t_iret po), (23, ip_t_il 2 24), (24, ip_t_ifne 35 27), (27, ip_t_ar 0 28), (28, ip_t_il 1 29), (29, ip_t_callG 2 preX5_coldOf postX5_coldOf 32), (32, ip_t_go 62), (35, ip_t_il 2 36), (36, ip_t_ci 1 37), (37, ip_t_icne 48 40), (40, ip_t_ar 0 41), (41, ip_t_il 1 42), (42, ip_t_callG 2 preX5_fallOf postX5_fallOf 45), (45, ip_t_go 62), (48, ip_t_ar 0 49), (49, ip_t_gR0 50 51 52), (52, ip_t_il 1 53), (53, ip_t_ld 7 54), (54, ip_t_ifeq 61 57), (57, ip_t_ci 1 58), (58, ip_t_go 62), (61, ip_t_ci 0 62), (62, ip_t_iret po)]
set_option maxRecDepth 100000 in
set_option maxHeartbeats 4000000 in
theorem tX5_known {p : Program} {l : Launch} {e : Env} {s : State} {m : MethodId} {args : Array Value} {below : List Frame} {meth : Method} {c : Code} {D : va_G} {cA : Nat → ClassId} {A : Nat → Prop} {ad0 : Nat → Nat} {S0 : ip_S} {po : List ip_V → ip_S → Prop} (hx : p.tables.exec = Jvm.exec) (hb : c.code = cX5_known) (hml : c.maxLocals = 3) (hown : s.vm.findClass RX5 = some m.cls) (hts : ∀ w ∈ wsX5_known, w.before args s = true) (hr : meth.sig.returnType = (some .int)) (hlocks : meth.locks = false) (hname : meth.name = yX5_known.name) (hA : ∀ q, s.heap.size ≤ q → A q) (hNx : ip_Nx s) : ∀ q ∈ pX5_known po, ip_snd p l e rmX5_known s m args below meth c D cA A (MQ below (ip_Q ip_Sta D cA ad0 S0 A po) args s 0 0 A) 3 (fun _ => (0, 0)) ip_Sta ad0 S0 q.1 q.2 := by
  have hIs : ∀ S, ip_Sta S → ip_Sta S := fun _ h => h
  have hIn := ip_In_Sta
  have hS9 : CallFix p m c cX5_known 3 s args wsX5_known RX5 := ⟨hx, hb, hml, hown, hts⟩
  have hin5 : ∀ w ∈ u_ws RX5 TX5 32, w ∈ wsX5_known := by decide +kernel
  refine List.forall_mem_cons.mpr ⟨ip_s_iload_n hx hb dX5_known_0 rfl rfl, ?_⟩
  refine List.forall_mem_cons.mpr ⟨ip_s_iconst hx hb dX5_known_1 rfl rfl, ?_⟩
  refine List.forall_mem_cons.mpr ⟨ip_s_sipush hx hb dX5_known_2 rfl rfl, ?_⟩
  refine List.forall_mem_cons.mpr ⟨ip_s_callS hNx hS9 (ctX5_in l) (va_cwS 3 hts gX5_known_X5_in rfl rfl rfl (by decide +kernel) ⟨Nat.le_of_ble_eq_true rfl, Nat.le_of_ble_eq_true rfl⟩) (fun as S hI h => shsX5_in as S hI h) hA dX5_known_5 ⟨Nat.le_of_ble_eq_true rfl, Nat.le_of_ble_eq_true rfl⟩ rfl, ?_⟩
  refine List.forall_mem_cons.mpr ⟨ip_s_ifeq (t := 20) hx hb dX5_known_8 (by decide) rfl rfl, ?_⟩
  refine List.forall_mem_cons.mpr ⟨ip_s_iload_n hx hb dX5_known_11 rfl rfl, ?_⟩
  refine List.forall_mem_cons.mpr ⟨ip_s_iconst hx hb dX5_known_12 rfl rfl, ?_⟩
  refine List.forall_mem_cons.mpr ⟨ip_s_iconst hx hb dX5_known_13 rfl rfl, ?_⟩
  refine List.forall_mem_cons.mpr ⟨ip_s_callS hNx hS9 (ctX5_in l) (va_cwS 3 hts gX5_known_X5_in rfl rfl rfl (by decide +kernel) ⟨Nat.le_of_ble_eq_true rfl, Nat.le_of_ble_eq_true rfl⟩) (fun as S hI h => shsX5_in as S hI h) hA dX5_known_14 ⟨Nat.le_of_ble_eq_true rfl, Nat.le_of_ble_eq_true rfl⟩ rfl, ?_⟩
  refine List.forall_mem_cons.mpr ⟨ip_s_ifne (t := 23) hx hb dX5_known_17 (by decide) rfl rfl, ?_⟩
  refine List.forall_mem_cons.mpr ⟨ip_s_bipush hx hb dX5_known_20 rfl rfl, ?_⟩
  refine List.forall_mem_cons.mpr ⟨ip_s_iret hx hb hr hlocks (Nat.le_of_ble_eq_true rfl) (Nat.le_of_ble_eq_true rfl) dX5_known_22, ?_⟩
  refine List.forall_mem_cons.mpr ⟨ip_s_iload_n hx hb dX5_known_23 rfl rfl, ?_⟩
  refine List.forall_mem_cons.mpr ⟨ip_s_ifne (t := 35) hx hb dX5_known_24 (by decide) rfl rfl, ?_⟩
  refine List.forall_mem_cons.mpr ⟨ip_s_aload_n hx hb dX5_known_27 rfl rfl, ?_⟩
  refine List.forall_mem_cons.mpr ⟨ip_s_iload_n hx hb dX5_known_28 rfl rfl, ?_⟩
  refine List.forall_mem_cons.mpr ⟨ip_s_G (fun M => ip_s_callV hNx hS9 (ctX5_coldOf l M) (cwV 1 hts gX5_known_X5_coldOf rfl rfl rfl (by decide +kernel) ⟨Nat.le_of_ble_eq_true rfl, Nat.le_of_ble_eq_true rfl⟩) (ci := 5) rfl rfl (by decide) (fun as S hI h => shX5_coldOf M as S hI h) hA dX5_known_29 ⟨Nat.le_of_ble_eq_true rfl, Nat.le_of_ble_eq_true rfl⟩ rfl), ?_⟩
  refine List.forall_mem_cons.mpr ⟨ip_s_go (t := 62) hx hb dX5_known_32 (by decide) (Nat.le_of_ble_eq_true rfl) (Nat.le_of_ble_eq_true rfl), ?_⟩
  refine List.forall_mem_cons.mpr ⟨ip_s_iload_n hx hb dX5_known_35 rfl rfl, ?_⟩
  refine List.forall_mem_cons.mpr ⟨ip_s_iconst hx hb dX5_known_36 rfl rfl, ?_⟩
  refine List.forall_mem_cons.mpr ⟨ip_s_icne (t := 48) hx hb dX5_known_37 (by decide) rfl rfl, ?_⟩
  refine List.forall_mem_cons.mpr ⟨ip_s_aload_n hx hb dX5_known_40 rfl rfl, ?_⟩
  refine List.forall_mem_cons.mpr ⟨ip_s_iload_n hx hb dX5_known_41 rfl rfl, ?_⟩
  refine List.forall_mem_cons.mpr ⟨ip_s_G (fun M => ip_s_callV hNx hS9 (ctX5_fallOf l M) (cwV 1 hts gX5_known_X5_fallOf rfl rfl rfl (by decide +kernel) ⟨Nat.le_of_ble_eq_true rfl, Nat.le_of_ble_eq_true rfl⟩) (ci := 5) rfl rfl (by decide) (fun as S hI h => shX5_fallOf M as S hI h) hA dX5_known_42 ⟨Nat.le_of_ble_eq_true rfl, Nat.le_of_ble_eq_true rfl⟩ rfl), ?_⟩
  refine List.forall_mem_cons.mpr ⟨ip_s_go (t := 62) hx hb dX5_known_45 (by decide) (Nat.le_of_ble_eq_true rfl) (Nat.le_of_ble_eq_true rfl), ?_⟩
  refine List.forall_mem_cons.mpr ⟨ip_s_aload_n hx hb dX5_known_48 rfl rfl, ?_⟩
  refine List.forall_mem_cons.mpr ⟨ip_s_gR0 hx hb hts hin5 hown rfl (by decide) 1 (by decide) (hts (.fieldLink RX5 7 "IcePadsModel" "isTold" "[Z") (by decide +kernel)) (fun _ h9 => h9) hIs 50 51 rfl (by decide) rfl dX5_known_49 rfl, ?_⟩
  refine List.forall_mem_cons.mpr ⟨ip_s_iload_n hx hb dX5_known_52 rfl rfl, ?_⟩
  refine List.forall_mem_cons.mpr ⟨ip_s_ldz hx hb hIs dX5_known_53 rfl, ?_⟩
  refine List.forall_mem_cons.mpr ⟨ip_s_ifeq (t := 61) hx hb dX5_known_54 (by decide) rfl rfl, ?_⟩
  refine List.forall_mem_cons.mpr ⟨ip_s_iconst hx hb dX5_known_57 rfl rfl, ?_⟩
  refine List.forall_mem_cons.mpr ⟨ip_s_go (t := 62) hx hb dX5_known_58 (by decide) (Nat.le_of_ble_eq_true rfl) (Nat.le_of_ble_eq_true rfl), ?_⟩
  refine List.forall_mem_cons.mpr ⟨ip_s_iconst hx hb dX5_known_61 rfl rfl, ?_⟩
  refine List.forall_mem_cons.mpr ⟨ip_s_iret hx hb hr hlocks (Nat.le_of_ble_eq_true rfl) (Nat.le_of_ble_eq_true rfl) dX5_known_62, ?_⟩
  exact fun _ h => absurd h List.not_mem_nil
set_option maxRecDepth 100000 in
set_option maxHeartbeats 4000000 in
theorem vX5_known (M : ip_M) (a : Nat) (m : Int32) (w : Int32) (S : ip_S) (hS : ip_Sta S) (hp : a = 50 ∧ ip_eM M S ∧ ip_VV M) : ip_run (pX5_known (postX5_known M [.inr (.inl (some a)), .inl m, .inl w] S)) (fun _ => false) (fun _ _ _ _ => False) 60 0 [some (.inr (.inl (some a))), some (.inl m), some (.inl w)] [] S := by
  obtain ⟨rfl, hE, nf, nj, np, hv⟩ := hp
  refine And.intro trivial ?_
  rintro r S' ⟨rfl, rfl⟩
  refine And.intro (fun q1 => ?_) (fun q1 => ?_)
  · refine And.intro ?_ rfl
    unfold g_known
    rw [if_neg (ip_if0 q1)]
  have q1 := ip_if1 q1
  have e1 : S'.1 51 m.toNatClampNeg = M 51 m.toNatClampNeg := congrFun (hE 51 (by decide)) _
  refine And.intro trivial ?_
  rintro r S' ⟨rfl, rfl⟩
  refine And.intro (fun q2 => ?_) (fun q2 => ?_)
  · have q2 := ip_w2.mp (ip_if1 q2)
    refine And.intro (fun q3 => ?_) (fun q3 => ?_)
    · refine And.intro (fun q4 => ?_) (fun q4 => ?_)
      · have q5 : w = 2 := by rcases q2 with h | h | h; exact absurd h q3; exact absurd h q4; exact h
        refine And.intro (ip_in q1 rfl) ?_
        refine And.intro (fun q6 => ?_) (fun q6 => ?_)
        · rw [e1] at q6
          refine And.intro ?_ rfl
          unfold g_known
          rw [if_pos q1, if_neg q3, if_neg q4, if_pos q5, if_pos q6]
        · rw [e1] at q6
          refine And.intro ?_ rfl
          unfold g_known
          rw [if_pos q1, if_neg q3, if_neg q4, if_pos q5, if_neg q6]
      · refine Exists.intro M (And.intro (And.intro rfl (And.intro hE (And.intro hv.2.1 q1))) ?_)
        rintro r S' ⟨rfl, rfl⟩
        refine And.intro ?_ rfl
        unfold g_known
        rw [if_pos q1, if_neg q3, if_pos q4]
    · refine Exists.intro M (And.intro (And.intro rfl (And.intro hE (And.intro hv.2.1 q1))) ?_)
      rintro r S' ⟨rfl, rfl⟩
      refine And.intro ?_ rfl
      unfold g_known
      rw [if_pos q1, if_pos q3]
  · have q2 := ip_if0 q2
    refine And.intro ?_ rfl
    unfold g_known
    rw [if_pos q1, if_neg (fun z => q2 (ip_w2.mpr (Or.inl z))), if_neg (fun z => q2 (ip_w2.mpr (Or.inr (Or.inl z)))), if_neg (fun z => q2 (ip_w2.mpr (Or.inr (Or.inr z))))]
theorem ctX5_known (l : Launch) (M : ip_M) : ip_CT l yX5_known wsX5_known rmX5_known ip_Sta (preX5_known M) (postX5_known M) := by
  refine ip_of (cc := cX5_known) (maxL := 3) (ret := (some .int)) (by decide +kernel) rfl (fun _ => (0, 0)) rfl ?_ ?_
  · intro as S h
    obtain ⟨a, m, w, rfl, hq⟩ := ip_e_rii h
    exact ⟨Nat.le_of_ble_eq_true rfl, by simp⟩
  intro p e s m args below meth c D cA A ad0 as S h hI hx hb hml hown hts hr hlocks hname hA hNx
  obtain ⟨a, m, w, rfl, hq⟩ := ip_e_rii h
  refine ip_run_ok (stop := fun _ => false) (tX5_known hx hb hml hown hts hr hlocks hname hA hNx) (fun _ _ _ _ h => False.elim h) 60 0 _ _ S ?_
  exact vX5_known M a m w S hI hq

def preX5_isFluid (M : ip_M) : List ip_V → ip_S → Prop := ip_h_ri (fun _ => False) (fun a f S => a = 50 ∧ ip_eM M S)
def postX5_isFluid (M : ip_M) : List ip_V → ip_S → List ip_V → ip_S → Prop := ip_h_ri (fun _ _ _ => True) (fun a f S r S' => r = [.inl (if ip_isF M f then 1 else 0)] ∧ S' = S)
theorem shX5_isFluid (M : ip_M) : ∀ as S, ip_Sta S → preX5_isFluid M as S → ∃ (b : Nat) (as' : List ip_V), as = .inr (.inl (some b)) :: as' ∧ as'.length = 1 ∧ (S.2.2.2 b).1 = 5 := by
  intro as S hI h
  obtain ⟨a, f, rfl, hq⟩ := ip_e_ri h
  exact ⟨_, _, rfl, rfl, by rw [hq.1, hI.1 50 (by decide)]; rfl⟩
def rmX5_isFluid : Room := { frames := 2, cells := 0, slots := 0, locals := 80 }
def pX5_isFluid (po : List ip_V → ip_S → Prop) : List (Nat × ip_T) := [(0, ip_t_il 1 1), (1, ip_t_ci 0 2), (2, ip_t_ar 0 3), (3, ip_t_gI0 50 4 6), (6, ip_t_ci 1 7), (7, ip_t_isub 8), (8, ip_t_call 3 preX5_in postX5_in 11), (11, ip_t_zret po)]
set_option maxRecDepth 100000 in
set_option maxHeartbeats 4000000 in
theorem tX5_isFluid {p : Program} {l : Launch} {e : Env} {s : State} {m : MethodId} {args : Array Value} {below : List Frame} {meth : Method} {c : Code} {D : va_G} {cA : Nat → ClassId} {A : Nat → Prop} {ad0 : Nat → Nat} {S0 : ip_S} {po : List ip_V → ip_S → Prop} (hx : p.tables.exec = Jvm.exec) (hb : c.code = cX5_isFluid) (hml : c.maxLocals = 2) (hown : s.vm.findClass RX5 = some m.cls) (hts : ∀ w ∈ wsX5_isFluid, w.before args s = true) (hr : meth.sig.returnType = (some .boolean)) (hlocks : meth.locks = false) (hname : meth.name = yX5_isFluid.name) (hA : ∀ q, s.heap.size ≤ q → A q) (hNx : ip_Nx s) : ∀ q ∈ pX5_isFluid po, ip_snd p l e rmX5_isFluid s m args below meth c D cA A (MQ below (ip_Q ip_Sta D cA ad0 S0 A po) args s 0 0 A) 2 (fun _ => (0, 0)) ip_Sta ad0 S0 q.1 q.2 := by
  have hIs : ∀ S, ip_Sta S → ip_Sta S := fun _ h => h
  have hIn := ip_In_Sta
  have hS9 : CallFix p m c cX5_isFluid 2 s args wsX5_isFluid RX5 := ⟨hx, hb, hml, hown, hts⟩
  have hin5 : ∀ w ∈ u_ws RX5 TX5 32, w ∈ wsX5_isFluid := by decide +kernel
  refine List.forall_mem_cons.mpr ⟨ip_s_iload_n hx hb dX5_isFluid_0 rfl rfl, ?_⟩
  refine List.forall_mem_cons.mpr ⟨ip_s_iconst hx hb dX5_isFluid_1 rfl rfl, ?_⟩
  refine List.forall_mem_cons.mpr ⟨ip_s_aload_n hx hb dX5_isFluid_2 rfl rfl, ?_⟩
  refine List.forall_mem_cons.mpr ⟨ip_s_gI0 hx hb hts hin5 hown rfl (by decide) 4 (by decide) (hts (.fieldLink RX5 101 "IcePadsModel" "fluids" "I") (by decide +kernel)) (fun _ h9 => h9) hIs 50 rfl rfl dX5_isFluid_3 rfl, ?_⟩
  refine List.forall_mem_cons.mpr ⟨ip_s_iconst hx hb dX5_isFluid_6 rfl rfl, ?_⟩
  refine List.forall_mem_cons.mpr ⟨ip_s_isub hx hb dX5_isFluid_7 rfl, ?_⟩
  refine List.forall_mem_cons.mpr ⟨ip_s_callS hNx hS9 (ctX5_in l) (va_cwS 3 hts gX5_isFluid_X5_in rfl rfl rfl (by decide +kernel) ⟨Nat.le_of_ble_eq_true rfl, Nat.le_of_ble_eq_true rfl⟩) (fun as S hI h => shsX5_in as S hI h) hA dX5_isFluid_8 ⟨Nat.le_of_ble_eq_true rfl, Nat.le_of_ble_eq_true rfl⟩ rfl, ?_⟩
  refine List.forall_mem_cons.mpr ⟨ip_s_zret hx hb hr hlocks (Nat.le_of_ble_eq_true rfl) (Nat.le_of_ble_eq_true rfl) dX5_isFluid_11, ?_⟩
  exact fun _ h => absurd h List.not_mem_nil
set_option maxRecDepth 100000 in
set_option maxHeartbeats 4000000 in
theorem vX5_isFluid (M : ip_M) (a : Nat) (f : Int32) (S : ip_S) (hS : ip_Sta S) (hp : a = 50 ∧ ip_eM M S) : ip_run (pX5_isFluid (postX5_isFluid M [.inr (.inl (some a)), .inl f] S)) (fun _ => false) (fun _ _ _ _ => False) 30 0 [some (.inr (.inl (some a))), some (.inl f)] [] S := by
  obtain ⟨rfl, hE⟩ := hp
  have e1 : S.1 50 4 = M 50 4 := congrFun (hE 50 (by decide)) _
  refine And.intro trivial ?_
  rintro r S' ⟨rfl, rfl⟩
  refine And.intro ip_01 (And.intro ?_ rfl)
  rw [e1]
theorem ctX5_isFluid (l : Launch) (M : ip_M) : ip_CT l yX5_isFluid wsX5_isFluid rmX5_isFluid ip_Sta (preX5_isFluid M) (postX5_isFluid M) := by
  refine ip_of (cc := cX5_isFluid) (maxL := 2) (ret := (some .boolean)) (by decide +kernel) rfl (fun _ => (0, 0)) rfl ?_ ?_
  · intro as S h
    obtain ⟨a, f, rfl, hq⟩ := ip_e_ri h
    exact ⟨Nat.le_of_ble_eq_true rfl, by simp⟩
  intro p e s m args below meth c D cA A ad0 as S h hI hx hb hml hown hts hr hlocks hname hA hNx
  obtain ⟨a, f, rfl, hq⟩ := ip_e_ri h
  refine ip_run_ok (stop := fun _ => false) (tX5_isFluid hx hb hml hown hts hr hlocks hname hA hNx) (fun _ _ _ _ h => False.elim h) 30 0 _ _ S ?_
  exact vX5_isFluid M a f S hI hq

def preX5_holdOf (M : ip_M) : List ip_V → ip_S → Prop := ip_h_rii (fun _ => False) (fun a f m S => a = 50 ∧ ip_eM M S ∧ (∃ nf nj np, ip_vv M nf nj np ∧ ∃ i, i < nf ∧ f = nI i) ∧ 0 ≤ m ∧ m ≤ 299)
def postX5_holdOf (M : ip_M) : List ip_V → ip_S → List ip_V → ip_S → Prop := ip_h_rii (fun _ _ _ => True) (fun a f m S r S' => r = [.inl (g_hold M f.toNatClampNeg m.toNatClampNeg)] ∧ S' = S)
theorem shX5_holdOf (M : ip_M) : ∀ as S, ip_Sta S → preX5_holdOf M as S → ∃ (b : Nat) (as' : List ip_V), as = .inr (.inl (some b)) :: as' ∧ as'.length = 2 ∧ (S.2.2.2 b).1 = 5 := by
  intro as S hI h
  obtain ⟨a, f, m, rfl, hq⟩ := ip_e_rii h
  exact ⟨_, _, rfl, rfl, by rw [hq.1, hI.1 50 (by decide)]; rfl⟩
def rmX5_holdOf : Room := { frames := 2, cells := 0, slots := 0, locals := 80 }
def pX5_holdOf (po : List ip_V → ip_S → Prop) : List (Nat × ip_T) := [(0, ip_t_ar 0 1), (1, ip_t_gR0 50 56 4), (4, ip_t_ci 4 5), (5, ip_t_il 1 6), (6, ip_t_imul 7), (7, ip_t_ar 0 8), (8, ip_t_il 2 9), (9, ip_t_callG 2 preX5_fallOf postX5_fallOf 12), (12, ip_t_iadd 13), (13, ip_t_ld 6 14), (14, ip_t_is 3 15), (15, ip_t_ar 0 16), (16, ip_t_il 2 17), (17, ip_t_callG 2 preX5_coldOf postX5_coldOf 20), (20, ip_t_ci (-10) 22), (22, ip_t_icge 31 25), (25, ip_t_il 3 26), (26, ip_t_ci 2 27), (27, ip_t_idiv 28), (28, ip_t_go 32), (31, ip_t_il 3 32), (32, ip_t_is 3 33), (33, ip_t_ar 0 34), (34, ip_t_gR0 50 55 37), (37, ip_t_il 1 38), (38, ip_t_ld 6 39), (39, ip_t_ifle 53 42), (42, ip_t_il 3 43), (43, ip_t_ar 0 44), (44, ip_t_gR0 50 57 47), (47, ip_t_il 1 48), (48, ip_t_ld 6 49), (49, ip_t_imul 50), (50, ip_t_go 54), (53, ip_t_il 3 54), (54, ip_t_is 3 55), (55, ip_t_ar 0 56), (56, ip_t_gR0 50 55 59), (59, ip_t_il 1 60), (60, ip_t_ld 6 61), (61, ip_t_ci 2 62), (62, ip_t_icne 79 65), (65, ip_t_il 3 66), (66, ip_t_ar 0 67), (67, ip_t_gR0 50 58 70), (70, ip_t_il 1 71), (71, ip_t_ld 6 72), (72, ip_t_imul 73), (73, ip_t_ci 10 75), (75, ip_t_idiv 76), (76, ip_t_go 80), (79, ip_t_il 3 80), (80, ip_t_iret po)]
set_option maxRecDepth 100000 in
set_option maxHeartbeats 4000000 in
theorem tX5_holdOf {p : Program} {l : Launch} {e : Env} {s : State} {m : MethodId} {args : Array Value} {below : List Frame} {meth : Method} {c : Code} {D : va_G} {cA : Nat → ClassId} {A : Nat → Prop} {ad0 : Nat → Nat} {S0 : ip_S} {po : List ip_V → ip_S → Prop} (hx : p.tables.exec = Jvm.exec) (hb : c.code = cX5_holdOf) (hml : c.maxLocals = 4) (hown : s.vm.findClass RX5 = some m.cls) (hts : ∀ w ∈ wsX5_holdOf, w.before args s = true) (hr : meth.sig.returnType = (some .int)) (hlocks : meth.locks = false) (hname : meth.name = yX5_holdOf.name) (hA : ∀ q, s.heap.size ≤ q → A q) (hNx : ip_Nx s) : ∀ q ∈ pX5_holdOf po, ip_snd p l e rmX5_holdOf s m args below meth c D cA A (MQ below (ip_Q ip_Sta D cA ad0 S0 A po) args s 0 0 A) 4 (fun _ => (0, 0)) ip_Sta ad0 S0 q.1 q.2 := by
  have hIs : ∀ S, ip_Sta S → ip_Sta S := fun _ h => h
  have hIn := ip_In_Sta
  have hS9 : CallFix p m c cX5_holdOf 4 s args wsX5_holdOf RX5 := ⟨hx, hb, hml, hown, hts⟩
  have hin5 : ∀ w ∈ u_ws RX5 TX5 32, w ∈ wsX5_holdOf := by decide +kernel
  refine List.forall_mem_cons.mpr ⟨ip_s_aload_n hx hb dX5_holdOf_0 rfl rfl, ?_⟩
  refine List.forall_mem_cons.mpr ⟨ip_s_gR0 hx hb hts hin5 hown rfl (by decide) 6 (by decide) (hts (.fieldLink RX5 23 "IcePadsModel" "span" "[I") (by decide +kernel)) (fun _ h9 => h9) hIs 50 56 rfl (by decide) rfl dX5_holdOf_1 rfl, ?_⟩
  refine List.forall_mem_cons.mpr ⟨ip_s_iconst hx hb dX5_holdOf_4 rfl rfl, ?_⟩
  refine List.forall_mem_cons.mpr ⟨ip_s_iload_n hx hb dX5_holdOf_5 rfl rfl, ?_⟩
  refine List.forall_mem_cons.mpr ⟨ip_s_imul hx hb dX5_holdOf_6 rfl, ?_⟩
  refine List.forall_mem_cons.mpr ⟨ip_s_aload_n hx hb dX5_holdOf_7 rfl rfl, ?_⟩
  refine List.forall_mem_cons.mpr ⟨ip_s_iload_n hx hb dX5_holdOf_8 rfl rfl, ?_⟩
  refine List.forall_mem_cons.mpr ⟨ip_s_G (fun M => ip_s_callV hNx hS9 (ctX5_fallOf l M) (cwV 1 hts gX5_holdOf_X5_fallOf rfl rfl rfl (by decide +kernel) ⟨Nat.le_of_ble_eq_true rfl, Nat.le_of_ble_eq_true rfl⟩) (ci := 5) rfl rfl (by decide) (fun as S hI h => shX5_fallOf M as S hI h) hA dX5_holdOf_9 ⟨Nat.le_of_ble_eq_true rfl, Nat.le_of_ble_eq_true rfl⟩ rfl), ?_⟩
  refine List.forall_mem_cons.mpr ⟨ip_s_iadd hx hb dX5_holdOf_12 rfl, ?_⟩
  refine List.forall_mem_cons.mpr ⟨ip_s_ldi hx hb hIs dX5_holdOf_13 rfl, ?_⟩
  refine List.forall_mem_cons.mpr ⟨ip_s_istore_n hx hb dX5_holdOf_14 rfl (by decide) rfl, ?_⟩
  refine List.forall_mem_cons.mpr ⟨ip_s_aload_n hx hb dX5_holdOf_15 rfl rfl, ?_⟩
  refine List.forall_mem_cons.mpr ⟨ip_s_iload_n hx hb dX5_holdOf_16 rfl rfl, ?_⟩
  refine List.forall_mem_cons.mpr ⟨ip_s_G (fun M => ip_s_callV hNx hS9 (ctX5_coldOf l M) (cwV 1 hts gX5_holdOf_X5_coldOf rfl rfl rfl (by decide +kernel) ⟨Nat.le_of_ble_eq_true rfl, Nat.le_of_ble_eq_true rfl⟩) (ci := 5) rfl rfl (by decide) (fun as S hI h => shX5_coldOf M as S hI h) hA dX5_holdOf_17 ⟨Nat.le_of_ble_eq_true rfl, Nat.le_of_ble_eq_true rfl⟩ rfl), ?_⟩
  refine List.forall_mem_cons.mpr ⟨ip_s_bipush hx hb dX5_holdOf_20 rfl rfl, ?_⟩
  refine List.forall_mem_cons.mpr ⟨ip_s_icge (t := 31) hx hb dX5_holdOf_22 (by decide) rfl rfl, ?_⟩
  refine List.forall_mem_cons.mpr ⟨ip_s_iload_n hx hb dX5_holdOf_25 rfl rfl, ?_⟩
  refine List.forall_mem_cons.mpr ⟨ip_s_iconst hx hb dX5_holdOf_26 rfl rfl, ?_⟩
  refine List.forall_mem_cons.mpr ⟨ip_s_idiv hx hb dX5_holdOf_27 rfl, ?_⟩
  refine List.forall_mem_cons.mpr ⟨ip_s_go (t := 32) hx hb dX5_holdOf_28 (by decide) (Nat.le_of_ble_eq_true rfl) (Nat.le_of_ble_eq_true rfl), ?_⟩
  refine List.forall_mem_cons.mpr ⟨ip_s_iload_n hx hb dX5_holdOf_31 rfl rfl, ?_⟩
  refine List.forall_mem_cons.mpr ⟨ip_s_istore_n hx hb dX5_holdOf_32 rfl (by decide) rfl, ?_⟩
  refine List.forall_mem_cons.mpr ⟨ip_s_aload_n hx hb dX5_holdOf_33 rfl rfl, ?_⟩
  refine List.forall_mem_cons.mpr ⟨ip_s_gR0 hx hb hts hin5 hown rfl (by decide) 5 (by decide) (hts (.fieldLink RX5 20 "IcePadsModel" "kind" "[I") (by decide +kernel)) (fun _ h9 => h9) hIs 50 55 rfl (by decide) rfl dX5_holdOf_34 rfl, ?_⟩
  refine List.forall_mem_cons.mpr ⟨ip_s_iload_n hx hb dX5_holdOf_37 rfl rfl, ?_⟩
  refine List.forall_mem_cons.mpr ⟨ip_s_ldi hx hb hIs dX5_holdOf_38 rfl, ?_⟩
  refine List.forall_mem_cons.mpr ⟨ip_s_ifle (t := 53) hx hb dX5_holdOf_39 (by decide) rfl rfl, ?_⟩
  refine List.forall_mem_cons.mpr ⟨ip_s_iload_n hx hb dX5_holdOf_42 rfl rfl, ?_⟩
  refine List.forall_mem_cons.mpr ⟨ip_s_aload_n hx hb dX5_holdOf_43 rfl rfl, ?_⟩
  refine List.forall_mem_cons.mpr ⟨ip_s_gR0 hx hb hts hin5 hown rfl (by decide) 7 (by decide) (hts (.fieldLink RX5 26 "IcePadsModel" "times" "[I") (by decide +kernel)) (fun _ h9 => h9) hIs 50 57 rfl (by decide) rfl dX5_holdOf_44 rfl, ?_⟩
  refine List.forall_mem_cons.mpr ⟨ip_s_iload_n hx hb dX5_holdOf_47 rfl rfl, ?_⟩
  refine List.forall_mem_cons.mpr ⟨ip_s_ldi hx hb hIs dX5_holdOf_48 rfl, ?_⟩
  refine List.forall_mem_cons.mpr ⟨ip_s_imul hx hb dX5_holdOf_49 rfl, ?_⟩
  refine List.forall_mem_cons.mpr ⟨ip_s_go (t := 54) hx hb dX5_holdOf_50 (by decide) (Nat.le_of_ble_eq_true rfl) (Nat.le_of_ble_eq_true rfl), ?_⟩
  refine List.forall_mem_cons.mpr ⟨ip_s_iload_n hx hb dX5_holdOf_53 rfl rfl, ?_⟩
  refine List.forall_mem_cons.mpr ⟨ip_s_istore_n hx hb dX5_holdOf_54 rfl (by decide) rfl, ?_⟩
  refine List.forall_mem_cons.mpr ⟨ip_s_aload_n hx hb dX5_holdOf_55 rfl rfl, ?_⟩
  refine List.forall_mem_cons.mpr ⟨ip_s_gR0 hx hb hts hin5 hown rfl (by decide) 5 (by decide) (hts (.fieldLink RX5 20 "IcePadsModel" "kind" "[I") (by decide +kernel)) (fun _ h9 => h9) hIs 50 55 rfl (by decide) rfl dX5_holdOf_56 rfl, ?_⟩
  refine List.forall_mem_cons.mpr ⟨ip_s_iload_n hx hb dX5_holdOf_59 rfl rfl, ?_⟩
  refine List.forall_mem_cons.mpr ⟨ip_s_ldi hx hb hIs dX5_holdOf_60 rfl, ?_⟩
  refine List.forall_mem_cons.mpr ⟨ip_s_iconst hx hb dX5_holdOf_61 rfl rfl, ?_⟩
  refine List.forall_mem_cons.mpr ⟨ip_s_icne (t := 79) hx hb dX5_holdOf_62 (by decide) rfl rfl, ?_⟩
  refine List.forall_mem_cons.mpr ⟨ip_s_iload_n hx hb dX5_holdOf_65 rfl rfl, ?_⟩
  refine List.forall_mem_cons.mpr ⟨ip_s_aload_n hx hb dX5_holdOf_66 rfl rfl, ?_⟩
  refine List.forall_mem_cons.mpr ⟨ip_s_gR0 hx hb hts hin5 hown rfl (by decide) 8 (by decide) (hts (.fieldLink RX5 29 "IcePadsModel" "parts" "[I") (by decide +kernel)) (fun _ h9 => h9) hIs 50 58 rfl (by decide) rfl dX5_holdOf_67 rfl, ?_⟩
  refine List.forall_mem_cons.mpr ⟨ip_s_iload_n hx hb dX5_holdOf_70 rfl rfl, ?_⟩
  refine List.forall_mem_cons.mpr ⟨ip_s_ldi hx hb hIs dX5_holdOf_71 rfl, ?_⟩
  refine List.forall_mem_cons.mpr ⟨ip_s_imul hx hb dX5_holdOf_72 rfl, ?_⟩
  refine List.forall_mem_cons.mpr ⟨ip_s_bipush hx hb dX5_holdOf_73 rfl rfl, ?_⟩
  refine List.forall_mem_cons.mpr ⟨ip_s_idiv hx hb dX5_holdOf_75 rfl, ?_⟩
  refine List.forall_mem_cons.mpr ⟨ip_s_go (t := 80) hx hb dX5_holdOf_76 (by decide) (Nat.le_of_ble_eq_true rfl) (Nat.le_of_ble_eq_true rfl), ?_⟩
  refine List.forall_mem_cons.mpr ⟨ip_s_iload_n hx hb dX5_holdOf_79 rfl rfl, ?_⟩
  refine List.forall_mem_cons.mpr ⟨ip_s_iret hx hb hr hlocks (Nat.le_of_ble_eq_true rfl) (Nat.le_of_ble_eq_true rfl) dX5_holdOf_80, ?_⟩
  exact fun _ h => absurd h List.not_mem_nil
set_option maxRecDepth 100000 in
set_option maxHeartbeats 4000000 in
theorem vX5_holdOf (M : ip_M) (a : Nat) (f : Int32) (m : Int32) (S : ip_S) (hS : ip_Sta S) (hp : a = 50 ∧ ip_eM M S ∧ (∃ nf nj np, ip_vv M nf nj np ∧ ∃ i, i < nf ∧ f = nI i) ∧ 0 ≤ m ∧ m ≤ 299) : ip_run (pX5_holdOf (postX5_holdOf M [.inr (.inl (some a)), .inl f, .inl m] S)) (fun _ => false) (fun _ _ _ _ => False) 80 0 [some (.inr (.inl (some a))), some (.inl f), some (.inl m), none] [] S := by
  obtain ⟨rfl, hE, ⟨nf, nj, np, hv, i, hi, rfl⟩, hm⟩ := hp
  have hi4 : i < 4 := Nat.lt_of_lt_of_le hi hv.1.2.1
  obtain ⟨hin4, hci⟩ := ip_inN (N := 4) hi hv.1.2.1 (by decide)
  obtain ⟨fl, hfl, hf1, hf2⟩ := ip_fallN hv.2.1 m.toNatClampNeg
  have hix : (4 : Int32) * nI i + nI fl = nI (4 * i + fl) := by
    rw [show (4 : Int32) = nI 4 from rfl, pk_mul, nI_add]
  have hin16 : vp_in ((4 : Int32) * nI i + nI fl) 16 := by rw [hix]; exact vp_in_nI (by omega) (by decide)
  have hc16 : ((4 : Int32) * nI i + nI fl).toNatClampNeg = 4 * i + fl := by rw [hix]; exact nI_clamp (by omega)
  have e55 : S.1 55 (nI i).toNatClampNeg = M 55 i := by rw [hci]; exact congrFun (hE 55 (by decide)) _
  have e57 : S.1 57 (nI i).toNatClampNeg = M 57 i := by rw [hci]; exact congrFun (hE 57 (by decide)) _
  have e58 : S.1 58 (nI i).toNatClampNeg = M 58 i := by rw [hci]; exact congrFun (hE 58 (by decide)) _
  have e56 : S.1 56 ((4 : Int32) * nI i + nI fl).toNatClampNeg = M 56 (4 * i + fl) := by rw [hc16]; exact congrFun (hE 56 (by decide)) _
  have hfin : g_hold M (nI i).toNatClampNeg m.toNatClampNeg = ip_hold (M 55 i) (M 57 i) (M 58 i) (M 56 (4 * i + fl)) (ip_cold (M 51) (M 52) m.toNatClampNeg) := by
    unfold g_hold
    rw [hci, hf2]
  have hk := (hv.2.2.2.1 i hi).1
  refine Exists.intro M (And.intro (And.intro rfl (And.intro hE (And.intro hv.2.1 hm))) ?_)
  rintro r S' ⟨rfl, rfl⟩
  rw [hf1]
  refine And.intro hin16 ?_
  refine Exists.intro M (And.intro (And.intro rfl (And.intro hE (And.intro hv.2.1 hm))) ?_)
  rintro r S' ⟨rfl, rfl⟩
  refine And.intro (fun q1 => ?_) (fun q1 => ?_)
  · refine And.intro hin4 ?_
    refine And.intro (fun q2 => ?_) (fun q2 => ?_)
    · refine And.intro hin4 ?_
      refine And.intro (fun q3 => ?_) (fun q3 => ?_)
      · refine And.intro ?_ rfl
        rw [e55] at q2 q3
        rw [hfin, ← ip_holdM hk, if_neg q3, if_neg (Int32.not_lt.mpr q2), if_neg (Int32.not_lt.mpr q1), e56]
      · rw [e55] at q2 q3
        rw [q3] at q2
        exact absurd q2 (by decide)
    · refine And.intro hin4 ?_
      refine And.intro hin4 ?_
      refine And.intro (fun q3 => ?_) (fun q3 => ?_)
      · refine And.intro ?_ rfl
        rw [e55] at q2 q3
        rw [hfin, ← ip_holdM hk, if_neg q3, if_pos (Int32.not_le.mp q2), if_neg (Int32.not_lt.mpr q1), e56, e57]
      · refine And.intro hin4 ?_
        refine And.intro (by decide) ?_
        refine And.intro ?_ rfl
        rw [e55] at q2 q3
        rw [hfin, ← ip_holdM hk, if_pos q3, if_pos (Int32.not_le.mp q2), if_neg (Int32.not_lt.mpr q1), e56, e57, e58]
  · refine And.intro (by decide) ?_
    refine And.intro hin4 ?_
    refine And.intro (fun q2 => ?_) (fun q2 => ?_)
    · refine And.intro hin4 ?_
      refine And.intro (fun q3 => ?_) (fun q3 => ?_)
      · refine And.intro ?_ rfl
        rw [e55] at q2 q3
        rw [hfin, ← ip_holdM hk, if_neg q3, if_neg (Int32.not_lt.mpr q2), if_pos (Int32.not_le.mp q1), e56]
      · rw [e55] at q2 q3
        rw [q3] at q2
        exact absurd q2 (by decide)
    · refine And.intro hin4 ?_
      refine And.intro hin4 ?_
      refine And.intro (fun q3 => ?_) (fun q3 => ?_)
      · refine And.intro ?_ rfl
        rw [e55] at q2 q3
        rw [hfin, ← ip_holdM hk, if_neg q3, if_pos (Int32.not_le.mp q2), if_pos (Int32.not_le.mp q1), e56, e57]
      · refine And.intro hin4 ?_
        refine And.intro (by decide) ?_
        refine And.intro ?_ rfl
        rw [e55] at q2 q3
        rw [hfin, ← ip_holdM hk, if_pos q3, if_pos (Int32.not_le.mp q2), if_pos (Int32.not_le.mp q1), e56, e57, e58]
theorem ctX5_holdOf (l : Launch) (M : ip_M) : ip_CT l yX5_holdOf wsX5_holdOf rmX5_holdOf ip_Sta (preX5_holdOf M) (postX5_holdOf M) := by
  refine ip_of (cc := cX5_holdOf) (maxL := 4) (ret := (some .int)) (by decide +kernel) rfl (fun _ => (0, 0)) rfl ?_ ?_
  · intro as S h
    obtain ⟨a, f, m, rfl, hq⟩ := ip_e_rii h
    exact ⟨Nat.le_of_ble_eq_true rfl, by simp⟩
  intro p e s m args below meth c D cA A ad0 as S h hI hx hb hml hown hts hr hlocks hname hA hNx
  obtain ⟨a, f, m, rfl, hq⟩ := ip_e_rii h
  refine ip_run_ok (stop := fun _ => false) (tX5_holdOf hx hb hml hown hts hr hlocks hname hA hNx) (fun _ _ _ _ h => False.elim h) 80 0 _ _ S ?_
  exact vX5_holdOf M a f m S hI hq
end
section
def preX5_hold (M : ip_M) : List ip_V → ip_S → Prop := ip_h_rii (fun _ => False) (fun a f m S => a = 50 ∧ ip_eM M S ∧ ip_VV M)
def postX5_hold (M : ip_M) : List ip_V → ip_S → List ip_V → ip_S → Prop := ip_h_rii (fun _ _ _ => True) (fun a f m S r S' => r = [.inl (if ip_isF M f ∧ 0 ≤ m ∧ m ≤ 299 then g_hold M f.toNatClampNeg m.toNatClampNeg else -100)] ∧ S' = (if ip_isF M f ∧ 0 ≤ m ∧ m ≤ 299 then ip_sJ S 50 27 (S.2.2.1 50 27 + g_tb M f.toNatClampNeg) else S))
theorem shX5_hold (M : ip_M) : ∀ as S, ip_Sta S → preX5_hold M as S → ∃ (b : Nat) (as' : List ip_V), as = .inr (.inl (some b)) :: as' ∧ as'.length = 2 ∧ (S.2.2.2 b).1 = 5 := by
  intro as S hI h
  obtain ⟨a, f, m, rfl, hq⟩ := ip_e_rii h
  exact ⟨_, _, rfl, rfl, by rw [hq.1, hI.1 50 (by decide)]; rfl⟩
def rmX5_hold : Room := { frames := 3, cells := 0, slots := 0, locals := 120 }
def pX5_hold (po : List ip_V → ip_S → Prop) : List (Nat × ip_T) := [(0, ip_t_ar 0 1), (1, ip_t_il 1 2), (2, ip_t_callG 2 preX5_isFluid postX5_isFluid 5), (5, ip_t_ifeq 19 8), (8, ip_t_il 2 9), (9, ip_t_ci 0 10), (10, ip_t_ci 299 13), (13, ip_t_call 3 preX5_in postX5_in 16), (16, ip_t_ifne 22 19), (19, ip_t_ci (-100) 21), (21, ip_t_iret po), (22, ip_t_ar 0 23), (23, ip_t_dup 24), (24, ip_t_gJ0 50 27 27), (27, ip_t_ar 0 28), (28, ip_t_gR0 50 55 31), (31, ip_t_il 1 32), (32, ip_t_ld 6 33), (33, ip_t_ifne 40 36), (36, ip_t_cl 1 37), (37, ip_t_go 59), (40, ip_t_ar 0 41), (41, ip_t_gR0 50 55 44), (44, ip_t_il 1 45), (45, ip_t_ld 6 46), (46, ip_t_ci 1 47), (47, ip_t_icne 56 50), (50, ip_t_cl 11 53), (53, ip_t_go 59), (56, ip_t_cl 111 59), (59, ip_t_ladd 60), (60, ip_t_pJ0 50 27 63), (63, ip_t_ar 0 64), (64, ip_t_il 1 65), (65, ip_t_il 2 66), (66, ip_t_callG 3 preX5_holdOf postX5_holdOf 69), (69, ip_t_iret po)]
set_option maxRecDepth 100000 in
set_option maxHeartbeats 4000000 in
theorem tX5_hold {p : Program} {l : Launch} {e : Env} {s : State} {m : MethodId} {args : Array Value} {below : List Frame} {meth : Method} {c : Code} {D : va_G} {cA : Nat → ClassId} {A : Nat → Prop} {ad0 : Nat → Nat} {S0 : ip_S} {po : List ip_V → ip_S → Prop} (hx : p.tables.exec = Jvm.exec) (hb : c.code = cX5_hold) (hml : c.maxLocals = 3) (hown : s.vm.findClass RX5 = some m.cls) (hts : ∀ w ∈ wsX5_hold, w.before args s = true) (hr : meth.sig.returnType = (some .int)) (hlocks : meth.locks = false) (hname : meth.name = yX5_hold.name) (hA : ∀ q, s.heap.size ≤ q → A q) (hNx : ip_Nx s) : ∀ q ∈ pX5_hold po, ip_snd p l e rmX5_hold s m args below meth c D cA A (MQ below (ip_Q ip_Sta D cA ad0 S0 A po) args s 0 0 A) 3 (fun _ => (0, 0)) ip_Sta ad0 S0 q.1 q.2 := by
  have hIs : ∀ S, ip_Sta S → ip_Sta S := fun _ h => h
  have hIn := ip_In_Sta
  have hS9 : CallFix p m c cX5_hold 3 s args wsX5_hold RX5 := ⟨hx, hb, hml, hown, hts⟩
  have hin5 : ∀ w ∈ u_ws RX5 TX5 32, w ∈ wsX5_hold := by decide +kernel
  refine List.forall_mem_cons.mpr ⟨ip_s_aload_n hx hb dX5_hold_0 rfl rfl, ?_⟩
  refine List.forall_mem_cons.mpr ⟨ip_s_iload_n hx hb dX5_hold_1 rfl rfl, ?_⟩
  refine List.forall_mem_cons.mpr ⟨ip_s_G (fun M => ip_s_callV hNx hS9 (ctX5_isFluid l M) (cwV 1 hts gX5_hold_X5_isFluid rfl rfl rfl (by decide +kernel) ⟨Nat.le_of_ble_eq_true rfl, Nat.le_of_ble_eq_true rfl⟩) (ci := 5) rfl rfl (by decide) (fun as S hI h => shX5_isFluid M as S hI h) hA dX5_hold_2 ⟨Nat.le_of_ble_eq_true rfl, Nat.le_of_ble_eq_true rfl⟩ rfl), ?_⟩
  refine List.forall_mem_cons.mpr ⟨ip_s_ifeq (t := 19) hx hb dX5_hold_5 (by decide) rfl rfl, ?_⟩
  refine List.forall_mem_cons.mpr ⟨ip_s_iload_n hx hb dX5_hold_8 rfl rfl, ?_⟩
  refine List.forall_mem_cons.mpr ⟨ip_s_iconst hx hb dX5_hold_9 rfl rfl, ?_⟩
  refine List.forall_mem_cons.mpr ⟨ip_s_sipush hx hb dX5_hold_10 rfl rfl, ?_⟩
  refine List.forall_mem_cons.mpr ⟨ip_s_callS hNx hS9 (ctX5_in l) (va_cwS 3 hts gX5_hold_X5_in rfl rfl rfl (by decide +kernel) ⟨Nat.le_of_ble_eq_true rfl, Nat.le_of_ble_eq_true rfl⟩) (fun as S hI h => shsX5_in as S hI h) hA dX5_hold_13 ⟨Nat.le_of_ble_eq_true rfl, Nat.le_of_ble_eq_true rfl⟩ rfl, ?_⟩
  refine List.forall_mem_cons.mpr ⟨ip_s_ifne (t := 22) hx hb dX5_hold_16 (by decide) rfl rfl, ?_⟩
  refine List.forall_mem_cons.mpr ⟨ip_s_bipush hx hb dX5_hold_19 rfl rfl, ?_⟩
  refine List.forall_mem_cons.mpr ⟨ip_s_iret hx hb hr hlocks (Nat.le_of_ble_eq_true rfl) (Nat.le_of_ble_eq_true rfl) dX5_hold_21, ?_⟩
  refine List.forall_mem_cons.mpr ⟨ip_s_aload_n hx hb dX5_hold_22 rfl rfl, ?_⟩
  refine List.forall_mem_cons.mpr ⟨ip_s_dup hx hb dX5_hold_23 rfl, ?_⟩
  refine List.forall_mem_cons.mpr ⟨ip_s_gJ0 hx hb hts hin5 hown rfl (by decide) 27 (by decide) (hts (.fieldLink RX5 108 "IcePadsModel" "trace" "J") (by decide +kernel)) (fun _ h9 => h9) hIs 50 rfl rfl dX5_hold_24 rfl, ?_⟩
  refine List.forall_mem_cons.mpr ⟨ip_s_aload_n hx hb dX5_hold_27 rfl rfl, ?_⟩
  refine List.forall_mem_cons.mpr ⟨ip_s_gR0 hx hb hts hin5 hown rfl (by decide) 5 (by decide) (hts (.fieldLink RX5 20 "IcePadsModel" "kind" "[I") (by decide +kernel)) (fun _ h9 => h9) hIs 50 55 rfl (by decide) rfl dX5_hold_28 rfl, ?_⟩
  refine List.forall_mem_cons.mpr ⟨ip_s_iload_n hx hb dX5_hold_31 rfl rfl, ?_⟩
  refine List.forall_mem_cons.mpr ⟨ip_s_ldi hx hb hIs dX5_hold_32 rfl, ?_⟩
  refine List.forall_mem_cons.mpr ⟨ip_s_ifne (t := 40) hx hb dX5_hold_33 (by decide) rfl rfl, ?_⟩
  refine List.forall_mem_cons.mpr ⟨ip_s_lconst hx hb dX5_hold_36 rfl rfl, ?_⟩
  refine List.forall_mem_cons.mpr ⟨ip_s_go (t := 59) hx hb dX5_hold_37 (by decide) (Nat.le_of_ble_eq_true rfl) (Nat.le_of_ble_eq_true rfl), ?_⟩
  refine List.forall_mem_cons.mpr ⟨ip_s_aload_n hx hb dX5_hold_40 rfl rfl, ?_⟩
  refine List.forall_mem_cons.mpr ⟨ip_s_gR0 hx hb hts hin5 hown rfl (by decide) 5 (by decide) (hts (.fieldLink RX5 20 "IcePadsModel" "kind" "[I") (by decide +kernel)) (fun _ h9 => h9) hIs 50 55 rfl (by decide) rfl dX5_hold_41 rfl, ?_⟩
  refine List.forall_mem_cons.mpr ⟨ip_s_iload_n hx hb dX5_hold_44 rfl rfl, ?_⟩
  refine List.forall_mem_cons.mpr ⟨ip_s_ldi hx hb hIs dX5_hold_45 rfl, ?_⟩
  refine List.forall_mem_cons.mpr ⟨ip_s_iconst hx hb dX5_hold_46 rfl rfl, ?_⟩
  refine List.forall_mem_cons.mpr ⟨ip_s_icne (t := 56) hx hb dX5_hold_47 (by decide) rfl rfl, ?_⟩
  refine List.forall_mem_cons.mpr ⟨ip_s_ldc2 hx hb hown (hts (.constantLong RX5 112 (11)) (by decide +kernel)) dX5_hold_50 rfl, ?_⟩
  refine List.forall_mem_cons.mpr ⟨ip_s_go (t := 59) hx hb dX5_hold_53 (by decide) (Nat.le_of_ble_eq_true rfl) (Nat.le_of_ble_eq_true rfl), ?_⟩
  refine List.forall_mem_cons.mpr ⟨ip_s_ldc2 hx hb hown (hts (.constantLong RX5 114 (111)) (by decide +kernel)) dX5_hold_56 rfl, ?_⟩
  refine List.forall_mem_cons.mpr ⟨ip_s_ladd hx hb dX5_hold_59 rfl, ?_⟩
  refine List.forall_mem_cons.mpr ⟨ip_s_pJ0 hx hb hts hin5 hown rfl (by decide) 27 (by decide) (hts (.fieldLink RX5 108 "IcePadsModel" "trace" "J") (by decide +kernel)) (fun _ h9 => h9) tyX5 tyX5_ok nmX5 hIn hIs 50 rfl rfl rfl (by decide +kernel) dX5_hold_60 rfl, ?_⟩
  refine List.forall_mem_cons.mpr ⟨ip_s_aload_n hx hb dX5_hold_63 rfl rfl, ?_⟩
  refine List.forall_mem_cons.mpr ⟨ip_s_iload_n hx hb dX5_hold_64 rfl rfl, ?_⟩
  refine List.forall_mem_cons.mpr ⟨ip_s_iload_n hx hb dX5_hold_65 rfl rfl, ?_⟩
  refine List.forall_mem_cons.mpr ⟨ip_s_G (fun M => ip_s_callV hNx hS9 (ctX5_holdOf l M) (cwV 2 hts gX5_hold_X5_holdOf rfl rfl rfl (by decide +kernel) ⟨Nat.le_of_ble_eq_true rfl, Nat.le_of_ble_eq_true rfl⟩) (ci := 5) rfl rfl (by decide) (fun as S hI h => shX5_holdOf M as S hI h) hA dX5_hold_66 ⟨Nat.le_of_ble_eq_true rfl, Nat.le_of_ble_eq_true rfl⟩ rfl), ?_⟩
  refine List.forall_mem_cons.mpr ⟨ip_s_iret hx hb hr hlocks (Nat.le_of_ble_eq_true rfl) (Nat.le_of_ble_eq_true rfl) dX5_hold_69, ?_⟩
  exact fun _ h => absurd h List.not_mem_nil
set_option maxRecDepth 100000 in
set_option maxHeartbeats 4000000 in
theorem vX5_hold (M : ip_M) (a : Nat) (f : Int32) (m : Int32) (S : ip_S) (hS : ip_Sta S) (hp : a = 50 ∧ ip_eM M S ∧ ip_VV M) : ip_run (pX5_hold (postX5_hold M [.inr (.inl (some a)), .inl f, .inl m] S)) (fun _ => false) (fun _ _ _ _ => False) 70 0 [some (.inr (.inl (some a))), some (.inl f), some (.inl m)] [] S := by
  obtain ⟨rfl, hE, nf, nj, np, hv⟩ := hp
  refine Exists.intro M (And.intro (And.intro rfl hE) ?_)
  rintro r S' ⟨rfl, rfl⟩
  refine And.intro (fun q1 => ?_) (fun q1 => ?_)
  · have q1 := ip_if0 q1
    refine And.intro ?_ ?_ <;> rw [if_neg (fun z => q1 z.1)]
  have q1 := ip_if1 q1
  refine And.intro trivial ?_
  rintro r S' ⟨rfl, rfl⟩
  refine And.intro (fun q2 => ?_) (fun q2 => ?_)
  · have q2 := ip_if1 q2
    obtain ⟨i, hi, rfl⟩ := (ip_isF_vv hv f).mp q1
    obtain ⟨hin4, hci⟩ := ip_inN (N := 4) hi hv.1.2.1 (by decide)
    have e55 : S'.1 55 (nI i).toNatClampNeg = M 55 i := by rw [hci]; exact congrFun (hE 55 (by decide)) _
    refine And.intro hin4 ?_
    refine And.intro (fun q3 => ?_) (fun q3 => ?_)
    · rw [e55] at q3
      refine And.intro hin4 ?_
      refine And.intro (fun q4 => ?_) (fun q4 => ?_)
      · rw [e55] at q4
        refine Exists.intro M (And.intro (And.intro rfl (And.intro hE (And.intro ⟨nf, nj, np, hv, i, hi, rfl⟩ q2))) ?_)
        rintro r S' ⟨rfl, rfl⟩
        refine And.intro ?_ ?_
        · rw [if_pos ⟨q1, q2⟩]
        · rw [if_pos ⟨q1, q2⟩]
          unfold g_tb
          rw [hci, if_neg q3, if_neg q4]
      · rw [e55] at q4
        refine Exists.intro M (And.intro (And.intro rfl (And.intro hE (And.intro ⟨nf, nj, np, hv, i, hi, rfl⟩ q2))) ?_)
        rintro r S' ⟨rfl, rfl⟩
        refine And.intro ?_ ?_
        · rw [if_pos ⟨q1, q2⟩]
        · rw [if_pos ⟨q1, q2⟩]
          unfold g_tb
          rw [hci, if_neg q3, if_pos q4]
    · rw [e55] at q3
      refine Exists.intro M (And.intro (And.intro rfl (And.intro hE (And.intro ⟨nf, nj, np, hv, i, hi, rfl⟩ q2))) ?_)
      rintro r S' ⟨rfl, rfl⟩
      refine And.intro ?_ ?_
      · rw [if_pos ⟨q1, q2⟩]
      · rw [if_pos ⟨q1, q2⟩]
        unfold g_tb
        rw [hci, if_pos q3]
  · have q2 := ip_if0 q2
    refine And.intro ?_ ?_ <;> rw [if_neg (fun z => q2 z.2)]
theorem ctX5_hold (l : Launch) (M : ip_M) : ip_CT l yX5_hold wsX5_hold rmX5_hold ip_Sta (preX5_hold M) (postX5_hold M) := by
  refine ip_of (cc := cX5_hold) (maxL := 3) (ret := (some .int)) (by decide +kernel) rfl (fun _ => (0, 0)) rfl ?_ ?_
  · intro as S h
    obtain ⟨a, f, m, rfl, hq⟩ := ip_e_rii h
    exact ⟨Nat.le_of_ble_eq_true rfl, by simp⟩
  intro p e s m args below meth c D cA A ad0 as S h hI hx hb hml hown hts hr hlocks hname hA hNx
  obtain ⟨a, f, m, rfl, hq⟩ := ip_e_rii h
  refine ip_run_ok (stop := fun _ => false) (tX5_hold hx hb hml hown hts hr hlocks hname hA hNx) (fun _ _ _ _ h => False.elim h) 70 0 _ _ S ?_
  exact vX5_hold M a f m S hI hq

def preX5_fill (M : ip_M) : List ip_V → ip_S → Prop := ip_h_rii (fun _ => False) (fun a f n S => a = 50 ∧ ip_eM M S ∧ ip_VV M)
def postX5_fill (M : ip_M) : List ip_V → ip_S → List ip_V → ip_S → Prop := ip_h_rii (fun _ _ _ => True) (fun a f n S r S' => r = [.inl (g_fill M f n).1] ∧ ip_EM (g_fill M f n).2 S S')
theorem shX5_fill (M : ip_M) : ∀ as S, ip_Sta S → preX5_fill M as S → ∃ (b : Nat) (as' : List ip_V), as = .inr (.inl (some b)) :: as' ∧ as'.length = 2 ∧ (S.2.2.2 b).1 = 5 := by
  intro as S hI h
  obtain ⟨a, f, n, rfl, hq⟩ := ip_e_rii h
  exact ⟨_, _, rfl, rfl, by rw [hq.1, hI.1 50 (by decide)]; rfl⟩
def rmX5_fill : Room := { frames := 3, cells := 0, slots := 0, locals := 120 }
def pX5_fill (po : List ip_V → ip_S → Prop) : List (Nat × ip_T) := [(0, ip_t_ar 0 1), (1, ip_t_il 1 2), (2, ip_t_callG 2 preX5_isFluid postX5_isFluid 5), (5, ip_t_ifeq 19 8), (8, ip_t_il 2 9), (9, ip_t_ci 0 10), (10, ip_t_ci 2000 13), (13, ip_t_call 3 preX5_in postX5_in 16), (16, ip_t_ifne 22 19), (19, ip_t_ci (-100) 21), (21, ip_t_iret po), (22, ip_t_ar 0 23), (23, ip_t_gR0 50 59 26), (26, ip_t_il 1 27), (27, ip_t_ld 6 28), (28, ip_t_is 3 29), (29, ip_t_ar 0 30), (30, ip_t_gR0 50 59 33), (33, ip_t_il 1 34), (34, ip_t_il 2 35), (35, ip_t_st 36), (36, ip_t_il 3 37), (37, ip_t_iret po)]
set_option maxRecDepth 100000 in
set_option maxHeartbeats 4000000 in
theorem tX5_fill {p : Program} {l : Launch} {e : Env} {s : State} {m : MethodId} {args : Array Value} {below : List Frame} {meth : Method} {c : Code} {D : va_G} {cA : Nat → ClassId} {A : Nat → Prop} {ad0 : Nat → Nat} {S0 : ip_S} {po : List ip_V → ip_S → Prop} (hx : p.tables.exec = Jvm.exec) (hb : c.code = cX5_fill) (hml : c.maxLocals = 4) (hown : s.vm.findClass RX5 = some m.cls) (hts : ∀ w ∈ wsX5_fill, w.before args s = true) (hr : meth.sig.returnType = (some .int)) (hlocks : meth.locks = false) (hname : meth.name = yX5_fill.name) (hA : ∀ q, s.heap.size ≤ q → A q) (hNx : ip_Nx s) : ∀ q ∈ pX5_fill po, ip_snd p l e rmX5_fill s m args below meth c D cA A (MQ below (ip_Q ip_Sta D cA ad0 S0 A po) args s 0 0 A) 4 (fun _ => (0, 0)) ip_Sta ad0 S0 q.1 q.2 := by
  have hIs : ∀ S, ip_Sta S → ip_Sta S := fun _ h => h
  have hIn := ip_In_Sta
  have hS9 : CallFix p m c cX5_fill 4 s args wsX5_fill RX5 := ⟨hx, hb, hml, hown, hts⟩
  have hin5 : ∀ w ∈ u_ws RX5 TX5 32, w ∈ wsX5_fill := by decide +kernel
  refine List.forall_mem_cons.mpr ⟨ip_s_aload_n hx hb dX5_fill_0 rfl rfl, ?_⟩
  refine List.forall_mem_cons.mpr ⟨ip_s_iload_n hx hb dX5_fill_1 rfl rfl, ?_⟩
  refine List.forall_mem_cons.mpr ⟨ip_s_G (fun M => ip_s_callV hNx hS9 (ctX5_isFluid l M) (cwV 1 hts gX5_fill_X5_isFluid rfl rfl rfl (by decide +kernel) ⟨Nat.le_of_ble_eq_true rfl, Nat.le_of_ble_eq_true rfl⟩) (ci := 5) rfl rfl (by decide) (fun as S hI h => shX5_isFluid M as S hI h) hA dX5_fill_2 ⟨Nat.le_of_ble_eq_true rfl, Nat.le_of_ble_eq_true rfl⟩ rfl), ?_⟩
  refine List.forall_mem_cons.mpr ⟨ip_s_ifeq (t := 19) hx hb dX5_fill_5 (by decide) rfl rfl, ?_⟩
  refine List.forall_mem_cons.mpr ⟨ip_s_iload_n hx hb dX5_fill_8 rfl rfl, ?_⟩
  refine List.forall_mem_cons.mpr ⟨ip_s_iconst hx hb dX5_fill_9 rfl rfl, ?_⟩
  refine List.forall_mem_cons.mpr ⟨ip_s_sipush hx hb dX5_fill_10 rfl rfl, ?_⟩
  refine List.forall_mem_cons.mpr ⟨ip_s_callS hNx hS9 (ctX5_in l) (va_cwS 3 hts gX5_fill_X5_in rfl rfl rfl (by decide +kernel) ⟨Nat.le_of_ble_eq_true rfl, Nat.le_of_ble_eq_true rfl⟩) (fun as S hI h => shsX5_in as S hI h) hA dX5_fill_13 ⟨Nat.le_of_ble_eq_true rfl, Nat.le_of_ble_eq_true rfl⟩ rfl, ?_⟩
  refine List.forall_mem_cons.mpr ⟨ip_s_ifne (t := 22) hx hb dX5_fill_16 (by decide) rfl rfl, ?_⟩
  refine List.forall_mem_cons.mpr ⟨ip_s_bipush hx hb dX5_fill_19 rfl rfl, ?_⟩
  refine List.forall_mem_cons.mpr ⟨ip_s_iret hx hb hr hlocks (Nat.le_of_ble_eq_true rfl) (Nat.le_of_ble_eq_true rfl) dX5_fill_21, ?_⟩
  refine List.forall_mem_cons.mpr ⟨ip_s_aload_n hx hb dX5_fill_22 rfl rfl, ?_⟩
  refine List.forall_mem_cons.mpr ⟨ip_s_gR0 hx hb hts hin5 hown rfl (by decide) 9 (by decide) (hts (.fieldLink RX5 32 "IcePadsModel" "litres" "[I") (by decide +kernel)) (fun _ h9 => h9) hIs 50 59 rfl (by decide) rfl dX5_fill_23 rfl, ?_⟩
  refine List.forall_mem_cons.mpr ⟨ip_s_iload_n hx hb dX5_fill_26 rfl rfl, ?_⟩
  refine List.forall_mem_cons.mpr ⟨ip_s_ldi hx hb hIs dX5_fill_27 rfl, ?_⟩
  refine List.forall_mem_cons.mpr ⟨ip_s_istore_n hx hb dX5_fill_28 rfl (by decide) rfl, ?_⟩
  refine List.forall_mem_cons.mpr ⟨ip_s_aload_n hx hb dX5_fill_29 rfl rfl, ?_⟩
  refine List.forall_mem_cons.mpr ⟨ip_s_gR0 hx hb hts hin5 hown rfl (by decide) 9 (by decide) (hts (.fieldLink RX5 32 "IcePadsModel" "litres" "[I") (by decide +kernel)) (fun _ h9 => h9) hIs 50 59 rfl (by decide) rfl dX5_fill_30 rfl, ?_⟩
  refine List.forall_mem_cons.mpr ⟨ip_s_iload_n hx hb dX5_fill_33 rfl rfl, ?_⟩
  refine List.forall_mem_cons.mpr ⟨ip_s_iload_n hx hb dX5_fill_34 rfl rfl, ?_⟩
  refine List.forall_mem_cons.mpr ⟨ip_s_sti hx hb hIn hIs dX5_fill_35 rfl, ?_⟩
  refine List.forall_mem_cons.mpr ⟨ip_s_iload_n hx hb dX5_fill_36 rfl rfl, ?_⟩
  refine List.forall_mem_cons.mpr ⟨ip_s_iret hx hb hr hlocks (Nat.le_of_ble_eq_true rfl) (Nat.le_of_ble_eq_true rfl) dX5_fill_37, ?_⟩
  exact fun _ h => absurd h List.not_mem_nil
set_option maxRecDepth 100000 in
set_option maxHeartbeats 4000000 in
theorem vX5_fill (M : ip_M) (a : Nat) (f : Int32) (n : Int32) (S : ip_S) (hS : ip_Sta S) (hp : a = 50 ∧ ip_eM M S ∧ ip_VV M) : ip_run (pX5_fill (postX5_fill M [.inr (.inl (some a)), .inl f, .inl n] S)) (fun _ => false) (fun _ _ _ _ => False) 60 0 [some (.inr (.inl (some a))), some (.inl f), some (.inl n), none] [] S := by
  obtain ⟨rfl, hE, nf, nj, np, hv⟩ := hp
  refine Exists.intro M (And.intro (And.intro rfl hE) ?_)
  rintro r S' ⟨rfl, rfl⟩
  refine And.intro (fun q1 => ?_) (fun q1 => ?_)
  · have q1 := ip_if0 q1
    refine And.intro ?_ ?_ <;> unfold g_fill <;> rw [if_neg (fun z => q1 z.1)]
    exact ip_EM.rf hE
  have q1 := ip_if1 q1
  refine And.intro trivial ?_
  rintro r S' ⟨rfl, rfl⟩
  refine And.intro (fun q2 => ?_) (fun q2 => ?_)
  · have q2 := ip_if1 q2
    obtain ⟨i, hi, rfl⟩ := (ip_isF_vv hv f).mp q1
    obtain ⟨hin4, hci⟩ := ip_inN (N := 4) hi hv.1.2.1 (by decide)
    have e59 : S'.1 59 (nI i).toNatClampNeg = M 59 (nI i).toNatClampNeg := congrFun (hE 59 (by decide)) _
    refine And.intro hin4 ?_
    refine And.intro hin4 ?_
    refine And.intro ?_ ?_ <;> unfold g_fill <;> rw [if_pos ⟨q1, q2⟩]
    · rw [e59]
    · exact (ip_EM.rf hE).u (by decide) _ _
  · have q2 := ip_if0 q2
    refine And.intro ?_ ?_ <;> unfold g_fill <;> rw [if_neg (fun z => q2 z.2)]
    exact ip_EM.rf hE
theorem ctX5_fill (l : Launch) (M : ip_M) : ip_CT l yX5_fill wsX5_fill rmX5_fill ip_Sta (preX5_fill M) (postX5_fill M) := by
  refine ip_of (cc := cX5_fill) (maxL := 4) (ret := (some .int)) (by decide +kernel) rfl (fun _ => (0, 0)) rfl ?_ ?_
  · intro as S h
    obtain ⟨a, f, n, rfl, hq⟩ := ip_e_rii h
    exact ⟨Nat.le_of_ble_eq_true rfl, by simp⟩
  intro p e s m args below meth c D cA A ad0 as S h hI hx hb hml hown hts hr hlocks hname hA hNx
  obtain ⟨a, f, n, rfl, hq⟩ := ip_e_rii h
  refine ip_run_ok (stop := fun _ => false) (tX5_fill hx hb hml hown hts hr hlocks hname hA hNx) (fun _ _ _ _ h => False.elim h) 60 0 _ _ S ?_
  exact vX5_fill M a f n S hI hq

def preX5_litres (M : ip_M) : List ip_V → ip_S → Prop := ip_h_ri (fun _ => False) (fun a f S => a = 50 ∧ ip_eM M S ∧ ip_VV M)
def postX5_litres (M : ip_M) : List ip_V → ip_S → List ip_V → ip_S → Prop := ip_h_ri (fun _ _ _ => True) (fun a f S r S' => r = [.inl (g_litres M f)] ∧ S' = S)
theorem shX5_litres (M : ip_M) : ∀ as S, ip_Sta S → preX5_litres M as S → ∃ (b : Nat) (as' : List ip_V), as = .inr (.inl (some b)) :: as' ∧ as'.length = 1 ∧ (S.2.2.2 b).1 = 5 := by
  intro as S hI h
  obtain ⟨a, f, rfl, hq⟩ := ip_e_ri h
  exact ⟨_, _, rfl, rfl, by rw [hq.1, hI.1 50 (by decide)]; rfl⟩
def rmX5_litres : Room := { frames := 3, cells := 0, slots := 0, locals := 120 }
def pX5_litres (po : List ip_V → ip_S → Prop) : List (Nat × ip_T) := [(0, ip_t_ar 0 1), (1, ip_t_il 1 2), (2, ip_t_callG 2 preX5_isFluid postX5_isFluid 5), (5, ip_t_ifeq 17 8), (8, ip_t_ar 0 9), (9, ip_t_gR0 50 59 12), (12, ip_t_il 1 13), (13, ip_t_ld 6 14), (14, ip_t_go 19), (17, ip_t_ci (-100) 19), (19, ip_t_iret po)]
set_option maxRecDepth 100000 in
set_option maxHeartbeats 4000000 in
theorem tX5_litres {p : Program} {l : Launch} {e : Env} {s : State} {m : MethodId} {args : Array Value} {below : List Frame} {meth : Method} {c : Code} {D : va_G} {cA : Nat → ClassId} {A : Nat → Prop} {ad0 : Nat → Nat} {S0 : ip_S} {po : List ip_V → ip_S → Prop} (hx : p.tables.exec = Jvm.exec) (hb : c.code = cX5_litres) (hml : c.maxLocals = 2) (hown : s.vm.findClass RX5 = some m.cls) (hts : ∀ w ∈ wsX5_litres, w.before args s = true) (hr : meth.sig.returnType = (some .int)) (hlocks : meth.locks = false) (hname : meth.name = yX5_litres.name) (hA : ∀ q, s.heap.size ≤ q → A q) (hNx : ip_Nx s) : ∀ q ∈ pX5_litres po, ip_snd p l e rmX5_litres s m args below meth c D cA A (MQ below (ip_Q ip_Sta D cA ad0 S0 A po) args s 0 0 A) 2 (fun _ => (0, 0)) ip_Sta ad0 S0 q.1 q.2 := by
  have hIs : ∀ S, ip_Sta S → ip_Sta S := fun _ h => h
  have hIn := ip_In_Sta
  have hS9 : CallFix p m c cX5_litres 2 s args wsX5_litres RX5 := ⟨hx, hb, hml, hown, hts⟩
  have hin5 : ∀ w ∈ u_ws RX5 TX5 32, w ∈ wsX5_litres := by decide +kernel
  refine List.forall_mem_cons.mpr ⟨ip_s_aload_n hx hb dX5_litres_0 rfl rfl, ?_⟩
  refine List.forall_mem_cons.mpr ⟨ip_s_iload_n hx hb dX5_litres_1 rfl rfl, ?_⟩
  refine List.forall_mem_cons.mpr ⟨ip_s_G (fun M => ip_s_callV hNx hS9 (ctX5_isFluid l M) (cwV 1 hts gX5_litres_X5_isFluid rfl rfl rfl (by decide +kernel) ⟨Nat.le_of_ble_eq_true rfl, Nat.le_of_ble_eq_true rfl⟩) (ci := 5) rfl rfl (by decide) (fun as S hI h => shX5_isFluid M as S hI h) hA dX5_litres_2 ⟨Nat.le_of_ble_eq_true rfl, Nat.le_of_ble_eq_true rfl⟩ rfl), ?_⟩
  refine List.forall_mem_cons.mpr ⟨ip_s_ifeq (t := 17) hx hb dX5_litres_5 (by decide) rfl rfl, ?_⟩
  refine List.forall_mem_cons.mpr ⟨ip_s_aload_n hx hb dX5_litres_8 rfl rfl, ?_⟩
  refine List.forall_mem_cons.mpr ⟨ip_s_gR0 hx hb hts hin5 hown rfl (by decide) 9 (by decide) (hts (.fieldLink RX5 32 "IcePadsModel" "litres" "[I") (by decide +kernel)) (fun _ h9 => h9) hIs 50 59 rfl (by decide) rfl dX5_litres_9 rfl, ?_⟩
  refine List.forall_mem_cons.mpr ⟨ip_s_iload_n hx hb dX5_litres_12 rfl rfl, ?_⟩
  refine List.forall_mem_cons.mpr ⟨ip_s_ldi hx hb hIs dX5_litres_13 rfl, ?_⟩
  refine List.forall_mem_cons.mpr ⟨ip_s_go (t := 19) hx hb dX5_litres_14 (by decide) (Nat.le_of_ble_eq_true rfl) (Nat.le_of_ble_eq_true rfl), ?_⟩
  refine List.forall_mem_cons.mpr ⟨ip_s_bipush hx hb dX5_litres_17 rfl rfl, ?_⟩
  refine List.forall_mem_cons.mpr ⟨ip_s_iret hx hb hr hlocks (Nat.le_of_ble_eq_true rfl) (Nat.le_of_ble_eq_true rfl) dX5_litres_19, ?_⟩
  exact fun _ h => absurd h List.not_mem_nil
set_option maxRecDepth 100000 in
set_option maxHeartbeats 4000000 in
theorem vX5_litres (M : ip_M) (a : Nat) (f : Int32) (S : ip_S) (hS : ip_Sta S) (hp : a = 50 ∧ ip_eM M S ∧ ip_VV M) : ip_run (pX5_litres (postX5_litres M [.inr (.inl (some a)), .inl f] S)) (fun _ => false) (fun _ _ _ _ => False) 40 0 [some (.inr (.inl (some a))), some (.inl f)] [] S := by
  obtain ⟨rfl, hE, nf, nj, np, hv⟩ := hp
  refine Exists.intro M (And.intro (And.intro rfl hE) ?_)
  rintro r S' ⟨rfl, rfl⟩
  refine And.intro (fun q1 => ?_) (fun q1 => ?_)
  · have q1 := ip_if0 q1
    refine And.intro ?_ rfl
    unfold g_litres
    rw [if_neg q1]
  have q1 := ip_if1 q1
  obtain ⟨i, hi, rfl⟩ := (ip_isF_vv hv f).mp q1
  obtain ⟨hin4, hci⟩ := ip_inN (N := 4) hi hv.1.2.1 (by decide)
  have e59 : S'.1 59 (nI i).toNatClampNeg = M 59 (nI i).toNatClampNeg := congrFun (hE 59 (by decide)) _
  refine And.intro hin4 ?_
  refine And.intro ?_ rfl
  unfold g_litres
  rw [if_pos q1, e59]
theorem ctX5_litres (l : Launch) (M : ip_M) : ip_CT l yX5_litres wsX5_litres rmX5_litres ip_Sta (preX5_litres M) (postX5_litres M) := by
  refine ip_of (cc := cX5_litres) (maxL := 2) (ret := (some .int)) (by decide +kernel) rfl (fun _ => (0, 0)) rfl ?_ ?_
  · intro as S h
    obtain ⟨a, f, rfl, hq⟩ := ip_e_ri h
    exact ⟨Nat.le_of_ble_eq_true rfl, by simp⟩
  intro p e s m args below meth c D cA A ad0 as S h hI hx hb hml hown hts hr hlocks hname hA hNx
  obtain ⟨a, f, rfl, hq⟩ := ip_e_ri h
  refine ip_run_ok (stop := fun _ => false) (tX5_litres hx hb hml hown hts hr hlocks hname hA hNx) (fun _ _ _ _ h => False.elim h) 40 0 _ _ S ?_
  exact vX5_litres M a f S hI hq

def preX5_trace : List ip_V → ip_S → Prop := ip_h_r (fun _ => False) (fun a S => a = 50 ∧ True)
def postX5_trace : List ip_V → ip_S → List ip_V → ip_S → Prop := ip_h_r (fun _ _ _ => True) (fun a S r S' => r = [.inr (.inr (S.2.2.1 50 27))] ∧ S' = S)
theorem shX5_trace : ∀ as S, ip_Sta S → preX5_trace as S → ∃ (b : Nat) (as' : List ip_V), as = .inr (.inl (some b)) :: as' ∧ as'.length = 0 ∧ (S.2.2.2 b).1 = 5 := by
  intro as S hI h
  obtain ⟨a, rfl, hq⟩ := ip_e_r h
  exact ⟨_, _, rfl, rfl, by rw [hq.1, hI.1 50 (by decide)]; rfl⟩
def rmX5_trace : Room := { frames := 1, cells := 0, slots := 0, locals := 40 }
def pX5_trace (po : List ip_V → ip_S → Prop) : List (Nat × ip_T) := [(0, ip_t_ar 0 1), (1, ip_t_gJ0 50 27 4), (4, ip_t_lret po)]
set_option maxRecDepth 100000 in
set_option maxHeartbeats 4000000 in
theorem tX5_trace {p : Program} {l : Launch} {e : Env} {s : State} {m : MethodId} {args : Array Value} {below : List Frame} {meth : Method} {c : Code} {D : va_G} {cA : Nat → ClassId} {A : Nat → Prop} {ad0 : Nat → Nat} {S0 : ip_S} {po : List ip_V → ip_S → Prop} (hx : p.tables.exec = Jvm.exec) (hb : c.code = cX5_trace) (hml : c.maxLocals = 1) (hown : s.vm.findClass RX5 = some m.cls) (hts : ∀ w ∈ wsX5_trace, w.before args s = true) (hr : meth.sig.returnType = (some .long)) (hlocks : meth.locks = false) (hname : meth.name = yX5_trace.name) (hA : ∀ q, s.heap.size ≤ q → A q) (hNx : ip_Nx s) : ∀ q ∈ pX5_trace po, ip_snd p l e rmX5_trace s m args below meth c D cA A (MQ below (ip_Q ip_Sta D cA ad0 S0 A po) args s 0 0 A) 1 (fun _ => (0, 0)) ip_Sta ad0 S0 q.1 q.2 := by
  have hIs : ∀ S, ip_Sta S → ip_Sta S := fun _ h => h
  have hIn := ip_In_Sta
  have hS9 : CallFix p m c cX5_trace 1 s args wsX5_trace RX5 := ⟨hx, hb, hml, hown, hts⟩
  have hin5 : ∀ w ∈ u_ws RX5 TX5 32, w ∈ wsX5_trace := by decide +kernel
  refine List.forall_mem_cons.mpr ⟨ip_s_aload_n hx hb dX5_trace_0 rfl rfl, ?_⟩
  refine List.forall_mem_cons.mpr ⟨ip_s_gJ0 hx hb hts hin5 hown rfl (by decide) 27 (by decide) (hts (.fieldLink RX5 108 "IcePadsModel" "trace" "J") (by decide +kernel)) (fun _ h9 => h9) hIs 50 rfl rfl dX5_trace_1 rfl, ?_⟩
  refine List.forall_mem_cons.mpr ⟨ip_s_lret hx hb hr hlocks (Nat.le_of_ble_eq_true rfl) (Nat.le_of_ble_eq_true rfl) dX5_trace_4, ?_⟩
  exact fun _ h => absurd h List.not_mem_nil
set_option maxRecDepth 100000 in
set_option maxHeartbeats 4000000 in
theorem vX5_trace (a : Nat) (S : ip_S) (hS : ip_Sta S) (hp : a = 50 ∧ True) : ip_run (pX5_trace (postX5_trace [.inr (.inl (some a))] S)) (fun _ => false) (fun _ _ _ _ => False) 20 0 [some (.inr (.inl (some a)))] [] S := by
  obtain ⟨rfl, -⟩ := hp
  exact And.intro rfl rfl
theorem ctX5_trace (l : Launch) : ip_CT l yX5_trace wsX5_trace rmX5_trace ip_Sta (preX5_trace) (postX5_trace) := by
  refine ip_of (cc := cX5_trace) (maxL := 1) (ret := (some .long)) (by decide +kernel) rfl (fun _ => (0, 0)) rfl ?_ ?_
  · intro as S h
    obtain ⟨a, rfl, hq⟩ := ip_e_r h
    exact ⟨Nat.le_of_ble_eq_true rfl, by simp⟩
  intro p e s m args below meth c D cA A ad0 as S h hI hx hb hml hown hts hr hlocks hname hA hNx
  obtain ⟨a, rfl, hq⟩ := ip_e_r h
  refine ip_run_ok (stop := fun _ => false) (tX5_trace hx hb hml hown hts hr hlocks hname hA hNx) (fun _ _ _ _ h => False.elim h) 20 0 _ _ S ?_
  exact vX5_trace a S hI hq

def preX5_set (M : ip_M) : List ip_V → ip_S → Prop := ip_h_rii (fun _ => False) (fun a w v S => a = 50 ∧ ip_eM M S)
def postX5_set (M : ip_M) : List ip_V → ip_S → List ip_V → ip_S → Prop := ip_h_rii (fun _ _ _ => True) (fun a w v S r S' => r = [.inl (g_set M w v).1] ∧ ip_EM (g_set M w v).2 S S')
theorem shX5_set (M : ip_M) : ∀ as S, ip_Sta S → preX5_set M as S → ∃ (b : Nat) (as' : List ip_V), as = .inr (.inl (some b)) :: as' ∧ as'.length = 2 ∧ (S.2.2.2 b).1 = 5 := by
  intro as S hI h
  obtain ⟨a, w, v, rfl, hq⟩ := ip_e_rii h
  exact ⟨_, _, rfl, rfl, by rw [hq.1, hI.1 50 (by decide)]; rfl⟩
def rmX5_set : Room := { frames := 2, cells := 0, slots := 0, locals := 80 }
def pX5_set (po : List ip_V → ip_S → Prop) : List (Nat × ip_T) := [(0, ip_t_ci (-100) 2), (2, ip_t_is 3 3), (3, ip_t_il 1 4), (4, ip_t_ifne 56 7), (7, ip_t_il 2 8), (8, ip_t_ci 1 9), (9, ip_t_ci 3 10), (10, ip_t_call 3 preX5_in postX5_in 13), (13, ip_t_ifeq 56 16), (16, ip_t_ar 0 17), (17, ip_t_gR0 50 64 20), (20, ip_t_ci 0 21), (21, ip_t_ld 6 22), (22, ip_t_ar 0 23), (23, ip_t_gR0 50 64 26), (26, ip_t_ci 1 27), (27, ip_t_ld 6 28), (28, ip_t_iadd 29), (29, ip_t_ar 0 30), (30, ip_t_gR0 50 64 33), (33, ip_t_ci 2 34), (34, ip_t_ld 6 35), (35, ip_t_iadd 36), (36, ip_t_ifle 43 39), (39, ip_t_ci (-200) 42), (42, ip_t_iret po), (43, ip_t_ar 0 44), (44, ip_t_gI0 50 10 47), (47, ip_t_is 3 48), (48, ip_t_ar 0 49), (49, ip_t_il 2 50), (50, ip_t_pI0 50 10 53), (53, ip_t_go 111), (56, ip_t_il 1 57), (57, ip_t_ci 1 58), (58, ip_t_icne 86 61), (61, ip_t_il 2 62), (62, ip_t_ci 10 64), (64, ip_t_ci 1000 67), (67, ip_t_call 3 preX5_in postX5_in 70), (70, ip_t_ifeq 86 73), (73, ip_t_ar 0 74), (74, ip_t_gI0 50 11 77), (77, ip_t_is 3 78), (78, ip_t_ar 0 79), (79, ip_t_il 2 80), (80, ip_t_pI0 50 11 83), (83, ip_t_go 111), (86, ip_t_il 1 87), (87, ip_t_ci 2 88), (88, ip_t_icne 111 91), (91, ip_t_il 2 92), (92, ip_t_ci 0 93), (93, ip_t_ci 50 95), (95, ip_t_call 3 preX5_in postX5_in 98), (98, ip_t_ifeq 111 101), (101, ip_t_ar 0 102), (102, ip_t_gI0 50 12 105), (105, ip_t_is 3 106), (106, ip_t_ar 0 107), (107, ip_t_il 2 108), (108, ip_t_pI0 50 12 111), (111, ip_t_il 3 112), (112, ip_t_iret po)]
set_option maxRecDepth 100000 in
set_option maxHeartbeats 4000000 in
theorem tX5_set {p : Program} {l : Launch} {e : Env} {s : State} {m : MethodId} {args : Array Value} {below : List Frame} {meth : Method} {c : Code} {D : va_G} {cA : Nat → ClassId} {A : Nat → Prop} {ad0 : Nat → Nat} {S0 : ip_S} {po : List ip_V → ip_S → Prop} (hx : p.tables.exec = Jvm.exec) (hb : c.code = cX5_set) (hml : c.maxLocals = 4) (hown : s.vm.findClass RX5 = some m.cls) (hts : ∀ w ∈ wsX5_set, w.before args s = true) (hr : meth.sig.returnType = (some .int)) (hlocks : meth.locks = false) (hname : meth.name = yX5_set.name) (hA : ∀ q, s.heap.size ≤ q → A q) (hNx : ip_Nx s) : ∀ q ∈ pX5_set po, ip_snd p l e rmX5_set s m args below meth c D cA A (MQ below (ip_Q ip_Sta D cA ad0 S0 A po) args s 0 0 A) 4 (fun _ => (0, 0)) ip_Sta ad0 S0 q.1 q.2 := by
  have hIs : ∀ S, ip_Sta S → ip_Sta S := fun _ h => h
  have hIn := ip_In_Sta
  have hS9 : CallFix p m c cX5_set 4 s args wsX5_set RX5 := ⟨hx, hb, hml, hown, hts⟩
  have hin5 : ∀ w ∈ u_ws RX5 TX5 32, w ∈ wsX5_set := by decide +kernel
  refine List.forall_mem_cons.mpr ⟨ip_s_bipush hx hb dX5_set_0 rfl rfl, ?_⟩
  refine List.forall_mem_cons.mpr ⟨ip_s_istore_n hx hb dX5_set_2 rfl (by decide) rfl, ?_⟩
  refine List.forall_mem_cons.mpr ⟨ip_s_iload_n hx hb dX5_set_3 rfl rfl, ?_⟩
  refine List.forall_mem_cons.mpr ⟨ip_s_ifne (t := 56) hx hb dX5_set_4 (by decide) rfl rfl, ?_⟩
  refine List.forall_mem_cons.mpr ⟨ip_s_iload_n hx hb dX5_set_7 rfl rfl, ?_⟩
  refine List.forall_mem_cons.mpr ⟨ip_s_iconst hx hb dX5_set_8 rfl rfl, ?_⟩
  refine List.forall_mem_cons.mpr ⟨ip_s_iconst hx hb dX5_set_9 rfl rfl, ?_⟩
  refine List.forall_mem_cons.mpr ⟨ip_s_callS hNx hS9 (ctX5_in l) (va_cwS 3 hts gX5_set_X5_in rfl rfl rfl (by decide +kernel) ⟨Nat.le_of_ble_eq_true rfl, Nat.le_of_ble_eq_true rfl⟩) (fun as S hI h => shsX5_in as S hI h) hA dX5_set_10 ⟨Nat.le_of_ble_eq_true rfl, Nat.le_of_ble_eq_true rfl⟩ rfl, ?_⟩
  refine List.forall_mem_cons.mpr ⟨ip_s_ifeq (t := 56) hx hb dX5_set_13 (by decide) rfl rfl, ?_⟩
  refine List.forall_mem_cons.mpr ⟨ip_s_aload_n hx hb dX5_set_16 rfl rfl, ?_⟩
  refine List.forall_mem_cons.mpr ⟨ip_s_gR0 hx hb hts hin5 hown rfl (by decide) 14 (by decide) (hts (.fieldLink RX5 45 "IcePadsModel" "onPad" "[I") (by decide +kernel)) (fun _ h9 => h9) hIs 50 64 rfl (by decide) rfl dX5_set_17 rfl, ?_⟩
  refine List.forall_mem_cons.mpr ⟨ip_s_iconst hx hb dX5_set_20 rfl rfl, ?_⟩
  refine List.forall_mem_cons.mpr ⟨ip_s_ldi hx hb hIs dX5_set_21 rfl, ?_⟩
  refine List.forall_mem_cons.mpr ⟨ip_s_aload_n hx hb dX5_set_22 rfl rfl, ?_⟩
  refine List.forall_mem_cons.mpr ⟨ip_s_gR0 hx hb hts hin5 hown rfl (by decide) 14 (by decide) (hts (.fieldLink RX5 45 "IcePadsModel" "onPad" "[I") (by decide +kernel)) (fun _ h9 => h9) hIs 50 64 rfl (by decide) rfl dX5_set_23 rfl, ?_⟩
  refine List.forall_mem_cons.mpr ⟨ip_s_iconst hx hb dX5_set_26 rfl rfl, ?_⟩
  refine List.forall_mem_cons.mpr ⟨ip_s_ldi hx hb hIs dX5_set_27 rfl, ?_⟩
  refine List.forall_mem_cons.mpr ⟨ip_s_iadd hx hb dX5_set_28 rfl, ?_⟩
  refine List.forall_mem_cons.mpr ⟨ip_s_aload_n hx hb dX5_set_29 rfl rfl, ?_⟩
  refine List.forall_mem_cons.mpr ⟨ip_s_gR0 hx hb hts hin5 hown rfl (by decide) 14 (by decide) (hts (.fieldLink RX5 45 "IcePadsModel" "onPad" "[I") (by decide +kernel)) (fun _ h9 => h9) hIs 50 64 rfl (by decide) rfl dX5_set_30 rfl, ?_⟩
  refine List.forall_mem_cons.mpr ⟨ip_s_iconst hx hb dX5_set_33 rfl rfl, ?_⟩
  refine List.forall_mem_cons.mpr ⟨ip_s_ldi hx hb hIs dX5_set_34 rfl, ?_⟩
  refine List.forall_mem_cons.mpr ⟨ip_s_iadd hx hb dX5_set_35 rfl, ?_⟩
  refine List.forall_mem_cons.mpr ⟨ip_s_ifle (t := 43) hx hb dX5_set_36 (by decide) rfl rfl, ?_⟩
  refine List.forall_mem_cons.mpr ⟨ip_s_sipush hx hb dX5_set_39 rfl rfl, ?_⟩
  refine List.forall_mem_cons.mpr ⟨ip_s_iret hx hb hr hlocks (Nat.le_of_ble_eq_true rfl) (Nat.le_of_ble_eq_true rfl) dX5_set_42, ?_⟩
  refine List.forall_mem_cons.mpr ⟨ip_s_aload_n hx hb dX5_set_43 rfl rfl, ?_⟩
  refine List.forall_mem_cons.mpr ⟨ip_s_gI0 hx hb hts hin5 hown rfl (by decide) 10 (by decide) (hts (.fieldLink RX5 35 "IcePadsModel" "pads" "I") (by decide +kernel)) (fun _ h9 => h9) hIs 50 rfl rfl dX5_set_44 rfl, ?_⟩
  refine List.forall_mem_cons.mpr ⟨ip_s_istore_n hx hb dX5_set_47 rfl (by decide) rfl, ?_⟩
  refine List.forall_mem_cons.mpr ⟨ip_s_aload_n hx hb dX5_set_48 rfl rfl, ?_⟩
  refine List.forall_mem_cons.mpr ⟨ip_s_iload_n hx hb dX5_set_49 rfl rfl, ?_⟩
  refine List.forall_mem_cons.mpr ⟨ip_s_pI0 hx hb hts hin5 hown rfl (by decide) 10 (by decide) (hts (.fieldLink RX5 35 "IcePadsModel" "pads" "I") (by decide +kernel)) (fun _ h9 => h9) tyX5 tyX5_ok nmX5 hIn hIs 50 rfl rfl rfl (by decide +kernel) dX5_set_50 rfl, ?_⟩
  refine List.forall_mem_cons.mpr ⟨ip_s_go (t := 111) hx hb dX5_set_53 (by decide) (Nat.le_of_ble_eq_true rfl) (Nat.le_of_ble_eq_true rfl), ?_⟩
  refine List.forall_mem_cons.mpr ⟨ip_s_iload_n hx hb dX5_set_56 rfl rfl, ?_⟩
  refine List.forall_mem_cons.mpr ⟨ip_s_iconst hx hb dX5_set_57 rfl rfl, ?_⟩
  refine List.forall_mem_cons.mpr ⟨ip_s_icne (t := 86) hx hb dX5_set_58 (by decide) rfl rfl, ?_⟩
  refine List.forall_mem_cons.mpr ⟨ip_s_iload_n hx hb dX5_set_61 rfl rfl, ?_⟩
  refine List.forall_mem_cons.mpr ⟨ip_s_bipush hx hb dX5_set_62 rfl rfl, ?_⟩
  refine List.forall_mem_cons.mpr ⟨ip_s_sipush hx hb dX5_set_64 rfl rfl, ?_⟩
  refine List.forall_mem_cons.mpr ⟨ip_s_callS hNx hS9 (ctX5_in l) (va_cwS 3 hts gX5_set_X5_in rfl rfl rfl (by decide +kernel) ⟨Nat.le_of_ble_eq_true rfl, Nat.le_of_ble_eq_true rfl⟩) (fun as S hI h => shsX5_in as S hI h) hA dX5_set_67 ⟨Nat.le_of_ble_eq_true rfl, Nat.le_of_ble_eq_true rfl⟩ rfl, ?_⟩
  refine List.forall_mem_cons.mpr ⟨ip_s_ifeq (t := 86) hx hb dX5_set_70 (by decide) rfl rfl, ?_⟩
  refine List.forall_mem_cons.mpr ⟨ip_s_aload_n hx hb dX5_set_73 rfl rfl, ?_⟩
  refine List.forall_mem_cons.mpr ⟨ip_s_gI0 hx hb hts hin5 hown rfl (by decide) 11 (by decide) (hts (.fieldLink RX5 39 "IcePadsModel" "limit" "I") (by decide +kernel)) (fun _ h9 => h9) hIs 50 rfl rfl dX5_set_74 rfl, ?_⟩
  refine List.forall_mem_cons.mpr ⟨ip_s_istore_n hx hb dX5_set_77 rfl (by decide) rfl, ?_⟩
  refine List.forall_mem_cons.mpr ⟨ip_s_aload_n hx hb dX5_set_78 rfl rfl, ?_⟩
  refine List.forall_mem_cons.mpr ⟨ip_s_iload_n hx hb dX5_set_79 rfl rfl, ?_⟩
  refine List.forall_mem_cons.mpr ⟨ip_s_pI0 hx hb hts hin5 hown rfl (by decide) 11 (by decide) (hts (.fieldLink RX5 39 "IcePadsModel" "limit" "I") (by decide +kernel)) (fun _ h9 => h9) tyX5 tyX5_ok nmX5 hIn hIs 50 rfl rfl rfl (by decide +kernel) dX5_set_80 rfl, ?_⟩
  refine List.forall_mem_cons.mpr ⟨ip_s_go (t := 111) hx hb dX5_set_83 (by decide) (Nat.le_of_ble_eq_true rfl) (Nat.le_of_ble_eq_true rfl), ?_⟩
  refine List.forall_mem_cons.mpr ⟨ip_s_iload_n hx hb dX5_set_86 rfl rfl, ?_⟩
  refine List.forall_mem_cons.mpr ⟨ip_s_iconst hx hb dX5_set_87 rfl rfl, ?_⟩
  refine List.forall_mem_cons.mpr ⟨ip_s_icne (t := 111) hx hb dX5_set_88 (by decide) rfl rfl, ?_⟩
  refine List.forall_mem_cons.mpr ⟨ip_s_iload_n hx hb dX5_set_91 rfl rfl, ?_⟩
  refine List.forall_mem_cons.mpr ⟨ip_s_iconst hx hb dX5_set_92 rfl rfl, ?_⟩
  refine List.forall_mem_cons.mpr ⟨ip_s_bipush hx hb dX5_set_93 rfl rfl, ?_⟩
  refine List.forall_mem_cons.mpr ⟨ip_s_callS hNx hS9 (ctX5_in l) (va_cwS 3 hts gX5_set_X5_in rfl rfl rfl (by decide +kernel) ⟨Nat.le_of_ble_eq_true rfl, Nat.le_of_ble_eq_true rfl⟩) (fun as S hI h => shsX5_in as S hI h) hA dX5_set_95 ⟨Nat.le_of_ble_eq_true rfl, Nat.le_of_ble_eq_true rfl⟩ rfl, ?_⟩
  refine List.forall_mem_cons.mpr ⟨ip_s_ifeq (t := 111) hx hb dX5_set_98 (by decide) rfl rfl, ?_⟩
  refine List.forall_mem_cons.mpr ⟨ip_s_aload_n hx hb dX5_set_101 rfl rfl, ?_⟩
  refine List.forall_mem_cons.mpr ⟨ip_s_gI0 hx hb hts hin5 hown rfl (by decide) 12 (by decide) (hts (.fieldLink RX5 42 "IcePadsModel" "rate" "I") (by decide +kernel)) (fun _ h9 => h9) hIs 50 rfl rfl dX5_set_102 rfl, ?_⟩
  refine List.forall_mem_cons.mpr ⟨ip_s_istore_n hx hb dX5_set_105 rfl (by decide) rfl, ?_⟩
  refine List.forall_mem_cons.mpr ⟨ip_s_aload_n hx hb dX5_set_106 rfl rfl, ?_⟩
  refine List.forall_mem_cons.mpr ⟨ip_s_iload_n hx hb dX5_set_107 rfl rfl, ?_⟩
  refine List.forall_mem_cons.mpr ⟨ip_s_pI0 hx hb hts hin5 hown rfl (by decide) 12 (by decide) (hts (.fieldLink RX5 42 "IcePadsModel" "rate" "I") (by decide +kernel)) (fun _ h9 => h9) tyX5 tyX5_ok nmX5 hIn hIs 50 rfl rfl rfl (by decide +kernel) dX5_set_108 rfl, ?_⟩
  refine List.forall_mem_cons.mpr ⟨ip_s_iload_n hx hb dX5_set_111 rfl rfl, ?_⟩
  refine List.forall_mem_cons.mpr ⟨ip_s_iret hx hb hr hlocks (Nat.le_of_ble_eq_true rfl) (Nat.le_of_ble_eq_true rfl) dX5_set_112, ?_⟩
  exact fun _ h => absurd h List.not_mem_nil
set_option maxRecDepth 100000 in
set_option maxHeartbeats 4000000 in
theorem vX5_set (M : ip_M) (a : Nat) (w : Int32) (v : Int32) (S : ip_S) (hS : ip_Sta S) (hp : a = 50 ∧ ip_eM M S) : ip_run (pX5_set (postX5_set M [.inr (.inl (some a)), .inl w, .inl v] S)) (fun _ => false) (fun _ _ _ _ => False) 80 0 [some (.inr (.inl (some a))), some (.inl w), some (.inl v), none] [] S := by
  obtain ⟨rfl, hE⟩ := hp
  have e10 : S.1 50 10 = M 50 10 := congrFun (hE 50 (by decide)) _
  have e11 : S.1 50 11 = M 50 11 := congrFun (hE 50 (by decide)) _
  have e12 : S.1 50 12 = M 50 12 := congrFun (hE 50 (by decide)) _
  have hg0 : w = 0 ∧ 1 ≤ v ∧ v ≤ 3 → (0 < M 64 0 + M 64 1 + M 64 2) → g_set M w v = (-200, M) := fun h h2 => by unfold g_set; rw [if_pos h, if_pos h2]
  have hg1 : w = 0 ∧ 1 ≤ v ∧ v ≤ 3 → ¬ (0 < M 64 0 + M 64 1 + M 64 2) → g_set M w v = (M 50 10, ip_u M 50 10 v) := fun h h2 => by unfold g_set; rw [if_pos h, if_neg h2]
  have hg2 : ¬ (w = 0 ∧ 1 ≤ v ∧ v ≤ 3) → (w = 1 ∧ 10 ≤ v ∧ v ≤ 1000) → g_set M w v = (M 50 11, ip_u M 50 11 v) := fun h h2 => by unfold g_set; rw [if_neg h, if_pos h2]
  have hg3 : ¬ (w = 0 ∧ 1 ≤ v ∧ v ≤ 3) → ¬ (w = 1 ∧ 10 ≤ v ∧ v ≤ 1000) → (w = 2 ∧ 0 ≤ v ∧ v ≤ 50) → g_set M w v = (M 50 12, ip_u M 50 12 v) := fun h h1 h2 => by unfold g_set; rw [if_neg h, if_neg h1, if_pos h2]
  have hg4 : ¬ (w = 0 ∧ 1 ≤ v ∧ v ≤ 3) → ¬ (w = 1 ∧ 10 ≤ v ∧ v ≤ 1000) → ¬ (w = 2 ∧ 0 ≤ v ∧ v ≤ 50) → g_set M w v = (-100, M) := fun h h1 h2 => by unfold g_set; rw [if_neg h, if_neg h1, if_neg h2]
  have h01 : (0 : Int32) ≠ 1 := by decide
  have h02 : (0 : Int32) ≠ 2 := by decide
  have h12 : (1 : Int32) ≠ 2 := by decide
  refine And.intro (fun q1 => ?_) (fun q1 => ?_)
  · refine And.intro (fun q2 => ?_) (fun q2 => ?_)
    · refine And.intro (fun q3 => ?_) (fun q3 => ?_)
      · refine And.intro ?_ ?_ <;> rw [hg4 (fun z => q1 z.1) (fun z => q2 z.1) (fun z => q3 z.1)]
        exact ip_EM.rf hE
      · refine And.intro trivial ?_
        rintro r S' ⟨rfl, rfl⟩
        refine And.intro (fun q4 => ?_) (fun q4 => ?_)
        · refine And.intro ?_ ?_ <;> rw [hg4 (fun z => q1 z.1) (fun z => q2 z.1) (fun z => ip_if0 q4 z.2)]
          exact ip_EM.rf hE
        · refine And.intro ?_ ?_ <;> rw [hg3 (fun z => q1 z.1) (fun z => q2 z.1) ⟨q3, ip_if1 q4⟩]
          · rw [e12]
          · exact (ip_EM.rf hE).u (by decide) _ _
    · refine And.intro trivial ?_
      rintro r S' ⟨rfl, rfl⟩
      refine And.intro (fun q4 => ?_) (fun q4 => ?_)
      · refine And.intro (fun q5 => ?_) (fun q5 => ?_)
        · refine And.intro ?_ ?_ <;> rw [hg4 (fun z => q1 z.1) (fun z => ip_if0 q4 z.2) (fun z => q5 z.1)]
          exact ip_EM.rf hE
        · exact absurd (q2.symm.trans q5) h12
      · refine And.intro ?_ ?_ <;> rw [hg2 (fun z => q1 z.1) ⟨q2, ip_if1 q4⟩]
        · rw [e11]
        · exact (ip_EM.rf hE).u (by decide) _ _
  · refine And.intro trivial ?_
    rintro r S' ⟨rfl, rfl⟩
    refine And.intro (fun q2 => ?_) (fun q2 => ?_)
    · refine And.intro (fun q3 => ?_) (fun q3 => ?_)
      · refine And.intro (fun q4 => ?_) (fun q4 => ?_)
        · refine And.intro ?_ ?_ <;> rw [hg4 (fun z => ip_if0 q2 z.2) (fun z => q3 z.1) (fun z => q4 z.1)]
          exact ip_EM.rf hE
        · exact absurd (q1.symm.trans q4) h02
      · exact absurd (q1.symm.trans q3) h01
    · have e0 : S'.1 64 0 = M 64 0 := congrFun (hE 64 (by decide)) _
      have e1 : S'.1 64 1 = M 64 1 := congrFun (hE 64 (by decide)) _
      have e2 : S'.1 64 2 = M 64 2 := congrFun (hE 64 (by decide)) _
      refine And.intro (vp_in_nI (n := 0) (by decide) (by decide)) ?_
      refine And.intro (vp_in_nI (n := 1) (by decide) (by decide)) ?_
      refine And.intro (vp_in_nI (n := 2) (by decide) (by decide)) ?_
      refine And.intro (fun q3 => ?_) (fun q3 => ?_)
      · have q3 : S'.1 64 0 + S'.1 64 1 + S'.1 64 2 ≤ 0 := q3
        rw [e0, e1, e2] at q3
        refine And.intro ?_ ?_ <;> rw [hg1 ⟨q1, ip_if1 q2⟩ (Int32.not_lt.mpr q3)]
        · rw [e10]
        · exact (ip_EM.rf hE).u (by decide) _ _
      · have q3 : ¬ S'.1 64 0 + S'.1 64 1 + S'.1 64 2 ≤ 0 := q3
        rw [e0, e1, e2] at q3
        refine And.intro ?_ ?_ <;> rw [hg0 ⟨q1, ip_if1 q2⟩ (Int32.not_le.mp q3)]
        exact ip_EM.rf hE
theorem ctX5_set (l : Launch) (M : ip_M) : ip_CT l yX5_set wsX5_set rmX5_set ip_Sta (preX5_set M) (postX5_set M) := by
  refine ip_of (cc := cX5_set) (maxL := 4) (ret := (some .int)) (by decide +kernel) rfl (fun _ => (0, 0)) rfl ?_ ?_
  · intro as S h
    obtain ⟨a, w, v, rfl, hq⟩ := ip_e_rii h
    exact ⟨Nat.le_of_ble_eq_true rfl, by simp⟩
  intro p e s m args below meth c D cA A ad0 as S h hI hx hb hml hown hts hr hlocks hname hA hNx
  obtain ⟨a, w, v, rfl, hq⟩ := ip_e_rii h
  refine ip_run_ok (stop := fun _ => false) (tX5_set hx hb hml hown hts hr hlocks hname hA hNx) (fun _ _ _ _ h => False.elim h) 80 0 _ _ S ?_
  exact vX5_set M a w v S hI hq
end
