-- ===== PART A: goes FIRST, ahead of the names: the tables' words, and 'selects' of the private methods out of them =====
/-- a private method of a class that the tables say can be made, by its rows of tables_1 -/
def lw_okq (q : MethodName × Nat) : Prop := (q.1.cls ≠ "java/lang/invoke/MethodHandle" ∧ q.1.cls ≠ "java/lang/invoke/VarHandle") ∧ Cond.instantiable q.1.cls q.2 ∈ tables_1 ∧ Cond.privateMethod q.1 ∈ tables_1 ∧ Cond.instanceMethod q.1 ∈ tables_1
theorem lw_p0 : lw_okq (⟨"java/lang/Throwable", "fillInStackTrace", "(I)Ljava/lang/Throwable;"⟩, 6) := ⟨⟨by decide +kernel, by decide +kernel⟩, List.mem_of_getElem? (i := 305) (by decide +kernel), List.mem_of_getElem? (i := 303) (by decide +kernel), List.mem_of_getElem? (i := 304) (by decide +kernel)⟩
theorem lw_p1 : lw_okq (⟨"RecordRights$RuleReader", "takes", "(I)Z"⟩, 8) := ⟨⟨by decide +kernel, by decide +kernel⟩, List.mem_of_getElem? (i := 45) (by decide +kernel), List.mem_of_getElem? (i := 351) (by decide +kernel), List.mem_of_getElem? (i := 352) (by decide +kernel)⟩
theorem lw_p2 : lw_okq (⟨"RecordRights$RuleReader", "takesAnswer", "(I)Z"⟩, 8) := ⟨⟨by decide +kernel, by decide +kernel⟩, List.mem_of_getElem? (i := 45) (by decide +kernel), List.mem_of_getElem? (i := 355) (by decide +kernel), List.mem_of_getElem? (i := 356) (by decide +kernel)⟩
theorem lw_p3 : lw_okq (⟨"RecordRights$RuleReader", "takesLetter", "(I)Z"⟩, 8) := ⟨⟨by decide +kernel, by decide +kernel⟩, List.mem_of_getElem? (i := 45) (by decide +kernel), List.mem_of_getElem? (i := 359) (by decide +kernel), List.mem_of_getElem? (i := 360) (by decide +kernel)⟩
theorem lw_p4 : lw_okq (⟨"RecordRights$RuleReader", "awaitsDigit", "(II)Z"⟩, 8) := ⟨⟨by decide +kernel, by decide +kernel⟩, List.mem_of_getElem? (i := 45) (by decide +kernel), List.mem_of_getElem? (i := 363) (by decide +kernel), List.mem_of_getElem? (i := 364) (by decide +kernel)⟩
theorem lw_p5 : lw_okq (⟨"RecordRights$RuleReader", "addCondition", "(I)V"⟩, 8) := ⟨⟨by decide +kernel, by decide +kernel⟩, List.mem_of_getElem? (i := 45) (by decide +kernel), List.mem_of_getElem? (i := 367) (by decide +kernel), List.mem_of_getElem? (i := 368) (by decide +kernel)⟩
theorem lw_p6 : lw_okq (⟨"RecordRights$RuleReader", "takesDigit", "(I)Z"⟩, 8) := ⟨⟨by decide +kernel, by decide +kernel⟩, List.mem_of_getElem? (i := 45) (by decide +kernel), List.mem_of_getElem? (i := 371) (by decide +kernel), List.mem_of_getElem? (i := 372) (by decide +kernel)⟩
theorem lw_p7 : lw_okq (⟨"RecordRights", "requireRecord", "(I)V"⟩, 10) := ⟨⟨by decide +kernel, by decide +kernel⟩, List.mem_of_getElem? (i := 20) (by decide +kernel), List.mem_of_getElem? (i := 457) (by decide +kernel), List.mem_of_getElem? (i := 458) (by decide +kernel)⟩
theorem lw_p8 : lw_okq (⟨"RecordRights", "requirePerson", "(I)V"⟩, 10) := ⟨⟨by decide +kernel, by decide +kernel⟩, List.mem_of_getElem? (i := 20) (by decide +kernel), List.mem_of_getElem? (i := 493) (by decide +kernel), List.mem_of_getElem? (i := 494) (by decide +kernel)⟩
theorem lw_p9 : lw_okq (⟨"RecordRights", "openRules", "(III)I"⟩, 10) := ⟨⟨by decide +kernel, by decide +kernel⟩, List.mem_of_getElem? (i := 20) (by decide +kernel), List.mem_of_getElem? (i := 512) (by decide +kernel), List.mem_of_getElem? (i := 513) (by decide +kernel)⟩
theorem lw_p10 : lw_okq (⟨"RecordRights", "rulesForField", "(II)I"⟩, 10) := ⟨⟨by decide +kernel, by decide +kernel⟩, List.mem_of_getElem? (i := 20) (by decide +kernel), List.mem_of_getElem? (i := 526) (by decide +kernel), List.mem_of_getElem? (i := 527) (by decide +kernel)⟩
theorem lw_p11 : lw_okq (⟨"RecordRights", "isExportable", "(I)Z"⟩, 10) := ⟨⟨by decide +kernel, by decide +kernel⟩, List.mem_of_getElem? (i := 20) (by decide +kernel), List.mem_of_getElem? (i := 580) (by decide +kernel), List.mem_of_getElem? (i := 581) (by decide +kernel)⟩
theorem lw_p12 : lw_okq (⟨"RecordRights", "fillFieldRules", "()V"⟩, 10) := ⟨⟨by decide +kernel, by decide +kernel⟩, List.mem_of_getElem? (i := 20) (by decide +kernel), List.mem_of_getElem? (i := 627) (by decide +kernel), List.mem_of_getElem? (i := 628) (by decide +kernel)⟩
theorem lw_p13 : lw_okq (⟨"RecordRights", "neededRules", "(I)I"⟩, 10) := ⟨⟨by decide +kernel, by decide +kernel⟩, List.mem_of_getElem? (i := 20) (by decide +kernel), List.mem_of_getElem? (i := 631) (by decide +kernel), List.mem_of_getElem? (i := 632) (by decide +kernel)⟩
theorem lw_p14 : lw_okq (⟨"RecordRights$RuleBook", "lastOf", "(I)I"⟩, 7) := ⟨⟨by decide +kernel, by decide +kernel⟩, List.mem_of_getElem? (i := 80) (by decide +kernel), List.mem_of_getElem? (i := 645) (by decide +kernel), List.mem_of_getElem? (i := 646) (by decide +kernel)⟩
theorem lw_p15 : lw_okq (⟨"RecordRightsModel", "throwing", "(ZZZ)Z"⟩, 32) := ⟨⟨by decide +kernel, by decide +kernel⟩, List.mem_of_getElem? (i := 663) (by decide +kernel), List.mem_of_getElem? (i := 778) (by decide +kernel), List.mem_of_getElem? (i := 779) (by decide +kernel)⟩
def lw_privs_1 : List (MethodName × Nat) := [(⟨"java/lang/Throwable", "fillInStackTrace", "(I)Ljava/lang/Throwable;"⟩, 6), (⟨"RecordRights$RuleReader", "takes", "(I)Z"⟩, 8), (⟨"RecordRights$RuleReader", "takesAnswer", "(I)Z"⟩, 8), (⟨"RecordRights$RuleReader", "takesLetter", "(I)Z"⟩, 8), (⟨"RecordRights$RuleReader", "awaitsDigit", "(II)Z"⟩, 8), (⟨"RecordRights$RuleReader", "addCondition", "(I)V"⟩, 8), (⟨"RecordRights$RuleReader", "takesDigit", "(I)Z"⟩, 8), (⟨"RecordRights", "requireRecord", "(I)V"⟩, 10), (⟨"RecordRights", "requirePerson", "(I)V"⟩, 10), (⟨"RecordRights", "openRules", "(III)I"⟩, 10), (⟨"RecordRights", "rulesForField", "(II)I"⟩, 10), (⟨"RecordRights", "isExportable", "(I)Z"⟩, 10), (⟨"RecordRights", "fillFieldRules", "()V"⟩, 10), (⟨"RecordRights", "neededRules", "(I)I"⟩, 10), (⟨"RecordRights$RuleBook", "lastOf", "(I)I"⟩, 7), (⟨"RecordRightsModel", "throwing", "(ZZZ)Z"⟩, 32)]
theorem lw_r1 : ∀ q ∈ lw_privs_1, lw_okq q := List.forall_mem_cons.mpr ⟨lw_p0, List.forall_mem_cons.mpr ⟨lw_p1, List.forall_mem_cons.mpr ⟨lw_p2, List.forall_mem_cons.mpr ⟨lw_p3, List.forall_mem_cons.mpr ⟨lw_p4, List.forall_mem_cons.mpr ⟨lw_p5, List.forall_mem_cons.mpr ⟨lw_p6, List.forall_mem_cons.mpr ⟨lw_p7, List.forall_mem_cons.mpr ⟨lw_p8, List.forall_mem_cons.mpr ⟨lw_p9, List.forall_mem_cons.mpr ⟨lw_p10, List.forall_mem_cons.mpr ⟨lw_p11, List.forall_mem_cons.mpr ⟨lw_p12, List.forall_mem_cons.mpr ⟨lw_p13, List.forall_mem_cons.mpr ⟨lw_p14, List.forall_mem_cons.mpr ⟨lw_p15, fun _ h => absurd h List.not_mem_nil⟩⟩⟩⟩⟩⟩⟩⟩⟩⟩⟩⟩⟩⟩⟩⟩
theorem lw_p16 : lw_okq (⟨"RecordRightsModel", "wrongAt", "()I"⟩, 32) := ⟨⟨by decide +kernel, by decide +kernel⟩, List.mem_of_getElem? (i := 663) (by decide +kernel), List.mem_of_getElem? (i := 786) (by decide +kernel), List.mem_of_getElem? (i := 787) (by decide +kernel)⟩
theorem lw_p17 : lw_okq (⟨"RecordRightsModel", "padAt", "(I)I"⟩, 32) := ⟨⟨by decide +kernel, by decide +kernel⟩, List.mem_of_getElem? (i := 663) (by decide +kernel), List.mem_of_getElem? (i := 790) (by decide +kernel), List.mem_of_getElem? (i := 791) (by decide +kernel)⟩
theorem lw_p18 : lw_okq (⟨"RecordRightsModel", "isRecord", "(I)Z"⟩, 32) := ⟨⟨by decide +kernel, by decide +kernel⟩, List.mem_of_getElem? (i := 663) (by decide +kernel), List.mem_of_getElem? (i := 816) (by decide +kernel), List.mem_of_getElem? (i := 817) (by decide +kernel)⟩
theorem lw_p19 : lw_okq (⟨"RecordRightsModel", "isPerson", "(I)Z"⟩, 32) := ⟨⟨by decide +kernel, by decide +kernel⟩, List.mem_of_getElem? (i := 663) (by decide +kernel), List.mem_of_getElem? (i := 835) (by decide +kernel), List.mem_of_getElem? (i := 836) (by decide +kernel)⟩
theorem lw_p20 : lw_okq (⟨"RecordRightsModel", "put", "(IIIII)V"⟩, 32) := ⟨⟨by decide +kernel, by decide +kernel⟩, List.mem_of_getElem? (i := 663) (by decide +kernel), List.mem_of_getElem? (i := 843) (by decide +kernel), List.mem_of_getElem? (i := 844) (by decide +kernel)⟩
theorem lw_p21 : lw_okq (⟨"RecordRightsModel", "got", "(I)I"⟩, 32) := ⟨⟨by decide +kernel, by decide +kernel⟩, List.mem_of_getElem? (i := 663) (by decide +kernel), List.mem_of_getElem? (i := 847) (by decide +kernel), List.mem_of_getElem? (i := 848) (by decide +kernel)⟩
theorem lw_p22 : lw_okq (⟨"RecordRightsModel", "suits", "(I)Z"⟩, 32) := ⟨⟨by decide +kernel, by decide +kernel⟩, List.mem_of_getElem? (i := 663) (by decide +kernel), List.mem_of_getElem? (i := 851) (by decide +kernel), List.mem_of_getElem? (i := 852) (by decide +kernel)⟩
theorem lw_p23 : lw_okq (⟨"RecordRightsModel", "holds", "(II)Z"⟩, 32) := ⟨⟨by decide +kernel, by decide +kernel⟩, List.mem_of_getElem? (i := 663) (by decide +kernel), List.mem_of_getElem? (i := 855) (by decide +kernel), List.mem_of_getElem? (i := 856) (by decide +kernel)⟩
theorem lw_p24 : lw_okq (⟨"RecordRightsModel", "hasAgreement", "(III)Z"⟩, 32) := ⟨⟨by decide +kernel, by decide +kernel⟩, List.mem_of_getElem? (i := 663) (by decide +kernel), List.mem_of_getElem? (i := 859) (by decide +kernel), List.mem_of_getElem? (i := 860) (by decide +kernel)⟩
theorem lw_p25 : lw_okq (⟨"RecordRightsModel", "isWhole", "(III)Z"⟩, 32) := ⟨⟨by decide +kernel, by decide +kernel⟩, List.mem_of_getElem? (i := 663) (by decide +kernel), List.mem_of_getElem? (i := 880) (by decide +kernel), List.mem_of_getElem? (i := 881) (by decide +kernel)⟩
theorem lw_p26 : lw_okq (⟨"RecordRightsModel", "changes", "(IIII)Z"⟩, 32) := ⟨⟨by decide +kernel, by decide +kernel⟩, List.mem_of_getElem? (i := 663) (by decide +kernel), List.mem_of_getElem? (i := 900) (by decide +kernel), List.mem_of_getElem? (i := 901) (by decide +kernel)⟩
def lw_privs_2 : List (MethodName × Nat) := [(⟨"RecordRightsModel", "wrongAt", "()I"⟩, 32), (⟨"RecordRightsModel", "padAt", "(I)I"⟩, 32), (⟨"RecordRightsModel", "isRecord", "(I)Z"⟩, 32), (⟨"RecordRightsModel", "isPerson", "(I)Z"⟩, 32), (⟨"RecordRightsModel", "put", "(IIIII)V"⟩, 32), (⟨"RecordRightsModel", "got", "(I)I"⟩, 32), (⟨"RecordRightsModel", "suits", "(I)Z"⟩, 32), (⟨"RecordRightsModel", "holds", "(II)Z"⟩, 32), (⟨"RecordRightsModel", "hasAgreement", "(III)Z"⟩, 32), (⟨"RecordRightsModel", "isWhole", "(III)Z"⟩, 32), (⟨"RecordRightsModel", "changes", "(IIII)Z"⟩, 32)]
theorem lw_r2 : ∀ q ∈ lw_privs_2, lw_okq q := List.forall_mem_cons.mpr ⟨lw_p16, List.forall_mem_cons.mpr ⟨lw_p17, List.forall_mem_cons.mpr ⟨lw_p18, List.forall_mem_cons.mpr ⟨lw_p19, List.forall_mem_cons.mpr ⟨lw_p20, List.forall_mem_cons.mpr ⟨lw_p21, List.forall_mem_cons.mpr ⟨lw_p22, List.forall_mem_cons.mpr ⟨lw_p23, List.forall_mem_cons.mpr ⟨lw_p24, List.forall_mem_cons.mpr ⟨lw_p25, List.forall_mem_cons.mpr ⟨lw_p26, fun _ h => absurd h List.not_mem_nil⟩⟩⟩⟩⟩⟩⟩⟩⟩⟩⟩
def lw_privs : List (MethodName × Nat) := lw_privs_1 ++ (lw_privs_2)
def lw_tbl : List Cond := k2_sels lw_privs ++ tables_1
theorem lw_privs_ok : ∀ q ∈ lw_privs, lw_okq q := by
  show ∀ q ∈ lw_privs_1 ++ (lw_privs_2), lw_okq q
  exact List.forall_mem_append.mpr ⟨lw_r1, lw_r2⟩

/-- every word of the tables that stays true as the tables warm: one list for all methods -/
def bigW : List Cond := lw_tbl.filter goodWord
theorem big_of {w : Cond} (h : w ∈ tables_1) (g : goodWord w = true) : w ∈ bigW := List.mem_filter.mpr ⟨List.mem_append_right _ h, g⟩
theorem big_tbl : ∀ w ∈ bigW, w ∈ lw_tbl := fun _ h => (List.mem_filter.mp h).1
theorem big_good {big : List Cond} (c : Cond) (hc : c ∈ bigW) (h : ∀ w ∈ bigW, w ∈ big) : GoodIn big (c :: bigW) := fun w hw => (List.mem_cons.mp hw).elim (fun e => by rw [e]; exact ⟨h c hc, good_of_word (List.mem_filter.mp hc).2⟩) (fun hw => ⟨h w hw, good_of_word (List.mem_filter.mp hw).2⟩)
def R_AG : String := "RecordRights$Agreements"
def R_EX : String := "RecordRights$Export"
def R_HO : String := "RecordRights$Holdings"
def R_LO : String := "RecordRights$Looks"
def R_PA : String := "RecordRights$Pad"
def R_PE : String := "RecordRights$People"
def R_RQ : String := "RecordRights$Requests"
def R_RB : String := "RecordRights$RuleBook"
def R_RD : String := "RecordRights$RuleReader"
def R_RR : String := "RecordRights"
def R_MD : String := "RecordRightsModel"
def R_LW : String := "RecordRightsLaw"
def R_JI : String := "java/lang/Integer"
def T_AG : u_T := fun k => match k with
  | 0 => ("RecordRights$Agreements", "persons", "[I", true)
  | 1 => ("RecordRights$Agreements", "records", "[I", true)
  | 2 => ("RecordRights$Agreements", "froms", "[I", true)
  | 3 => ("RecordRights$Agreements", "tos", "[I", true)
  | _ => ("RecordRights$Agreements", "size", "I", false)
def ty_AG : Nat → FieldType := fun k => match k with
  | 0 => .array .int
  | 1 => .array .int
  | 2 => .array .int
  | 3 => .array .int
  | _ => .int
theorem nm_AG : ∀ a, a < 5 → ∀ b, b < 5 → a ≠ b → (T_AG a).2.1 ≠ (T_AG b).2.1 := by decide +kernel
theorem tyok_AG : ∀ k, k < 5 → parseFieldDescriptor (T_AG k).2.2.1 = some (ty_AG k) := by decide +kernel
def T_EX : u_T := fun k => match k with
  | 0 => ("RecordRights$Export", "records", "[I", true)
  | _ => ("RecordRights$Export", "size", "I", false)
def ty_EX : Nat → FieldType := fun k => match k with
  | 0 => .array .int
  | _ => .int
theorem nm_EX : ∀ a, a < 2 → ∀ b, b < 2 → a ≠ b → (T_EX a).2.1 ≠ (T_EX b).2.1 := by decide +kernel
theorem tyok_EX : ∀ k, k < 2 → parseFieldDescriptor (T_EX k).2.2.1 = some (ty_EX k) := by decide +kernel
def T_HO : u_T := fun k => match k with
  | 0 => ("RecordRights$Holdings", "facts", "[I", true)
  | 1 => ("RecordRights$Holdings", "embargoes", "[I", true)
  | 2 => ("RecordRights$Holdings", "values", "[J", true)
  | _ => ("RecordRights$Holdings", "size", "I", false)
def ty_HO : Nat → FieldType := fun k => match k with
  | 0 => .array .int
  | 1 => .array .int
  | 2 => .array .long
  | _ => .int
theorem nm_HO : ∀ a, a < 4 → ∀ b, b < 4 → a ≠ b → (T_HO a).2.1 ≠ (T_HO b).2.1 := by decide +kernel
theorem tyok_HO : ∀ k, k < 4 → parseFieldDescriptor (T_HO k).2.2.1 = some (ty_HO k) := by decide +kernel
def T_LO : u_T := fun k => match k with
  | 0 => ("RecordRights$Looks", "parts", "[I", true)
  | 1 => ("RecordRights$Looks", "lookers", "[I", true)
  | _ => ("RecordRights$Looks", "size", "I", false)
def ty_LO : Nat → FieldType := fun k => match k with
  | 0 => .array .int
  | 1 => .array .int
  | _ => .int
theorem nm_LO : ∀ a, a < 3 → ∀ b, b < 3 → a ≠ b → (T_LO a).2.1 ≠ (T_LO b).2.1 := by decide +kernel
theorem tyok_LO : ∀ k, k < 3 → parseFieldDescriptor (T_LO k).2.2.1 = some (ty_LO k) := by decide +kernel
def T_PA : u_T := fun k => match k with
  | 0 => ("RecordRights$Pad", "signs", "[C", true)
  | _ => ("RecordRights$Pad", "length", "I", false)
def ty_PA : Nat → FieldType := fun k => match k with
  | 0 => .array .char
  | _ => .int
theorem nm_PA : ∀ a, a < 2 → ∀ b, b < 2 → a ≠ b → (T_PA a).2.1 ≠ (T_PA b).2.1 := by decide +kernel
theorem tyok_PA : ∀ k, k < 2 → parseFieldDescriptor (T_PA k).2.2.1 = some (ty_PA k) := by decide +kernel
def T_PE : u_T := fun k => match k with
  | 0 => ("RecordRights$People", "roles", "[I", true)
  | 1 => ("RecordRights$People", "limits", "[I", true)
  | _ => ("RecordRights$People", "size", "I", false)
def ty_PE : Nat → FieldType := fun k => match k with
  | 0 => .array .int
  | 1 => .array .int
  | _ => .int
theorem nm_PE : ∀ a, a < 3 → ∀ b, b < 3 → a ≠ b → (T_PE a).2.1 ≠ (T_PE b).2.1 := by decide +kernel
theorem tyok_PE : ∀ k, k < 3 → parseFieldDescriptor (T_PE k).2.2.1 = some (ty_PE k) := by decide +kernel
def T_RQ : u_T := fun k => match k with
  | 0 => ("RecordRights$Requests", "persons", "[I", true)
  | 1 => ("RecordRights$Requests", "days", "[I", true)
  | _ => ("RecordRights$Requests", "size", "I", false)
def ty_RQ : Nat → FieldType := fun k => match k with
  | 0 => .array .int
  | 1 => .array .int
  | _ => .int
theorem nm_RQ : ∀ a, a < 3 → ∀ b, b < 3 → a ≠ b → (T_RQ a).2.1 ≠ (T_RQ b).2.1 := by decide +kernel
theorem tyok_RQ : ∀ k, k < 3 → parseFieldDescriptor (T_RQ k).2.2.1 = some (ty_RQ k) := by decide +kernel
def T_RB : u_T := fun k => match k with
  | 0 => ("RecordRights$RuleBook", "needs", "[I", true)
  | 1 => ("RecordRights$RuleBook", "bars", "[I", true)
  | 2 => ("RecordRights$RuleBook", "size", "I", false)
  | 3 => ("RecordRights$RuleBook", "told", "I", false)
  | 4 => ("RecordRights$RuleBook", "absent", "I", false)
  | 5 => ("RecordRights$RuleBook", "masking", "I", false)
  | _ => ("RecordRights$RuleBook", "showing", "I", false)
def ty_RB : Nat → FieldType := fun k => match k with
  | 0 => .array .int
  | 1 => .array .int
  | 2 => .int
  | 3 => .int
  | 4 => .int
  | 5 => .int
  | _ => .int
theorem nm_RB : ∀ a, a < 7 → ∀ b, b < 7 → a ≠ b → (T_RB a).2.1 ≠ (T_RB b).2.1 := by decide +kernel
theorem tyok_RB : ∀ k, k < 7 → parseFieldDescriptor (T_RB k).2.2.1 = some (ty_RB k) := by decide +kernel
def T_RD : u_T := fun k => match k with
  | 0 => ("RecordRights$RuleReader", "place", "I", false)
  | 1 => ("RecordRights$RuleReader", "answer", "I", false)
  | 2 => ("RecordRights$RuleReader", "needs", "I", false)
  | 3 => ("RecordRights$RuleReader", "bars", "I", false)
  | 4 => ("RecordRights$RuleReader", "state", "I", false)
  | 5 => ("RecordRights$RuleReader", "turned", "Z", false)
  | 6 => ("RecordRights$RuleReader", "firstFact", "I", false)
  | _ => ("RecordRights$RuleReader", "digits", "I", false)
def ty_RD : Nat → FieldType := fun k => match k with
  | 0 => .int
  | 1 => .int
  | 2 => .int
  | 3 => .int
  | 4 => .int
  | 5 => .boolean
  | 6 => .int
  | _ => .int
theorem nm_RD : ∀ a, a < 8 → ∀ b, b < 8 → a ≠ b → (T_RD a).2.1 ≠ (T_RD b).2.1 := by decide +kernel
theorem tyok_RD : ∀ k, k < 8 → parseFieldDescriptor (T_RD k).2.2.1 = some (ty_RD k) := by decide +kernel
def T_RR : u_T := fun k => match k with
  | 0 => ("RecordRights", "pad", "LRecordRights$Pad;", true)
  | 1 => ("RecordRights", "reader", "LRecordRights$RuleReader;", true)
  | 2 => ("RecordRights", "rules", "LRecordRights$RuleBook;", true)
  | 3 => ("RecordRights", "people", "LRecordRights$People;", true)
  | 4 => ("RecordRights", "holdings", "LRecordRights$Holdings;", true)
  | 5 => ("RecordRights", "agreements", "LRecordRights$Agreements;", true)
  | 6 => ("RecordRights", "looks", "LRecordRights$Looks;", true)
  | 7 => ("RecordRights", "requests", "LRecordRights$Requests;", true)
  | 8 => ("RecordRights", "latest", "LRecordRights$Export;", true)
  | _ => ("RecordRights", "fieldRules", "[I", true)
def ty_RR : Nat → FieldType := fun k => match k with
  | 0 => .object "RecordRights$Pad"
  | 1 => .object "RecordRights$RuleReader"
  | 2 => .object "RecordRights$RuleBook"
  | 3 => .object "RecordRights$People"
  | 4 => .object "RecordRights$Holdings"
  | 5 => .object "RecordRights$Agreements"
  | 6 => .object "RecordRights$Looks"
  | 7 => .object "RecordRights$Requests"
  | 8 => .object "RecordRights$Export"
  | _ => .array .int
theorem nm_RR : ∀ a, a < 10 → ∀ b, b < 10 → a ≠ b → (T_RR a).2.1 ≠ (T_RR b).2.1 := by decide +kernel
theorem tyok_RR : ∀ k, k < 10 → parseFieldDescriptor (T_RR k).2.2.1 = some (ty_RR k) := by decide +kernel
def T_MD : u_T := fun k => match k with
  | 0 => ("RecordRightsModel", "thrown", "I", false)
  | 1 => ("RecordRightsModel", "pad", "[I", true)
  | 2 => ("RecordRightsModel", "padded", "I", false)
  | 3 => ("RecordRightsModel", "rules", "I", false)
  | 4 => ("RecordRightsModel", "signs", "[I", true)
  | 5 => ("RecordRightsModel", "sizes", "[I", true)
  | 6 => ("RecordRightsModel", "told", "[Z", true)
  | 7 => ("RecordRightsModel", "persons", "I", false)
  | 8 => ("RecordRightsModel", "roles", "[I", true)
  | 9 => ("RecordRightsModel", "limits", "[I", true)
  | 10 => ("RecordRightsModel", "records", "I", false)
  | 11 => ("RecordRightsModel", "kinds", "[I", true)
  | 12 => ("RecordRightsModel", "communities", "[I", true)
  | 13 => ("RecordRightsModel", "embargoes", "[I", true)
  | 14 => ("RecordRightsModel", "values", "[J", true)
  | 15 => ("RecordRightsModel", "agreements", "I", false)
  | 16 => ("RecordRightsModel", "agreed", "[I", true)
  | 17 => ("RecordRightsModel", "agreedRecord", "[I", true)
  | 18 => ("RecordRightsModel", "agreedFrom", "[I", true)
  | 19 => ("RecordRightsModel", "agreedTo", "[I", true)
  | 20 => ("RecordRightsModel", "looks", "I", false)
  | 21 => ("RecordRightsModel", "look", "[I", true)
  | 22 => ("RecordRightsModel", "exports", "I", false)
  | 23 => ("RecordRightsModel", "exported", "[I", true)
  | 24 => ("RecordRightsModel", "requests", "I", false)
  | 25 => ("RecordRightsModel", "requestPerson", "[I", true)
  | 26 => ("RecordRightsModel", "requestDay", "[I", true)
  | 27 => ("RecordRightsModel", "who", "I", false)
  | 28 => ("RecordRightsModel", "what", "I", false)
  | 29 => ("RecordRightsModel", "field", "I", false)
  | 30 => ("RecordRightsModel", "purpose", "I", false)
  | _ => ("RecordRightsModel", "when", "I", false)
def ty_MD : Nat → FieldType := fun k => match k with
  | 0 => .int
  | 1 => .array .int
  | 2 => .int
  | 3 => .int
  | 4 => .array .int
  | 5 => .array .int
  | 6 => .array .boolean
  | 7 => .int
  | 8 => .array .int
  | 9 => .array .int
  | 10 => .int
  | 11 => .array .int
  | 12 => .array .int
  | 13 => .array .int
  | 14 => .array .long
  | 15 => .int
  | 16 => .array .int
  | 17 => .array .int
  | 18 => .array .int
  | 19 => .array .int
  | 20 => .int
  | 21 => .array .int
  | 22 => .int
  | 23 => .array .int
  | 24 => .int
  | 25 => .array .int
  | 26 => .array .int
  | 27 => .int
  | 28 => .int
  | 29 => .int
  | 30 => .int
  | _ => .int
theorem nm_MD : ∀ a, a < 32 → ∀ b, b < 32 → a ≠ b → (T_MD a).2.1 ≠ (T_MD b).2.1 := by decide +kernel
theorem tyok_MD : ∀ k, k < 32 → parseFieldDescriptor (T_MD k).2.2.1 = some (ty_MD k) := by decide +kernel
abbrev vwCl : List vw_C := [(R_AG, T_AG, 5), (R_EX, T_EX, 2), (R_HO, T_HO, 4), (R_LO, T_LO, 3), (R_PA, T_PA, 2), (R_PE, T_PE, 3), (R_RQ, T_RQ, 3), (R_RB, T_RB, 7), (R_RD, T_RD, 8), (R_RR, T_RR, 10), (R_MD, T_MD, 32)]
theorem b_0 : (Jvm.Cond.initialized "RecordRightsLaw") ∈ bigW := big_of (List.mem_of_getElem? (i := 0) (by decide +kernel)) (by decide +kernel)
theorem b_1 : (Jvm.Cond.initialized "RecordRights") ∈ bigW := big_of (List.mem_of_getElem? (i := 1) (by decide +kernel)) (by decide +kernel)
theorem b_2 : (Jvm.Cond.initialized "RecordRights$Pad") ∈ bigW := big_of (List.mem_of_getElem? (i := 2) (by decide +kernel)) (by decide +kernel)
theorem b_3 : (Jvm.Cond.initialized "RecordRights$RuleReader") ∈ bigW := big_of (List.mem_of_getElem? (i := 3) (by decide +kernel)) (by decide +kernel)
theorem b_4 : (Jvm.Cond.initialized "RecordRights$RuleBook") ∈ bigW := big_of (List.mem_of_getElem? (i := 4) (by decide +kernel)) (by decide +kernel)
theorem b_5 : (Jvm.Cond.initialized "RecordRights$People") ∈ bigW := big_of (List.mem_of_getElem? (i := 5) (by decide +kernel)) (by decide +kernel)
theorem b_6 : (Jvm.Cond.initialized "RecordRights$Holdings") ∈ bigW := big_of (List.mem_of_getElem? (i := 6) (by decide +kernel)) (by decide +kernel)
theorem b_7 : (Jvm.Cond.initialized "RecordRights$Agreements") ∈ bigW := big_of (List.mem_of_getElem? (i := 7) (by decide +kernel)) (by decide +kernel)
theorem b_8 : (Jvm.Cond.initialized "RecordRights$Looks") ∈ bigW := big_of (List.mem_of_getElem? (i := 8) (by decide +kernel)) (by decide +kernel)
theorem b_9 : (Jvm.Cond.initialized "RecordRights$Requests") ∈ bigW := big_of (List.mem_of_getElem? (i := 9) (by decide +kernel)) (by decide +kernel)
theorem b_10 : (Jvm.Cond.initialized "RecordRights$Export") ∈ bigW := big_of (List.mem_of_getElem? (i := 10) (by decide +kernel)) (by decide +kernel)
theorem b_11 : (Jvm.Cond.initialized "RecordRightsModel") ∈ bigW := big_of (List.mem_of_getElem? (i := 11) (by decide +kernel)) (by decide +kernel)
theorem b_12 : (Jvm.Cond.initialized "java/lang/Throwable") ∈ bigW := big_of (List.mem_of_getElem? (i := 12) (by decide +kernel)) (by decide +kernel)
theorem b_13 : (Jvm.Cond.initialized "java/lang/Exception") ∈ bigW := big_of (List.mem_of_getElem? (i := 13) (by decide +kernel)) (by decide +kernel)
theorem b_14 : (Jvm.Cond.initialized "java/lang/RuntimeException") ∈ bigW := big_of (List.mem_of_getElem? (i := 14) (by decide +kernel)) (by decide +kernel)
theorem b_15 : (Jvm.Cond.initialized "java/lang/IllegalStateException") ∈ bigW := big_of (List.mem_of_getElem? (i := 15) (by decide +kernel)) (by decide +kernel)
theorem b_16 : (Jvm.Cond.initialized "java/util/NoSuchElementException") ∈ bigW := big_of (List.mem_of_getElem? (i := 16) (by decide +kernel)) (by decide +kernel)
theorem b_17 : (Jvm.Cond.initialized "java/lang/IllegalArgumentException") ∈ bigW := big_of (List.mem_of_getElem? (i := 17) (by decide +kernel)) (by decide +kernel)
theorem b_18 : (Jvm.Cond.initialized "java/lang/Integer") ∈ bigW := big_of (List.mem_of_getElem? (i := 18) (by decide +kernel)) (by decide +kernel)
theorem b_19 : (Jvm.Cond.classLink "RecordRightsLaw" (8 : Nat) "RecordRights") ∈ bigW := big_of (List.mem_of_getElem? (i := 19) (by decide +kernel)) (by decide +kernel)
theorem b_20 : (Jvm.Cond.instantiable "RecordRights" (10 : Nat)) ∈ bigW := big_of (List.mem_of_getElem? (i := 20) (by decide +kernel)) (by decide +kernel)
theorem b_21 : (Jvm.Cond.methodLink "RecordRightsLaw" (78 : Nat) ({ cls := "RecordRights", name := "<init>", desc := "()V" } : Jvm.MethodName)) ∈ bigW := big_of (List.mem_of_getElem? (i := 21) (by decide +kernel)) (by decide +kernel)
theorem b_22 : (Jvm.Cond.instanceMethod ({ cls := "RecordRights", name := "<init>", desc := "()V" } : Jvm.MethodName)) ∈ bigW := big_of (List.mem_of_getElem? (i := 22) (by decide +kernel)) (by decide +kernel)
theorem b_23 : (Jvm.Cond.code ({ cls := "RecordRights", name := "<init>", desc := "()V" } : Jvm.MethodName) prog_1_method_1_code (1 : Nat) (Option.none : Option Jvm.ClassFile.FieldType)) ∈ bigW := big_of (List.mem_of_getElem? (i := 23) (by decide +kernel)) (by decide +kernel)
theorem b_24 : (Jvm.Cond.methodLink "RecordRights" (3 : Nat) ({ cls := "java/lang/Object", name := "<init>", desc := "()V" } : Jvm.MethodName)) ∈ bigW := big_of (List.mem_of_getElem? (i := 24) (by decide +kernel)) (by decide +kernel)
theorem b_25 : (Jvm.Cond.instanceMethod ({ cls := "java/lang/Object", name := "<init>", desc := "()V" } : Jvm.MethodName)) ∈ bigW := big_of (List.mem_of_getElem? (i := 25) (by decide +kernel)) (by decide +kernel)
theorem b_26 : (Jvm.Cond.code ({ cls := "java/lang/Object", name := "<init>", desc := "()V" } : Jvm.MethodName) object_method_1_code (1 : Nat) (Option.none : Option Jvm.ClassFile.FieldType)) ∈ bigW := big_of (List.mem_of_getElem? (i := 26) (by decide +kernel)) (by decide +kernel)
theorem b_27 : (Jvm.Cond.classLink "RecordRights" (9 : Nat) "RecordRights$Pad") ∈ bigW := big_of (List.mem_of_getElem? (i := 27) (by decide +kernel)) (by decide +kernel)
theorem b_28 : (Jvm.Cond.instantiable "RecordRights$Pad" (2 : Nat)) ∈ bigW := big_of (List.mem_of_getElem? (i := 28) (by decide +kernel)) (by decide +kernel)
theorem b_30 : (Jvm.Cond.instanceMethod ({ cls := "RecordRights$Pad", name := "<init>", desc := "()V" } : Jvm.MethodName)) ∈ bigW := big_of (List.mem_of_getElem? (i := 30) (by decide +kernel)) (by decide +kernel)
theorem b_31 : (Jvm.Cond.code ({ cls := "RecordRights$Pad", name := "<init>", desc := "()V" } : Jvm.MethodName) prog_6_method_1_code (1 : Nat) (Option.none : Option Jvm.ClassFile.FieldType)) ∈ bigW := big_of (List.mem_of_getElem? (i := 31) (by decide +kernel)) (by decide +kernel)
theorem b_32 : (Jvm.Cond.methodLink "RecordRights$Pad" (3 : Nat) ({ cls := "java/lang/Object", name := "<init>", desc := "()V" } : Jvm.MethodName)) ∈ bigW := big_of (List.mem_of_getElem? (i := 32) (by decide +kernel)) (by decide +kernel)
theorem b_33 : (Jvm.Cond.fieldLink "RecordRights$Pad" (9 : Nat) "RecordRights$Pad" "signs" "[C") ∈ bigW := big_of (List.mem_of_getElem? (i := 33) (by decide +kernel)) (by decide +kernel)
theorem b_34 : (Jvm.Cond.fieldLink "RecordRights$RuleReader" (26 : Nat) "RecordRights$Pad" "signs" "[C") ∈ bigW := big_of (List.mem_of_getElem? (i := 34) (by decide +kernel)) (by decide +kernel)
theorem b_35 : (Jvm.Cond.fieldLink "RecordRights$RuleReader" (21 : Nat) "RecordRights$Pad" "length" "I") ∈ bigW := big_of (List.mem_of_getElem? (i := 35) (by decide +kernel)) (by decide +kernel)
theorem b_36 : (Jvm.Cond.fieldLink "RecordRights" (80 : Nat) "RecordRights$Pad" "length" "I") ∈ bigW := big_of (List.mem_of_getElem? (i := 36) (by decide +kernel)) (by decide +kernel)
theorem b_37 : (Jvm.Cond.fieldLink "RecordRights$Pad" (15 : Nat) "RecordRights$Pad" "length" "I") ∈ bigW := big_of (List.mem_of_getElem? (i := 37) (by decide +kernel)) (by decide +kernel)
theorem b_38 : (Jvm.Cond.laysFinal "RecordRights$Pad" "RecordRights$Pad" "signs" "[C") ∈ bigW := big_of (List.mem_of_getElem? (i := 38) (by decide +kernel)) (by decide +kernel)
theorem b_40 : (Jvm.Cond.lays "RecordRights$Pad" "RecordRights$Pad" "length" "I") ∈ bigW := big_of (List.mem_of_getElem? (i := 40) (by decide +kernel)) (by decide +kernel)
theorem b_43 : (Jvm.Cond.arrayClass Jvm.ClassFile.FieldType.char) ∈ bigW := big_of (List.mem_of_getElem? (i := 43) (by decide +kernel)) (by decide +kernel)
theorem b_44 : (Jvm.Cond.classLink "RecordRights" (16 : Nat) "RecordRights$RuleReader") ∈ bigW := big_of (List.mem_of_getElem? (i := 44) (by decide +kernel)) (by decide +kernel)
theorem b_45 : (Jvm.Cond.instantiable "RecordRights$RuleReader" (8 : Nat)) ∈ bigW := big_of (List.mem_of_getElem? (i := 45) (by decide +kernel)) (by decide +kernel)
theorem b_47 : (Jvm.Cond.instanceMethod ({ cls := "RecordRights$RuleReader", name := "<init>", desc := "()V" } : Jvm.MethodName)) ∈ bigW := big_of (List.mem_of_getElem? (i := 47) (by decide +kernel)) (by decide +kernel)
theorem b_48 : (Jvm.Cond.code ({ cls := "RecordRights$RuleReader", name := "<init>", desc := "()V" } : Jvm.MethodName) prog_10_method_1_code (1 : Nat) (Option.none : Option Jvm.ClassFile.FieldType)) ∈ bigW := big_of (List.mem_of_getElem? (i := 48) (by decide +kernel)) (by decide +kernel)
theorem b_49 : (Jvm.Cond.methodLink "RecordRights$RuleReader" (3 : Nat) ({ cls := "java/lang/Object", name := "<init>", desc := "()V" } : Jvm.MethodName)) ∈ bigW := big_of (List.mem_of_getElem? (i := 49) (by decide +kernel)) (by decide +kernel)
theorem b_50 : (Jvm.Cond.fieldLink "RecordRights$RuleReader" (34 : Nat) "RecordRights$RuleReader" "place" "I") ∈ bigW := big_of (List.mem_of_getElem? (i := 50) (by decide +kernel)) (by decide +kernel)
theorem b_51 : (Jvm.Cond.fieldLink "RecordRights" (104 : Nat) "RecordRights$RuleReader" "place" "I") ∈ bigW := big_of (List.mem_of_getElem? (i := 51) (by decide +kernel)) (by decide +kernel)
theorem b_52 : (Jvm.Cond.fieldLink "RecordRights" (107 : Nat) "RecordRights$RuleReader" "answer" "I") ∈ bigW := big_of (List.mem_of_getElem? (i := 52) (by decide +kernel)) (by decide +kernel)
theorem b_53 : (Jvm.Cond.fieldLink "RecordRights$RuleReader" (50 : Nat) "RecordRights$RuleReader" "answer" "I") ∈ bigW := big_of (List.mem_of_getElem? (i := 53) (by decide +kernel)) (by decide +kernel)
theorem b_54 : (Jvm.Cond.fieldLink "RecordRights$RuleReader" (9 : Nat) "RecordRights$RuleReader" "needs" "I") ∈ bigW := big_of (List.mem_of_getElem? (i := 54) (by decide +kernel)) (by decide +kernel)
theorem b_55 : (Jvm.Cond.fieldLink "RecordRights" (110 : Nat) "RecordRights$RuleReader" "needs" "I") ∈ bigW := big_of (List.mem_of_getElem? (i := 55) (by decide +kernel)) (by decide +kernel)
theorem b_56 : (Jvm.Cond.fieldLink "RecordRights$RuleReader" (15 : Nat) "RecordRights$RuleReader" "bars" "I") ∈ bigW := big_of (List.mem_of_getElem? (i := 56) (by decide +kernel)) (by decide +kernel)
theorem b_57 : (Jvm.Cond.fieldLink "RecordRights" (113 : Nat) "RecordRights$RuleReader" "bars" "I") ∈ bigW := big_of (List.mem_of_getElem? (i := 57) (by decide +kernel)) (by decide +kernel)
theorem b_58 : (Jvm.Cond.fieldLink "RecordRights$RuleReader" (18 : Nat) "RecordRights$RuleReader" "state" "I") ∈ bigW := big_of (List.mem_of_getElem? (i := 58) (by decide +kernel)) (by decide +kernel)
theorem b_59 : (Jvm.Cond.fieldLink "RecordRights$RuleReader" (40 : Nat) "RecordRights$RuleReader" "turned" "Z") ∈ bigW := big_of (List.mem_of_getElem? (i := 59) (by decide +kernel)) (by decide +kernel)
theorem b_60 : (Jvm.Cond.fieldLink "RecordRights$RuleReader" (61 : Nat) "RecordRights$RuleReader" "firstFact" "I") ∈ bigW := big_of (List.mem_of_getElem? (i := 60) (by decide +kernel)) (by decide +kernel)
theorem b_61 : (Jvm.Cond.fieldLink "RecordRights$RuleReader" (64 : Nat) "RecordRights$RuleReader" "digits" "I") ∈ bigW := big_of (List.mem_of_getElem? (i := 61) (by decide +kernel)) (by decide +kernel)
theorem b_62 : (Jvm.Cond.lays "RecordRights$RuleReader" "RecordRights$RuleReader" "place" "I") ∈ bigW := big_of (List.mem_of_getElem? (i := 62) (by decide +kernel)) (by decide +kernel)
theorem b_64 : (Jvm.Cond.lays "RecordRights$RuleReader" "RecordRights$RuleReader" "answer" "I") ∈ bigW := big_of (List.mem_of_getElem? (i := 64) (by decide +kernel)) (by decide +kernel)
theorem b_66 : (Jvm.Cond.lays "RecordRights$RuleReader" "RecordRights$RuleReader" "needs" "I") ∈ bigW := big_of (List.mem_of_getElem? (i := 66) (by decide +kernel)) (by decide +kernel)
theorem b_68 : (Jvm.Cond.lays "RecordRights$RuleReader" "RecordRights$RuleReader" "bars" "I") ∈ bigW := big_of (List.mem_of_getElem? (i := 68) (by decide +kernel)) (by decide +kernel)
theorem b_70 : (Jvm.Cond.lays "RecordRights$RuleReader" "RecordRights$RuleReader" "state" "I") ∈ bigW := big_of (List.mem_of_getElem? (i := 70) (by decide +kernel)) (by decide +kernel)
theorem b_72 : (Jvm.Cond.lays "RecordRights$RuleReader" "RecordRights$RuleReader" "turned" "Z") ∈ bigW := big_of (List.mem_of_getElem? (i := 72) (by decide +kernel)) (by decide +kernel)
theorem b_74 : (Jvm.Cond.lays "RecordRights$RuleReader" "RecordRights$RuleReader" "firstFact" "I") ∈ bigW := big_of (List.mem_of_getElem? (i := 74) (by decide +kernel)) (by decide +kernel)
theorem b_76 : (Jvm.Cond.lays "RecordRights$RuleReader" "RecordRights$RuleReader" "digits" "I") ∈ bigW := big_of (List.mem_of_getElem? (i := 76) (by decide +kernel)) (by decide +kernel)
theorem b_79 : (Jvm.Cond.classLink "RecordRights" (23 : Nat) "RecordRights$RuleBook") ∈ bigW := big_of (List.mem_of_getElem? (i := 79) (by decide +kernel)) (by decide +kernel)
theorem b_80 : (Jvm.Cond.instantiable "RecordRights$RuleBook" (7 : Nat)) ∈ bigW := big_of (List.mem_of_getElem? (i := 80) (by decide +kernel)) (by decide +kernel)
theorem b_82 : (Jvm.Cond.instanceMethod ({ cls := "RecordRights$RuleBook", name := "<init>", desc := "()V" } : Jvm.MethodName)) ∈ bigW := big_of (List.mem_of_getElem? (i := 82) (by decide +kernel)) (by decide +kernel)
theorem b_83 : (Jvm.Cond.code ({ cls := "RecordRights$RuleBook", name := "<init>", desc := "()V" } : Jvm.MethodName) prog_9_method_1_code (1 : Nat) (Option.none : Option Jvm.ClassFile.FieldType)) ∈ bigW := big_of (List.mem_of_getElem? (i := 83) (by decide +kernel)) (by decide +kernel)
theorem b_84 : (Jvm.Cond.methodLink "RecordRights$RuleBook" (3 : Nat) ({ cls := "java/lang/Object", name := "<init>", desc := "()V" } : Jvm.MethodName)) ∈ bigW := big_of (List.mem_of_getElem? (i := 84) (by decide +kernel)) (by decide +kernel)
theorem b_85 : (Jvm.Cond.fieldLink "RecordRights$RuleBook" (9 : Nat) "RecordRights$RuleBook" "needs" "[I") ∈ bigW := big_of (List.mem_of_getElem? (i := 85) (by decide +kernel)) (by decide +kernel)
theorem b_86 : (Jvm.Cond.fieldLink "RecordRights$RuleBook" (15 : Nat) "RecordRights$RuleBook" "bars" "[I") ∈ bigW := big_of (List.mem_of_getElem? (i := 86) (by decide +kernel)) (by decide +kernel)
theorem b_87 : (Jvm.Cond.fieldLink "RecordRights$RuleBook" (18 : Nat) "RecordRights$RuleBook" "size" "I") ∈ bigW := big_of (List.mem_of_getElem? (i := 87) (by decide +kernel)) (by decide +kernel)
theorem b_88 : (Jvm.Cond.fieldLink "RecordRights" (95 : Nat) "RecordRights$RuleBook" "size" "I") ∈ bigW := big_of (List.mem_of_getElem? (i := 88) (by decide +kernel)) (by decide +kernel)
theorem b_89 : (Jvm.Cond.fieldLink "RecordRights$RuleBook" (31 : Nat) "RecordRights$RuleBook" "told" "I") ∈ bigW := big_of (List.mem_of_getElem? (i := 89) (by decide +kernel)) (by decide +kernel)
theorem b_90 : (Jvm.Cond.fieldLink "RecordRights" (238 : Nat) "RecordRights$RuleBook" "told" "I") ∈ bigW := big_of (List.mem_of_getElem? (i := 90) (by decide +kernel)) (by decide +kernel)
theorem b_91 : (Jvm.Cond.fieldLink "RecordRights$RuleBook" (22 : Nat) "RecordRights$RuleBook" "absent" "I") ∈ bigW := big_of (List.mem_of_getElem? (i := 91) (by decide +kernel)) (by decide +kernel)
theorem b_92 : (Jvm.Cond.fieldLink "RecordRights$RuleBook" (25 : Nat) "RecordRights$RuleBook" "masking" "I") ∈ bigW := big_of (List.mem_of_getElem? (i := 92) (by decide +kernel)) (by decide +kernel)
theorem b_93 : (Jvm.Cond.fieldLink "RecordRights$RuleBook" (28 : Nat) "RecordRights$RuleBook" "showing" "I") ∈ bigW := big_of (List.mem_of_getElem? (i := 93) (by decide +kernel)) (by decide +kernel)
theorem b_94 : (Jvm.Cond.laysFinal "RecordRights$RuleBook" "RecordRights$RuleBook" "needs" "[I") ∈ bigW := big_of (List.mem_of_getElem? (i := 94) (by decide +kernel)) (by decide +kernel)
theorem b_96 : (Jvm.Cond.laysFinal "RecordRights$RuleBook" "RecordRights$RuleBook" "bars" "[I") ∈ bigW := big_of (List.mem_of_getElem? (i := 96) (by decide +kernel)) (by decide +kernel)
theorem b_98 : (Jvm.Cond.lays "RecordRights$RuleBook" "RecordRights$RuleBook" "size" "I") ∈ bigW := big_of (List.mem_of_getElem? (i := 98) (by decide +kernel)) (by decide +kernel)
theorem b_100 : (Jvm.Cond.lays "RecordRights$RuleBook" "RecordRights$RuleBook" "told" "I") ∈ bigW := big_of (List.mem_of_getElem? (i := 100) (by decide +kernel)) (by decide +kernel)
theorem b_102 : (Jvm.Cond.lays "RecordRights$RuleBook" "RecordRights$RuleBook" "absent" "I") ∈ bigW := big_of (List.mem_of_getElem? (i := 102) (by decide +kernel)) (by decide +kernel)
theorem b_104 : (Jvm.Cond.lays "RecordRights$RuleBook" "RecordRights$RuleBook" "masking" "I") ∈ bigW := big_of (List.mem_of_getElem? (i := 104) (by decide +kernel)) (by decide +kernel)
theorem b_106 : (Jvm.Cond.lays "RecordRights$RuleBook" "RecordRights$RuleBook" "showing" "I") ∈ bigW := big_of (List.mem_of_getElem? (i := 106) (by decide +kernel)) (by decide +kernel)
theorem b_109 : (Jvm.Cond.arrayClass Jvm.ClassFile.FieldType.int) ∈ bigW := big_of (List.mem_of_getElem? (i := 109) (by decide +kernel)) (by decide +kernel)
theorem b_110 : (Jvm.Cond.classLink "RecordRights" (30 : Nat) "RecordRights$People") ∈ bigW := big_of (List.mem_of_getElem? (i := 110) (by decide +kernel)) (by decide +kernel)
theorem b_111 : (Jvm.Cond.instantiable "RecordRights$People" (3 : Nat)) ∈ bigW := big_of (List.mem_of_getElem? (i := 111) (by decide +kernel)) (by decide +kernel)
theorem b_113 : (Jvm.Cond.instanceMethod ({ cls := "RecordRights$People", name := "<init>", desc := "()V" } : Jvm.MethodName)) ∈ bigW := big_of (List.mem_of_getElem? (i := 113) (by decide +kernel)) (by decide +kernel)
theorem b_114 : (Jvm.Cond.code ({ cls := "RecordRights$People", name := "<init>", desc := "()V" } : Jvm.MethodName) prog_7_method_1_code (1 : Nat) (Option.none : Option Jvm.ClassFile.FieldType)) ∈ bigW := big_of (List.mem_of_getElem? (i := 114) (by decide +kernel)) (by decide +kernel)
theorem b_115 : (Jvm.Cond.methodLink "RecordRights$People" (3 : Nat) ({ cls := "java/lang/Object", name := "<init>", desc := "()V" } : Jvm.MethodName)) ∈ bigW := big_of (List.mem_of_getElem? (i := 115) (by decide +kernel)) (by decide +kernel)
theorem b_116 : (Jvm.Cond.fieldLink "RecordRights$People" (9 : Nat) "RecordRights$People" "roles" "[I") ∈ bigW := big_of (List.mem_of_getElem? (i := 116) (by decide +kernel)) (by decide +kernel)
theorem b_117 : (Jvm.Cond.fieldLink "RecordRights" (263 : Nat) "RecordRights$People" "roles" "[I") ∈ bigW := big_of (List.mem_of_getElem? (i := 117) (by decide +kernel)) (by decide +kernel)
theorem b_118 : (Jvm.Cond.fieldLink "RecordRights$People" (15 : Nat) "RecordRights$People" "limits" "[I") ∈ bigW := big_of (List.mem_of_getElem? (i := 118) (by decide +kernel)) (by decide +kernel)
theorem b_119 : (Jvm.Cond.fieldLink "RecordRights" (227 : Nat) "RecordRights$People" "limits" "[I") ∈ bigW := big_of (List.mem_of_getElem? (i := 119) (by decide +kernel)) (by decide +kernel)
theorem b_120 : (Jvm.Cond.fieldLink "RecordRights$People" (18 : Nat) "RecordRights$People" "size" "I") ∈ bigW := big_of (List.mem_of_getElem? (i := 120) (by decide +kernel)) (by decide +kernel)
theorem b_121 : (Jvm.Cond.fieldLink "RecordRights" (134 : Nat) "RecordRights$People" "size" "I") ∈ bigW := big_of (List.mem_of_getElem? (i := 121) (by decide +kernel)) (by decide +kernel)
theorem b_122 : (Jvm.Cond.laysFinal "RecordRights$People" "RecordRights$People" "roles" "[I") ∈ bigW := big_of (List.mem_of_getElem? (i := 122) (by decide +kernel)) (by decide +kernel)
theorem b_124 : (Jvm.Cond.laysFinal "RecordRights$People" "RecordRights$People" "limits" "[I") ∈ bigW := big_of (List.mem_of_getElem? (i := 124) (by decide +kernel)) (by decide +kernel)
theorem b_126 : (Jvm.Cond.lays "RecordRights$People" "RecordRights$People" "size" "I") ∈ bigW := big_of (List.mem_of_getElem? (i := 126) (by decide +kernel)) (by decide +kernel)
theorem b_129 : (Jvm.Cond.classLink "RecordRights" (37 : Nat) "RecordRights$Holdings") ∈ bigW := big_of (List.mem_of_getElem? (i := 129) (by decide +kernel)) (by decide +kernel)
theorem b_130 : (Jvm.Cond.instantiable "RecordRights$Holdings" (4 : Nat)) ∈ bigW := big_of (List.mem_of_getElem? (i := 130) (by decide +kernel)) (by decide +kernel)
theorem b_132 : (Jvm.Cond.instanceMethod ({ cls := "RecordRights$Holdings", name := "<init>", desc := "()V" } : Jvm.MethodName)) ∈ bigW := big_of (List.mem_of_getElem? (i := 132) (by decide +kernel)) (by decide +kernel)
theorem b_133 : (Jvm.Cond.code ({ cls := "RecordRights$Holdings", name := "<init>", desc := "()V" } : Jvm.MethodName) prog_4_method_1_code (1 : Nat) (Option.none : Option Jvm.ClassFile.FieldType)) ∈ bigW := big_of (List.mem_of_getElem? (i := 133) (by decide +kernel)) (by decide +kernel)
theorem b_134 : (Jvm.Cond.methodLink "RecordRights$Holdings" (3 : Nat) ({ cls := "java/lang/Object", name := "<init>", desc := "()V" } : Jvm.MethodName)) ∈ bigW := big_of (List.mem_of_getElem? (i := 134) (by decide +kernel)) (by decide +kernel)
theorem b_135 : (Jvm.Cond.fieldLink "RecordRights$Holdings" (9 : Nat) "RecordRights$Holdings" "facts" "[I") ∈ bigW := big_of (List.mem_of_getElem? (i := 135) (by decide +kernel)) (by decide +kernel)
theorem b_136 : (Jvm.Cond.fieldLink "RecordRights" (271 : Nat) "RecordRights$Holdings" "facts" "[I") ∈ bigW := big_of (List.mem_of_getElem? (i := 136) (by decide +kernel)) (by decide +kernel)
theorem b_137 : (Jvm.Cond.fieldLink "RecordRights$Holdings" (15 : Nat) "RecordRights$Holdings" "embargoes" "[I") ∈ bigW := big_of (List.mem_of_getElem? (i := 137) (by decide +kernel)) (by decide +kernel)
theorem b_138 : (Jvm.Cond.fieldLink "RecordRights" (161 : Nat) "RecordRights$Holdings" "embargoes" "[I") ∈ bigW := big_of (List.mem_of_getElem? (i := 138) (by decide +kernel)) (by decide +kernel)
theorem b_139 : (Jvm.Cond.fieldLink "RecordRights$Holdings" (18 : Nat) "RecordRights$Holdings" "values" "[J") ∈ bigW := big_of (List.mem_of_getElem? (i := 139) (by decide +kernel)) (by decide +kernel)
theorem b_140 : (Jvm.Cond.fieldLink "RecordRights$Holdings" (22 : Nat) "RecordRights$Holdings" "size" "I") ∈ bigW := big_of (List.mem_of_getElem? (i := 140) (by decide +kernel)) (by decide +kernel)
theorem b_141 : (Jvm.Cond.fieldLink "RecordRights" (144 : Nat) "RecordRights$Holdings" "size" "I") ∈ bigW := big_of (List.mem_of_getElem? (i := 141) (by decide +kernel)) (by decide +kernel)
theorem b_142 : (Jvm.Cond.laysFinal "RecordRights$Holdings" "RecordRights$Holdings" "facts" "[I") ∈ bigW := big_of (List.mem_of_getElem? (i := 142) (by decide +kernel)) (by decide +kernel)
theorem b_144 : (Jvm.Cond.laysFinal "RecordRights$Holdings" "RecordRights$Holdings" "embargoes" "[I") ∈ bigW := big_of (List.mem_of_getElem? (i := 144) (by decide +kernel)) (by decide +kernel)
theorem b_146 : (Jvm.Cond.laysFinal "RecordRights$Holdings" "RecordRights$Holdings" "values" "[J") ∈ bigW := big_of (List.mem_of_getElem? (i := 146) (by decide +kernel)) (by decide +kernel)
theorem b_148 : (Jvm.Cond.lays "RecordRights$Holdings" "RecordRights$Holdings" "size" "I") ∈ bigW := big_of (List.mem_of_getElem? (i := 148) (by decide +kernel)) (by decide +kernel)
theorem b_151 : (Jvm.Cond.arrayClass Jvm.ClassFile.FieldType.long) ∈ bigW := big_of (List.mem_of_getElem? (i := 151) (by decide +kernel)) (by decide +kernel)
theorem b_152 : (Jvm.Cond.classLink "RecordRights" (44 : Nat) "RecordRights$Agreements") ∈ bigW := big_of (List.mem_of_getElem? (i := 152) (by decide +kernel)) (by decide +kernel)
theorem b_153 : (Jvm.Cond.instantiable "RecordRights$Agreements" (5 : Nat)) ∈ bigW := big_of (List.mem_of_getElem? (i := 153) (by decide +kernel)) (by decide +kernel)
theorem b_155 : (Jvm.Cond.instanceMethod ({ cls := "RecordRights$Agreements", name := "<init>", desc := "()V" } : Jvm.MethodName)) ∈ bigW := big_of (List.mem_of_getElem? (i := 155) (by decide +kernel)) (by decide +kernel)
theorem b_156 : (Jvm.Cond.code ({ cls := "RecordRights$Agreements", name := "<init>", desc := "()V" } : Jvm.MethodName) prog_2_method_1_code (1 : Nat) (Option.none : Option Jvm.ClassFile.FieldType)) ∈ bigW := big_of (List.mem_of_getElem? (i := 156) (by decide +kernel)) (by decide +kernel)
theorem b_157 : (Jvm.Cond.methodLink "RecordRights$Agreements" (3 : Nat) ({ cls := "java/lang/Object", name := "<init>", desc := "()V" } : Jvm.MethodName)) ∈ bigW := big_of (List.mem_of_getElem? (i := 157) (by decide +kernel)) (by decide +kernel)
theorem b_158 : (Jvm.Cond.fieldLink "RecordRights$Agreements" (9 : Nat) "RecordRights$Agreements" "persons" "[I") ∈ bigW := big_of (List.mem_of_getElem? (i := 158) (by decide +kernel)) (by decide +kernel)
theorem b_159 : (Jvm.Cond.fieldLink "RecordRights$Agreements" (15 : Nat) "RecordRights$Agreements" "records" "[I") ∈ bigW := big_of (List.mem_of_getElem? (i := 159) (by decide +kernel)) (by decide +kernel)
theorem b_160 : (Jvm.Cond.fieldLink "RecordRights$Agreements" (18 : Nat) "RecordRights$Agreements" "froms" "[I") ∈ bigW := big_of (List.mem_of_getElem? (i := 160) (by decide +kernel)) (by decide +kernel)
theorem b_161 : (Jvm.Cond.fieldLink "RecordRights$Agreements" (21 : Nat) "RecordRights$Agreements" "tos" "[I") ∈ bigW := big_of (List.mem_of_getElem? (i := 161) (by decide +kernel)) (by decide +kernel)
theorem b_162 : (Jvm.Cond.fieldLink "RecordRights$Agreements" (24 : Nat) "RecordRights$Agreements" "size" "I") ∈ bigW := big_of (List.mem_of_getElem? (i := 162) (by decide +kernel)) (by decide +kernel)
theorem b_163 : (Jvm.Cond.fieldLink "RecordRights" (169 : Nat) "RecordRights$Agreements" "size" "I") ∈ bigW := big_of (List.mem_of_getElem? (i := 163) (by decide +kernel)) (by decide +kernel)
theorem b_164 : (Jvm.Cond.laysFinal "RecordRights$Agreements" "RecordRights$Agreements" "persons" "[I") ∈ bigW := big_of (List.mem_of_getElem? (i := 164) (by decide +kernel)) (by decide +kernel)
theorem b_166 : (Jvm.Cond.laysFinal "RecordRights$Agreements" "RecordRights$Agreements" "records" "[I") ∈ bigW := big_of (List.mem_of_getElem? (i := 166) (by decide +kernel)) (by decide +kernel)
theorem b_168 : (Jvm.Cond.laysFinal "RecordRights$Agreements" "RecordRights$Agreements" "froms" "[I") ∈ bigW := big_of (List.mem_of_getElem? (i := 168) (by decide +kernel)) (by decide +kernel)
theorem b_170 : (Jvm.Cond.laysFinal "RecordRights$Agreements" "RecordRights$Agreements" "tos" "[I") ∈ bigW := big_of (List.mem_of_getElem? (i := 170) (by decide +kernel)) (by decide +kernel)
theorem b_172 : (Jvm.Cond.lays "RecordRights$Agreements" "RecordRights$Agreements" "size" "I") ∈ bigW := big_of (List.mem_of_getElem? (i := 172) (by decide +kernel)) (by decide +kernel)
theorem b_175 : (Jvm.Cond.classLink "RecordRights" (51 : Nat) "RecordRights$Looks") ∈ bigW := big_of (List.mem_of_getElem? (i := 175) (by decide +kernel)) (by decide +kernel)
theorem b_176 : (Jvm.Cond.instantiable "RecordRights$Looks" (3 : Nat)) ∈ bigW := big_of (List.mem_of_getElem? (i := 176) (by decide +kernel)) (by decide +kernel)
theorem b_178 : (Jvm.Cond.instanceMethod ({ cls := "RecordRights$Looks", name := "<init>", desc := "()V" } : Jvm.MethodName)) ∈ bigW := big_of (List.mem_of_getElem? (i := 178) (by decide +kernel)) (by decide +kernel)
theorem b_179 : (Jvm.Cond.code ({ cls := "RecordRights$Looks", name := "<init>", desc := "()V" } : Jvm.MethodName) prog_5_method_1_code (1 : Nat) (Option.none : Option Jvm.ClassFile.FieldType)) ∈ bigW := big_of (List.mem_of_getElem? (i := 179) (by decide +kernel)) (by decide +kernel)
theorem b_180 : (Jvm.Cond.methodLink "RecordRights$Looks" (3 : Nat) ({ cls := "java/lang/Object", name := "<init>", desc := "()V" } : Jvm.MethodName)) ∈ bigW := big_of (List.mem_of_getElem? (i := 180) (by decide +kernel)) (by decide +kernel)
theorem b_181 : (Jvm.Cond.fieldLink "RecordRights$Looks" (9 : Nat) "RecordRights$Looks" "parts" "[I") ∈ bigW := big_of (List.mem_of_getElem? (i := 181) (by decide +kernel)) (by decide +kernel)
theorem b_182 : (Jvm.Cond.fieldLink "RecordRights$Looks" (15 : Nat) "RecordRights$Looks" "lookers" "[I") ∈ bigW := big_of (List.mem_of_getElem? (i := 182) (by decide +kernel)) (by decide +kernel)
theorem b_183 : (Jvm.Cond.fieldLink "RecordRights$Looks" (18 : Nat) "RecordRights$Looks" "size" "I") ∈ bigW := big_of (List.mem_of_getElem? (i := 183) (by decide +kernel)) (by decide +kernel)
theorem b_184 : (Jvm.Cond.fieldLink "RecordRights" (187 : Nat) "RecordRights$Looks" "size" "I") ∈ bigW := big_of (List.mem_of_getElem? (i := 184) (by decide +kernel)) (by decide +kernel)
theorem b_185 : (Jvm.Cond.laysFinal "RecordRights$Looks" "RecordRights$Looks" "parts" "[I") ∈ bigW := big_of (List.mem_of_getElem? (i := 185) (by decide +kernel)) (by decide +kernel)
theorem b_187 : (Jvm.Cond.laysFinal "RecordRights$Looks" "RecordRights$Looks" "lookers" "[I") ∈ bigW := big_of (List.mem_of_getElem? (i := 187) (by decide +kernel)) (by decide +kernel)
theorem b_189 : (Jvm.Cond.lays "RecordRights$Looks" "RecordRights$Looks" "size" "I") ∈ bigW := big_of (List.mem_of_getElem? (i := 189) (by decide +kernel)) (by decide +kernel)
theorem b_192 : (Jvm.Cond.classLink "RecordRights" (58 : Nat) "RecordRights$Requests") ∈ bigW := big_of (List.mem_of_getElem? (i := 192) (by decide +kernel)) (by decide +kernel)
theorem b_193 : (Jvm.Cond.instantiable "RecordRights$Requests" (3 : Nat)) ∈ bigW := big_of (List.mem_of_getElem? (i := 193) (by decide +kernel)) (by decide +kernel)
theorem b_195 : (Jvm.Cond.instanceMethod ({ cls := "RecordRights$Requests", name := "<init>", desc := "()V" } : Jvm.MethodName)) ∈ bigW := big_of (List.mem_of_getElem? (i := 195) (by decide +kernel)) (by decide +kernel)
theorem b_196 : (Jvm.Cond.code ({ cls := "RecordRights$Requests", name := "<init>", desc := "()V" } : Jvm.MethodName) prog_8_method_1_code (1 : Nat) (Option.none : Option Jvm.ClassFile.FieldType)) ∈ bigW := big_of (List.mem_of_getElem? (i := 196) (by decide +kernel)) (by decide +kernel)
theorem b_197 : (Jvm.Cond.methodLink "RecordRights$Requests" (3 : Nat) ({ cls := "java/lang/Object", name := "<init>", desc := "()V" } : Jvm.MethodName)) ∈ bigW := big_of (List.mem_of_getElem? (i := 197) (by decide +kernel)) (by decide +kernel)
theorem b_198 : (Jvm.Cond.fieldLink "RecordRights$Requests" (9 : Nat) "RecordRights$Requests" "persons" "[I") ∈ bigW := big_of (List.mem_of_getElem? (i := 198) (by decide +kernel)) (by decide +kernel)
theorem b_199 : (Jvm.Cond.fieldLink "RecordRights$Requests" (15 : Nat) "RecordRights$Requests" "days" "[I") ∈ bigW := big_of (List.mem_of_getElem? (i := 199) (by decide +kernel)) (by decide +kernel)
theorem b_200 : (Jvm.Cond.fieldLink "RecordRights$Requests" (18 : Nat) "RecordRights$Requests" "size" "I") ∈ bigW := big_of (List.mem_of_getElem? (i := 200) (by decide +kernel)) (by decide +kernel)
theorem b_201 : (Jvm.Cond.fieldLink "RecordRights" (221 : Nat) "RecordRights$Requests" "size" "I") ∈ bigW := big_of (List.mem_of_getElem? (i := 201) (by decide +kernel)) (by decide +kernel)
theorem b_202 : (Jvm.Cond.laysFinal "RecordRights$Requests" "RecordRights$Requests" "persons" "[I") ∈ bigW := big_of (List.mem_of_getElem? (i := 202) (by decide +kernel)) (by decide +kernel)
theorem b_204 : (Jvm.Cond.laysFinal "RecordRights$Requests" "RecordRights$Requests" "days" "[I") ∈ bigW := big_of (List.mem_of_getElem? (i := 204) (by decide +kernel)) (by decide +kernel)
theorem b_206 : (Jvm.Cond.lays "RecordRights$Requests" "RecordRights$Requests" "size" "I") ∈ bigW := big_of (List.mem_of_getElem? (i := 206) (by decide +kernel)) (by decide +kernel)
theorem b_209 : (Jvm.Cond.classLink "RecordRights" (65 : Nat) "RecordRights$Export") ∈ bigW := big_of (List.mem_of_getElem? (i := 209) (by decide +kernel)) (by decide +kernel)
theorem b_210 : (Jvm.Cond.instantiable "RecordRights$Export" (2 : Nat)) ∈ bigW := big_of (List.mem_of_getElem? (i := 210) (by decide +kernel)) (by decide +kernel)
theorem b_212 : (Jvm.Cond.instanceMethod ({ cls := "RecordRights$Export", name := "<init>", desc := "()V" } : Jvm.MethodName)) ∈ bigW := big_of (List.mem_of_getElem? (i := 212) (by decide +kernel)) (by decide +kernel)
theorem b_213 : (Jvm.Cond.code ({ cls := "RecordRights$Export", name := "<init>", desc := "()V" } : Jvm.MethodName) prog_3_method_1_code (1 : Nat) (Option.none : Option Jvm.ClassFile.FieldType)) ∈ bigW := big_of (List.mem_of_getElem? (i := 213) (by decide +kernel)) (by decide +kernel)
theorem b_214 : (Jvm.Cond.methodLink "RecordRights$Export" (3 : Nat) ({ cls := "java/lang/Object", name := "<init>", desc := "()V" } : Jvm.MethodName)) ∈ bigW := big_of (List.mem_of_getElem? (i := 214) (by decide +kernel)) (by decide +kernel)
theorem b_215 : (Jvm.Cond.fieldLink "RecordRights$Export" (9 : Nat) "RecordRights$Export" "records" "[I") ∈ bigW := big_of (List.mem_of_getElem? (i := 215) (by decide +kernel)) (by decide +kernel)
theorem b_216 : (Jvm.Cond.fieldLink "RecordRights" (218 : Nat) "RecordRights$Export" "records" "[I") ∈ bigW := big_of (List.mem_of_getElem? (i := 216) (by decide +kernel)) (by decide +kernel)
theorem b_217 : (Jvm.Cond.fieldLink "RecordRights$Export" (15 : Nat) "RecordRights$Export" "size" "I") ∈ bigW := big_of (List.mem_of_getElem? (i := 217) (by decide +kernel)) (by decide +kernel)
theorem b_218 : (Jvm.Cond.fieldLink "RecordRights" (210 : Nat) "RecordRights$Export" "size" "I") ∈ bigW := big_of (List.mem_of_getElem? (i := 218) (by decide +kernel)) (by decide +kernel)
theorem b_219 : (Jvm.Cond.laysFinal "RecordRights$Export" "RecordRights$Export" "records" "[I") ∈ bigW := big_of (List.mem_of_getElem? (i := 219) (by decide +kernel)) (by decide +kernel)
theorem b_221 : (Jvm.Cond.lays "RecordRights$Export" "RecordRights$Export" "size" "I") ∈ bigW := big_of (List.mem_of_getElem? (i := 221) (by decide +kernel)) (by decide +kernel)
theorem b_224 : (Jvm.Cond.fieldLink "RecordRights" (12 : Nat) "RecordRights" "pad" "LRecordRights$Pad;") ∈ bigW := big_of (List.mem_of_getElem? (i := 224) (by decide +kernel)) (by decide +kernel)
theorem b_225 : (Jvm.Cond.fieldLink "RecordRights" (19 : Nat) "RecordRights" "reader" "LRecordRights$RuleReader;") ∈ bigW := big_of (List.mem_of_getElem? (i := 225) (by decide +kernel)) (by decide +kernel)
theorem b_226 : (Jvm.Cond.fieldLink "RecordRights" (26 : Nat) "RecordRights" "rules" "LRecordRights$RuleBook;") ∈ bigW := big_of (List.mem_of_getElem? (i := 226) (by decide +kernel)) (by decide +kernel)
theorem b_227 : (Jvm.Cond.fieldLink "RecordRights" (33 : Nat) "RecordRights" "people" "LRecordRights$People;") ∈ bigW := big_of (List.mem_of_getElem? (i := 227) (by decide +kernel)) (by decide +kernel)
theorem b_228 : (Jvm.Cond.fieldLink "RecordRights" (40 : Nat) "RecordRights" "holdings" "LRecordRights$Holdings;") ∈ bigW := big_of (List.mem_of_getElem? (i := 228) (by decide +kernel)) (by decide +kernel)
theorem b_229 : (Jvm.Cond.fieldLink "RecordRights" (47 : Nat) "RecordRights" "agreements" "LRecordRights$Agreements;") ∈ bigW := big_of (List.mem_of_getElem? (i := 229) (by decide +kernel)) (by decide +kernel)
theorem b_230 : (Jvm.Cond.fieldLink "RecordRights" (54 : Nat) "RecordRights" "looks" "LRecordRights$Looks;") ∈ bigW := big_of (List.mem_of_getElem? (i := 230) (by decide +kernel)) (by decide +kernel)
theorem b_231 : (Jvm.Cond.fieldLink "RecordRights" (61 : Nat) "RecordRights" "requests" "LRecordRights$Requests;") ∈ bigW := big_of (List.mem_of_getElem? (i := 231) (by decide +kernel)) (by decide +kernel)
theorem b_232 : (Jvm.Cond.fieldLink "RecordRights" (68 : Nat) "RecordRights" "latest" "LRecordRights$Export;") ∈ bigW := big_of (List.mem_of_getElem? (i := 232) (by decide +kernel)) (by decide +kernel)
theorem b_233 : (Jvm.Cond.fieldLink "RecordRights" (72 : Nat) "RecordRights" "fieldRules" "[I") ∈ bigW := big_of (List.mem_of_getElem? (i := 233) (by decide +kernel)) (by decide +kernel)
theorem b_234 : (Jvm.Cond.laysFinal "RecordRights" "RecordRights" "pad" "LRecordRights$Pad;") ∈ bigW := big_of (List.mem_of_getElem? (i := 234) (by decide +kernel)) (by decide +kernel)
theorem b_236 : (Jvm.Cond.laysFinal "RecordRights" "RecordRights" "reader" "LRecordRights$RuleReader;") ∈ bigW := big_of (List.mem_of_getElem? (i := 236) (by decide +kernel)) (by decide +kernel)
theorem b_238 : (Jvm.Cond.laysFinal "RecordRights" "RecordRights" "rules" "LRecordRights$RuleBook;") ∈ bigW := big_of (List.mem_of_getElem? (i := 238) (by decide +kernel)) (by decide +kernel)
theorem b_240 : (Jvm.Cond.laysFinal "RecordRights" "RecordRights" "people" "LRecordRights$People;") ∈ bigW := big_of (List.mem_of_getElem? (i := 240) (by decide +kernel)) (by decide +kernel)
theorem b_242 : (Jvm.Cond.laysFinal "RecordRights" "RecordRights" "holdings" "LRecordRights$Holdings;") ∈ bigW := big_of (List.mem_of_getElem? (i := 242) (by decide +kernel)) (by decide +kernel)
theorem b_244 : (Jvm.Cond.laysFinal "RecordRights" "RecordRights" "agreements" "LRecordRights$Agreements;") ∈ bigW := big_of (List.mem_of_getElem? (i := 244) (by decide +kernel)) (by decide +kernel)
theorem b_246 : (Jvm.Cond.laysFinal "RecordRights" "RecordRights" "looks" "LRecordRights$Looks;") ∈ bigW := big_of (List.mem_of_getElem? (i := 246) (by decide +kernel)) (by decide +kernel)
theorem b_248 : (Jvm.Cond.laysFinal "RecordRights" "RecordRights" "requests" "LRecordRights$Requests;") ∈ bigW := big_of (List.mem_of_getElem? (i := 248) (by decide +kernel)) (by decide +kernel)
theorem b_250 : (Jvm.Cond.laysFinal "RecordRights" "RecordRights" "latest" "LRecordRights$Export;") ∈ bigW := big_of (List.mem_of_getElem? (i := 250) (by decide +kernel)) (by decide +kernel)
theorem b_252 : (Jvm.Cond.laysFinal "RecordRights" "RecordRights" "fieldRules" "[I") ∈ bigW := big_of (List.mem_of_getElem? (i := 252) (by decide +kernel)) (by decide +kernel)
theorem b_255 : (Jvm.Cond.methodLink "RecordRightsLaw" (82 : Nat) ({ cls := "RecordRightsLaw", name := "unit", desc := "(LRecordRights;IIII[J)I" } : Jvm.MethodName)) ∈ bigW := big_of (List.mem_of_getElem? (i := 255) (by decide +kernel)) (by decide +kernel)
theorem b_256 : (Jvm.Cond.static ({ cls := "RecordRightsLaw", name := "unit", desc := "(LRecordRights;IIII[J)I" } : Jvm.MethodName)) ∈ bigW := big_of (List.mem_of_getElem? (i := 256) (by decide +kernel)) (by decide +kernel)
theorem b_257 : (Jvm.Cond.codeWith ({ cls := "RecordRightsLaw", name := "unit", desc := "(LRecordRights;IIII[J)I" } : Jvm.MethodName) method_3_code (7 : Nat) (Option.some Jvm.ClassFile.FieldType.int) [((0 : Nat), (14 : Nat), (17 : Nat), (13 : Nat))]) ∈ bigW := big_of (List.mem_of_getElem? (i := 257) (by decide +kernel)) (by decide +kernel)
theorem b_258 : (Jvm.Cond.classLink "RecordRightsLaw" (13 : Nat) "java/lang/IllegalStateException") ∈ bigW := big_of (List.mem_of_getElem? (i := 258) (by decide +kernel)) (by decide +kernel)
theorem b_259 : (Jvm.Cond.methodLink "RecordRightsLaw" (7 : Nat) ({ cls := "RecordRights", name := "unit", desc := "(IIII)I" } : Jvm.MethodName)) ∈ bigW := big_of (List.mem_of_getElem? (i := 259) (by decide +kernel)) (by decide +kernel)
theorem b_260 : (Jvm.Cond.instanceMethod ({ cls := "RecordRights", name := "unit", desc := "(IIII)I" } : Jvm.MethodName)) ∈ bigW := big_of (List.mem_of_getElem? (i := 260) (by decide +kernel)) (by decide +kernel)
theorem b_261 : (Jvm.Cond.selects "RecordRights" ({ cls := "RecordRights", name := "unit", desc := "(IIII)I" } : Jvm.MethodName) ({ cls := "RecordRights", name := "unit", desc := "(IIII)I" } : Jvm.MethodName)) ∈ bigW := big_of (List.mem_of_getElem? (i := 261) (by decide +kernel)) (by decide +kernel)
theorem b_262 : (Jvm.Cond.code ({ cls := "RecordRights", name := "unit", desc := "(IIII)I" } : Jvm.MethodName) prog_1_method_2_code (6 : Nat) (Option.some Jvm.ClassFile.FieldType.int)) ∈ bigW := big_of (List.mem_of_getElem? (i := 262) (by decide +kernel)) (by decide +kernel)
theorem b_263 : (Jvm.Cond.methodLink "RecordRights" (76 : Nat) ({ cls := "RecordRights$Pad", name := "signsIn", desc := "(I)I" } : Jvm.MethodName)) ∈ bigW := big_of (List.mem_of_getElem? (i := 263) (by decide +kernel)) (by decide +kernel)
theorem b_264 : (Jvm.Cond.static ({ cls := "RecordRights$Pad", name := "signsIn", desc := "(I)I" } : Jvm.MethodName)) ∈ bigW := big_of (List.mem_of_getElem? (i := 264) (by decide +kernel)) (by decide +kernel)
theorem b_265 : (Jvm.Cond.code ({ cls := "RecordRights$Pad", name := "signsIn", desc := "(I)I" } : Jvm.MethodName) prog_6_method_2_code (3 : Nat) (Option.some Jvm.ClassFile.FieldType.int)) ∈ bigW := big_of (List.mem_of_getElem? (i := 265) (by decide +kernel)) (by decide +kernel)
theorem b_266 : (Jvm.Cond.classLink "RecordRights" (84 : Nat) "java/lang/IllegalStateException") ∈ bigW := big_of (List.mem_of_getElem? (i := 266) (by decide +kernel)) (by decide +kernel)
theorem b_267 : (Jvm.Cond.instantiable "java/lang/IllegalStateException" (6 : Nat)) ∈ bigW := big_of (List.mem_of_getElem? (i := 267) (by decide +kernel)) (by decide +kernel)
theorem b_275 : (Jvm.Cond.selects "java/lang/IllegalStateException" ({ cls := "java/lang/Throwable", name := "fillInStackTrace", desc := "(I)Ljava/lang/Throwable;" } : Jvm.MethodName) ({ cls := "java/lang/Throwable", name := "fillInStackTrace", desc := "(I)Ljava/lang/Throwable;" } : Jvm.MethodName)) ∈ bigW := big_of (List.mem_of_getElem? (i := 275) (by decide +kernel)) (by decide +kernel)
theorem b_276 : (Jvm.Cond.selects "java/lang/IllegalStateException" ({ cls := "java/lang/Throwable", name := "fillInStackTrace", desc := "()Ljava/lang/Throwable;" } : Jvm.MethodName) ({ cls := "java/lang/Throwable", name := "fillInStackTrace", desc := "()Ljava/lang/Throwable;" } : Jvm.MethodName)) ∈ bigW := big_of (List.mem_of_getElem? (i := 276) (by decide +kernel)) (by decide +kernel)
theorem b_277 : (Jvm.Cond.lays "java/lang/IllegalStateException" "java/lang/Throwable" "cause" "Ljava/lang/Throwable;") ∈ bigW := big_of (List.mem_of_getElem? (i := 277) (by decide +kernel)) (by decide +kernel)
theorem b_278 : (Jvm.Cond.lays "java/lang/Throwable" "java/lang/Throwable" "cause" "Ljava/lang/Throwable;") ∈ bigW := big_of (List.mem_of_getElem? (i := 278) (by decide +kernel)) (by decide +kernel)
theorem b_279 : (Jvm.Cond.lays "java/lang/IllegalStateException" "java/lang/Throwable" "stackTrace" "[Ljava/lang/StackTraceElement;") ∈ bigW := big_of (List.mem_of_getElem? (i := 279) (by decide +kernel)) (by decide +kernel)
theorem b_280 : (Jvm.Cond.lays "java/lang/Throwable" "java/lang/Throwable" "stackTrace" "[Ljava/lang/StackTraceElement;") ∈ bigW := big_of (List.mem_of_getElem? (i := 280) (by decide +kernel)) (by decide +kernel)
theorem b_281 : (Jvm.Cond.lays "java/lang/IllegalStateException" "java/lang/Throwable" "suppressedExceptions" "Ljava/util/List;") ∈ bigW := big_of (List.mem_of_getElem? (i := 281) (by decide +kernel)) (by decide +kernel)
theorem b_282 : (Jvm.Cond.lays "java/lang/Throwable" "java/lang/Throwable" "suppressedExceptions" "Ljava/util/List;") ∈ bigW := big_of (List.mem_of_getElem? (i := 282) (by decide +kernel)) (by decide +kernel)
theorem b_283 : (Jvm.Cond.lays "java/lang/IllegalStateException" "java/lang/Throwable" "detailMessage" "Ljava/lang/String;") ∈ bigW := big_of (List.mem_of_getElem? (i := 283) (by decide +kernel)) (by decide +kernel)
theorem b_284 : (Jvm.Cond.lays "java/lang/Throwable" "java/lang/Throwable" "detailMessage" "Ljava/lang/String;") ∈ bigW := big_of (List.mem_of_getElem? (i := 284) (by decide +kernel)) (by decide +kernel)
theorem b_285 : (Jvm.Cond.lays "java/lang/IllegalStateException" "java/lang/Throwable" "backtrace" "Ljava/lang/Object;") ∈ bigW := big_of (List.mem_of_getElem? (i := 285) (by decide +kernel)) (by decide +kernel)
theorem b_286 : (Jvm.Cond.lays "java/lang/Throwable" "java/lang/Throwable" "backtrace" "Ljava/lang/Object;") ∈ bigW := big_of (List.mem_of_getElem? (i := 286) (by decide +kernel)) (by decide +kernel)
theorem b_287 : (Jvm.Cond.fieldLink "java/lang/Throwable" (198 : Nat) "java/lang/Throwable" "backtrace" "Ljava/lang/Object;") ∈ bigW := big_of (List.mem_of_getElem? (i := 287) (by decide +kernel)) (by decide +kernel)
theorem b_289 : (Jvm.Cond.instanceMethod ({ cls := "java/lang/Throwable", name := "<init>", desc := "()V" } : Jvm.MethodName)) ∈ bigW := big_of (List.mem_of_getElem? (i := 289) (by decide +kernel)) (by decide +kernel)
theorem b_290 : (Jvm.Cond.code ({ cls := "java/lang/Throwable", name := "<init>", desc := "()V" } : Jvm.MethodName) prog_19_method_1_code (1 : Nat) (Option.none : Option Jvm.ClassFile.FieldType)) ∈ bigW := big_of (List.mem_of_getElem? (i := 290) (by decide +kernel)) (by decide +kernel)
theorem b_291 : (Jvm.Cond.methodLink "java/lang/Throwable" (1 : Nat) ({ cls := "java/lang/Object", name := "<init>", desc := "()V" } : Jvm.MethodName)) ∈ bigW := big_of (List.mem_of_getElem? (i := 291) (by decide +kernel)) (by decide +kernel)
theorem b_292 : (Jvm.Cond.fieldLink "java/lang/Throwable" (13 : Nat) "java/lang/Throwable" "UNASSIGNED_STACK" "[Ljava/lang/StackTraceElement;") ∈ bigW := big_of (List.mem_of_getElem? (i := 292) (by decide +kernel)) (by decide +kernel)
theorem b_294 : (Jvm.Cond.fieldLink "java/lang/Throwable" (20 : Nat) "java/lang/Throwable" "SUPPRESSED_SENTINEL" "Ljava/util/List;") ∈ bigW := big_of (List.mem_of_getElem? (i := 294) (by decide +kernel)) (by decide +kernel)
theorem b_296 : (Jvm.Cond.methodLink "java/lang/Throwable" (27 : Nat) ({ cls := "java/lang/Throwable", name := "fillInStackTrace", desc := "()Ljava/lang/Throwable;" } : Jvm.MethodName)) ∈ bigW := big_of (List.mem_of_getElem? (i := 296) (by decide +kernel)) (by decide +kernel)
theorem b_297 : (Jvm.Cond.instanceMethod ({ cls := "java/lang/Throwable", name := "fillInStackTrace", desc := "()Ljava/lang/Throwable;" } : Jvm.MethodName)) ∈ bigW := big_of (List.mem_of_getElem? (i := 297) (by decide +kernel)) (by decide +kernel)
theorem b_299 : (Jvm.Cond.selects "java/lang/IllegalArgumentException" ({ cls := "java/lang/Throwable", name := "fillInStackTrace", desc := "()Ljava/lang/Throwable;" } : Jvm.MethodName) ({ cls := "java/lang/Throwable", name := "fillInStackTrace", desc := "()Ljava/lang/Throwable;" } : Jvm.MethodName)) ∈ bigW := big_of (List.mem_of_getElem? (i := 299) (by decide +kernel)) (by decide +kernel)
theorem b_300 : (Jvm.Cond.selects "java/util/NoSuchElementException" ({ cls := "java/lang/Throwable", name := "fillInStackTrace", desc := "()Ljava/lang/Throwable;" } : Jvm.MethodName) ({ cls := "java/lang/Throwable", name := "fillInStackTrace", desc := "()Ljava/lang/Throwable;" } : Jvm.MethodName)) ∈ bigW := big_of (List.mem_of_getElem? (i := 300) (by decide +kernel)) (by decide +kernel)
theorem b_302 : (Jvm.Cond.methodLink "java/lang/Throwable" (202 : Nat) ({ cls := "java/lang/Throwable", name := "fillInStackTrace", desc := "(I)Ljava/lang/Throwable;" } : Jvm.MethodName)) ∈ bigW := big_of (List.mem_of_getElem? (i := 302) (by decide +kernel)) (by decide +kernel)
theorem b_304 : (Jvm.Cond.instanceMethod ({ cls := "java/lang/Throwable", name := "fillInStackTrace", desc := "(I)Ljava/lang/Throwable;" } : Jvm.MethodName)) ∈ bigW := big_of (List.mem_of_getElem? (i := 304) (by decide +kernel)) (by decide +kernel)
theorem b_305 : (Jvm.Cond.instantiable "java/lang/Throwable" (6 : Nat)) ∈ bigW := big_of (List.mem_of_getElem? (i := 305) (by decide +kernel)) (by decide +kernel)
theorem b_308 : (Jvm.Cond.methodLink "RecordRights" (88 : Nat) ({ cls := "java/lang/IllegalStateException", name := "<init>", desc := "(Ljava/lang/String;)V" } : Jvm.MethodName)) ∈ bigW := big_of (List.mem_of_getElem? (i := 308) (by decide +kernel)) (by decide +kernel)
theorem b_309 : (Jvm.Cond.instanceMethod ({ cls := "java/lang/IllegalStateException", name := "<init>", desc := "(Ljava/lang/String;)V" } : Jvm.MethodName)) ∈ bigW := big_of (List.mem_of_getElem? (i := 309) (by decide +kernel)) (by decide +kernel)
theorem b_310 : (Jvm.Cond.code ({ cls := "java/lang/IllegalStateException", name := "<init>", desc := "(Ljava/lang/String;)V" } : Jvm.MethodName) prog_15_method_2_code (2 : Nat) (Option.none : Option Jvm.ClassFile.FieldType)) ∈ bigW := big_of (List.mem_of_getElem? (i := 310) (by decide +kernel)) (by decide +kernel)
theorem b_311 : (Jvm.Cond.methodLink "java/lang/IllegalStateException" (7 : Nat) ({ cls := "java/lang/RuntimeException", name := "<init>", desc := "(Ljava/lang/String;)V" } : Jvm.MethodName)) ∈ bigW := big_of (List.mem_of_getElem? (i := 311) (by decide +kernel)) (by decide +kernel)
theorem b_312 : (Jvm.Cond.instanceMethod ({ cls := "java/lang/RuntimeException", name := "<init>", desc := "(Ljava/lang/String;)V" } : Jvm.MethodName)) ∈ bigW := big_of (List.mem_of_getElem? (i := 312) (by decide +kernel)) (by decide +kernel)
theorem b_313 : (Jvm.Cond.code ({ cls := "java/lang/RuntimeException", name := "<init>", desc := "(Ljava/lang/String;)V" } : Jvm.MethodName) prog_17_method_2_code (2 : Nat) (Option.none : Option Jvm.ClassFile.FieldType)) ∈ bigW := big_of (List.mem_of_getElem? (i := 313) (by decide +kernel)) (by decide +kernel)
theorem b_314 : (Jvm.Cond.methodLink "java/lang/RuntimeException" (7 : Nat) ({ cls := "java/lang/Exception", name := "<init>", desc := "(Ljava/lang/String;)V" } : Jvm.MethodName)) ∈ bigW := big_of (List.mem_of_getElem? (i := 314) (by decide +kernel)) (by decide +kernel)
theorem b_315 : (Jvm.Cond.instanceMethod ({ cls := "java/lang/Exception", name := "<init>", desc := "(Ljava/lang/String;)V" } : Jvm.MethodName)) ∈ bigW := big_of (List.mem_of_getElem? (i := 315) (by decide +kernel)) (by decide +kernel)
theorem b_316 : (Jvm.Cond.code ({ cls := "java/lang/Exception", name := "<init>", desc := "(Ljava/lang/String;)V" } : Jvm.MethodName) prog_13_method_2_code (2 : Nat) (Option.none : Option Jvm.ClassFile.FieldType)) ∈ bigW := big_of (List.mem_of_getElem? (i := 316) (by decide +kernel)) (by decide +kernel)
theorem b_317 : (Jvm.Cond.methodLink "java/lang/Exception" (7 : Nat) ({ cls := "java/lang/Throwable", name := "<init>", desc := "(Ljava/lang/String;)V" } : Jvm.MethodName)) ∈ bigW := big_of (List.mem_of_getElem? (i := 317) (by decide +kernel)) (by decide +kernel)
theorem b_318 : (Jvm.Cond.instanceMethod ({ cls := "java/lang/Throwable", name := "<init>", desc := "(Ljava/lang/String;)V" } : Jvm.MethodName)) ∈ bigW := big_of (List.mem_of_getElem? (i := 318) (by decide +kernel)) (by decide +kernel)
theorem b_319 : (Jvm.Cond.code ({ cls := "java/lang/Throwable", name := "<init>", desc := "(Ljava/lang/String;)V" } : Jvm.MethodName) prog_19_method_2_code (2 : Nat) (Option.none : Option Jvm.ClassFile.FieldType)) ∈ bigW := big_of (List.mem_of_getElem? (i := 319) (by decide +kernel)) (by decide +kernel)
theorem b_320 : (Jvm.Cond.fieldLink "java/lang/Throwable" (198 : Nat) "java/lang/Throwable" "backtrace" "Ljava/lang/Object;") ∈ bigW := big_of (List.mem_of_getElem? (i := 320) (by decide +kernel)) (by decide +kernel)
theorem b_321 : (Jvm.Cond.fieldLink "java/lang/Throwable" (31 : Nat) "java/lang/Throwable" "detailMessage" "Ljava/lang/String;") ∈ bigW := big_of (List.mem_of_getElem? (i := 321) (by decide +kernel)) (by decide +kernel)
theorem b_322 : (Jvm.Cond.fieldLink "java/lang/Throwable" (7 : Nat) "java/lang/Throwable" "cause" "Ljava/lang/Throwable;") ∈ bigW := big_of (List.mem_of_getElem? (i := 322) (by decide +kernel)) (by decide +kernel)
theorem b_323 : (Jvm.Cond.fieldLink "java/lang/Throwable" (17 : Nat) "java/lang/Throwable" "stackTrace" "[Ljava/lang/StackTraceElement;") ∈ bigW := big_of (List.mem_of_getElem? (i := 323) (by decide +kernel)) (by decide +kernel)
theorem b_324 : (Jvm.Cond.fieldLink "java/lang/Throwable" (24 : Nat) "java/lang/Throwable" "suppressedExceptions" "Ljava/util/List;") ∈ bigW := big_of (List.mem_of_getElem? (i := 324) (by decide +kernel)) (by decide +kernel)
theorem b_329 : (Jvm.Cond.lays "java/lang/IllegalStateException" "java/lang/Throwable" "depth" "I") ∈ bigW := big_of (List.mem_of_getElem? (i := 329) (by decide +kernel)) (by decide +kernel)
theorem b_333 : (Jvm.Cond.arrayClass Jvm.ClassFile.FieldType.byte) ∈ bigW := big_of (List.mem_of_getElem? (i := 333) (by decide +kernel)) (by decide +kernel)
theorem b_334 : (Jvm.Cond.methodLink "RecordRights" (91 : Nat) ({ cls := "RecordRights$Pad", name := "append", desc := "(I)V" } : Jvm.MethodName)) ∈ bigW := big_of (List.mem_of_getElem? (i := 334) (by decide +kernel)) (by decide +kernel)
theorem b_335 : (Jvm.Cond.instanceMethod ({ cls := "RecordRights$Pad", name := "append", desc := "(I)V" } : Jvm.MethodName)) ∈ bigW := big_of (List.mem_of_getElem? (i := 335) (by decide +kernel)) (by decide +kernel)
theorem b_336 : (Jvm.Cond.selects "RecordRights$Pad" ({ cls := "RecordRights$Pad", name := "append", desc := "(I)V" } : Jvm.MethodName) ({ cls := "RecordRights$Pad", name := "append", desc := "(I)V" } : Jvm.MethodName)) ∈ bigW := big_of (List.mem_of_getElem? (i := 336) (by decide +kernel)) (by decide +kernel)
theorem b_337 : (Jvm.Cond.code ({ cls := "RecordRights$Pad", name := "append", desc := "(I)V" } : Jvm.MethodName) prog_6_method_3_code (4 : Nat) (Option.none : Option Jvm.ClassFile.FieldType)) ∈ bigW := big_of (List.mem_of_getElem? (i := 337) (by decide +kernel)) (by decide +kernel)
theorem b_338 : (Jvm.Cond.methodLink "RecordRightsLaw" (91 : Nat) ({ cls := "RecordRightsLaw", name := "rule", desc := "(LRecordRights;[J)I" } : Jvm.MethodName)) ∈ bigW := big_of (List.mem_of_getElem? (i := 338) (by decide +kernel)) (by decide +kernel)
theorem b_339 : (Jvm.Cond.static ({ cls := "RecordRightsLaw", name := "rule", desc := "(LRecordRights;[J)I" } : Jvm.MethodName)) ∈ bigW := big_of (List.mem_of_getElem? (i := 339) (by decide +kernel)) (by decide +kernel)
theorem b_340 : (Jvm.Cond.codeWith ({ cls := "RecordRightsLaw", name := "rule", desc := "(LRecordRights;[J)I" } : Jvm.MethodName) method_4_code (3 : Nat) (Option.some Jvm.ClassFile.FieldType.int) [((0 : Nat), (8 : Nat), (11 : Nat), (13 : Nat))]) ∈ bigW := big_of (List.mem_of_getElem? (i := 340) (by decide +kernel)) (by decide +kernel)
theorem b_341 : (Jvm.Cond.methodLink "RecordRightsLaw" (15 : Nat) ({ cls := "RecordRights", name := "rule", desc := "()I" } : Jvm.MethodName)) ∈ bigW := big_of (List.mem_of_getElem? (i := 341) (by decide +kernel)) (by decide +kernel)
theorem b_342 : (Jvm.Cond.instanceMethod ({ cls := "RecordRights", name := "rule", desc := "()I" } : Jvm.MethodName)) ∈ bigW := big_of (List.mem_of_getElem? (i := 342) (by decide +kernel)) (by decide +kernel)
theorem b_343 : (Jvm.Cond.selects "RecordRights" ({ cls := "RecordRights", name := "rule", desc := "()I" } : Jvm.MethodName) ({ cls := "RecordRights", name := "rule", desc := "()I" } : Jvm.MethodName)) ∈ bigW := big_of (List.mem_of_getElem? (i := 343) (by decide +kernel)) (by decide +kernel)
theorem b_344 : (Jvm.Cond.code ({ cls := "RecordRights", name := "rule", desc := "()I" } : Jvm.MethodName) prog_1_method_3_code (2 : Nat) (Option.some Jvm.ClassFile.FieldType.int)) ∈ bigW := big_of (List.mem_of_getElem? (i := 344) (by decide +kernel)) (by decide +kernel)
theorem b_346 : (Jvm.Cond.methodLink "RecordRights" (100 : Nat) ({ cls := "RecordRights$RuleReader", name := "reads", desc := "(LRecordRights$Pad;)Z" } : Jvm.MethodName)) ∈ bigW := big_of (List.mem_of_getElem? (i := 346) (by decide +kernel)) (by decide +kernel)
theorem b_347 : (Jvm.Cond.instanceMethod ({ cls := "RecordRights$RuleReader", name := "reads", desc := "(LRecordRights$Pad;)Z" } : Jvm.MethodName)) ∈ bigW := big_of (List.mem_of_getElem? (i := 347) (by decide +kernel)) (by decide +kernel)
theorem b_348 : (Jvm.Cond.selects "RecordRights$RuleReader" ({ cls := "RecordRights$RuleReader", name := "reads", desc := "(LRecordRights$Pad;)Z" } : Jvm.MethodName) ({ cls := "RecordRights$RuleReader", name := "reads", desc := "(LRecordRights$Pad;)Z" } : Jvm.MethodName)) ∈ bigW := big_of (List.mem_of_getElem? (i := 348) (by decide +kernel)) (by decide +kernel)
theorem b_349 : (Jvm.Cond.code ({ cls := "RecordRights$RuleReader", name := "reads", desc := "(LRecordRights$Pad;)Z" } : Jvm.MethodName) prog_10_method_2_code (3 : Nat) (Option.some Jvm.ClassFile.FieldType.boolean)) ∈ bigW := big_of (List.mem_of_getElem? (i := 349) (by decide +kernel)) (by decide +kernel)
theorem b_350 : (Jvm.Cond.methodLink "RecordRights$RuleReader" (30 : Nat) ({ cls := "RecordRights$RuleReader", name := "takes", desc := "(I)Z" } : Jvm.MethodName)) ∈ bigW := big_of (List.mem_of_getElem? (i := 350) (by decide +kernel)) (by decide +kernel)
theorem b_352 : (Jvm.Cond.instanceMethod ({ cls := "RecordRights$RuleReader", name := "takes", desc := "(I)Z" } : Jvm.MethodName)) ∈ bigW := big_of (List.mem_of_getElem? (i := 352) (by decide +kernel)) (by decide +kernel)
theorem b_353 : (Jvm.Cond.code ({ cls := "RecordRights$RuleReader", name := "takes", desc := "(I)Z" } : Jvm.MethodName) prog_10_method_3_code (2 : Nat) (Option.some Jvm.ClassFile.FieldType.boolean)) ∈ bigW := big_of (List.mem_of_getElem? (i := 353) (by decide +kernel)) (by decide +kernel)
theorem b_354 : (Jvm.Cond.methodLink "RecordRights$RuleReader" (37 : Nat) ({ cls := "RecordRights$RuleReader", name := "takesAnswer", desc := "(I)Z" } : Jvm.MethodName)) ∈ bigW := big_of (List.mem_of_getElem? (i := 354) (by decide +kernel)) (by decide +kernel)
theorem b_356 : (Jvm.Cond.instanceMethod ({ cls := "RecordRights$RuleReader", name := "takesAnswer", desc := "(I)Z" } : Jvm.MethodName)) ∈ bigW := big_of (List.mem_of_getElem? (i := 356) (by decide +kernel)) (by decide +kernel)
theorem b_357 : (Jvm.Cond.code ({ cls := "RecordRights$RuleReader", name := "takesAnswer", desc := "(I)Z" } : Jvm.MethodName) prog_10_method_4_code (2 : Nat) (Option.some Jvm.ClassFile.FieldType.boolean)) ∈ bigW := big_of (List.mem_of_getElem? (i := 357) (by decide +kernel)) (by decide +kernel)
theorem b_358 : (Jvm.Cond.methodLink "RecordRights$RuleReader" (44 : Nat) ({ cls := "RecordRights$RuleReader", name := "takesLetter", desc := "(I)Z" } : Jvm.MethodName)) ∈ bigW := big_of (List.mem_of_getElem? (i := 358) (by decide +kernel)) (by decide +kernel)
theorem b_360 : (Jvm.Cond.instanceMethod ({ cls := "RecordRights$RuleReader", name := "takesLetter", desc := "(I)Z" } : Jvm.MethodName)) ∈ bigW := big_of (List.mem_of_getElem? (i := 360) (by decide +kernel)) (by decide +kernel)
theorem b_361 : (Jvm.Cond.code ({ cls := "RecordRights$RuleReader", name := "takesLetter", desc := "(I)Z" } : Jvm.MethodName) prog_10_method_5_code (2 : Nat) (Option.some Jvm.ClassFile.FieldType.boolean)) ∈ bigW := big_of (List.mem_of_getElem? (i := 361) (by decide +kernel)) (by decide +kernel)
theorem b_362 : (Jvm.Cond.methodLink "RecordRights$RuleReader" (53 : Nat) ({ cls := "RecordRights$RuleReader", name := "awaitsDigit", desc := "(II)Z" } : Jvm.MethodName)) ∈ bigW := big_of (List.mem_of_getElem? (i := 362) (by decide +kernel)) (by decide +kernel)
theorem b_364 : (Jvm.Cond.instanceMethod ({ cls := "RecordRights$RuleReader", name := "awaitsDigit", desc := "(II)Z" } : Jvm.MethodName)) ∈ bigW := big_of (List.mem_of_getElem? (i := 364) (by decide +kernel)) (by decide +kernel)
theorem b_365 : (Jvm.Cond.code ({ cls := "RecordRights$RuleReader", name := "awaitsDigit", desc := "(II)Z" } : Jvm.MethodName) prog_10_method_6_code (3 : Nat) (Option.some Jvm.ClassFile.FieldType.boolean)) ∈ bigW := big_of (List.mem_of_getElem? (i := 365) (by decide +kernel)) (by decide +kernel)
theorem b_366 : (Jvm.Cond.methodLink "RecordRights$RuleReader" (57 : Nat) ({ cls := "RecordRights$RuleReader", name := "addCondition", desc := "(I)V" } : Jvm.MethodName)) ∈ bigW := big_of (List.mem_of_getElem? (i := 366) (by decide +kernel)) (by decide +kernel)
theorem b_368 : (Jvm.Cond.instanceMethod ({ cls := "RecordRights$RuleReader", name := "addCondition", desc := "(I)V" } : Jvm.MethodName)) ∈ bigW := big_of (List.mem_of_getElem? (i := 368) (by decide +kernel)) (by decide +kernel)
theorem b_369 : (Jvm.Cond.code ({ cls := "RecordRights$RuleReader", name := "addCondition", desc := "(I)V" } : Jvm.MethodName) prog_10_method_8_code (2 : Nat) (Option.none : Option Jvm.ClassFile.FieldType)) ∈ bigW := big_of (List.mem_of_getElem? (i := 369) (by decide +kernel)) (by decide +kernel)
theorem b_370 : (Jvm.Cond.methodLink "RecordRights$RuleReader" (47 : Nat) ({ cls := "RecordRights$RuleReader", name := "takesDigit", desc := "(I)Z" } : Jvm.MethodName)) ∈ bigW := big_of (List.mem_of_getElem? (i := 370) (by decide +kernel)) (by decide +kernel)
theorem b_372 : (Jvm.Cond.instanceMethod ({ cls := "RecordRights$RuleReader", name := "takesDigit", desc := "(I)Z" } : Jvm.MethodName)) ∈ bigW := big_of (List.mem_of_getElem? (i := 372) (by decide +kernel)) (by decide +kernel)
theorem b_373 : (Jvm.Cond.code ({ cls := "RecordRights$RuleReader", name := "takesDigit", desc := "(I)Z" } : Jvm.MethodName) prog_10_method_7_code (2 : Nat) (Option.some Jvm.ClassFile.FieldType.boolean)) ∈ bigW := big_of (List.mem_of_getElem? (i := 373) (by decide +kernel)) (by decide +kernel)
theorem b_374 : (Jvm.Cond.methodLink "RecordRights" (116 : Nat) ({ cls := "RecordRights$RuleBook", name := "tell", desc := "(III)I" } : Jvm.MethodName)) ∈ bigW := big_of (List.mem_of_getElem? (i := 374) (by decide +kernel)) (by decide +kernel)
theorem b_375 : (Jvm.Cond.instanceMethod ({ cls := "RecordRights$RuleBook", name := "tell", desc := "(III)I" } : Jvm.MethodName)) ∈ bigW := big_of (List.mem_of_getElem? (i := 375) (by decide +kernel)) (by decide +kernel)
theorem b_376 : (Jvm.Cond.selects "RecordRights$RuleBook" ({ cls := "RecordRights$RuleBook", name := "tell", desc := "(III)I" } : Jvm.MethodName) ({ cls := "RecordRights$RuleBook", name := "tell", desc := "(III)I" } : Jvm.MethodName)) ∈ bigW := big_of (List.mem_of_getElem? (i := 376) (by decide +kernel)) (by decide +kernel)
theorem b_377 : (Jvm.Cond.code ({ cls := "RecordRights$RuleBook", name := "tell", desc := "(III)I" } : Jvm.MethodName) prog_9_method_2_code (5 : Nat) (Option.some Jvm.ClassFile.FieldType.int)) ∈ bigW := big_of (List.mem_of_getElem? (i := 377) (by decide +kernel)) (by decide +kernel)
theorem b_378 : (Jvm.Cond.methodLink "RecordRightsLaw" (95 : Nat) ({ cls := "RecordRightsLaw", name := "drop", desc := "(LRecordRights;I[J)I" } : Jvm.MethodName)) ∈ bigW := big_of (List.mem_of_getElem? (i := 378) (by decide +kernel)) (by decide +kernel)
theorem b_379 : (Jvm.Cond.static ({ cls := "RecordRightsLaw", name := "drop", desc := "(LRecordRights;I[J)I" } : Jvm.MethodName)) ∈ bigW := big_of (List.mem_of_getElem? (i := 379) (by decide +kernel)) (by decide +kernel)
theorem b_380 : (Jvm.Cond.codeWith ({ cls := "RecordRightsLaw", name := "drop", desc := "(LRecordRights;I[J)I" } : Jvm.MethodName) method_5_code (4 : Nat) (Option.some Jvm.ClassFile.FieldType.int) [((0 : Nat), (16 : Nat), (19 : Nat), (23 : Nat))]) ∈ bigW := big_of (List.mem_of_getElem? (i := 380) (by decide +kernel)) (by decide +kernel)
theorem b_381 : (Jvm.Cond.classLink "RecordRightsLaw" (23 : Nat) "java/util/NoSuchElementException") ∈ bigW := big_of (List.mem_of_getElem? (i := 381) (by decide +kernel)) (by decide +kernel)
theorem b_382 : (Jvm.Cond.methodLink "RecordRightsLaw" (19 : Nat) ({ cls := "RecordRights", name := "drop", desc := "(I)Z" } : Jvm.MethodName)) ∈ bigW := big_of (List.mem_of_getElem? (i := 382) (by decide +kernel)) (by decide +kernel)
theorem b_383 : (Jvm.Cond.instanceMethod ({ cls := "RecordRights", name := "drop", desc := "(I)Z" } : Jvm.MethodName)) ∈ bigW := big_of (List.mem_of_getElem? (i := 383) (by decide +kernel)) (by decide +kernel)
theorem b_384 : (Jvm.Cond.selects "RecordRights" ({ cls := "RecordRights", name := "drop", desc := "(I)Z" } : Jvm.MethodName) ({ cls := "RecordRights", name := "drop", desc := "(I)Z" } : Jvm.MethodName)) ∈ bigW := big_of (List.mem_of_getElem? (i := 384) (by decide +kernel)) (by decide +kernel)
theorem b_385 : (Jvm.Cond.code ({ cls := "RecordRights", name := "drop", desc := "(I)Z" } : Jvm.MethodName) prog_1_method_4_code (2 : Nat) (Option.some Jvm.ClassFile.FieldType.boolean)) ∈ bigW := big_of (List.mem_of_getElem? (i := 385) (by decide +kernel)) (by decide +kernel)
theorem b_386 : (Jvm.Cond.classLink "RecordRights" (120 : Nat) "java/util/NoSuchElementException") ∈ bigW := big_of (List.mem_of_getElem? (i := 386) (by decide +kernel)) (by decide +kernel)
theorem b_387 : (Jvm.Cond.instantiable "java/util/NoSuchElementException" (6 : Nat)) ∈ bigW := big_of (List.mem_of_getElem? (i := 387) (by decide +kernel)) (by decide +kernel)
theorem b_389 : (Jvm.Cond.selects "java/util/NoSuchElementException" ({ cls := "java/lang/Throwable", name := "fillInStackTrace", desc := "(I)Ljava/lang/Throwable;" } : Jvm.MethodName) ({ cls := "java/lang/Throwable", name := "fillInStackTrace", desc := "(I)Ljava/lang/Throwable;" } : Jvm.MethodName)) ∈ bigW := big_of (List.mem_of_getElem? (i := 389) (by decide +kernel)) (by decide +kernel)
theorem b_390 : (Jvm.Cond.lays "java/util/NoSuchElementException" "java/lang/Throwable" "cause" "Ljava/lang/Throwable;") ∈ bigW := big_of (List.mem_of_getElem? (i := 390) (by decide +kernel)) (by decide +kernel)
theorem b_391 : (Jvm.Cond.lays "java/util/NoSuchElementException" "java/lang/Throwable" "stackTrace" "[Ljava/lang/StackTraceElement;") ∈ bigW := big_of (List.mem_of_getElem? (i := 391) (by decide +kernel)) (by decide +kernel)
theorem b_392 : (Jvm.Cond.lays "java/util/NoSuchElementException" "java/lang/Throwable" "suppressedExceptions" "Ljava/util/List;") ∈ bigW := big_of (List.mem_of_getElem? (i := 392) (by decide +kernel)) (by decide +kernel)
theorem b_393 : (Jvm.Cond.lays "java/util/NoSuchElementException" "java/lang/Throwable" "detailMessage" "Ljava/lang/String;") ∈ bigW := big_of (List.mem_of_getElem? (i := 393) (by decide +kernel)) (by decide +kernel)
theorem b_394 : (Jvm.Cond.lays "java/util/NoSuchElementException" "java/lang/Throwable" "backtrace" "Ljava/lang/Object;") ∈ bigW := big_of (List.mem_of_getElem? (i := 394) (by decide +kernel)) (by decide +kernel)
theorem b_396 : (Jvm.Cond.methodLink "RecordRights" (124 : Nat) ({ cls := "java/util/NoSuchElementException", name := "<init>", desc := "(Ljava/lang/String;)V" } : Jvm.MethodName)) ∈ bigW := big_of (List.mem_of_getElem? (i := 396) (by decide +kernel)) (by decide +kernel)
theorem b_397 : (Jvm.Cond.instanceMethod ({ cls := "java/util/NoSuchElementException", name := "<init>", desc := "(Ljava/lang/String;)V" } : Jvm.MethodName)) ∈ bigW := big_of (List.mem_of_getElem? (i := 397) (by decide +kernel)) (by decide +kernel)
theorem b_398 : (Jvm.Cond.code ({ cls := "java/util/NoSuchElementException", name := "<init>", desc := "(Ljava/lang/String;)V" } : Jvm.MethodName) prog_20_method_4_code (2 : Nat) (Option.none : Option Jvm.ClassFile.FieldType)) ∈ bigW := big_of (List.mem_of_getElem? (i := 398) (by decide +kernel)) (by decide +kernel)
theorem b_399 : (Jvm.Cond.methodLink "java/util/NoSuchElementException" (13 : Nat) ({ cls := "java/lang/RuntimeException", name := "<init>", desc := "(Ljava/lang/String;)V" } : Jvm.MethodName)) ∈ bigW := big_of (List.mem_of_getElem? (i := 399) (by decide +kernel)) (by decide +kernel)
theorem b_400 : (Jvm.Cond.lays "java/util/NoSuchElementException" "java/lang/Throwable" "depth" "I") ∈ bigW := big_of (List.mem_of_getElem? (i := 400) (by decide +kernel)) (by decide +kernel)
theorem b_402 : (Jvm.Cond.methodLink "RecordRights" (125 : Nat) ({ cls := "RecordRights$RuleBook", name := "untell", desc := "(I)Z" } : Jvm.MethodName)) ∈ bigW := big_of (List.mem_of_getElem? (i := 402) (by decide +kernel)) (by decide +kernel)
theorem b_403 : (Jvm.Cond.instanceMethod ({ cls := "RecordRights$RuleBook", name := "untell", desc := "(I)Z" } : Jvm.MethodName)) ∈ bigW := big_of (List.mem_of_getElem? (i := 403) (by decide +kernel)) (by decide +kernel)
theorem b_404 : (Jvm.Cond.selects "RecordRights$RuleBook" ({ cls := "RecordRights$RuleBook", name := "untell", desc := "(I)Z" } : Jvm.MethodName) ({ cls := "RecordRights$RuleBook", name := "untell", desc := "(I)Z" } : Jvm.MethodName)) ∈ bigW := big_of (List.mem_of_getElem? (i := 404) (by decide +kernel)) (by decide +kernel)
theorem b_405 : (Jvm.Cond.code ({ cls := "RecordRights$RuleBook", name := "untell", desc := "(I)Z" } : Jvm.MethodName) prog_9_method_3_code (4 : Nat) (Option.some Jvm.ClassFile.FieldType.boolean)) ∈ bigW := big_of (List.mem_of_getElem? (i := 405) (by decide +kernel)) (by decide +kernel)
theorem b_406 : (Jvm.Cond.methodLink "RecordRightsLaw" (99 : Nat) ({ cls := "RecordRightsLaw", name := "person", desc := "(LRecordRights;I[J)I" } : Jvm.MethodName)) ∈ bigW := big_of (List.mem_of_getElem? (i := 406) (by decide +kernel)) (by decide +kernel)
theorem b_407 : (Jvm.Cond.static ({ cls := "RecordRightsLaw", name := "person", desc := "(LRecordRights;I[J)I" } : Jvm.MethodName)) ∈ bigW := big_of (List.mem_of_getElem? (i := 407) (by decide +kernel)) (by decide +kernel)
theorem b_408 : (Jvm.Cond.codeWith ({ cls := "RecordRightsLaw", name := "person", desc := "(LRecordRights;I[J)I" } : Jvm.MethodName) method_6_code (4 : Nat) (Option.some Jvm.ClassFile.FieldType.int) [((0 : Nat), (9 : Nat), (12 : Nat), (29 : Nat)), ((0 : Nat), (9 : Nat), (15 : Nat), (13 : Nat))]) ∈ bigW := big_of (List.mem_of_getElem? (i := 408) (by decide +kernel)) (by decide +kernel)
theorem b_409 : (Jvm.Cond.classLink "RecordRightsLaw" (29 : Nat) "java/lang/IllegalArgumentException") ∈ bigW := big_of (List.mem_of_getElem? (i := 409) (by decide +kernel)) (by decide +kernel)
theorem b_410 : (Jvm.Cond.methodLink "RecordRightsLaw" (25 : Nat) ({ cls := "RecordRights", name := "person", desc := "(I)I" } : Jvm.MethodName)) ∈ bigW := big_of (List.mem_of_getElem? (i := 410) (by decide +kernel)) (by decide +kernel)
theorem b_411 : (Jvm.Cond.instanceMethod ({ cls := "RecordRights", name := "person", desc := "(I)I" } : Jvm.MethodName)) ∈ bigW := big_of (List.mem_of_getElem? (i := 411) (by decide +kernel)) (by decide +kernel)
theorem b_412 : (Jvm.Cond.selects "RecordRights" ({ cls := "RecordRights", name := "person", desc := "(I)I" } : Jvm.MethodName) ({ cls := "RecordRights", name := "person", desc := "(I)I" } : Jvm.MethodName)) ∈ bigW := big_of (List.mem_of_getElem? (i := 412) (by decide +kernel)) (by decide +kernel)
theorem b_413 : (Jvm.Cond.code ({ cls := "RecordRights", name := "person", desc := "(I)I" } : Jvm.MethodName) prog_1_method_5_code (2 : Nat) (Option.some Jvm.ClassFile.FieldType.int)) ∈ bigW := big_of (List.mem_of_getElem? (i := 413) (by decide +kernel)) (by decide +kernel)
theorem b_414 : (Jvm.Cond.classLink "RecordRights" (129 : Nat) "java/lang/IllegalArgumentException") ∈ bigW := big_of (List.mem_of_getElem? (i := 414) (by decide +kernel)) (by decide +kernel)
theorem b_415 : (Jvm.Cond.instantiable "java/lang/IllegalArgumentException" (6 : Nat)) ∈ bigW := big_of (List.mem_of_getElem? (i := 415) (by decide +kernel)) (by decide +kernel)
theorem b_417 : (Jvm.Cond.selects "java/lang/IllegalArgumentException" ({ cls := "java/lang/Throwable", name := "fillInStackTrace", desc := "(I)Ljava/lang/Throwable;" } : Jvm.MethodName) ({ cls := "java/lang/Throwable", name := "fillInStackTrace", desc := "(I)Ljava/lang/Throwable;" } : Jvm.MethodName)) ∈ bigW := big_of (List.mem_of_getElem? (i := 417) (by decide +kernel)) (by decide +kernel)
theorem b_418 : (Jvm.Cond.lays "java/lang/IllegalArgumentException" "java/lang/Throwable" "cause" "Ljava/lang/Throwable;") ∈ bigW := big_of (List.mem_of_getElem? (i := 418) (by decide +kernel)) (by decide +kernel)
theorem b_419 : (Jvm.Cond.lays "java/lang/IllegalArgumentException" "java/lang/Throwable" "stackTrace" "[Ljava/lang/StackTraceElement;") ∈ bigW := big_of (List.mem_of_getElem? (i := 419) (by decide +kernel)) (by decide +kernel)
theorem b_420 : (Jvm.Cond.lays "java/lang/IllegalArgumentException" "java/lang/Throwable" "suppressedExceptions" "Ljava/util/List;") ∈ bigW := big_of (List.mem_of_getElem? (i := 420) (by decide +kernel)) (by decide +kernel)
theorem b_421 : (Jvm.Cond.lays "java/lang/IllegalArgumentException" "java/lang/Throwable" "detailMessage" "Ljava/lang/String;") ∈ bigW := big_of (List.mem_of_getElem? (i := 421) (by decide +kernel)) (by decide +kernel)
theorem b_422 : (Jvm.Cond.lays "java/lang/IllegalArgumentException" "java/lang/Throwable" "backtrace" "Ljava/lang/Object;") ∈ bigW := big_of (List.mem_of_getElem? (i := 422) (by decide +kernel)) (by decide +kernel)
theorem b_424 : (Jvm.Cond.methodLink "RecordRights" (133 : Nat) ({ cls := "java/lang/IllegalArgumentException", name := "<init>", desc := "(Ljava/lang/String;)V" } : Jvm.MethodName)) ∈ bigW := big_of (List.mem_of_getElem? (i := 424) (by decide +kernel)) (by decide +kernel)
theorem b_425 : (Jvm.Cond.instanceMethod ({ cls := "java/lang/IllegalArgumentException", name := "<init>", desc := "(Ljava/lang/String;)V" } : Jvm.MethodName)) ∈ bigW := big_of (List.mem_of_getElem? (i := 425) (by decide +kernel)) (by decide +kernel)
theorem b_426 : (Jvm.Cond.code ({ cls := "java/lang/IllegalArgumentException", name := "<init>", desc := "(Ljava/lang/String;)V" } : Jvm.MethodName) prog_14_method_2_code (2 : Nat) (Option.none : Option Jvm.ClassFile.FieldType)) ∈ bigW := big_of (List.mem_of_getElem? (i := 426) (by decide +kernel)) (by decide +kernel)
theorem b_427 : (Jvm.Cond.methodLink "java/lang/IllegalArgumentException" (7 : Nat) ({ cls := "java/lang/RuntimeException", name := "<init>", desc := "(Ljava/lang/String;)V" } : Jvm.MethodName)) ∈ bigW := big_of (List.mem_of_getElem? (i := 427) (by decide +kernel)) (by decide +kernel)
theorem b_428 : (Jvm.Cond.lays "java/lang/IllegalArgumentException" "java/lang/Throwable" "depth" "I") ∈ bigW := big_of (List.mem_of_getElem? (i := 428) (by decide +kernel)) (by decide +kernel)
theorem b_431 : (Jvm.Cond.methodLink "RecordRights" (137 : Nat) ({ cls := "RecordRights$People", name := "add", desc := "(I)I" } : Jvm.MethodName)) ∈ bigW := big_of (List.mem_of_getElem? (i := 431) (by decide +kernel)) (by decide +kernel)
theorem b_432 : (Jvm.Cond.instanceMethod ({ cls := "RecordRights$People", name := "add", desc := "(I)I" } : Jvm.MethodName)) ∈ bigW := big_of (List.mem_of_getElem? (i := 432) (by decide +kernel)) (by decide +kernel)
theorem b_433 : (Jvm.Cond.selects "RecordRights$People" ({ cls := "RecordRights$People", name := "add", desc := "(I)I" } : Jvm.MethodName) ({ cls := "RecordRights$People", name := "add", desc := "(I)I" } : Jvm.MethodName)) ∈ bigW := big_of (List.mem_of_getElem? (i := 433) (by decide +kernel)) (by decide +kernel)
theorem b_434 : (Jvm.Cond.code ({ cls := "RecordRights$People", name := "add", desc := "(I)I" } : Jvm.MethodName) prog_7_method_2_code (2 : Nat) (Option.some Jvm.ClassFile.FieldType.int)) ∈ bigW := big_of (List.mem_of_getElem? (i := 434) (by decide +kernel)) (by decide +kernel)
theorem b_435 : (Jvm.Cond.methodLink "RecordRightsLaw" (102 : Nat) ({ cls := "RecordRightsLaw", name := "record", desc := "(LRecordRights;II[J)I" } : Jvm.MethodName)) ∈ bigW := big_of (List.mem_of_getElem? (i := 435) (by decide +kernel)) (by decide +kernel)
theorem b_436 : (Jvm.Cond.static ({ cls := "RecordRightsLaw", name := "record", desc := "(LRecordRights;II[J)I" } : Jvm.MethodName)) ∈ bigW := big_of (List.mem_of_getElem? (i := 436) (by decide +kernel)) (by decide +kernel)
theorem b_437 : (Jvm.Cond.codeWith ({ cls := "RecordRightsLaw", name := "record", desc := "(LRecordRights;II[J)I" } : Jvm.MethodName) method_7_code (5 : Nat) (Option.some Jvm.ClassFile.FieldType.int) [((0 : Nat), (10 : Nat), (13 : Nat), (29 : Nat)), ((0 : Nat), (10 : Nat), (17 : Nat), (13 : Nat))]) ∈ bigW := big_of (List.mem_of_getElem? (i := 437) (by decide +kernel)) (by decide +kernel)
theorem b_438 : (Jvm.Cond.methodLink "RecordRightsLaw" (31 : Nat) ({ cls := "RecordRights", name := "record", desc := "(II)I" } : Jvm.MethodName)) ∈ bigW := big_of (List.mem_of_getElem? (i := 438) (by decide +kernel)) (by decide +kernel)
theorem b_439 : (Jvm.Cond.instanceMethod ({ cls := "RecordRights", name := "record", desc := "(II)I" } : Jvm.MethodName)) ∈ bigW := big_of (List.mem_of_getElem? (i := 439) (by decide +kernel)) (by decide +kernel)
theorem b_440 : (Jvm.Cond.selects "RecordRights" ({ cls := "RecordRights", name := "record", desc := "(II)I" } : Jvm.MethodName) ({ cls := "RecordRights", name := "record", desc := "(II)I" } : Jvm.MethodName)) ∈ bigW := big_of (List.mem_of_getElem? (i := 440) (by decide +kernel)) (by decide +kernel)
theorem b_441 : (Jvm.Cond.code ({ cls := "RecordRights", name := "record", desc := "(II)I" } : Jvm.MethodName) prog_1_method_6_code (4 : Nat) (Option.some Jvm.ClassFile.FieldType.int)) ∈ bigW := big_of (List.mem_of_getElem? (i := 441) (by decide +kernel)) (by decide +kernel)
theorem b_445 : (Jvm.Cond.methodLink "RecordRights" (147 : Nat) ({ cls := "RecordRights$Holdings", name := "add", desc := "(I)I" } : Jvm.MethodName)) ∈ bigW := big_of (List.mem_of_getElem? (i := 445) (by decide +kernel)) (by decide +kernel)
theorem b_446 : (Jvm.Cond.instanceMethod ({ cls := "RecordRights$Holdings", name := "add", desc := "(I)I" } : Jvm.MethodName)) ∈ bigW := big_of (List.mem_of_getElem? (i := 446) (by decide +kernel)) (by decide +kernel)
theorem b_447 : (Jvm.Cond.selects "RecordRights$Holdings" ({ cls := "RecordRights$Holdings", name := "add", desc := "(I)I" } : Jvm.MethodName) ({ cls := "RecordRights$Holdings", name := "add", desc := "(I)I" } : Jvm.MethodName)) ∈ bigW := big_of (List.mem_of_getElem? (i := 447) (by decide +kernel)) (by decide +kernel)
theorem b_448 : (Jvm.Cond.code ({ cls := "RecordRights$Holdings", name := "add", desc := "(I)I" } : Jvm.MethodName) prog_4_method_2_code (2 : Nat) (Option.some Jvm.ClassFile.FieldType.int)) ∈ bigW := big_of (List.mem_of_getElem? (i := 448) (by decide +kernel)) (by decide +kernel)
theorem b_449 : (Jvm.Cond.methodLink "RecordRightsLaw" (108 : Nat) ({ cls := "RecordRightsLaw", name := "value", desc := "(LRecordRights;IIJ[J)I" } : Jvm.MethodName)) ∈ bigW := big_of (List.mem_of_getElem? (i := 449) (by decide +kernel)) (by decide +kernel)
theorem b_450 : (Jvm.Cond.static ({ cls := "RecordRightsLaw", name := "value", desc := "(LRecordRights;IIJ[J)I" } : Jvm.MethodName)) ∈ bigW := big_of (List.mem_of_getElem? (i := 450) (by decide +kernel)) (by decide +kernel)
theorem b_451 : (Jvm.Cond.codeWith ({ cls := "RecordRightsLaw", name := "value", desc := "(LRecordRights;IIJ[J)I" } : Jvm.MethodName) method_8_code (7 : Nat) (Option.some Jvm.ClassFile.FieldType.int) [((0 : Nat), (11 : Nat), (14 : Nat), (23 : Nat))]) ∈ bigW := big_of (List.mem_of_getElem? (i := 451) (by decide +kernel)) (by decide +kernel)
theorem b_452 : (Jvm.Cond.methodLink "RecordRightsLaw" (35 : Nat) ({ cls := "RecordRights", name := "value", desc := "(IIJ)J" } : Jvm.MethodName)) ∈ bigW := big_of (List.mem_of_getElem? (i := 452) (by decide +kernel)) (by decide +kernel)
theorem b_453 : (Jvm.Cond.instanceMethod ({ cls := "RecordRights", name := "value", desc := "(IIJ)J" } : Jvm.MethodName)) ∈ bigW := big_of (List.mem_of_getElem? (i := 453) (by decide +kernel)) (by decide +kernel)
theorem b_454 : (Jvm.Cond.selects "RecordRights" ({ cls := "RecordRights", name := "value", desc := "(IIJ)J" } : Jvm.MethodName) ({ cls := "RecordRights", name := "value", desc := "(IIJ)J" } : Jvm.MethodName)) ∈ bigW := big_of (List.mem_of_getElem? (i := 454) (by decide +kernel)) (by decide +kernel)
theorem b_455 : (Jvm.Cond.code ({ cls := "RecordRights", name := "value", desc := "(IIJ)J" } : Jvm.MethodName) prog_1_method_7_code (5 : Nat) (Option.some Jvm.ClassFile.FieldType.long)) ∈ bigW := big_of (List.mem_of_getElem? (i := 455) (by decide +kernel)) (by decide +kernel)
theorem b_456 : (Jvm.Cond.methodLink "RecordRights" (148 : Nat) ({ cls := "RecordRights", name := "requireRecord", desc := "(I)V" } : Jvm.MethodName)) ∈ bigW := big_of (List.mem_of_getElem? (i := 456) (by decide +kernel)) (by decide +kernel)
theorem b_458 : (Jvm.Cond.instanceMethod ({ cls := "RecordRights", name := "requireRecord", desc := "(I)V" } : Jvm.MethodName)) ∈ bigW := big_of (List.mem_of_getElem? (i := 458) (by decide +kernel)) (by decide +kernel)
theorem b_459 : (Jvm.Cond.code ({ cls := "RecordRights", name := "requireRecord", desc := "(I)V" } : Jvm.MethodName) prog_1_method_21_code (2 : Nat) (Option.none : Option Jvm.ClassFile.FieldType)) ∈ bigW := big_of (List.mem_of_getElem? (i := 459) (by decide +kernel)) (by decide +kernel)
theorem b_461 : (Jvm.Cond.methodLink "RecordRights" (151 : Nat) ({ cls := "RecordRights", name := "requireField", desc := "(I)V" } : Jvm.MethodName)) ∈ bigW := big_of (List.mem_of_getElem? (i := 461) (by decide +kernel)) (by decide +kernel)
theorem b_462 : (Jvm.Cond.static ({ cls := "RecordRights", name := "requireField", desc := "(I)V" } : Jvm.MethodName)) ∈ bigW := big_of (List.mem_of_getElem? (i := 462) (by decide +kernel)) (by decide +kernel)
theorem b_463 : (Jvm.Cond.code ({ cls := "RecordRights", name := "requireField", desc := "(I)V" } : Jvm.MethodName) prog_1_method_22_code (1 : Nat) (Option.none : Option Jvm.ClassFile.FieldType)) ∈ bigW := big_of (List.mem_of_getElem? (i := 463) (by decide +kernel)) (by decide +kernel)
theorem b_465 : (Jvm.Cond.methodLink "RecordRights" (154 : Nat) ({ cls := "RecordRights$Holdings", name := "put", desc := "(IIJ)J" } : Jvm.MethodName)) ∈ bigW := big_of (List.mem_of_getElem? (i := 465) (by decide +kernel)) (by decide +kernel)
theorem b_466 : (Jvm.Cond.instanceMethod ({ cls := "RecordRights$Holdings", name := "put", desc := "(IIJ)J" } : Jvm.MethodName)) ∈ bigW := big_of (List.mem_of_getElem? (i := 466) (by decide +kernel)) (by decide +kernel)
theorem b_467 : (Jvm.Cond.selects "RecordRights$Holdings" ({ cls := "RecordRights$Holdings", name := "put", desc := "(IIJ)J" } : Jvm.MethodName) ({ cls := "RecordRights$Holdings", name := "put", desc := "(IIJ)J" } : Jvm.MethodName)) ∈ bigW := big_of (List.mem_of_getElem? (i := 467) (by decide +kernel)) (by decide +kernel)
theorem b_468 : (Jvm.Cond.code ({ cls := "RecordRights$Holdings", name := "put", desc := "(IIJ)J" } : Jvm.MethodName) prog_4_method_4_code (7 : Nat) (Option.some Jvm.ClassFile.FieldType.long)) ∈ bigW := big_of (List.mem_of_getElem? (i := 468) (by decide +kernel)) (by decide +kernel)
theorem b_469 : (Jvm.Cond.methodLink "RecordRights$Holdings" (26 : Nat) ({ cls := "RecordRights$Holdings", name := "at", desc := "(II)J" } : Jvm.MethodName)) ∈ bigW := big_of (List.mem_of_getElem? (i := 469) (by decide +kernel)) (by decide +kernel)
theorem b_470 : (Jvm.Cond.instanceMethod ({ cls := "RecordRights$Holdings", name := "at", desc := "(II)J" } : Jvm.MethodName)) ∈ bigW := big_of (List.mem_of_getElem? (i := 470) (by decide +kernel)) (by decide +kernel)
theorem b_471 : (Jvm.Cond.selects "RecordRights$Holdings" ({ cls := "RecordRights$Holdings", name := "at", desc := "(II)J" } : Jvm.MethodName) ({ cls := "RecordRights$Holdings", name := "at", desc := "(II)J" } : Jvm.MethodName)) ∈ bigW := big_of (List.mem_of_getElem? (i := 471) (by decide +kernel)) (by decide +kernel)
theorem b_472 : (Jvm.Cond.code ({ cls := "RecordRights$Holdings", name := "at", desc := "(II)J" } : Jvm.MethodName) prog_4_method_3_code (3 : Nat) (Option.some Jvm.ClassFile.FieldType.long)) ∈ bigW := big_of (List.mem_of_getElem? (i := 472) (by decide +kernel)) (by decide +kernel)
theorem b_473 : (Jvm.Cond.methodLink "RecordRightsLaw" (112 : Nat) ({ cls := "RecordRightsLaw", name := "embargo", desc := "(LRecordRights;II[J)I" } : Jvm.MethodName)) ∈ bigW := big_of (List.mem_of_getElem? (i := 473) (by decide +kernel)) (by decide +kernel)
theorem b_474 : (Jvm.Cond.static ({ cls := "RecordRightsLaw", name := "embargo", desc := "(LRecordRights;II[J)I" } : Jvm.MethodName)) ∈ bigW := big_of (List.mem_of_getElem? (i := 474) (by decide +kernel)) (by decide +kernel)
theorem b_475 : (Jvm.Cond.codeWith ({ cls := "RecordRightsLaw", name := "embargo", desc := "(LRecordRights;II[J)I" } : Jvm.MethodName) method_9_code (5 : Nat) (Option.some Jvm.ClassFile.FieldType.int) [((0 : Nat), (10 : Nat), (13 : Nat), (23 : Nat)), ((0 : Nat), (10 : Nat), (17 : Nat), (29 : Nat))]) ∈ bigW := big_of (List.mem_of_getElem? (i := 475) (by decide +kernel)) (by decide +kernel)
theorem b_476 : (Jvm.Cond.methodLink "RecordRightsLaw" (39 : Nat) ({ cls := "RecordRights", name := "embargo", desc := "(II)I" } : Jvm.MethodName)) ∈ bigW := big_of (List.mem_of_getElem? (i := 476) (by decide +kernel)) (by decide +kernel)
theorem b_477 : (Jvm.Cond.instanceMethod ({ cls := "RecordRights", name := "embargo", desc := "(II)I" } : Jvm.MethodName)) ∈ bigW := big_of (List.mem_of_getElem? (i := 477) (by decide +kernel)) (by decide +kernel)
theorem b_478 : (Jvm.Cond.selects "RecordRights" ({ cls := "RecordRights", name := "embargo", desc := "(II)I" } : Jvm.MethodName) ({ cls := "RecordRights", name := "embargo", desc := "(II)I" } : Jvm.MethodName)) ∈ bigW := big_of (List.mem_of_getElem? (i := 478) (by decide +kernel)) (by decide +kernel)
theorem b_479 : (Jvm.Cond.code ({ cls := "RecordRights", name := "embargo", desc := "(II)I" } : Jvm.MethodName) prog_1_method_8_code (4 : Nat) (Option.some Jvm.ClassFile.FieldType.int)) ∈ bigW := big_of (List.mem_of_getElem? (i := 479) (by decide +kernel)) (by decide +kernel)
theorem b_480 : (Jvm.Cond.methodLink "RecordRights" (158 : Nat) ({ cls := "RecordRights", name := "requireDay", desc := "(I)V" } : Jvm.MethodName)) ∈ bigW := big_of (List.mem_of_getElem? (i := 480) (by decide +kernel)) (by decide +kernel)
theorem b_481 : (Jvm.Cond.static ({ cls := "RecordRights", name := "requireDay", desc := "(I)V" } : Jvm.MethodName)) ∈ bigW := big_of (List.mem_of_getElem? (i := 481) (by decide +kernel)) (by decide +kernel)
theorem b_482 : (Jvm.Cond.code ({ cls := "RecordRights", name := "requireDay", desc := "(I)V" } : Jvm.MethodName) prog_1_method_23_code (1 : Nat) (Option.none : Option Jvm.ClassFile.FieldType)) ∈ bigW := big_of (List.mem_of_getElem? (i := 482) (by decide +kernel)) (by decide +kernel)
theorem b_483 : (Jvm.Cond.constant "RecordRights" (260 : Nat) (100000 : Int32)) ∈ bigW := big_of (List.mem_of_getElem? (i := 483) (by decide +kernel)) (by decide +kernel)
theorem b_485 : (Jvm.Cond.methodLink "RecordRightsLaw" (115 : Nat) ({ cls := "RecordRightsLaw", name := "agreement", desc := "(LRecordRights;IIII[J)I" } : Jvm.MethodName)) ∈ bigW := big_of (List.mem_of_getElem? (i := 485) (by decide +kernel)) (by decide +kernel)
theorem b_486 : (Jvm.Cond.static ({ cls := "RecordRightsLaw", name := "agreement", desc := "(LRecordRights;IIII[J)I" } : Jvm.MethodName)) ∈ bigW := big_of (List.mem_of_getElem? (i := 486) (by decide +kernel)) (by decide +kernel)
theorem b_487 : (Jvm.Cond.codeWith ({ cls := "RecordRightsLaw", name := "agreement", desc := "(LRecordRights;IIII[J)I" } : Jvm.MethodName) method_10_code (7 : Nat) (Option.some Jvm.ClassFile.FieldType.int) [((0 : Nat), (14 : Nat), (17 : Nat), (23 : Nat)), ((0 : Nat), (14 : Nat), (21 : Nat), (29 : Nat)), ((0 : Nat), (14 : Nat), (25 : Nat), (13 : Nat))]) ∈ bigW := big_of (List.mem_of_getElem? (i := 487) (by decide +kernel)) (by decide +kernel)
theorem b_488 : (Jvm.Cond.methodLink "RecordRightsLaw" (42 : Nat) ({ cls := "RecordRights", name := "agreement", desc := "(IIII)I" } : Jvm.MethodName)) ∈ bigW := big_of (List.mem_of_getElem? (i := 488) (by decide +kernel)) (by decide +kernel)
theorem b_489 : (Jvm.Cond.instanceMethod ({ cls := "RecordRights", name := "agreement", desc := "(IIII)I" } : Jvm.MethodName)) ∈ bigW := big_of (List.mem_of_getElem? (i := 489) (by decide +kernel)) (by decide +kernel)
theorem b_490 : (Jvm.Cond.selects "RecordRights" ({ cls := "RecordRights", name := "agreement", desc := "(IIII)I" } : Jvm.MethodName) ({ cls := "RecordRights", name := "agreement", desc := "(IIII)I" } : Jvm.MethodName)) ∈ bigW := big_of (List.mem_of_getElem? (i := 490) (by decide +kernel)) (by decide +kernel)
theorem b_491 : (Jvm.Cond.code ({ cls := "RecordRights", name := "agreement", desc := "(IIII)I" } : Jvm.MethodName) prog_1_method_9_code (5 : Nat) (Option.some Jvm.ClassFile.FieldType.int)) ∈ bigW := big_of (List.mem_of_getElem? (i := 491) (by decide +kernel)) (by decide +kernel)
theorem b_492 : (Jvm.Cond.methodLink "RecordRights" (164 : Nat) ({ cls := "RecordRights", name := "requirePerson", desc := "(I)V" } : Jvm.MethodName)) ∈ bigW := big_of (List.mem_of_getElem? (i := 492) (by decide +kernel)) (by decide +kernel)
theorem b_494 : (Jvm.Cond.instanceMethod ({ cls := "RecordRights", name := "requirePerson", desc := "(I)V" } : Jvm.MethodName)) ∈ bigW := big_of (List.mem_of_getElem? (i := 494) (by decide +kernel)) (by decide +kernel)
theorem b_495 : (Jvm.Cond.code ({ cls := "RecordRights", name := "requirePerson", desc := "(I)V" } : Jvm.MethodName) prog_1_method_20_code (2 : Nat) (Option.none : Option Jvm.ClassFile.FieldType)) ∈ bigW := big_of (List.mem_of_getElem? (i := 495) (by decide +kernel)) (by decide +kernel)
theorem b_499 : (Jvm.Cond.methodLink "RecordRights" (172 : Nat) ({ cls := "RecordRights$Agreements", name := "add", desc := "(IIII)V" } : Jvm.MethodName)) ∈ bigW := big_of (List.mem_of_getElem? (i := 499) (by decide +kernel)) (by decide +kernel)
theorem b_500 : (Jvm.Cond.instanceMethod ({ cls := "RecordRights$Agreements", name := "add", desc := "(IIII)V" } : Jvm.MethodName)) ∈ bigW := big_of (List.mem_of_getElem? (i := 500) (by decide +kernel)) (by decide +kernel)
theorem b_501 : (Jvm.Cond.selects "RecordRights$Agreements" ({ cls := "RecordRights$Agreements", name := "add", desc := "(IIII)V" } : Jvm.MethodName) ({ cls := "RecordRights$Agreements", name := "add", desc := "(IIII)V" } : Jvm.MethodName)) ∈ bigW := big_of (List.mem_of_getElem? (i := 501) (by decide +kernel)) (by decide +kernel)
theorem b_502 : (Jvm.Cond.code ({ cls := "RecordRights$Agreements", name := "add", desc := "(IIII)V" } : Jvm.MethodName) prog_2_method_2_code (5 : Nat) (Option.none : Option Jvm.ClassFile.FieldType)) ∈ bigW := big_of (List.mem_of_getElem? (i := 502) (by decide +kernel)) (by decide +kernel)
theorem b_503 : (Jvm.Cond.methodLink "RecordRightsLaw" (118 : Nat) ({ cls := "RecordRightsLaw", name := "asks", desc := "(LRecordRights;IIIII[J)I" } : Jvm.MethodName)) ∈ bigW := big_of (List.mem_of_getElem? (i := 503) (by decide +kernel)) (by decide +kernel)
theorem b_504 : (Jvm.Cond.static ({ cls := "RecordRightsLaw", name := "asks", desc := "(LRecordRights;IIIII[J)I" } : Jvm.MethodName)) ∈ bigW := big_of (List.mem_of_getElem? (i := 504) (by decide +kernel)) (by decide +kernel)
theorem b_505 : (Jvm.Cond.codeWith ({ cls := "RecordRightsLaw", name := "asks", desc := "(LRecordRights;IIIII[J)I" } : Jvm.MethodName) method_11_code (8 : Nat) (Option.some Jvm.ClassFile.FieldType.int) [((0 : Nat), (16 : Nat), (19 : Nat), (23 : Nat)), ((0 : Nat), (16 : Nat), (23 : Nat), (29 : Nat))]) ∈ bigW := big_of (List.mem_of_getElem? (i := 505) (by decide +kernel)) (by decide +kernel)
theorem b_506 : (Jvm.Cond.methodLink "RecordRightsLaw" (45 : Nat) ({ cls := "RecordRights", name := "asks", desc := "(IIIII)I" } : Jvm.MethodName)) ∈ bigW := big_of (List.mem_of_getElem? (i := 506) (by decide +kernel)) (by decide +kernel)
theorem b_507 : (Jvm.Cond.instanceMethod ({ cls := "RecordRights", name := "asks", desc := "(IIIII)I" } : Jvm.MethodName)) ∈ bigW := big_of (List.mem_of_getElem? (i := 507) (by decide +kernel)) (by decide +kernel)
theorem b_508 : (Jvm.Cond.selects "RecordRights" ({ cls := "RecordRights", name := "asks", desc := "(IIIII)I" } : Jvm.MethodName) ({ cls := "RecordRights", name := "asks", desc := "(IIIII)I" } : Jvm.MethodName)) ∈ bigW := big_of (List.mem_of_getElem? (i := 508) (by decide +kernel)) (by decide +kernel)
theorem b_509 : (Jvm.Cond.code ({ cls := "RecordRights", name := "asks", desc := "(IIIII)I" } : Jvm.MethodName) prog_1_method_10_code (7 : Nat) (Option.some Jvm.ClassFile.FieldType.int)) ∈ bigW := big_of (List.mem_of_getElem? (i := 509) (by decide +kernel)) (by decide +kernel)
theorem b_511 : (Jvm.Cond.methodLink "RecordRights" (177 : Nat) ({ cls := "RecordRights", name := "openRules", desc := "(III)I" } : Jvm.MethodName)) ∈ bigW := big_of (List.mem_of_getElem? (i := 511) (by decide +kernel)) (by decide +kernel)
theorem b_513 : (Jvm.Cond.instanceMethod ({ cls := "RecordRights", name := "openRules", desc := "(III)I" } : Jvm.MethodName)) ∈ bigW := big_of (List.mem_of_getElem? (i := 513) (by decide +kernel)) (by decide +kernel)
theorem b_514 : (Jvm.Cond.code ({ cls := "RecordRights", name := "openRules", desc := "(III)I" } : Jvm.MethodName) prog_1_method_24_code (6 : Nat) (Option.some Jvm.ClassFile.FieldType.int)) ∈ bigW := big_of (List.mem_of_getElem? (i := 514) (by decide +kernel)) (by decide +kernel)
theorem b_515 : (Jvm.Cond.methodLink "RecordRights" (266 : Nat) ({ cls := "RecordRights$Agreements", name := "hold", desc := "(III)Z" } : Jvm.MethodName)) ∈ bigW := big_of (List.mem_of_getElem? (i := 515) (by decide +kernel)) (by decide +kernel)
theorem b_516 : (Jvm.Cond.instanceMethod ({ cls := "RecordRights$Agreements", name := "hold", desc := "(III)Z" } : Jvm.MethodName)) ∈ bigW := big_of (List.mem_of_getElem? (i := 516) (by decide +kernel)) (by decide +kernel)
theorem b_517 : (Jvm.Cond.selects "RecordRights$Agreements" ({ cls := "RecordRights$Agreements", name := "hold", desc := "(III)Z" } : Jvm.MethodName) ({ cls := "RecordRights$Agreements", name := "hold", desc := "(III)Z" } : Jvm.MethodName)) ∈ bigW := big_of (List.mem_of_getElem? (i := 517) (by decide +kernel)) (by decide +kernel)
theorem b_518 : (Jvm.Cond.code ({ cls := "RecordRights$Agreements", name := "hold", desc := "(III)Z" } : Jvm.MethodName) prog_2_method_3_code (5 : Nat) (Option.some Jvm.ClassFile.FieldType.boolean)) ∈ bigW := big_of (List.mem_of_getElem? (i := 518) (by decide +kernel)) (by decide +kernel)
theorem b_519 : (Jvm.Cond.constant "RecordRights" (270 : Nat) (1073741824 : Int32)) ∈ bigW := big_of (List.mem_of_getElem? (i := 519) (by decide +kernel)) (by decide +kernel)
theorem b_520 : (Jvm.Cond.constant "RecordRights" (274 : Nat) (-4190209 : Int32)) ∈ bigW := big_of (List.mem_of_getElem? (i := 520) (by decide +kernel)) (by decide +kernel)
theorem b_521 : (Jvm.Cond.methodLink "RecordRights" (275 : Nat) ({ cls := "RecordRights$RuleBook", name := "suiting", desc := "(II)I" } : Jvm.MethodName)) ∈ bigW := big_of (List.mem_of_getElem? (i := 521) (by decide +kernel)) (by decide +kernel)
theorem b_522 : (Jvm.Cond.instanceMethod ({ cls := "RecordRights$RuleBook", name := "suiting", desc := "(II)I" } : Jvm.MethodName)) ∈ bigW := big_of (List.mem_of_getElem? (i := 522) (by decide +kernel)) (by decide +kernel)
theorem b_523 : (Jvm.Cond.selects "RecordRights$RuleBook" ({ cls := "RecordRights$RuleBook", name := "suiting", desc := "(II)I" } : Jvm.MethodName) ({ cls := "RecordRights$RuleBook", name := "suiting", desc := "(II)I" } : Jvm.MethodName)) ∈ bigW := big_of (List.mem_of_getElem? (i := 523) (by decide +kernel)) (by decide +kernel)
theorem b_524 : (Jvm.Cond.code ({ cls := "RecordRights$RuleBook", name := "suiting", desc := "(II)I" } : Jvm.MethodName) prog_9_method_4_code (6 : Nat) (Option.some Jvm.ClassFile.FieldType.int)) ∈ bigW := big_of (List.mem_of_getElem? (i := 524) (by decide +kernel)) (by decide +kernel)
theorem b_525 : (Jvm.Cond.methodLink "RecordRights" (180 : Nat) ({ cls := "RecordRights", name := "rulesForField", desc := "(II)I" } : Jvm.MethodName)) ∈ bigW := big_of (List.mem_of_getElem? (i := 525) (by decide +kernel)) (by decide +kernel)
theorem b_527 : (Jvm.Cond.instanceMethod ({ cls := "RecordRights", name := "rulesForField", desc := "(II)I" } : Jvm.MethodName)) ∈ bigW := big_of (List.mem_of_getElem? (i := 527) (by decide +kernel)) (by decide +kernel)
theorem b_528 : (Jvm.Cond.code ({ cls := "RecordRights", name := "rulesForField", desc := "(II)I" } : Jvm.MethodName) prog_1_method_25_code (4 : Nat) (Option.some Jvm.ClassFile.FieldType.int)) ∈ bigW := big_of (List.mem_of_getElem? (i := 528) (by decide +kernel)) (by decide +kernel)
theorem b_529 : (Jvm.Cond.constant "RecordRights" (278 : Nat) (4190208 : Int32)) ∈ bigW := big_of (List.mem_of_getElem? (i := 529) (by decide +kernel)) (by decide +kernel)
theorem b_530 : (Jvm.Cond.methodLink "RecordRights" (184 : Nat) ({ cls := "RecordRights$RuleBook", name := "answerOf", desc := "(I)I" } : Jvm.MethodName)) ∈ bigW := big_of (List.mem_of_getElem? (i := 530) (by decide +kernel)) (by decide +kernel)
theorem b_531 : (Jvm.Cond.instanceMethod ({ cls := "RecordRights$RuleBook", name := "answerOf", desc := "(I)I" } : Jvm.MethodName)) ∈ bigW := big_of (List.mem_of_getElem? (i := 531) (by decide +kernel)) (by decide +kernel)
theorem b_532 : (Jvm.Cond.selects "RecordRights$RuleBook" ({ cls := "RecordRights$RuleBook", name := "answerOf", desc := "(I)I" } : Jvm.MethodName) ({ cls := "RecordRights$RuleBook", name := "answerOf", desc := "(I)I" } : Jvm.MethodName)) ∈ bigW := big_of (List.mem_of_getElem? (i := 532) (by decide +kernel)) (by decide +kernel)
theorem b_533 : (Jvm.Cond.code ({ cls := "RecordRights$RuleBook", name := "answerOf", desc := "(I)I" } : Jvm.MethodName) prog_9_method_5_code (2 : Nat) (Option.some Jvm.ClassFile.FieldType.int)) ∈ bigW := big_of (List.mem_of_getElem? (i := 533) (by decide +kernel)) (by decide +kernel)
theorem b_534 : (Jvm.Cond.methodLink "RecordRights" (188 : Nat) ({ cls := "RecordRights$Looks", name := "keep", desc := "(IIIIII)V" } : Jvm.MethodName)) ∈ bigW := big_of (List.mem_of_getElem? (i := 534) (by decide +kernel)) (by decide +kernel)
theorem b_535 : (Jvm.Cond.instanceMethod ({ cls := "RecordRights$Looks", name := "keep", desc := "(IIIIII)V" } : Jvm.MethodName)) ∈ bigW := big_of (List.mem_of_getElem? (i := 535) (by decide +kernel)) (by decide +kernel)
theorem b_536 : (Jvm.Cond.selects "RecordRights$Looks" ({ cls := "RecordRights$Looks", name := "keep", desc := "(IIIIII)V" } : Jvm.MethodName) ({ cls := "RecordRights$Looks", name := "keep", desc := "(IIIIII)V" } : Jvm.MethodName)) ∈ bigW := big_of (List.mem_of_getElem? (i := 536) (by decide +kernel)) (by decide +kernel)
theorem b_537 : (Jvm.Cond.code ({ cls := "RecordRights$Looks", name := "keep", desc := "(IIIIII)V" } : Jvm.MethodName) prog_5_method_2_code (8 : Nat) (Option.none : Option Jvm.ClassFile.FieldType)) ∈ bigW := big_of (List.mem_of_getElem? (i := 537) (by decide +kernel)) (by decide +kernel)
theorem b_538 : (Jvm.Cond.methodLink "RecordRightsLaw" (122 : Nat) ({ cls := "RecordRightsLaw", name := "masked", desc := "(LRecordRights;II[J)I" } : Jvm.MethodName)) ∈ bigW := big_of (List.mem_of_getElem? (i := 538) (by decide +kernel)) (by decide +kernel)
theorem b_539 : (Jvm.Cond.static ({ cls := "RecordRightsLaw", name := "masked", desc := "(LRecordRights;II[J)I" } : Jvm.MethodName)) ∈ bigW := big_of (List.mem_of_getElem? (i := 539) (by decide +kernel)) (by decide +kernel)
theorem b_540 : (Jvm.Cond.codeWith ({ cls := "RecordRightsLaw", name := "masked", desc := "(LRecordRights;II[J)I" } : Jvm.MethodName) method_12_code (5 : Nat) (Option.some Jvm.ClassFile.FieldType.int) [((0 : Nat), (9 : Nat), (12 : Nat), (23 : Nat))]) ∈ bigW := big_of (List.mem_of_getElem? (i := 540) (by decide +kernel)) (by decide +kernel)
theorem b_541 : (Jvm.Cond.methodLink "RecordRightsLaw" (49 : Nat) ({ cls := "RecordRights", name := "masked", desc := "(II)J" } : Jvm.MethodName)) ∈ bigW := big_of (List.mem_of_getElem? (i := 541) (by decide +kernel)) (by decide +kernel)
theorem b_542 : (Jvm.Cond.instanceMethod ({ cls := "RecordRights", name := "masked", desc := "(II)J" } : Jvm.MethodName)) ∈ bigW := big_of (List.mem_of_getElem? (i := 542) (by decide +kernel)) (by decide +kernel)
theorem b_543 : (Jvm.Cond.selects "RecordRights" ({ cls := "RecordRights", name := "masked", desc := "(II)J" } : Jvm.MethodName) ({ cls := "RecordRights", name := "masked", desc := "(II)J" } : Jvm.MethodName)) ∈ bigW := big_of (List.mem_of_getElem? (i := 543) (by decide +kernel)) (by decide +kernel)
theorem b_544 : (Jvm.Cond.code ({ cls := "RecordRights", name := "masked", desc := "(II)J" } : Jvm.MethodName) prog_1_method_11_code (5 : Nat) (Option.some Jvm.ClassFile.FieldType.long)) ∈ bigW := big_of (List.mem_of_getElem? (i := 544) (by decide +kernel)) (by decide +kernel)
theorem b_545 : (Jvm.Cond.methodLink "RecordRights" (192 : Nat) ({ cls := "RecordRights$Holdings", name := "at", desc := "(II)J" } : Jvm.MethodName)) ∈ bigW := big_of (List.mem_of_getElem? (i := 545) (by decide +kernel)) (by decide +kernel)
theorem b_546 : (Jvm.Cond.constantLong "RecordRights" (196 : Nat) (1000 : Int64)) ∈ bigW := big_of (List.mem_of_getElem? (i := 546) (by decide +kernel)) (by decide +kernel)
theorem b_547 : (Jvm.Cond.methodLink "RecordRightsLaw" (125 : Nat) ({ cls := "RecordRightsLaw", name := "look", desc := "(LRecordRights;II[J)I" } : Jvm.MethodName)) ∈ bigW := big_of (List.mem_of_getElem? (i := 547) (by decide +kernel)) (by decide +kernel)
theorem b_548 : (Jvm.Cond.static ({ cls := "RecordRightsLaw", name := "look", desc := "(LRecordRights;II[J)I" } : Jvm.MethodName)) ∈ bigW := big_of (List.mem_of_getElem? (i := 548) (by decide +kernel)) (by decide +kernel)
theorem b_549 : (Jvm.Cond.codeWith ({ cls := "RecordRightsLaw", name := "look", desc := "(LRecordRights;II[J)I" } : Jvm.MethodName) method_13_code (5 : Nat) (Option.some Jvm.ClassFile.FieldType.int) [((0 : Nat), (10 : Nat), (13 : Nat), (23 : Nat))]) ∈ bigW := big_of (List.mem_of_getElem? (i := 549) (by decide +kernel)) (by decide +kernel)
theorem b_550 : (Jvm.Cond.methodLink "RecordRightsLaw" (53 : Nat) ({ cls := "RecordRights", name := "look", desc := "(II)I" } : Jvm.MethodName)) ∈ bigW := big_of (List.mem_of_getElem? (i := 550) (by decide +kernel)) (by decide +kernel)
theorem b_551 : (Jvm.Cond.instanceMethod ({ cls := "RecordRights", name := "look", desc := "(II)I" } : Jvm.MethodName)) ∈ bigW := big_of (List.mem_of_getElem? (i := 551) (by decide +kernel)) (by decide +kernel)
theorem b_552 : (Jvm.Cond.selects "RecordRights" ({ cls := "RecordRights", name := "look", desc := "(II)I" } : Jvm.MethodName) ({ cls := "RecordRights", name := "look", desc := "(II)I" } : Jvm.MethodName)) ∈ bigW := big_of (List.mem_of_getElem? (i := 552) (by decide +kernel)) (by decide +kernel)
theorem b_553 : (Jvm.Cond.code ({ cls := "RecordRights", name := "look", desc := "(II)I" } : Jvm.MethodName) prog_1_method_12_code (3 : Nat) (Option.some Jvm.ClassFile.FieldType.int)) ∈ bigW := big_of (List.mem_of_getElem? (i := 553) (by decide +kernel)) (by decide +kernel)
theorem b_556 : (Jvm.Cond.methodLink "RecordRights" (202 : Nat) ({ cls := "RecordRights$Looks", name := "part", desc := "(II)I" } : Jvm.MethodName)) ∈ bigW := big_of (List.mem_of_getElem? (i := 556) (by decide +kernel)) (by decide +kernel)
theorem b_557 : (Jvm.Cond.instanceMethod ({ cls := "RecordRights$Looks", name := "part", desc := "(II)I" } : Jvm.MethodName)) ∈ bigW := big_of (List.mem_of_getElem? (i := 557) (by decide +kernel)) (by decide +kernel)
theorem b_558 : (Jvm.Cond.selects "RecordRights$Looks" ({ cls := "RecordRights$Looks", name := "part", desc := "(II)I" } : Jvm.MethodName) ({ cls := "RecordRights$Looks", name := "part", desc := "(II)I" } : Jvm.MethodName)) ∈ bigW := big_of (List.mem_of_getElem? (i := 558) (by decide +kernel)) (by decide +kernel)
theorem b_559 : (Jvm.Cond.code ({ cls := "RecordRights$Looks", name := "part", desc := "(II)I" } : Jvm.MethodName) prog_5_method_3_code (3 : Nat) (Option.some Jvm.ClassFile.FieldType.int)) ∈ bigW := big_of (List.mem_of_getElem? (i := 559) (by decide +kernel)) (by decide +kernel)
theorem b_560 : (Jvm.Cond.methodLink "RecordRightsLaw" (128 : Nat) ({ cls := "RecordRightsLaw", name := "looked", desc := "(LRecordRights;II[J)I" } : Jvm.MethodName)) ∈ bigW := big_of (List.mem_of_getElem? (i := 560) (by decide +kernel)) (by decide +kernel)
theorem b_561 : (Jvm.Cond.static ({ cls := "RecordRightsLaw", name := "looked", desc := "(LRecordRights;II[J)I" } : Jvm.MethodName)) ∈ bigW := big_of (List.mem_of_getElem? (i := 561) (by decide +kernel)) (by decide +kernel)
theorem b_562 : (Jvm.Cond.codeWith ({ cls := "RecordRightsLaw", name := "looked", desc := "(LRecordRights;II[J)I" } : Jvm.MethodName) method_14_code (5 : Nat) (Option.some Jvm.ClassFile.FieldType.int) [((0 : Nat), (10 : Nat), (13 : Nat), (23 : Nat))]) ∈ bigW := big_of (List.mem_of_getElem? (i := 562) (by decide +kernel)) (by decide +kernel)
theorem b_563 : (Jvm.Cond.methodLink "RecordRightsLaw" (56 : Nat) ({ cls := "RecordRights", name := "looked", desc := "(II)I" } : Jvm.MethodName)) ∈ bigW := big_of (List.mem_of_getElem? (i := 563) (by decide +kernel)) (by decide +kernel)
theorem b_564 : (Jvm.Cond.instanceMethod ({ cls := "RecordRights", name := "looked", desc := "(II)I" } : Jvm.MethodName)) ∈ bigW := big_of (List.mem_of_getElem? (i := 564) (by decide +kernel)) (by decide +kernel)
theorem b_565 : (Jvm.Cond.selects "RecordRights" ({ cls := "RecordRights", name := "looked", desc := "(II)I" } : Jvm.MethodName) ({ cls := "RecordRights", name := "looked", desc := "(II)I" } : Jvm.MethodName)) ∈ bigW := big_of (List.mem_of_getElem? (i := 565) (by decide +kernel)) (by decide +kernel)
theorem b_566 : (Jvm.Cond.code ({ cls := "RecordRights", name := "looked", desc := "(II)I" } : Jvm.MethodName) prog_1_method_13_code (3 : Nat) (Option.some Jvm.ClassFile.FieldType.int)) ∈ bigW := big_of (List.mem_of_getElem? (i := 566) (by decide +kernel)) (by decide +kernel)
theorem b_568 : (Jvm.Cond.methodLink "RecordRights" (207 : Nat) ({ cls := "RecordRights$Looks", name := "looker", desc := "(II)I" } : Jvm.MethodName)) ∈ bigW := big_of (List.mem_of_getElem? (i := 568) (by decide +kernel)) (by decide +kernel)
theorem b_569 : (Jvm.Cond.instanceMethod ({ cls := "RecordRights$Looks", name := "looker", desc := "(II)I" } : Jvm.MethodName)) ∈ bigW := big_of (List.mem_of_getElem? (i := 569) (by decide +kernel)) (by decide +kernel)
theorem b_570 : (Jvm.Cond.selects "RecordRights$Looks" ({ cls := "RecordRights$Looks", name := "looker", desc := "(II)I" } : Jvm.MethodName) ({ cls := "RecordRights$Looks", name := "looker", desc := "(II)I" } : Jvm.MethodName)) ∈ bigW := big_of (List.mem_of_getElem? (i := 570) (by decide +kernel)) (by decide +kernel)
theorem b_571 : (Jvm.Cond.code ({ cls := "RecordRights$Looks", name := "looker", desc := "(II)I" } : Jvm.MethodName) prog_5_method_4_code (5 : Nat) (Option.some Jvm.ClassFile.FieldType.int)) ∈ bigW := big_of (List.mem_of_getElem? (i := 571) (by decide +kernel)) (by decide +kernel)
theorem b_572 : (Jvm.Cond.methodLink "RecordRightsLaw" (131 : Nat) ({ cls := "RecordRightsLaw", name := "export", desc := "(LRecordRights;II[J)I" } : Jvm.MethodName)) ∈ bigW := big_of (List.mem_of_getElem? (i := 572) (by decide +kernel)) (by decide +kernel)
theorem b_573 : (Jvm.Cond.static ({ cls := "RecordRightsLaw", name := "export", desc := "(LRecordRights;II[J)I" } : Jvm.MethodName)) ∈ bigW := big_of (List.mem_of_getElem? (i := 573) (by decide +kernel)) (by decide +kernel)
theorem b_574 : (Jvm.Cond.codeWith ({ cls := "RecordRightsLaw", name := "export", desc := "(LRecordRights;II[J)I" } : Jvm.MethodName) method_15_code (5 : Nat) (Option.some Jvm.ClassFile.FieldType.int) [((0 : Nat), (10 : Nat), (13 : Nat), (23 : Nat)), ((0 : Nat), (10 : Nat), (17 : Nat), (29 : Nat))]) ∈ bigW := big_of (List.mem_of_getElem? (i := 574) (by decide +kernel)) (by decide +kernel)
theorem b_575 : (Jvm.Cond.methodLink "RecordRightsLaw" (59 : Nat) ({ cls := "RecordRights", name := "export", desc := "(II)I" } : Jvm.MethodName)) ∈ bigW := big_of (List.mem_of_getElem? (i := 575) (by decide +kernel)) (by decide +kernel)
theorem b_576 : (Jvm.Cond.instanceMethod ({ cls := "RecordRights", name := "export", desc := "(II)I" } : Jvm.MethodName)) ∈ bigW := big_of (List.mem_of_getElem? (i := 576) (by decide +kernel)) (by decide +kernel)
theorem b_577 : (Jvm.Cond.selects "RecordRights" ({ cls := "RecordRights", name := "export", desc := "(II)I" } : Jvm.MethodName) ({ cls := "RecordRights", name := "export", desc := "(II)I" } : Jvm.MethodName)) ∈ bigW := big_of (List.mem_of_getElem? (i := 577) (by decide +kernel)) (by decide +kernel)
theorem b_578 : (Jvm.Cond.code ({ cls := "RecordRights", name := "export", desc := "(II)I" } : Jvm.MethodName) prog_1_method_14_code (4 : Nat) (Option.some Jvm.ClassFile.FieldType.int)) ∈ bigW := big_of (List.mem_of_getElem? (i := 578) (by decide +kernel)) (by decide +kernel)
theorem b_579 : (Jvm.Cond.methodLink "RecordRights" (211 : Nat) ({ cls := "RecordRights", name := "isExportable", desc := "(I)Z" } : Jvm.MethodName)) ∈ bigW := big_of (List.mem_of_getElem? (i := 579) (by decide +kernel)) (by decide +kernel)
theorem b_581 : (Jvm.Cond.instanceMethod ({ cls := "RecordRights", name := "isExportable", desc := "(I)Z" } : Jvm.MethodName)) ∈ bigW := big_of (List.mem_of_getElem? (i := 581) (by decide +kernel)) (by decide +kernel)
theorem b_582 : (Jvm.Cond.code ({ cls := "RecordRights", name := "isExportable", desc := "(I)Z" } : Jvm.MethodName) prog_1_method_26_code (3 : Nat) (Option.some Jvm.ClassFile.FieldType.boolean)) ∈ bigW := big_of (List.mem_of_getElem? (i := 582) (by decide +kernel)) (by decide +kernel)
theorem b_583 : (Jvm.Cond.methodLink "RecordRights" (214 : Nat) ({ cls := "RecordRights$Export", name := "add", desc := "(I)V" } : Jvm.MethodName)) ∈ bigW := big_of (List.mem_of_getElem? (i := 583) (by decide +kernel)) (by decide +kernel)
theorem b_584 : (Jvm.Cond.instanceMethod ({ cls := "RecordRights$Export", name := "add", desc := "(I)V" } : Jvm.MethodName)) ∈ bigW := big_of (List.mem_of_getElem? (i := 584) (by decide +kernel)) (by decide +kernel)
theorem b_585 : (Jvm.Cond.selects "RecordRights$Export" ({ cls := "RecordRights$Export", name := "add", desc := "(I)V" } : Jvm.MethodName) ({ cls := "RecordRights$Export", name := "add", desc := "(I)V" } : Jvm.MethodName)) ∈ bigW := big_of (List.mem_of_getElem? (i := 585) (by decide +kernel)) (by decide +kernel)
theorem b_586 : (Jvm.Cond.code ({ cls := "RecordRights$Export", name := "add", desc := "(I)V" } : Jvm.MethodName) prog_3_method_2_code (2 : Nat) (Option.none : Option Jvm.ClassFile.FieldType)) ∈ bigW := big_of (List.mem_of_getElem? (i := 586) (by decide +kernel)) (by decide +kernel)
theorem b_587 : (Jvm.Cond.methodLink "RecordRightsLaw" (134 : Nat) ({ cls := "RecordRightsLaw", name := "exported", desc := "(LRecordRights;I[J)I" } : Jvm.MethodName)) ∈ bigW := big_of (List.mem_of_getElem? (i := 587) (by decide +kernel)) (by decide +kernel)
theorem b_588 : (Jvm.Cond.static ({ cls := "RecordRightsLaw", name := "exported", desc := "(LRecordRights;I[J)I" } : Jvm.MethodName)) ∈ bigW := big_of (List.mem_of_getElem? (i := 588) (by decide +kernel)) (by decide +kernel)
theorem b_589 : (Jvm.Cond.codeWith ({ cls := "RecordRightsLaw", name := "exported", desc := "(LRecordRights;I[J)I" } : Jvm.MethodName) method_16_code (4 : Nat) (Option.some Jvm.ClassFile.FieldType.int) [((0 : Nat), (9 : Nat), (12 : Nat), (23 : Nat))]) ∈ bigW := big_of (List.mem_of_getElem? (i := 589) (by decide +kernel)) (by decide +kernel)
theorem b_590 : (Jvm.Cond.methodLink "RecordRightsLaw" (62 : Nat) ({ cls := "RecordRights", name := "exported", desc := "(I)I" } : Jvm.MethodName)) ∈ bigW := big_of (List.mem_of_getElem? (i := 590) (by decide +kernel)) (by decide +kernel)
theorem b_591 : (Jvm.Cond.instanceMethod ({ cls := "RecordRights", name := "exported", desc := "(I)I" } : Jvm.MethodName)) ∈ bigW := big_of (List.mem_of_getElem? (i := 591) (by decide +kernel)) (by decide +kernel)
theorem b_592 : (Jvm.Cond.selects "RecordRights" ({ cls := "RecordRights", name := "exported", desc := "(I)I" } : Jvm.MethodName) ({ cls := "RecordRights", name := "exported", desc := "(I)I" } : Jvm.MethodName)) ∈ bigW := big_of (List.mem_of_getElem? (i := 592) (by decide +kernel)) (by decide +kernel)
theorem b_593 : (Jvm.Cond.code ({ cls := "RecordRights", name := "exported", desc := "(I)I" } : Jvm.MethodName) prog_1_method_15_code (2 : Nat) (Option.some Jvm.ClassFile.FieldType.int)) ∈ bigW := big_of (List.mem_of_getElem? (i := 593) (by decide +kernel)) (by decide +kernel)
theorem b_595 : (Jvm.Cond.methodLink "RecordRightsLaw" (137 : Nat) ({ cls := "RecordRightsLaw", name := "request", desc := "(LRecordRights;III[J)I" } : Jvm.MethodName)) ∈ bigW := big_of (List.mem_of_getElem? (i := 595) (by decide +kernel)) (by decide +kernel)
theorem b_596 : (Jvm.Cond.static ({ cls := "RecordRightsLaw", name := "request", desc := "(LRecordRights;III[J)I" } : Jvm.MethodName)) ∈ bigW := big_of (List.mem_of_getElem? (i := 596) (by decide +kernel)) (by decide +kernel)
theorem b_597 : (Jvm.Cond.codeWith ({ cls := "RecordRightsLaw", name := "request", desc := "(LRecordRights;III[J)I" } : Jvm.MethodName) method_17_code (6 : Nat) (Option.some Jvm.ClassFile.FieldType.int) [((0 : Nat), (12 : Nat), (15 : Nat), (23 : Nat)), ((0 : Nat), (12 : Nat), (19 : Nat), (29 : Nat)), ((0 : Nat), (12 : Nat), (23 : Nat), (13 : Nat))]) ∈ bigW := big_of (List.mem_of_getElem? (i := 597) (by decide +kernel)) (by decide +kernel)
theorem b_598 : (Jvm.Cond.methodLink "RecordRightsLaw" (65 : Nat) ({ cls := "RecordRights", name := "request", desc := "(III)I" } : Jvm.MethodName)) ∈ bigW := big_of (List.mem_of_getElem? (i := 598) (by decide +kernel)) (by decide +kernel)
theorem b_599 : (Jvm.Cond.instanceMethod ({ cls := "RecordRights", name := "request", desc := "(III)I" } : Jvm.MethodName)) ∈ bigW := big_of (List.mem_of_getElem? (i := 599) (by decide +kernel)) (by decide +kernel)
theorem b_600 : (Jvm.Cond.selects "RecordRights" ({ cls := "RecordRights", name := "request", desc := "(III)I" } : Jvm.MethodName) ({ cls := "RecordRights", name := "request", desc := "(III)I" } : Jvm.MethodName)) ∈ bigW := big_of (List.mem_of_getElem? (i := 600) (by decide +kernel)) (by decide +kernel)
theorem b_601 : (Jvm.Cond.code ({ cls := "RecordRights", name := "request", desc := "(III)I" } : Jvm.MethodName) prog_1_method_16_code (5 : Nat) (Option.some Jvm.ClassFile.FieldType.int)) ∈ bigW := big_of (List.mem_of_getElem? (i := 601) (by decide +kernel)) (by decide +kernel)
theorem b_603 : (Jvm.Cond.methodLink "RecordRights" (224 : Nat) ({ cls := "RecordRights$Requests", name := "within", desc := "(II)I" } : Jvm.MethodName)) ∈ bigW := big_of (List.mem_of_getElem? (i := 603) (by decide +kernel)) (by decide +kernel)
theorem b_604 : (Jvm.Cond.instanceMethod ({ cls := "RecordRights$Requests", name := "within", desc := "(II)I" } : Jvm.MethodName)) ∈ bigW := big_of (List.mem_of_getElem? (i := 604) (by decide +kernel)) (by decide +kernel)
theorem b_605 : (Jvm.Cond.selects "RecordRights$Requests" ({ cls := "RecordRights$Requests", name := "within", desc := "(II)I" } : Jvm.MethodName) ({ cls := "RecordRights$Requests", name := "within", desc := "(II)I" } : Jvm.MethodName)) ∈ bigW := big_of (List.mem_of_getElem? (i := 605) (by decide +kernel)) (by decide +kernel)
theorem b_606 : (Jvm.Cond.code ({ cls := "RecordRights$Requests", name := "within", desc := "(II)I" } : Jvm.MethodName) prog_8_method_2_code (5 : Nat) (Option.some Jvm.ClassFile.FieldType.int)) ∈ bigW := big_of (List.mem_of_getElem? (i := 606) (by decide +kernel)) (by decide +kernel)
theorem b_607 : (Jvm.Cond.methodLink "RecordRights" (230 : Nat) ({ cls := "RecordRights$Requests", name := "keep", desc := "(II)V" } : Jvm.MethodName)) ∈ bigW := big_of (List.mem_of_getElem? (i := 607) (by decide +kernel)) (by decide +kernel)
theorem b_608 : (Jvm.Cond.instanceMethod ({ cls := "RecordRights$Requests", name := "keep", desc := "(II)V" } : Jvm.MethodName)) ∈ bigW := big_of (List.mem_of_getElem? (i := 608) (by decide +kernel)) (by decide +kernel)
theorem b_609 : (Jvm.Cond.selects "RecordRights$Requests" ({ cls := "RecordRights$Requests", name := "keep", desc := "(II)V" } : Jvm.MethodName) ({ cls := "RecordRights$Requests", name := "keep", desc := "(II)V" } : Jvm.MethodName)) ∈ bigW := big_of (List.mem_of_getElem? (i := 609) (by decide +kernel)) (by decide +kernel)
theorem b_610 : (Jvm.Cond.code ({ cls := "RecordRights$Requests", name := "keep", desc := "(II)V" } : Jvm.MethodName) prog_8_method_3_code (3 : Nat) (Option.none : Option Jvm.ClassFile.FieldType)) ∈ bigW := big_of (List.mem_of_getElem? (i := 610) (by decide +kernel)) (by decide +kernel)
theorem b_611 : (Jvm.Cond.methodLink "RecordRightsLaw" (141 : Nat) ({ cls := "RecordRightsLaw", name := "limit", desc := "(LRecordRights;II[J)I" } : Jvm.MethodName)) ∈ bigW := big_of (List.mem_of_getElem? (i := 611) (by decide +kernel)) (by decide +kernel)
theorem b_612 : (Jvm.Cond.static ({ cls := "RecordRightsLaw", name := "limit", desc := "(LRecordRights;II[J)I" } : Jvm.MethodName)) ∈ bigW := big_of (List.mem_of_getElem? (i := 612) (by decide +kernel)) (by decide +kernel)
theorem b_613 : (Jvm.Cond.codeWith ({ cls := "RecordRightsLaw", name := "limit", desc := "(LRecordRights;II[J)I" } : Jvm.MethodName) method_18_code (5 : Nat) (Option.some Jvm.ClassFile.FieldType.int) [((0 : Nat), (10 : Nat), (13 : Nat), (23 : Nat)), ((0 : Nat), (10 : Nat), (17 : Nat), (29 : Nat))]) ∈ bigW := big_of (List.mem_of_getElem? (i := 613) (by decide +kernel)) (by decide +kernel)
theorem b_614 : (Jvm.Cond.methodLink "RecordRightsLaw" (69 : Nat) ({ cls := "RecordRights", name := "limit", desc := "(II)I" } : Jvm.MethodName)) ∈ bigW := big_of (List.mem_of_getElem? (i := 614) (by decide +kernel)) (by decide +kernel)
theorem b_615 : (Jvm.Cond.instanceMethod ({ cls := "RecordRights", name := "limit", desc := "(II)I" } : Jvm.MethodName)) ∈ bigW := big_of (List.mem_of_getElem? (i := 615) (by decide +kernel)) (by decide +kernel)
theorem b_616 : (Jvm.Cond.selects "RecordRights" ({ cls := "RecordRights", name := "limit", desc := "(II)I" } : Jvm.MethodName) ({ cls := "RecordRights", name := "limit", desc := "(II)I" } : Jvm.MethodName)) ∈ bigW := big_of (List.mem_of_getElem? (i := 616) (by decide +kernel)) (by decide +kernel)
theorem b_617 : (Jvm.Cond.code ({ cls := "RecordRights", name := "limit", desc := "(II)I" } : Jvm.MethodName) prog_1_method_17_code (4 : Nat) (Option.some Jvm.ClassFile.FieldType.int)) ∈ bigW := big_of (List.mem_of_getElem? (i := 617) (by decide +kernel)) (by decide +kernel)
theorem b_619 : (Jvm.Cond.methodLink "RecordRightsLaw" (144 : Nat) ({ cls := "RecordRightsLaw", name := "idle", desc := "(LRecordRights;I[J)I" } : Jvm.MethodName)) ∈ bigW := big_of (List.mem_of_getElem? (i := 619) (by decide +kernel)) (by decide +kernel)
theorem b_620 : (Jvm.Cond.static ({ cls := "RecordRightsLaw", name := "idle", desc := "(LRecordRights;I[J)I" } : Jvm.MethodName)) ∈ bigW := big_of (List.mem_of_getElem? (i := 620) (by decide +kernel)) (by decide +kernel)
theorem b_621 : (Jvm.Cond.codeWith ({ cls := "RecordRightsLaw", name := "idle", desc := "(LRecordRights;I[J)I" } : Jvm.MethodName) method_19_code (4 : Nat) (Option.some Jvm.ClassFile.FieldType.int) [((0 : Nat), (9 : Nat), (12 : Nat), (29 : Nat))]) ∈ bigW := big_of (List.mem_of_getElem? (i := 621) (by decide +kernel)) (by decide +kernel)
theorem b_622 : (Jvm.Cond.methodLink "RecordRightsLaw" (72 : Nat) ({ cls := "RecordRights", name := "idle", desc := "(I)I" } : Jvm.MethodName)) ∈ bigW := big_of (List.mem_of_getElem? (i := 622) (by decide +kernel)) (by decide +kernel)
theorem b_623 : (Jvm.Cond.instanceMethod ({ cls := "RecordRights", name := "idle", desc := "(I)I" } : Jvm.MethodName)) ∈ bigW := big_of (List.mem_of_getElem? (i := 623) (by decide +kernel)) (by decide +kernel)
theorem b_624 : (Jvm.Cond.selects "RecordRights" ({ cls := "RecordRights", name := "idle", desc := "(I)I" } : Jvm.MethodName) ({ cls := "RecordRights", name := "idle", desc := "(I)I" } : Jvm.MethodName)) ∈ bigW := big_of (List.mem_of_getElem? (i := 624) (by decide +kernel)) (by decide +kernel)
theorem b_625 : (Jvm.Cond.code ({ cls := "RecordRights", name := "idle", desc := "(I)I" } : Jvm.MethodName) prog_1_method_18_code (5 : Nat) (Option.some Jvm.ClassFile.FieldType.int)) ∈ bigW := big_of (List.mem_of_getElem? (i := 625) (by decide +kernel)) (by decide +kernel)
theorem b_626 : (Jvm.Cond.methodLink "RecordRights" (235 : Nat) ({ cls := "RecordRights", name := "fillFieldRules", desc := "()V" } : Jvm.MethodName)) ∈ bigW := big_of (List.mem_of_getElem? (i := 626) (by decide +kernel)) (by decide +kernel)
theorem b_628 : (Jvm.Cond.instanceMethod ({ cls := "RecordRights", name := "fillFieldRules", desc := "()V" } : Jvm.MethodName)) ∈ bigW := big_of (List.mem_of_getElem? (i := 628) (by decide +kernel)) (by decide +kernel)
theorem b_629 : (Jvm.Cond.code ({ cls := "RecordRights", name := "fillFieldRules", desc := "()V" } : Jvm.MethodName) prog_1_method_27_code (3 : Nat) (Option.none : Option Jvm.ClassFile.FieldType)) ∈ bigW := big_of (List.mem_of_getElem? (i := 629) (by decide +kernel)) (by decide +kernel)
theorem b_630 : (Jvm.Cond.methodLink "RecordRights" (241 : Nat) ({ cls := "RecordRights", name := "neededRules", desc := "(I)I" } : Jvm.MethodName)) ∈ bigW := big_of (List.mem_of_getElem? (i := 630) (by decide +kernel)) (by decide +kernel)
theorem b_632 : (Jvm.Cond.instanceMethod ({ cls := "RecordRights", name := "neededRules", desc := "(I)I" } : Jvm.MethodName)) ∈ bigW := big_of (List.mem_of_getElem? (i := 632) (by decide +kernel)) (by decide +kernel)
theorem b_633 : (Jvm.Cond.code ({ cls := "RecordRights", name := "neededRules", desc := "(I)I" } : Jvm.MethodName) prog_1_method_28_code (4 : Nat) (Option.some Jvm.ClassFile.FieldType.int)) ∈ bigW := big_of (List.mem_of_getElem? (i := 633) (by decide +kernel)) (by decide +kernel)
theorem b_634 : (Jvm.Cond.methodLink "RecordRights" (279 : Nat) ({ cls := "RecordRights$RuleBook", name := "neededOf", desc := "(I)I" } : Jvm.MethodName)) ∈ bigW := big_of (List.mem_of_getElem? (i := 634) (by decide +kernel)) (by decide +kernel)
theorem b_635 : (Jvm.Cond.instanceMethod ({ cls := "RecordRights$RuleBook", name := "neededOf", desc := "(I)I" } : Jvm.MethodName)) ∈ bigW := big_of (List.mem_of_getElem? (i := 635) (by decide +kernel)) (by decide +kernel)
theorem b_636 : (Jvm.Cond.selects "RecordRights$RuleBook" ({ cls := "RecordRights$RuleBook", name := "neededOf", desc := "(I)I" } : Jvm.MethodName) ({ cls := "RecordRights$RuleBook", name := "neededOf", desc := "(I)I" } : Jvm.MethodName)) ∈ bigW := big_of (List.mem_of_getElem? (i := 636) (by decide +kernel)) (by decide +kernel)
theorem b_637 : (Jvm.Cond.code ({ cls := "RecordRights$RuleBook", name := "neededOf", desc := "(I)I" } : Jvm.MethodName) prog_9_method_6_code (4 : Nat) (Option.some Jvm.ClassFile.FieldType.int)) ∈ bigW := big_of (List.mem_of_getElem? (i := 637) (by decide +kernel)) (by decide +kernel)
theorem b_638 : (Jvm.Cond.methodLink "RecordRights$RuleBook" (34 : Nat) ({ cls := "java/lang/Integer", name := "bitCount", desc := "(I)I" } : Jvm.MethodName)) ∈ bigW := big_of (List.mem_of_getElem? (i := 638) (by decide +kernel)) (by decide +kernel)
theorem b_639 : (Jvm.Cond.static ({ cls := "java/lang/Integer", name := "bitCount", desc := "(I)I" } : Jvm.MethodName)) ∈ bigW := big_of (List.mem_of_getElem? (i := 639) (by decide +kernel)) (by decide +kernel)
theorem b_640 : (Jvm.Cond.code ({ cls := "java/lang/Integer", name := "bitCount", desc := "(I)I" } : Jvm.MethodName) prog_16_method_49_code (1 : Nat) (Option.some Jvm.ClassFile.FieldType.int)) ∈ bigW := big_of (List.mem_of_getElem? (i := 640) (by decide +kernel)) (by decide +kernel)
theorem b_641 : (Jvm.Cond.constant "java/lang/Integer" (265 : Nat) (1431655765 : Int32)) ∈ bigW := big_of (List.mem_of_getElem? (i := 641) (by decide +kernel)) (by decide +kernel)
theorem b_642 : (Jvm.Cond.constant "java/lang/Integer" (266 : Nat) (858993459 : Int32)) ∈ bigW := big_of (List.mem_of_getElem? (i := 642) (by decide +kernel)) (by decide +kernel)
theorem b_643 : (Jvm.Cond.constant "java/lang/Integer" (267 : Nat) (252645135 : Int32)) ∈ bigW := big_of (List.mem_of_getElem? (i := 643) (by decide +kernel)) (by decide +kernel)
theorem b_644 : (Jvm.Cond.methodLink "RecordRights$RuleBook" (40 : Nat) ({ cls := "RecordRights$RuleBook", name := "lastOf", desc := "(I)I" } : Jvm.MethodName)) ∈ bigW := big_of (List.mem_of_getElem? (i := 644) (by decide +kernel)) (by decide +kernel)
theorem b_646 : (Jvm.Cond.instanceMethod ({ cls := "RecordRights$RuleBook", name := "lastOf", desc := "(I)I" } : Jvm.MethodName)) ∈ bigW := big_of (List.mem_of_getElem? (i := 646) (by decide +kernel)) (by decide +kernel)
theorem b_647 : (Jvm.Cond.code ({ cls := "RecordRights$RuleBook", name := "lastOf", desc := "(I)I" } : Jvm.MethodName) prog_9_method_7_code (3 : Nat) (Option.some Jvm.ClassFile.FieldType.int)) ∈ bigW := big_of (List.mem_of_getElem? (i := 647) (by decide +kernel)) (by decide +kernel)
theorem b_648 : (Jvm.Cond.methodLink "RecordRights$RuleBook" (43 : Nat) ({ cls := "RecordRights$RuleBook", name := "answerOf", desc := "(I)I" } : Jvm.MethodName)) ∈ bigW := big_of (List.mem_of_getElem? (i := 648) (by decide +kernel)) (by decide +kernel)
theorem b_649 : (Jvm.Cond.methodLink "RecordRights" (244 : Nat) ({ cls := "RecordRights$RuleBook", name := "firstOf", desc := "(I)I" } : Jvm.MethodName)) ∈ bigW := big_of (List.mem_of_getElem? (i := 649) (by decide +kernel)) (by decide +kernel)
theorem b_650 : (Jvm.Cond.instanceMethod ({ cls := "RecordRights$RuleBook", name := "firstOf", desc := "(I)I" } : Jvm.MethodName)) ∈ bigW := big_of (List.mem_of_getElem? (i := 650) (by decide +kernel)) (by decide +kernel)
theorem b_651 : (Jvm.Cond.selects "RecordRights$RuleBook" ({ cls := "RecordRights$RuleBook", name := "firstOf", desc := "(I)I" } : Jvm.MethodName) ({ cls := "RecordRights$RuleBook", name := "firstOf", desc := "(I)I" } : Jvm.MethodName)) ∈ bigW := big_of (List.mem_of_getElem? (i := 651) (by decide +kernel)) (by decide +kernel)
theorem b_652 : (Jvm.Cond.code ({ cls := "RecordRights$RuleBook", name := "firstOf", desc := "(I)I" } : Jvm.MethodName) prog_9_method_8_code (3 : Nat) (Option.some Jvm.ClassFile.FieldType.int)) ∈ bigW := big_of (List.mem_of_getElem? (i := 652) (by decide +kernel)) (by decide +kernel)
theorem b_653 : (Jvm.Cond.methodLink "RecordRightsLaw" (147 : Nat) ({ cls := "RecordRightsLaw", name := "count", desc := "(LRecordRights;I[J)I" } : Jvm.MethodName)) ∈ bigW := big_of (List.mem_of_getElem? (i := 653) (by decide +kernel)) (by decide +kernel)
theorem b_654 : (Jvm.Cond.static ({ cls := "RecordRightsLaw", name := "count", desc := "(LRecordRights;I[J)I" } : Jvm.MethodName)) ∈ bigW := big_of (List.mem_of_getElem? (i := 654) (by decide +kernel)) (by decide +kernel)
theorem b_655 : (Jvm.Cond.codeWith ({ cls := "RecordRightsLaw", name := "count", desc := "(LRecordRights;I[J)I" } : Jvm.MethodName) method_20_code (4 : Nat) (Option.some Jvm.ClassFile.FieldType.int) [((0 : Nat), (9 : Nat), (12 : Nat), (29 : Nat))]) ∈ bigW := big_of (List.mem_of_getElem? (i := 655) (by decide +kernel)) (by decide +kernel)
theorem b_656 : (Jvm.Cond.methodLink "RecordRightsLaw" (75 : Nat) ({ cls := "RecordRights", name := "count", desc := "(I)I" } : Jvm.MethodName)) ∈ bigW := big_of (List.mem_of_getElem? (i := 656) (by decide +kernel)) (by decide +kernel)
theorem b_657 : (Jvm.Cond.instanceMethod ({ cls := "RecordRights", name := "count", desc := "(I)I" } : Jvm.MethodName)) ∈ bigW := big_of (List.mem_of_getElem? (i := 657) (by decide +kernel)) (by decide +kernel)
theorem b_658 : (Jvm.Cond.selects "RecordRights" ({ cls := "RecordRights", name := "count", desc := "(I)I" } : Jvm.MethodName) ({ cls := "RecordRights", name := "count", desc := "(I)I" } : Jvm.MethodName)) ∈ bigW := big_of (List.mem_of_getElem? (i := 658) (by decide +kernel)) (by decide +kernel)
theorem b_659 : (Jvm.Cond.code ({ cls := "RecordRights", name := "count", desc := "(I)I" } : Jvm.MethodName) prog_1_method_19_code (2 : Nat) (Option.some Jvm.ClassFile.FieldType.int)) ∈ bigW := big_of (List.mem_of_getElem? (i := 659) (by decide +kernel)) (by decide +kernel)
theorem b_660 : (Jvm.Cond.methodLink "RecordRights" (247 : Nat) ({ cls := "java/lang/Integer", name := "bitCount", desc := "(I)I" } : Jvm.MethodName)) ∈ bigW := big_of (List.mem_of_getElem? (i := 660) (by decide +kernel)) (by decide +kernel)
theorem b_662 : (Jvm.Cond.classLink "RecordRightsLaw" (79 : Nat) "RecordRightsModel") ∈ bigW := big_of (List.mem_of_getElem? (i := 662) (by decide +kernel)) (by decide +kernel)
theorem b_663 : (Jvm.Cond.instantiable "RecordRightsModel" (32 : Nat)) ∈ bigW := big_of (List.mem_of_getElem? (i := 663) (by decide +kernel)) (by decide +kernel)
theorem b_664 : (Jvm.Cond.methodLink "RecordRightsLaw" (81 : Nat) ({ cls := "RecordRightsModel", name := "<init>", desc := "()V" } : Jvm.MethodName)) ∈ bigW := big_of (List.mem_of_getElem? (i := 664) (by decide +kernel)) (by decide +kernel)
theorem b_665 : (Jvm.Cond.instanceMethod ({ cls := "RecordRightsModel", name := "<init>", desc := "()V" } : Jvm.MethodName)) ∈ bigW := big_of (List.mem_of_getElem? (i := 665) (by decide +kernel)) (by decide +kernel)
theorem b_666 : (Jvm.Cond.code ({ cls := "RecordRightsModel", name := "<init>", desc := "()V" } : Jvm.MethodName) prog_12_method_1_code (1 : Nat) (Option.none : Option Jvm.ClassFile.FieldType)) ∈ bigW := big_of (List.mem_of_getElem? (i := 666) (by decide +kernel)) (by decide +kernel)
theorem b_667 : (Jvm.Cond.methodLink "RecordRightsModel" (1 : Nat) ({ cls := "java/lang/Object", name := "<init>", desc := "()V" } : Jvm.MethodName)) ∈ bigW := big_of (List.mem_of_getElem? (i := 667) (by decide +kernel)) (by decide +kernel)
theorem b_668 : (Jvm.Cond.fieldLink "RecordRightsModel" (66 : Nat) "RecordRightsModel" "thrown" "I") ∈ bigW := big_of (List.mem_of_getElem? (i := 668) (by decide +kernel)) (by decide +kernel)
theorem b_669 : (Jvm.Cond.fieldLink "RecordRightsModel" (7 : Nat) "RecordRightsModel" "pad" "[I") ∈ bigW := big_of (List.mem_of_getElem? (i := 669) (by decide +kernel)) (by decide +kernel)
theorem b_670 : (Jvm.Cond.fieldLink "RecordRightsModel" (85 : Nat) "RecordRightsModel" "padded" "I") ∈ bigW := big_of (List.mem_of_getElem? (i := 670) (by decide +kernel)) (by decide +kernel)
theorem b_671 : (Jvm.Cond.fieldLink "RecordRightsModel" (99 : Nat) "RecordRightsModel" "rules" "I") ∈ bigW := big_of (List.mem_of_getElem? (i := 671) (by decide +kernel)) (by decide +kernel)
theorem b_672 : (Jvm.Cond.fieldLink "RecordRightsModel" (13 : Nat) "RecordRightsModel" "signs" "[I") ∈ bigW := big_of (List.mem_of_getElem? (i := 672) (by decide +kernel)) (by decide +kernel)
theorem b_673 : (Jvm.Cond.fieldLink "RecordRightsModel" (16 : Nat) "RecordRightsModel" "sizes" "[I") ∈ bigW := big_of (List.mem_of_getElem? (i := 673) (by decide +kernel)) (by decide +kernel)
theorem b_674 : (Jvm.Cond.fieldLink "RecordRightsModel" (19 : Nat) "RecordRightsModel" "told" "[Z") ∈ bigW := big_of (List.mem_of_getElem? (i := 674) (by decide +kernel)) (by decide +kernel)
theorem b_675 : (Jvm.Cond.fieldLink "RecordRightsModel" (70 : Nat) "RecordRightsModel" "persons" "I") ∈ bigW := big_of (List.mem_of_getElem? (i := 675) (by decide +kernel)) (by decide +kernel)
theorem b_676 : (Jvm.Cond.fieldLink "RecordRightsModel" (23 : Nat) "RecordRightsModel" "roles" "[I") ∈ bigW := big_of (List.mem_of_getElem? (i := 676) (by decide +kernel)) (by decide +kernel)
theorem b_677 : (Jvm.Cond.fieldLink "RecordRightsModel" (26 : Nat) "RecordRightsModel" "limits" "[I") ∈ bigW := big_of (List.mem_of_getElem? (i := 677) (by decide +kernel)) (by decide +kernel)
theorem b_678 : (Jvm.Cond.fieldLink "RecordRightsModel" (77 : Nat) "RecordRightsModel" "records" "I") ∈ bigW := big_of (List.mem_of_getElem? (i := 678) (by decide +kernel)) (by decide +kernel)
theorem b_679 : (Jvm.Cond.fieldLink "RecordRightsModel" (29 : Nat) "RecordRightsModel" "kinds" "[I") ∈ bigW := big_of (List.mem_of_getElem? (i := 679) (by decide +kernel)) (by decide +kernel)
theorem b_680 : (Jvm.Cond.fieldLink "RecordRightsModel" (32 : Nat) "RecordRightsModel" "communities" "[I") ∈ bigW := big_of (List.mem_of_getElem? (i := 680) (by decide +kernel)) (by decide +kernel)
theorem b_681 : (Jvm.Cond.fieldLink "RecordRightsModel" (35 : Nat) "RecordRightsModel" "embargoes" "[I") ∈ bigW := big_of (List.mem_of_getElem? (i := 681) (by decide +kernel)) (by decide +kernel)
theorem b_682 : (Jvm.Cond.fieldLink "RecordRightsModel" (38 : Nat) "RecordRightsModel" "values" "[J") ∈ bigW := big_of (List.mem_of_getElem? (i := 682) (by decide +kernel)) (by decide +kernel)
theorem b_683 : (Jvm.Cond.fieldLink "RecordRightsModel" (119 : Nat) "RecordRightsModel" "agreements" "I") ∈ bigW := big_of (List.mem_of_getElem? (i := 683) (by decide +kernel)) (by decide +kernel)
theorem b_684 : (Jvm.Cond.fieldLink "RecordRightsModel" (42 : Nat) "RecordRightsModel" "agreed" "[I") ∈ bigW := big_of (List.mem_of_getElem? (i := 684) (by decide +kernel)) (by decide +kernel)
theorem b_685 : (Jvm.Cond.fieldLink "RecordRightsModel" (45 : Nat) "RecordRightsModel" "agreedRecord" "[I") ∈ bigW := big_of (List.mem_of_getElem? (i := 685) (by decide +kernel)) (by decide +kernel)
theorem b_686 : (Jvm.Cond.fieldLink "RecordRightsModel" (48 : Nat) "RecordRightsModel" "agreedFrom" "[I") ∈ bigW := big_of (List.mem_of_getElem? (i := 686) (by decide +kernel)) (by decide +kernel)
theorem b_687 : (Jvm.Cond.fieldLink "RecordRightsModel" (51 : Nat) "RecordRightsModel" "agreedTo" "[I") ∈ bigW := big_of (List.mem_of_getElem? (i := 687) (by decide +kernel)) (by decide +kernel)
theorem b_688 : (Jvm.Cond.fieldLink "RecordRightsModel" (154 : Nat) "RecordRightsModel" "looks" "I") ∈ bigW := big_of (List.mem_of_getElem? (i := 688) (by decide +kernel)) (by decide +kernel)
theorem b_689 : (Jvm.Cond.fieldLink "RecordRightsModel" (54 : Nat) "RecordRightsModel" "look" "[I") ∈ bigW := big_of (List.mem_of_getElem? (i := 689) (by decide +kernel)) (by decide +kernel)
theorem b_690 : (Jvm.Cond.fieldLink "RecordRightsModel" (159 : Nat) "RecordRightsModel" "exports" "I") ∈ bigW := big_of (List.mem_of_getElem? (i := 690) (by decide +kernel)) (by decide +kernel)
theorem b_691 : (Jvm.Cond.fieldLink "RecordRightsModel" (57 : Nat) "RecordRightsModel" "exported" "[I") ∈ bigW := big_of (List.mem_of_getElem? (i := 691) (by decide +kernel)) (by decide +kernel)
theorem b_692 : (Jvm.Cond.fieldLink "RecordRightsModel" (165 : Nat) "RecordRightsModel" "requests" "I") ∈ bigW := big_of (List.mem_of_getElem? (i := 692) (by decide +kernel)) (by decide +kernel)
theorem b_693 : (Jvm.Cond.fieldLink "RecordRightsModel" (60 : Nat) "RecordRightsModel" "requestPerson" "[I") ∈ bigW := big_of (List.mem_of_getElem? (i := 693) (by decide +kernel)) (by decide +kernel)
theorem b_694 : (Jvm.Cond.fieldLink "RecordRightsModel" (63 : Nat) "RecordRightsModel" "requestDay" "[I") ∈ bigW := big_of (List.mem_of_getElem? (i := 694) (by decide +kernel)) (by decide +kernel)
theorem b_695 : (Jvm.Cond.fieldLink "RecordRightsModel" (122 : Nat) "RecordRightsModel" "who" "I") ∈ bigW := big_of (List.mem_of_getElem? (i := 695) (by decide +kernel)) (by decide +kernel)
theorem b_696 : (Jvm.Cond.fieldLink "RecordRightsModel" (125 : Nat) "RecordRightsModel" "what" "I") ∈ bigW := big_of (List.mem_of_getElem? (i := 696) (by decide +kernel)) (by decide +kernel)
theorem b_697 : (Jvm.Cond.fieldLink "RecordRightsModel" (128 : Nat) "RecordRightsModel" "field" "I") ∈ bigW := big_of (List.mem_of_getElem? (i := 697) (by decide +kernel)) (by decide +kernel)
theorem b_698 : (Jvm.Cond.fieldLink "RecordRightsModel" (131 : Nat) "RecordRightsModel" "purpose" "I") ∈ bigW := big_of (List.mem_of_getElem? (i := 698) (by decide +kernel)) (by decide +kernel)
theorem b_699 : (Jvm.Cond.fieldLink "RecordRightsModel" (134 : Nat) "RecordRightsModel" "when" "I") ∈ bigW := big_of (List.mem_of_getElem? (i := 699) (by decide +kernel)) (by decide +kernel)
theorem b_700 : (Jvm.Cond.lays "RecordRightsModel" "RecordRightsModel" "thrown" "I") ∈ bigW := big_of (List.mem_of_getElem? (i := 700) (by decide +kernel)) (by decide +kernel)
theorem b_702 : (Jvm.Cond.laysFinal "RecordRightsModel" "RecordRightsModel" "pad" "[I") ∈ bigW := big_of (List.mem_of_getElem? (i := 702) (by decide +kernel)) (by decide +kernel)
theorem b_704 : (Jvm.Cond.lays "RecordRightsModel" "RecordRightsModel" "padded" "I") ∈ bigW := big_of (List.mem_of_getElem? (i := 704) (by decide +kernel)) (by decide +kernel)
theorem b_706 : (Jvm.Cond.lays "RecordRightsModel" "RecordRightsModel" "rules" "I") ∈ bigW := big_of (List.mem_of_getElem? (i := 706) (by decide +kernel)) (by decide +kernel)
theorem b_708 : (Jvm.Cond.laysFinal "RecordRightsModel" "RecordRightsModel" "signs" "[I") ∈ bigW := big_of (List.mem_of_getElem? (i := 708) (by decide +kernel)) (by decide +kernel)
theorem b_710 : (Jvm.Cond.laysFinal "RecordRightsModel" "RecordRightsModel" "sizes" "[I") ∈ bigW := big_of (List.mem_of_getElem? (i := 710) (by decide +kernel)) (by decide +kernel)
theorem b_712 : (Jvm.Cond.laysFinal "RecordRightsModel" "RecordRightsModel" "told" "[Z") ∈ bigW := big_of (List.mem_of_getElem? (i := 712) (by decide +kernel)) (by decide +kernel)
theorem b_714 : (Jvm.Cond.lays "RecordRightsModel" "RecordRightsModel" "persons" "I") ∈ bigW := big_of (List.mem_of_getElem? (i := 714) (by decide +kernel)) (by decide +kernel)
theorem b_716 : (Jvm.Cond.laysFinal "RecordRightsModel" "RecordRightsModel" "roles" "[I") ∈ bigW := big_of (List.mem_of_getElem? (i := 716) (by decide +kernel)) (by decide +kernel)
theorem b_718 : (Jvm.Cond.laysFinal "RecordRightsModel" "RecordRightsModel" "limits" "[I") ∈ bigW := big_of (List.mem_of_getElem? (i := 718) (by decide +kernel)) (by decide +kernel)
theorem b_720 : (Jvm.Cond.lays "RecordRightsModel" "RecordRightsModel" "records" "I") ∈ bigW := big_of (List.mem_of_getElem? (i := 720) (by decide +kernel)) (by decide +kernel)
theorem b_722 : (Jvm.Cond.laysFinal "RecordRightsModel" "RecordRightsModel" "kinds" "[I") ∈ bigW := big_of (List.mem_of_getElem? (i := 722) (by decide +kernel)) (by decide +kernel)
theorem b_724 : (Jvm.Cond.laysFinal "RecordRightsModel" "RecordRightsModel" "communities" "[I") ∈ bigW := big_of (List.mem_of_getElem? (i := 724) (by decide +kernel)) (by decide +kernel)
theorem b_726 : (Jvm.Cond.laysFinal "RecordRightsModel" "RecordRightsModel" "embargoes" "[I") ∈ bigW := big_of (List.mem_of_getElem? (i := 726) (by decide +kernel)) (by decide +kernel)
theorem b_728 : (Jvm.Cond.laysFinal "RecordRightsModel" "RecordRightsModel" "values" "[J") ∈ bigW := big_of (List.mem_of_getElem? (i := 728) (by decide +kernel)) (by decide +kernel)
theorem b_730 : (Jvm.Cond.lays "RecordRightsModel" "RecordRightsModel" "agreements" "I") ∈ bigW := big_of (List.mem_of_getElem? (i := 730) (by decide +kernel)) (by decide +kernel)
theorem b_732 : (Jvm.Cond.laysFinal "RecordRightsModel" "RecordRightsModel" "agreed" "[I") ∈ bigW := big_of (List.mem_of_getElem? (i := 732) (by decide +kernel)) (by decide +kernel)
theorem b_734 : (Jvm.Cond.laysFinal "RecordRightsModel" "RecordRightsModel" "agreedRecord" "[I") ∈ bigW := big_of (List.mem_of_getElem? (i := 734) (by decide +kernel)) (by decide +kernel)
theorem b_736 : (Jvm.Cond.laysFinal "RecordRightsModel" "RecordRightsModel" "agreedFrom" "[I") ∈ bigW := big_of (List.mem_of_getElem? (i := 736) (by decide +kernel)) (by decide +kernel)
theorem b_738 : (Jvm.Cond.laysFinal "RecordRightsModel" "RecordRightsModel" "agreedTo" "[I") ∈ bigW := big_of (List.mem_of_getElem? (i := 738) (by decide +kernel)) (by decide +kernel)
theorem b_740 : (Jvm.Cond.lays "RecordRightsModel" "RecordRightsModel" "looks" "I") ∈ bigW := big_of (List.mem_of_getElem? (i := 740) (by decide +kernel)) (by decide +kernel)
theorem b_742 : (Jvm.Cond.laysFinal "RecordRightsModel" "RecordRightsModel" "look" "[I") ∈ bigW := big_of (List.mem_of_getElem? (i := 742) (by decide +kernel)) (by decide +kernel)
theorem b_744 : (Jvm.Cond.lays "RecordRightsModel" "RecordRightsModel" "exports" "I") ∈ bigW := big_of (List.mem_of_getElem? (i := 744) (by decide +kernel)) (by decide +kernel)
theorem b_746 : (Jvm.Cond.laysFinal "RecordRightsModel" "RecordRightsModel" "exported" "[I") ∈ bigW := big_of (List.mem_of_getElem? (i := 746) (by decide +kernel)) (by decide +kernel)
theorem b_748 : (Jvm.Cond.lays "RecordRightsModel" "RecordRightsModel" "requests" "I") ∈ bigW := big_of (List.mem_of_getElem? (i := 748) (by decide +kernel)) (by decide +kernel)
theorem b_750 : (Jvm.Cond.laysFinal "RecordRightsModel" "RecordRightsModel" "requestPerson" "[I") ∈ bigW := big_of (List.mem_of_getElem? (i := 750) (by decide +kernel)) (by decide +kernel)
theorem b_752 : (Jvm.Cond.laysFinal "RecordRightsModel" "RecordRightsModel" "requestDay" "[I") ∈ bigW := big_of (List.mem_of_getElem? (i := 752) (by decide +kernel)) (by decide +kernel)
theorem b_754 : (Jvm.Cond.lays "RecordRightsModel" "RecordRightsModel" "who" "I") ∈ bigW := big_of (List.mem_of_getElem? (i := 754) (by decide +kernel)) (by decide +kernel)
theorem b_756 : (Jvm.Cond.lays "RecordRightsModel" "RecordRightsModel" "what" "I") ∈ bigW := big_of (List.mem_of_getElem? (i := 756) (by decide +kernel)) (by decide +kernel)
theorem b_758 : (Jvm.Cond.lays "RecordRightsModel" "RecordRightsModel" "field" "I") ∈ bigW := big_of (List.mem_of_getElem? (i := 758) (by decide +kernel)) (by decide +kernel)
theorem b_760 : (Jvm.Cond.lays "RecordRightsModel" "RecordRightsModel" "purpose" "I") ∈ bigW := big_of (List.mem_of_getElem? (i := 760) (by decide +kernel)) (by decide +kernel)
theorem b_762 : (Jvm.Cond.lays "RecordRightsModel" "RecordRightsModel" "when" "I") ∈ bigW := big_of (List.mem_of_getElem? (i := 762) (by decide +kernel)) (by decide +kernel)
theorem b_765 : (Jvm.Cond.arrayClass Jvm.ClassFile.FieldType.boolean) ∈ bigW := big_of (List.mem_of_getElem? (i := 765) (by decide +kernel)) (by decide +kernel)
theorem b_766 : (Jvm.Cond.methodLink "RecordRightsLaw" (88 : Nat) ({ cls := "RecordRightsModel", name := "thrown", desc := "()I" } : Jvm.MethodName)) ∈ bigW := big_of (List.mem_of_getElem? (i := 766) (by decide +kernel)) (by decide +kernel)
theorem b_767 : (Jvm.Cond.instanceMethod ({ cls := "RecordRightsModel", name := "thrown", desc := "()I" } : Jvm.MethodName)) ∈ bigW := big_of (List.mem_of_getElem? (i := 767) (by decide +kernel)) (by decide +kernel)
theorem b_768 : (Jvm.Cond.selects "RecordRightsModel" ({ cls := "RecordRightsModel", name := "thrown", desc := "()I" } : Jvm.MethodName) ({ cls := "RecordRightsModel", name := "thrown", desc := "()I" } : Jvm.MethodName)) ∈ bigW := big_of (List.mem_of_getElem? (i := 768) (by decide +kernel)) (by decide +kernel)
theorem b_769 : (Jvm.Cond.code ({ cls := "RecordRightsModel", name := "thrown", desc := "()I" } : Jvm.MethodName) prog_12_method_2_code (1 : Nat) (Option.some Jvm.ClassFile.FieldType.int)) ∈ bigW := big_of (List.mem_of_getElem? (i := 769) (by decide +kernel)) (by decide +kernel)
theorem b_770 : (Jvm.Cond.methodLink "RecordRightsLaw" (87 : Nat) ({ cls := "RecordRightsModel", name := "unit", desc := "(IIII)I" } : Jvm.MethodName)) ∈ bigW := big_of (List.mem_of_getElem? (i := 770) (by decide +kernel)) (by decide +kernel)
theorem b_771 : (Jvm.Cond.instanceMethod ({ cls := "RecordRightsModel", name := "unit", desc := "(IIII)I" } : Jvm.MethodName)) ∈ bigW := big_of (List.mem_of_getElem? (i := 771) (by decide +kernel)) (by decide +kernel)
theorem b_772 : (Jvm.Cond.selects "RecordRightsModel" ({ cls := "RecordRightsModel", name := "unit", desc := "(IIII)I" } : Jvm.MethodName) ({ cls := "RecordRightsModel", name := "unit", desc := "(IIII)I" } : Jvm.MethodName)) ∈ bigW := big_of (List.mem_of_getElem? (i := 772) (by decide +kernel)) (by decide +kernel)
theorem b_773 : (Jvm.Cond.code ({ cls := "RecordRightsModel", name := "unit", desc := "(IIII)I" } : Jvm.MethodName) prog_12_method_10_code (8 : Nat) (Option.some Jvm.ClassFile.FieldType.int)) ∈ bigW := big_of (List.mem_of_getElem? (i := 773) (by decide +kernel)) (by decide +kernel)
theorem b_774 : (Jvm.Cond.methodLink "RecordRightsModel" (81 : Nat) ({ cls := "RecordRightsModel", name := "signOf", desc := "(II)I" } : Jvm.MethodName)) ∈ bigW := big_of (List.mem_of_getElem? (i := 774) (by decide +kernel)) (by decide +kernel)
theorem b_775 : (Jvm.Cond.static ({ cls := "RecordRightsModel", name := "signOf", desc := "(II)I" } : Jvm.MethodName)) ∈ bigW := big_of (List.mem_of_getElem? (i := 775) (by decide +kernel)) (by decide +kernel)
theorem b_776 : (Jvm.Cond.code ({ cls := "RecordRightsModel", name := "signOf", desc := "(II)I" } : Jvm.MethodName) prog_12_method_9_code (2 : Nat) (Option.some Jvm.ClassFile.FieldType.int)) ∈ bigW := big_of (List.mem_of_getElem? (i := 776) (by decide +kernel)) (by decide +kernel)
theorem b_777 : (Jvm.Cond.methodLink "RecordRightsModel" (88 : Nat) ({ cls := "RecordRightsModel", name := "throwing", desc := "(ZZZ)Z" } : Jvm.MethodName)) ∈ bigW := big_of (List.mem_of_getElem? (i := 777) (by decide +kernel)) (by decide +kernel)
theorem b_779 : (Jvm.Cond.instanceMethod ({ cls := "RecordRightsModel", name := "throwing", desc := "(ZZZ)Z" } : Jvm.MethodName)) ∈ bigW := big_of (List.mem_of_getElem? (i := 779) (by decide +kernel)) (by decide +kernel)
theorem b_780 : (Jvm.Cond.code ({ cls := "RecordRightsModel", name := "throwing", desc := "(ZZZ)Z" } : Jvm.MethodName) prog_12_method_3_code (4 : Nat) (Option.some Jvm.ClassFile.FieldType.boolean)) ∈ bigW := big_of (List.mem_of_getElem? (i := 780) (by decide +kernel)) (by decide +kernel)
theorem b_781 : (Jvm.Cond.methodLink "RecordRightsLaw" (94 : Nat) ({ cls := "RecordRightsModel", name := "rule", desc := "()I" } : Jvm.MethodName)) ∈ bigW := big_of (List.mem_of_getElem? (i := 781) (by decide +kernel)) (by decide +kernel)
theorem b_782 : (Jvm.Cond.instanceMethod ({ cls := "RecordRightsModel", name := "rule", desc := "()I" } : Jvm.MethodName)) ∈ bigW := big_of (List.mem_of_getElem? (i := 782) (by decide +kernel)) (by decide +kernel)
theorem b_783 : (Jvm.Cond.selects "RecordRightsModel" ({ cls := "RecordRightsModel", name := "rule", desc := "()I" } : Jvm.MethodName) ({ cls := "RecordRightsModel", name := "rule", desc := "()I" } : Jvm.MethodName)) ∈ bigW := big_of (List.mem_of_getElem? (i := 783) (by decide +kernel)) (by decide +kernel)
theorem b_784 : (Jvm.Cond.code ({ cls := "RecordRightsModel", name := "rule", desc := "()I" } : Jvm.MethodName) prog_12_method_14_code (4 : Nat) (Option.some Jvm.ClassFile.FieldType.int)) ∈ bigW := big_of (List.mem_of_getElem? (i := 784) (by decide +kernel)) (by decide +kernel)
theorem b_785 : (Jvm.Cond.methodLink "RecordRightsModel" (102 : Nat) ({ cls := "RecordRightsModel", name := "wrongAt", desc := "()I" } : Jvm.MethodName)) ∈ bigW := big_of (List.mem_of_getElem? (i := 785) (by decide +kernel)) (by decide +kernel)
theorem b_787 : (Jvm.Cond.instanceMethod ({ cls := "RecordRightsModel", name := "wrongAt", desc := "()I" } : Jvm.MethodName)) ∈ bigW := big_of (List.mem_of_getElem? (i := 787) (by decide +kernel)) (by decide +kernel)
theorem b_788 : (Jvm.Cond.code ({ cls := "RecordRightsModel", name := "wrongAt", desc := "()I" } : Jvm.MethodName) prog_12_method_13_code (4 : Nat) (Option.some Jvm.ClassFile.FieldType.int)) ∈ bigW := big_of (List.mem_of_getElem? (i := 788) (by decide +kernel)) (by decide +kernel)
theorem b_789 : (Jvm.Cond.methodLink "RecordRightsModel" (92 : Nat) ({ cls := "RecordRightsModel", name := "padAt", desc := "(I)I" } : Jvm.MethodName)) ∈ bigW := big_of (List.mem_of_getElem? (i := 789) (by decide +kernel)) (by decide +kernel)
theorem b_791 : (Jvm.Cond.instanceMethod ({ cls := "RecordRightsModel", name := "padAt", desc := "(I)I" } : Jvm.MethodName)) ∈ bigW := big_of (List.mem_of_getElem? (i := 791) (by decide +kernel)) (by decide +kernel)
theorem b_792 : (Jvm.Cond.code ({ cls := "RecordRightsModel", name := "padAt", desc := "(I)I" } : Jvm.MethodName) prog_12_method_12_code (2 : Nat) (Option.some Jvm.ClassFile.FieldType.int)) ∈ bigW := big_of (List.mem_of_getElem? (i := 792) (by decide +kernel)) (by decide +kernel)
theorem b_793 : (Jvm.Cond.methodLink "RecordRightsModel" (96 : Nat) ({ cls := "RecordRightsModel", name := "digitsOf", desc := "(I)I" } : Jvm.MethodName)) ∈ bigW := big_of (List.mem_of_getElem? (i := 793) (by decide +kernel)) (by decide +kernel)
theorem b_794 : (Jvm.Cond.static ({ cls := "RecordRightsModel", name := "digitsOf", desc := "(I)I" } : Jvm.MethodName)) ∈ bigW := big_of (List.mem_of_getElem? (i := 794) (by decide +kernel)) (by decide +kernel)
theorem b_795 : (Jvm.Cond.code ({ cls := "RecordRightsModel", name := "digitsOf", desc := "(I)I" } : Jvm.MethodName) prog_12_method_11_code (1 : Nat) (Option.some Jvm.ClassFile.FieldType.int)) ∈ bigW := big_of (List.mem_of_getElem? (i := 795) (by decide +kernel)) (by decide +kernel)
theorem b_796 : (Jvm.Cond.methodLink "RecordRightsModel" (73 : Nat) ({ cls := "RecordRightsModel", name := "in", desc := "(III)Z" } : Jvm.MethodName)) ∈ bigW := big_of (List.mem_of_getElem? (i := 796) (by decide +kernel)) (by decide +kernel)
theorem b_797 : (Jvm.Cond.static ({ cls := "RecordRightsModel", name := "in", desc := "(III)Z" } : Jvm.MethodName)) ∈ bigW := big_of (List.mem_of_getElem? (i := 797) (by decide +kernel)) (by decide +kernel)
theorem b_798 : (Jvm.Cond.code ({ cls := "RecordRightsModel", name := "in", desc := "(III)Z" } : Jvm.MethodName) prog_12_method_4_code (3 : Nat) (Option.some Jvm.ClassFile.FieldType.boolean)) ∈ bigW := big_of (List.mem_of_getElem? (i := 798) (by decide +kernel)) (by decide +kernel)
theorem b_799 : (Jvm.Cond.methodLink "RecordRightsLaw" (98 : Nat) ({ cls := "RecordRightsModel", name := "drop", desc := "(I)Z" } : Jvm.MethodName)) ∈ bigW := big_of (List.mem_of_getElem? (i := 799) (by decide +kernel)) (by decide +kernel)
theorem b_800 : (Jvm.Cond.instanceMethod ({ cls := "RecordRightsModel", name := "drop", desc := "(I)Z" } : Jvm.MethodName)) ∈ bigW := big_of (List.mem_of_getElem? (i := 800) (by decide +kernel)) (by decide +kernel)
theorem b_801 : (Jvm.Cond.selects "RecordRightsModel" ({ cls := "RecordRightsModel", name := "drop", desc := "(I)Z" } : Jvm.MethodName) ({ cls := "RecordRightsModel", name := "drop", desc := "(I)Z" } : Jvm.MethodName)) ∈ bigW := big_of (List.mem_of_getElem? (i := 801) (by decide +kernel)) (by decide +kernel)
theorem b_802 : (Jvm.Cond.code ({ cls := "RecordRightsModel", name := "drop", desc := "(I)Z" } : Jvm.MethodName) prog_12_method_15_code (3 : Nat) (Option.some Jvm.ClassFile.FieldType.boolean)) ∈ bigW := big_of (List.mem_of_getElem? (i := 802) (by decide +kernel)) (by decide +kernel)
theorem b_803 : (Jvm.Cond.methodLink "RecordRightsLaw" (101 : Nat) ({ cls := "RecordRightsModel", name := "person", desc := "(I)I" } : Jvm.MethodName)) ∈ bigW := big_of (List.mem_of_getElem? (i := 803) (by decide +kernel)) (by decide +kernel)
theorem b_804 : (Jvm.Cond.instanceMethod ({ cls := "RecordRightsModel", name := "person", desc := "(I)I" } : Jvm.MethodName)) ∈ bigW := big_of (List.mem_of_getElem? (i := 804) (by decide +kernel)) (by decide +kernel)
theorem b_805 : (Jvm.Cond.selects "RecordRightsModel" ({ cls := "RecordRightsModel", name := "person", desc := "(I)I" } : Jvm.MethodName) ({ cls := "RecordRightsModel", name := "person", desc := "(I)I" } : Jvm.MethodName)) ∈ bigW := big_of (List.mem_of_getElem? (i := 805) (by decide +kernel)) (by decide +kernel)
theorem b_806 : (Jvm.Cond.code ({ cls := "RecordRightsModel", name := "person", desc := "(I)I" } : Jvm.MethodName) prog_12_method_16_code (2 : Nat) (Option.some Jvm.ClassFile.FieldType.int)) ∈ bigW := big_of (List.mem_of_getElem? (i := 806) (by decide +kernel)) (by decide +kernel)
theorem b_807 : (Jvm.Cond.methodLink "RecordRightsLaw" (105 : Nat) ({ cls := "RecordRightsModel", name := "record", desc := "(II)I" } : Jvm.MethodName)) ∈ bigW := big_of (List.mem_of_getElem? (i := 807) (by decide +kernel)) (by decide +kernel)
theorem b_808 : (Jvm.Cond.instanceMethod ({ cls := "RecordRightsModel", name := "record", desc := "(II)I" } : Jvm.MethodName)) ∈ bigW := big_of (List.mem_of_getElem? (i := 808) (by decide +kernel)) (by decide +kernel)
theorem b_809 : (Jvm.Cond.selects "RecordRightsModel" ({ cls := "RecordRightsModel", name := "record", desc := "(II)I" } : Jvm.MethodName) ({ cls := "RecordRightsModel", name := "record", desc := "(II)I" } : Jvm.MethodName)) ∈ bigW := big_of (List.mem_of_getElem? (i := 809) (by decide +kernel)) (by decide +kernel)
theorem b_810 : (Jvm.Cond.code ({ cls := "RecordRightsModel", name := "record", desc := "(II)I" } : Jvm.MethodName) prog_12_method_17_code (3 : Nat) (Option.some Jvm.ClassFile.FieldType.int)) ∈ bigW := big_of (List.mem_of_getElem? (i := 810) (by decide +kernel)) (by decide +kernel)
theorem b_811 : (Jvm.Cond.methodLink "RecordRightsLaw" (111 : Nat) ({ cls := "RecordRightsModel", name := "value", desc := "(IIJ)J" } : Jvm.MethodName)) ∈ bigW := big_of (List.mem_of_getElem? (i := 811) (by decide +kernel)) (by decide +kernel)
theorem b_812 : (Jvm.Cond.instanceMethod ({ cls := "RecordRightsModel", name := "value", desc := "(IIJ)J" } : Jvm.MethodName)) ∈ bigW := big_of (List.mem_of_getElem? (i := 812) (by decide +kernel)) (by decide +kernel)
theorem b_813 : (Jvm.Cond.selects "RecordRightsModel" ({ cls := "RecordRightsModel", name := "value", desc := "(IIJ)J" } : Jvm.MethodName) ({ cls := "RecordRightsModel", name := "value", desc := "(IIJ)J" } : Jvm.MethodName)) ∈ bigW := big_of (List.mem_of_getElem? (i := 813) (by decide +kernel)) (by decide +kernel)
theorem b_814 : (Jvm.Cond.code ({ cls := "RecordRightsModel", name := "value", desc := "(IIJ)J" } : Jvm.MethodName) prog_12_method_18_code (7 : Nat) (Option.some Jvm.ClassFile.FieldType.long)) ∈ bigW := big_of (List.mem_of_getElem? (i := 814) (by decide +kernel)) (by decide +kernel)
theorem b_815 : (Jvm.Cond.methodLink "RecordRightsModel" (106 : Nat) ({ cls := "RecordRightsModel", name := "isRecord", desc := "(I)Z" } : Jvm.MethodName)) ∈ bigW := big_of (List.mem_of_getElem? (i := 815) (by decide +kernel)) (by decide +kernel)
theorem b_817 : (Jvm.Cond.instanceMethod ({ cls := "RecordRightsModel", name := "isRecord", desc := "(I)Z" } : Jvm.MethodName)) ∈ bigW := big_of (List.mem_of_getElem? (i := 817) (by decide +kernel)) (by decide +kernel)
theorem b_818 : (Jvm.Cond.code ({ cls := "RecordRightsModel", name := "isRecord", desc := "(I)Z" } : Jvm.MethodName) prog_12_method_6_code (2 : Nat) (Option.some Jvm.ClassFile.FieldType.boolean)) ∈ bigW := big_of (List.mem_of_getElem? (i := 818) (by decide +kernel)) (by decide +kernel)
theorem b_819 : (Jvm.Cond.methodLink "RecordRightsModel" (110 : Nat) ({ cls := "RecordRightsModel", name := "isField", desc := "(I)Z" } : Jvm.MethodName)) ∈ bigW := big_of (List.mem_of_getElem? (i := 819) (by decide +kernel)) (by decide +kernel)
theorem b_820 : (Jvm.Cond.static ({ cls := "RecordRightsModel", name := "isField", desc := "(I)Z" } : Jvm.MethodName)) ∈ bigW := big_of (List.mem_of_getElem? (i := 820) (by decide +kernel)) (by decide +kernel)
theorem b_821 : (Jvm.Cond.code ({ cls := "RecordRightsModel", name := "isField", desc := "(I)Z" } : Jvm.MethodName) prog_12_method_7_code (1 : Nat) (Option.some Jvm.ClassFile.FieldType.boolean)) ∈ bigW := big_of (List.mem_of_getElem? (i := 821) (by decide +kernel)) (by decide +kernel)
theorem b_822 : (Jvm.Cond.methodLink "RecordRightsLaw" (114 : Nat) ({ cls := "RecordRightsModel", name := "embargo", desc := "(II)I" } : Jvm.MethodName)) ∈ bigW := big_of (List.mem_of_getElem? (i := 822) (by decide +kernel)) (by decide +kernel)
theorem b_823 : (Jvm.Cond.instanceMethod ({ cls := "RecordRightsModel", name := "embargo", desc := "(II)I" } : Jvm.MethodName)) ∈ bigW := big_of (List.mem_of_getElem? (i := 823) (by decide +kernel)) (by decide +kernel)
theorem b_824 : (Jvm.Cond.selects "RecordRightsModel" ({ cls := "RecordRightsModel", name := "embargo", desc := "(II)I" } : Jvm.MethodName) ({ cls := "RecordRightsModel", name := "embargo", desc := "(II)I" } : Jvm.MethodName)) ∈ bigW := big_of (List.mem_of_getElem? (i := 824) (by decide +kernel)) (by decide +kernel)
theorem b_825 : (Jvm.Cond.code ({ cls := "RecordRightsModel", name := "embargo", desc := "(II)I" } : Jvm.MethodName) prog_12_method_19_code (4 : Nat) (Option.some Jvm.ClassFile.FieldType.int)) ∈ bigW := big_of (List.mem_of_getElem? (i := 825) (by decide +kernel)) (by decide +kernel)
theorem b_826 : (Jvm.Cond.methodLink "RecordRightsModel" (113 : Nat) ({ cls := "RecordRightsModel", name := "isDay", desc := "(I)Z" } : Jvm.MethodName)) ∈ bigW := big_of (List.mem_of_getElem? (i := 826) (by decide +kernel)) (by decide +kernel)
theorem b_827 : (Jvm.Cond.static ({ cls := "RecordRightsModel", name := "isDay", desc := "(I)Z" } : Jvm.MethodName)) ∈ bigW := big_of (List.mem_of_getElem? (i := 827) (by decide +kernel)) (by decide +kernel)
theorem b_828 : (Jvm.Cond.code ({ cls := "RecordRightsModel", name := "isDay", desc := "(I)Z" } : Jvm.MethodName) prog_12_method_8_code (1 : Nat) (Option.some Jvm.ClassFile.FieldType.boolean)) ∈ bigW := big_of (List.mem_of_getElem? (i := 828) (by decide +kernel)) (by decide +kernel)
theorem b_829 : (Jvm.Cond.constant "RecordRightsModel" (80 : Nat) (100000 : Int32)) ∈ bigW := big_of (List.mem_of_getElem? (i := 829) (by decide +kernel)) (by decide +kernel)
theorem b_830 : (Jvm.Cond.methodLink "RecordRightsLaw" (117 : Nat) ({ cls := "RecordRightsModel", name := "agreement", desc := "(IIII)I" } : Jvm.MethodName)) ∈ bigW := big_of (List.mem_of_getElem? (i := 830) (by decide +kernel)) (by decide +kernel)
theorem b_831 : (Jvm.Cond.instanceMethod ({ cls := "RecordRightsModel", name := "agreement", desc := "(IIII)I" } : Jvm.MethodName)) ∈ bigW := big_of (List.mem_of_getElem? (i := 831) (by decide +kernel)) (by decide +kernel)
theorem b_832 : (Jvm.Cond.selects "RecordRightsModel" ({ cls := "RecordRightsModel", name := "agreement", desc := "(IIII)I" } : Jvm.MethodName) ({ cls := "RecordRightsModel", name := "agreement", desc := "(IIII)I" } : Jvm.MethodName)) ∈ bigW := big_of (List.mem_of_getElem? (i := 832) (by decide +kernel)) (by decide +kernel)
theorem b_833 : (Jvm.Cond.code ({ cls := "RecordRightsModel", name := "agreement", desc := "(IIII)I" } : Jvm.MethodName) prog_12_method_20_code (6 : Nat) (Option.some Jvm.ClassFile.FieldType.int)) ∈ bigW := big_of (List.mem_of_getElem? (i := 833) (by decide +kernel)) (by decide +kernel)
theorem b_834 : (Jvm.Cond.methodLink "RecordRightsModel" (116 : Nat) ({ cls := "RecordRightsModel", name := "isPerson", desc := "(I)Z" } : Jvm.MethodName)) ∈ bigW := big_of (List.mem_of_getElem? (i := 834) (by decide +kernel)) (by decide +kernel)
theorem b_836 : (Jvm.Cond.instanceMethod ({ cls := "RecordRightsModel", name := "isPerson", desc := "(I)Z" } : Jvm.MethodName)) ∈ bigW := big_of (List.mem_of_getElem? (i := 836) (by decide +kernel)) (by decide +kernel)
theorem b_837 : (Jvm.Cond.code ({ cls := "RecordRightsModel", name := "isPerson", desc := "(I)Z" } : Jvm.MethodName) prog_12_method_5_code (2 : Nat) (Option.some Jvm.ClassFile.FieldType.boolean)) ∈ bigW := big_of (List.mem_of_getElem? (i := 837) (by decide +kernel)) (by decide +kernel)
theorem b_838 : (Jvm.Cond.methodLink "RecordRightsLaw" (121 : Nat) ({ cls := "RecordRightsModel", name := "asks", desc := "(IIIII)I" } : Jvm.MethodName)) ∈ bigW := big_of (List.mem_of_getElem? (i := 838) (by decide +kernel)) (by decide +kernel)
theorem b_839 : (Jvm.Cond.instanceMethod ({ cls := "RecordRightsModel", name := "asks", desc := "(IIIII)I" } : Jvm.MethodName)) ∈ bigW := big_of (List.mem_of_getElem? (i := 839) (by decide +kernel)) (by decide +kernel)
theorem b_840 : (Jvm.Cond.selects "RecordRightsModel" ({ cls := "RecordRightsModel", name := "asks", desc := "(IIIII)I" } : Jvm.MethodName) ({ cls := "RecordRightsModel", name := "asks", desc := "(IIIII)I" } : Jvm.MethodName)) ∈ bigW := big_of (List.mem_of_getElem? (i := 840) (by decide +kernel)) (by decide +kernel)
theorem b_841 : (Jvm.Cond.code ({ cls := "RecordRightsModel", name := "asks", desc := "(IIIII)I" } : Jvm.MethodName) prog_12_method_26_code (8 : Nat) (Option.some Jvm.ClassFile.FieldType.int)) ∈ bigW := big_of (List.mem_of_getElem? (i := 841) (by decide +kernel)) (by decide +kernel)
theorem b_842 : (Jvm.Cond.methodLink "RecordRightsModel" (147 : Nat) ({ cls := "RecordRightsModel", name := "put", desc := "(IIIII)V" } : Jvm.MethodName)) ∈ bigW := big_of (List.mem_of_getElem? (i := 842) (by decide +kernel)) (by decide +kernel)
theorem b_844 : (Jvm.Cond.instanceMethod ({ cls := "RecordRightsModel", name := "put", desc := "(IIIII)V" } : Jvm.MethodName)) ∈ bigW := big_of (List.mem_of_getElem? (i := 844) (by decide +kernel)) (by decide +kernel)
theorem b_845 : (Jvm.Cond.code ({ cls := "RecordRightsModel", name := "put", desc := "(IIIII)V" } : Jvm.MethodName) prog_12_method_25_code (6 : Nat) (Option.none : Option Jvm.ClassFile.FieldType)) ∈ bigW := big_of (List.mem_of_getElem? (i := 845) (by decide +kernel)) (by decide +kernel)
theorem b_846 : (Jvm.Cond.methodLink "RecordRightsModel" (151 : Nat) ({ cls := "RecordRightsModel", name := "got", desc := "(I)I" } : Jvm.MethodName)) ∈ bigW := big_of (List.mem_of_getElem? (i := 846) (by decide +kernel)) (by decide +kernel)
theorem b_848 : (Jvm.Cond.instanceMethod ({ cls := "RecordRightsModel", name := "got", desc := "(I)I" } : Jvm.MethodName)) ∈ bigW := big_of (List.mem_of_getElem? (i := 848) (by decide +kernel)) (by decide +kernel)
theorem b_849 : (Jvm.Cond.code ({ cls := "RecordRightsModel", name := "got", desc := "(I)I" } : Jvm.MethodName) prog_12_method_24_code (6 : Nat) (Option.some Jvm.ClassFile.FieldType.int)) ∈ bigW := big_of (List.mem_of_getElem? (i := 849) (by decide +kernel)) (by decide +kernel)
theorem b_850 : (Jvm.Cond.methodLink "RecordRightsModel" (144 : Nat) ({ cls := "RecordRightsModel", name := "suits", desc := "(I)Z" } : Jvm.MethodName)) ∈ bigW := big_of (List.mem_of_getElem? (i := 850) (by decide +kernel)) (by decide +kernel)
theorem b_852 : (Jvm.Cond.instanceMethod ({ cls := "RecordRightsModel", name := "suits", desc := "(I)Z" } : Jvm.MethodName)) ∈ bigW := big_of (List.mem_of_getElem? (i := 852) (by decide +kernel)) (by decide +kernel)
theorem b_853 : (Jvm.Cond.code ({ cls := "RecordRightsModel", name := "suits", desc := "(I)Z" } : Jvm.MethodName) prog_12_method_23_code (8 : Nat) (Option.some Jvm.ClassFile.FieldType.boolean)) ∈ bigW := big_of (List.mem_of_getElem? (i := 853) (by decide +kernel)) (by decide +kernel)
theorem b_854 : (Jvm.Cond.methodLink "RecordRightsModel" (140 : Nat) ({ cls := "RecordRightsModel", name := "holds", desc := "(II)Z" } : Jvm.MethodName)) ∈ bigW := big_of (List.mem_of_getElem? (i := 854) (by decide +kernel)) (by decide +kernel)
theorem b_856 : (Jvm.Cond.instanceMethod ({ cls := "RecordRightsModel", name := "holds", desc := "(II)Z" } : Jvm.MethodName)) ∈ bigW := big_of (List.mem_of_getElem? (i := 856) (by decide +kernel)) (by decide +kernel)
theorem b_857 : (Jvm.Cond.code ({ cls := "RecordRightsModel", name := "holds", desc := "(II)Z" } : Jvm.MethodName) prog_12_method_22_code (3 : Nat) (Option.some Jvm.ClassFile.FieldType.boolean)) ∈ bigW := big_of (List.mem_of_getElem? (i := 857) (by decide +kernel)) (by decide +kernel)
theorem b_858 : (Jvm.Cond.methodLink "RecordRightsModel" (137 : Nat) ({ cls := "RecordRightsModel", name := "hasAgreement", desc := "(III)Z" } : Jvm.MethodName)) ∈ bigW := big_of (List.mem_of_getElem? (i := 858) (by decide +kernel)) (by decide +kernel)
theorem b_860 : (Jvm.Cond.instanceMethod ({ cls := "RecordRightsModel", name := "hasAgreement", desc := "(III)Z" } : Jvm.MethodName)) ∈ bigW := big_of (List.mem_of_getElem? (i := 860) (by decide +kernel)) (by decide +kernel)
theorem b_861 : (Jvm.Cond.code ({ cls := "RecordRightsModel", name := "hasAgreement", desc := "(III)Z" } : Jvm.MethodName) prog_12_method_21_code (6 : Nat) (Option.some Jvm.ClassFile.FieldType.boolean)) ∈ bigW := big_of (List.mem_of_getElem? (i := 861) (by decide +kernel)) (by decide +kernel)
theorem b_862 : (Jvm.Cond.methodLink "RecordRightsLaw" (124 : Nat) ({ cls := "RecordRightsModel", name := "masked", desc := "(II)J" } : Jvm.MethodName)) ∈ bigW := big_of (List.mem_of_getElem? (i := 862) (by decide +kernel)) (by decide +kernel)
theorem b_863 : (Jvm.Cond.instanceMethod ({ cls := "RecordRightsModel", name := "masked", desc := "(II)J" } : Jvm.MethodName)) ∈ bigW := big_of (List.mem_of_getElem? (i := 863) (by decide +kernel)) (by decide +kernel)
theorem b_864 : (Jvm.Cond.selects "RecordRightsModel" ({ cls := "RecordRightsModel", name := "masked", desc := "(II)J" } : Jvm.MethodName) ({ cls := "RecordRightsModel", name := "masked", desc := "(II)J" } : Jvm.MethodName)) ∈ bigW := big_of (List.mem_of_getElem? (i := 864) (by decide +kernel)) (by decide +kernel)
theorem b_865 : (Jvm.Cond.code ({ cls := "RecordRightsModel", name := "masked", desc := "(II)J" } : Jvm.MethodName) prog_12_method_27_code (3 : Nat) (Option.some Jvm.ClassFile.FieldType.long)) ∈ bigW := big_of (List.mem_of_getElem? (i := 865) (by decide +kernel)) (by decide +kernel)
theorem b_866 : (Jvm.Cond.constantLong "RecordRightsModel" (157 : Nat) (1000 : Int64)) ∈ bigW := big_of (List.mem_of_getElem? (i := 866) (by decide +kernel)) (by decide +kernel)
theorem b_867 : (Jvm.Cond.methodLink "RecordRightsLaw" (127 : Nat) ({ cls := "RecordRightsModel", name := "look", desc := "(II)I" } : Jvm.MethodName)) ∈ bigW := big_of (List.mem_of_getElem? (i := 867) (by decide +kernel)) (by decide +kernel)
theorem b_868 : (Jvm.Cond.instanceMethod ({ cls := "RecordRightsModel", name := "look", desc := "(II)I" } : Jvm.MethodName)) ∈ bigW := big_of (List.mem_of_getElem? (i := 868) (by decide +kernel)) (by decide +kernel)
theorem b_869 : (Jvm.Cond.selects "RecordRightsModel" ({ cls := "RecordRightsModel", name := "look", desc := "(II)I" } : Jvm.MethodName) ({ cls := "RecordRightsModel", name := "look", desc := "(II)I" } : Jvm.MethodName)) ∈ bigW := big_of (List.mem_of_getElem? (i := 869) (by decide +kernel)) (by decide +kernel)
theorem b_870 : (Jvm.Cond.code ({ cls := "RecordRightsModel", name := "look", desc := "(II)I" } : Jvm.MethodName) prog_12_method_28_code (3 : Nat) (Option.some Jvm.ClassFile.FieldType.int)) ∈ bigW := big_of (List.mem_of_getElem? (i := 870) (by decide +kernel)) (by decide +kernel)
theorem b_871 : (Jvm.Cond.methodLink "RecordRightsLaw" (130 : Nat) ({ cls := "RecordRightsModel", name := "looked", desc := "(II)I" } : Jvm.MethodName)) ∈ bigW := big_of (List.mem_of_getElem? (i := 871) (by decide +kernel)) (by decide +kernel)
theorem b_872 : (Jvm.Cond.instanceMethod ({ cls := "RecordRightsModel", name := "looked", desc := "(II)I" } : Jvm.MethodName)) ∈ bigW := big_of (List.mem_of_getElem? (i := 872) (by decide +kernel)) (by decide +kernel)
theorem b_873 : (Jvm.Cond.selects "RecordRightsModel" ({ cls := "RecordRightsModel", name := "looked", desc := "(II)I" } : Jvm.MethodName) ({ cls := "RecordRightsModel", name := "looked", desc := "(II)I" } : Jvm.MethodName)) ∈ bigW := big_of (List.mem_of_getElem? (i := 873) (by decide +kernel)) (by decide +kernel)
theorem b_874 : (Jvm.Cond.code ({ cls := "RecordRightsModel", name := "looked", desc := "(II)I" } : Jvm.MethodName) prog_12_method_29_code (7 : Nat) (Option.some Jvm.ClassFile.FieldType.int)) ∈ bigW := big_of (List.mem_of_getElem? (i := 874) (by decide +kernel)) (by decide +kernel)
theorem b_875 : (Jvm.Cond.methodLink "RecordRightsLaw" (133 : Nat) ({ cls := "RecordRightsModel", name := "export", desc := "(II)I" } : Jvm.MethodName)) ∈ bigW := big_of (List.mem_of_getElem? (i := 875) (by decide +kernel)) (by decide +kernel)
theorem b_876 : (Jvm.Cond.instanceMethod ({ cls := "RecordRightsModel", name := "export", desc := "(II)I" } : Jvm.MethodName)) ∈ bigW := big_of (List.mem_of_getElem? (i := 876) (by decide +kernel)) (by decide +kernel)
theorem b_877 : (Jvm.Cond.selects "RecordRightsModel" ({ cls := "RecordRightsModel", name := "export", desc := "(II)I" } : Jvm.MethodName) ({ cls := "RecordRightsModel", name := "export", desc := "(II)I" } : Jvm.MethodName)) ∈ bigW := big_of (List.mem_of_getElem? (i := 877) (by decide +kernel)) (by decide +kernel)
theorem b_878 : (Jvm.Cond.code ({ cls := "RecordRightsModel", name := "export", desc := "(II)I" } : Jvm.MethodName) prog_12_method_31_code (4 : Nat) (Option.some Jvm.ClassFile.FieldType.int)) ∈ bigW := big_of (List.mem_of_getElem? (i := 878) (by decide +kernel)) (by decide +kernel)
theorem b_879 : (Jvm.Cond.methodLink "RecordRightsModel" (162 : Nat) ({ cls := "RecordRightsModel", name := "isWhole", desc := "(III)Z" } : Jvm.MethodName)) ∈ bigW := big_of (List.mem_of_getElem? (i := 879) (by decide +kernel)) (by decide +kernel)
theorem b_881 : (Jvm.Cond.instanceMethod ({ cls := "RecordRightsModel", name := "isWhole", desc := "(III)Z" } : Jvm.MethodName)) ∈ bigW := big_of (List.mem_of_getElem? (i := 881) (by decide +kernel)) (by decide +kernel)
theorem b_882 : (Jvm.Cond.code ({ cls := "RecordRightsModel", name := "isWhole", desc := "(III)Z" } : Jvm.MethodName) prog_12_method_30_code (6 : Nat) (Option.some Jvm.ClassFile.FieldType.boolean)) ∈ bigW := big_of (List.mem_of_getElem? (i := 882) (by decide +kernel)) (by decide +kernel)
theorem b_883 : (Jvm.Cond.methodLink "RecordRightsLaw" (136 : Nat) ({ cls := "RecordRightsModel", name := "exported", desc := "(I)I" } : Jvm.MethodName)) ∈ bigW := big_of (List.mem_of_getElem? (i := 883) (by decide +kernel)) (by decide +kernel)
theorem b_884 : (Jvm.Cond.instanceMethod ({ cls := "RecordRightsModel", name := "exported", desc := "(I)I" } : Jvm.MethodName)) ∈ bigW := big_of (List.mem_of_getElem? (i := 884) (by decide +kernel)) (by decide +kernel)
theorem b_885 : (Jvm.Cond.selects "RecordRightsModel" ({ cls := "RecordRightsModel", name := "exported", desc := "(I)I" } : Jvm.MethodName) ({ cls := "RecordRightsModel", name := "exported", desc := "(I)I" } : Jvm.MethodName)) ∈ bigW := big_of (List.mem_of_getElem? (i := 885) (by decide +kernel)) (by decide +kernel)
theorem b_886 : (Jvm.Cond.code ({ cls := "RecordRightsModel", name := "exported", desc := "(I)I" } : Jvm.MethodName) prog_12_method_32_code (2 : Nat) (Option.some Jvm.ClassFile.FieldType.int)) ∈ bigW := big_of (List.mem_of_getElem? (i := 886) (by decide +kernel)) (by decide +kernel)
theorem b_887 : (Jvm.Cond.methodLink "RecordRightsLaw" (140 : Nat) ({ cls := "RecordRightsModel", name := "request", desc := "(III)I" } : Jvm.MethodName)) ∈ bigW := big_of (List.mem_of_getElem? (i := 887) (by decide +kernel)) (by decide +kernel)
theorem b_888 : (Jvm.Cond.instanceMethod ({ cls := "RecordRightsModel", name := "request", desc := "(III)I" } : Jvm.MethodName)) ∈ bigW := big_of (List.mem_of_getElem? (i := 888) (by decide +kernel)) (by decide +kernel)
theorem b_889 : (Jvm.Cond.selects "RecordRightsModel" ({ cls := "RecordRightsModel", name := "request", desc := "(III)I" } : Jvm.MethodName) ({ cls := "RecordRightsModel", name := "request", desc := "(III)I" } : Jvm.MethodName)) ∈ bigW := big_of (List.mem_of_getElem? (i := 889) (by decide +kernel)) (by decide +kernel)
theorem b_890 : (Jvm.Cond.code ({ cls := "RecordRightsModel", name := "request", desc := "(III)I" } : Jvm.MethodName) prog_12_method_33_code (6 : Nat) (Option.some Jvm.ClassFile.FieldType.int)) ∈ bigW := big_of (List.mem_of_getElem? (i := 890) (by decide +kernel)) (by decide +kernel)
theorem b_891 : (Jvm.Cond.methodLink "RecordRightsLaw" (143 : Nat) ({ cls := "RecordRightsModel", name := "limit", desc := "(II)I" } : Jvm.MethodName)) ∈ bigW := big_of (List.mem_of_getElem? (i := 891) (by decide +kernel)) (by decide +kernel)
theorem b_892 : (Jvm.Cond.instanceMethod ({ cls := "RecordRightsModel", name := "limit", desc := "(II)I" } : Jvm.MethodName)) ∈ bigW := big_of (List.mem_of_getElem? (i := 892) (by decide +kernel)) (by decide +kernel)
theorem b_893 : (Jvm.Cond.selects "RecordRightsModel" ({ cls := "RecordRightsModel", name := "limit", desc := "(II)I" } : Jvm.MethodName) ({ cls := "RecordRightsModel", name := "limit", desc := "(II)I" } : Jvm.MethodName)) ∈ bigW := big_of (List.mem_of_getElem? (i := 893) (by decide +kernel)) (by decide +kernel)
theorem b_894 : (Jvm.Cond.code ({ cls := "RecordRightsModel", name := "limit", desc := "(II)I" } : Jvm.MethodName) prog_12_method_34_code (4 : Nat) (Option.some Jvm.ClassFile.FieldType.int)) ∈ bigW := big_of (List.mem_of_getElem? (i := 894) (by decide +kernel)) (by decide +kernel)
theorem b_895 : (Jvm.Cond.methodLink "RecordRightsLaw" (146 : Nat) ({ cls := "RecordRightsModel", name := "idle", desc := "(I)I" } : Jvm.MethodName)) ∈ bigW := big_of (List.mem_of_getElem? (i := 895) (by decide +kernel)) (by decide +kernel)
theorem b_896 : (Jvm.Cond.instanceMethod ({ cls := "RecordRightsModel", name := "idle", desc := "(I)I" } : Jvm.MethodName)) ∈ bigW := big_of (List.mem_of_getElem? (i := 896) (by decide +kernel)) (by decide +kernel)
theorem b_897 : (Jvm.Cond.selects "RecordRightsModel" ({ cls := "RecordRightsModel", name := "idle", desc := "(I)I" } : Jvm.MethodName) ({ cls := "RecordRightsModel", name := "idle", desc := "(I)I" } : Jvm.MethodName)) ∈ bigW := big_of (List.mem_of_getElem? (i := 897) (by decide +kernel)) (by decide +kernel)
theorem b_898 : (Jvm.Cond.code ({ cls := "RecordRightsModel", name := "idle", desc := "(I)I" } : Jvm.MethodName) prog_12_method_36_code (5 : Nat) (Option.some Jvm.ClassFile.FieldType.int)) ∈ bigW := big_of (List.mem_of_getElem? (i := 898) (by decide +kernel)) (by decide +kernel)
theorem b_899 : (Jvm.Cond.methodLink "RecordRightsModel" (168 : Nat) ({ cls := "RecordRightsModel", name := "changes", desc := "(IIII)Z" } : Jvm.MethodName)) ∈ bigW := big_of (List.mem_of_getElem? (i := 899) (by decide +kernel)) (by decide +kernel)
theorem b_901 : (Jvm.Cond.instanceMethod ({ cls := "RecordRightsModel", name := "changes", desc := "(IIII)Z" } : Jvm.MethodName)) ∈ bigW := big_of (List.mem_of_getElem? (i := 901) (by decide +kernel)) (by decide +kernel)
theorem b_902 : (Jvm.Cond.code ({ cls := "RecordRightsModel", name := "changes", desc := "(IIII)Z" } : Jvm.MethodName) prog_12_method_35_code (7 : Nat) (Option.some Jvm.ClassFile.FieldType.boolean)) ∈ bigW := big_of (List.mem_of_getElem? (i := 902) (by decide +kernel)) (by decide +kernel)
theorem b_903 : (Jvm.Cond.methodLink "RecordRightsLaw" (149 : Nat) ({ cls := "RecordRightsModel", name := "count", desc := "(I)I" } : Jvm.MethodName)) ∈ bigW := big_of (List.mem_of_getElem? (i := 903) (by decide +kernel)) (by decide +kernel)
theorem b_904 : (Jvm.Cond.instanceMethod ({ cls := "RecordRightsModel", name := "count", desc := "(I)I" } : Jvm.MethodName)) ∈ bigW := big_of (List.mem_of_getElem? (i := 904) (by decide +kernel)) (by decide +kernel)
theorem b_905 : (Jvm.Cond.selects "RecordRightsModel" ({ cls := "RecordRightsModel", name := "count", desc := "(I)I" } : Jvm.MethodName) ({ cls := "RecordRightsModel", name := "count", desc := "(I)I" } : Jvm.MethodName)) ∈ bigW := big_of (List.mem_of_getElem? (i := 905) (by decide +kernel)) (by decide +kernel)
theorem b_906 : (Jvm.Cond.code ({ cls := "RecordRightsModel", name := "count", desc := "(I)I" } : Jvm.MethodName) prog_12_method_37_code (4 : Nat) (Option.some Jvm.ClassFile.FieldType.int)) ∈ bigW := big_of (List.mem_of_getElem? (i := 906) (by decide +kernel)) (by decide +kernel)
theorem b_907 : (Jvm.Cond.constantLong "RecordRightsLaw" (106 : Nat) (4294967295 : Int64)) ∈ bigW := big_of (List.mem_of_getElem? (i := 907) (by decide +kernel)) (by decide +kernel)
theorem bs_0 : Cond.selects "java/lang/Throwable" ⟨"java/lang/Throwable", "fillInStackTrace", "(I)Ljava/lang/Throwable;"⟩ ⟨"java/lang/Throwable", "fillInStackTrace", "(I)Ljava/lang/Throwable;"⟩ ∈ bigW := List.mem_filter.mpr ⟨List.mem_append_left _ (List.mem_of_getElem? (i := 0) (by decide +kernel)), by decide +kernel⟩
theorem bs_1 : Cond.selects "RecordRights$RuleReader" ⟨"RecordRights$RuleReader", "takes", "(I)Z"⟩ ⟨"RecordRights$RuleReader", "takes", "(I)Z"⟩ ∈ bigW := List.mem_filter.mpr ⟨List.mem_append_left _ (List.mem_of_getElem? (i := 1) (by decide +kernel)), by decide +kernel⟩
theorem bs_2 : Cond.selects "RecordRights$RuleReader" ⟨"RecordRights$RuleReader", "takesAnswer", "(I)Z"⟩ ⟨"RecordRights$RuleReader", "takesAnswer", "(I)Z"⟩ ∈ bigW := List.mem_filter.mpr ⟨List.mem_append_left _ (List.mem_of_getElem? (i := 2) (by decide +kernel)), by decide +kernel⟩
theorem bs_3 : Cond.selects "RecordRights$RuleReader" ⟨"RecordRights$RuleReader", "takesLetter", "(I)Z"⟩ ⟨"RecordRights$RuleReader", "takesLetter", "(I)Z"⟩ ∈ bigW := List.mem_filter.mpr ⟨List.mem_append_left _ (List.mem_of_getElem? (i := 3) (by decide +kernel)), by decide +kernel⟩
theorem bs_4 : Cond.selects "RecordRights$RuleReader" ⟨"RecordRights$RuleReader", "awaitsDigit", "(II)Z"⟩ ⟨"RecordRights$RuleReader", "awaitsDigit", "(II)Z"⟩ ∈ bigW := List.mem_filter.mpr ⟨List.mem_append_left _ (List.mem_of_getElem? (i := 4) (by decide +kernel)), by decide +kernel⟩
theorem bs_5 : Cond.selects "RecordRights$RuleReader" ⟨"RecordRights$RuleReader", "addCondition", "(I)V"⟩ ⟨"RecordRights$RuleReader", "addCondition", "(I)V"⟩ ∈ bigW := List.mem_filter.mpr ⟨List.mem_append_left _ (List.mem_of_getElem? (i := 5) (by decide +kernel)), by decide +kernel⟩
theorem bs_6 : Cond.selects "RecordRights$RuleReader" ⟨"RecordRights$RuleReader", "takesDigit", "(I)Z"⟩ ⟨"RecordRights$RuleReader", "takesDigit", "(I)Z"⟩ ∈ bigW := List.mem_filter.mpr ⟨List.mem_append_left _ (List.mem_of_getElem? (i := 6) (by decide +kernel)), by decide +kernel⟩
theorem bs_7 : Cond.selects "RecordRights" ⟨"RecordRights", "requireRecord", "(I)V"⟩ ⟨"RecordRights", "requireRecord", "(I)V"⟩ ∈ bigW := List.mem_filter.mpr ⟨List.mem_append_left _ (List.mem_of_getElem? (i := 7) (by decide +kernel)), by decide +kernel⟩
theorem bs_8 : Cond.selects "RecordRights" ⟨"RecordRights", "requirePerson", "(I)V"⟩ ⟨"RecordRights", "requirePerson", "(I)V"⟩ ∈ bigW := List.mem_filter.mpr ⟨List.mem_append_left _ (List.mem_of_getElem? (i := 8) (by decide +kernel)), by decide +kernel⟩
theorem bs_9 : Cond.selects "RecordRights" ⟨"RecordRights", "openRules", "(III)I"⟩ ⟨"RecordRights", "openRules", "(III)I"⟩ ∈ bigW := List.mem_filter.mpr ⟨List.mem_append_left _ (List.mem_of_getElem? (i := 9) (by decide +kernel)), by decide +kernel⟩
theorem bs_10 : Cond.selects "RecordRights" ⟨"RecordRights", "rulesForField", "(II)I"⟩ ⟨"RecordRights", "rulesForField", "(II)I"⟩ ∈ bigW := List.mem_filter.mpr ⟨List.mem_append_left _ (List.mem_of_getElem? (i := 10) (by decide +kernel)), by decide +kernel⟩
theorem bs_11 : Cond.selects "RecordRights" ⟨"RecordRights", "isExportable", "(I)Z"⟩ ⟨"RecordRights", "isExportable", "(I)Z"⟩ ∈ bigW := List.mem_filter.mpr ⟨List.mem_append_left _ (List.mem_of_getElem? (i := 11) (by decide +kernel)), by decide +kernel⟩
theorem bs_12 : Cond.selects "RecordRights" ⟨"RecordRights", "fillFieldRules", "()V"⟩ ⟨"RecordRights", "fillFieldRules", "()V"⟩ ∈ bigW := List.mem_filter.mpr ⟨List.mem_append_left _ (List.mem_of_getElem? (i := 12) (by decide +kernel)), by decide +kernel⟩
theorem bs_13 : Cond.selects "RecordRights" ⟨"RecordRights", "neededRules", "(I)I"⟩ ⟨"RecordRights", "neededRules", "(I)I"⟩ ∈ bigW := List.mem_filter.mpr ⟨List.mem_append_left _ (List.mem_of_getElem? (i := 13) (by decide +kernel)), by decide +kernel⟩
theorem bs_14 : Cond.selects "RecordRights$RuleBook" ⟨"RecordRights$RuleBook", "lastOf", "(I)I"⟩ ⟨"RecordRights$RuleBook", "lastOf", "(I)I"⟩ ∈ bigW := List.mem_filter.mpr ⟨List.mem_append_left _ (List.mem_of_getElem? (i := 14) (by decide +kernel)), by decide +kernel⟩
theorem bs_15 : Cond.selects "RecordRightsModel" ⟨"RecordRightsModel", "throwing", "(ZZZ)Z"⟩ ⟨"RecordRightsModel", "throwing", "(ZZZ)Z"⟩ ∈ bigW := List.mem_filter.mpr ⟨List.mem_append_left _ (List.mem_of_getElem? (i := 15) (by decide +kernel)), by decide +kernel⟩
theorem bs_16 : Cond.selects "RecordRightsModel" ⟨"RecordRightsModel", "wrongAt", "()I"⟩ ⟨"RecordRightsModel", "wrongAt", "()I"⟩ ∈ bigW := List.mem_filter.mpr ⟨List.mem_append_left _ (List.mem_of_getElem? (i := 16) (by decide +kernel)), by decide +kernel⟩
theorem bs_17 : Cond.selects "RecordRightsModel" ⟨"RecordRightsModel", "padAt", "(I)I"⟩ ⟨"RecordRightsModel", "padAt", "(I)I"⟩ ∈ bigW := List.mem_filter.mpr ⟨List.mem_append_left _ (List.mem_of_getElem? (i := 17) (by decide +kernel)), by decide +kernel⟩
theorem bs_18 : Cond.selects "RecordRightsModel" ⟨"RecordRightsModel", "isRecord", "(I)Z"⟩ ⟨"RecordRightsModel", "isRecord", "(I)Z"⟩ ∈ bigW := List.mem_filter.mpr ⟨List.mem_append_left _ (List.mem_of_getElem? (i := 18) (by decide +kernel)), by decide +kernel⟩
theorem bs_19 : Cond.selects "RecordRightsModel" ⟨"RecordRightsModel", "isPerson", "(I)Z"⟩ ⟨"RecordRightsModel", "isPerson", "(I)Z"⟩ ∈ bigW := List.mem_filter.mpr ⟨List.mem_append_left _ (List.mem_of_getElem? (i := 19) (by decide +kernel)), by decide +kernel⟩
theorem bs_20 : Cond.selects "RecordRightsModel" ⟨"RecordRightsModel", "put", "(IIIII)V"⟩ ⟨"RecordRightsModel", "put", "(IIIII)V"⟩ ∈ bigW := List.mem_filter.mpr ⟨List.mem_append_left _ (List.mem_of_getElem? (i := 20) (by decide +kernel)), by decide +kernel⟩
theorem bs_21 : Cond.selects "RecordRightsModel" ⟨"RecordRightsModel", "got", "(I)I"⟩ ⟨"RecordRightsModel", "got", "(I)I"⟩ ∈ bigW := List.mem_filter.mpr ⟨List.mem_append_left _ (List.mem_of_getElem? (i := 21) (by decide +kernel)), by decide +kernel⟩
theorem bs_22 : Cond.selects "RecordRightsModel" ⟨"RecordRightsModel", "suits", "(I)Z"⟩ ⟨"RecordRightsModel", "suits", "(I)Z"⟩ ∈ bigW := List.mem_filter.mpr ⟨List.mem_append_left _ (List.mem_of_getElem? (i := 22) (by decide +kernel)), by decide +kernel⟩
theorem bs_23 : Cond.selects "RecordRightsModel" ⟨"RecordRightsModel", "holds", "(II)Z"⟩ ⟨"RecordRightsModel", "holds", "(II)Z"⟩ ∈ bigW := List.mem_filter.mpr ⟨List.mem_append_left _ (List.mem_of_getElem? (i := 23) (by decide +kernel)), by decide +kernel⟩
theorem bs_24 : Cond.selects "RecordRightsModel" ⟨"RecordRightsModel", "hasAgreement", "(III)Z"⟩ ⟨"RecordRightsModel", "hasAgreement", "(III)Z"⟩ ∈ bigW := List.mem_filter.mpr ⟨List.mem_append_left _ (List.mem_of_getElem? (i := 24) (by decide +kernel)), by decide +kernel⟩
theorem bs_25 : Cond.selects "RecordRightsModel" ⟨"RecordRightsModel", "isWhole", "(III)Z"⟩ ⟨"RecordRightsModel", "isWhole", "(III)Z"⟩ ∈ bigW := List.mem_filter.mpr ⟨List.mem_append_left _ (List.mem_of_getElem? (i := 25) (by decide +kernel)), by decide +kernel⟩
theorem bs_26 : Cond.selects "RecordRightsModel" ⟨"RecordRightsModel", "changes", "(IIII)Z"⟩ ⟨"RecordRightsModel", "changes", "(IIII)Z"⟩ ∈ bigW := List.mem_filter.mpr ⟨List.mem_append_left _ (List.mem_of_getElem? (i := 26) (by decide +kernel)), by decide +kernel⟩
theorem in_AG : ∀ w ∈ u_ws R_AG T_AG 5, w ∈ bigW := by
  intro w h
  obtain ⟨k, hk, e⟩ := List.mem_map.mp h
  have hk := List.mem_range.mp hk
  subst e
  match k, hk with
  | 0, _ => exact b_164
  | 1, _ => exact b_166
  | 2, _ => exact b_168
  | 3, _ => exact b_170
  | 4, _ => exact b_172
  | k + 5, hk => exact absurd hk (by omega)
theorem in_EX : ∀ w ∈ u_ws R_EX T_EX 2, w ∈ bigW := by
  intro w h
  obtain ⟨k, hk, e⟩ := List.mem_map.mp h
  have hk := List.mem_range.mp hk
  subst e
  match k, hk with
  | 0, _ => exact b_219
  | 1, _ => exact b_221
  | k + 2, hk => exact absurd hk (by omega)
theorem in_HO : ∀ w ∈ u_ws R_HO T_HO 4, w ∈ bigW := by
  intro w h
  obtain ⟨k, hk, e⟩ := List.mem_map.mp h
  have hk := List.mem_range.mp hk
  subst e
  match k, hk with
  | 0, _ => exact b_142
  | 1, _ => exact b_144
  | 2, _ => exact b_146
  | 3, _ => exact b_148
  | k + 4, hk => exact absurd hk (by omega)
theorem in_LO : ∀ w ∈ u_ws R_LO T_LO 3, w ∈ bigW := by
  intro w h
  obtain ⟨k, hk, e⟩ := List.mem_map.mp h
  have hk := List.mem_range.mp hk
  subst e
  match k, hk with
  | 0, _ => exact b_185
  | 1, _ => exact b_187
  | 2, _ => exact b_189
  | k + 3, hk => exact absurd hk (by omega)
theorem in_PA : ∀ w ∈ u_ws R_PA T_PA 2, w ∈ bigW := by
  intro w h
  obtain ⟨k, hk, e⟩ := List.mem_map.mp h
  have hk := List.mem_range.mp hk
  subst e
  match k, hk with
  | 0, _ => exact b_38
  | 1, _ => exact b_40
  | k + 2, hk => exact absurd hk (by omega)
theorem in_PE : ∀ w ∈ u_ws R_PE T_PE 3, w ∈ bigW := by
  intro w h
  obtain ⟨k, hk, e⟩ := List.mem_map.mp h
  have hk := List.mem_range.mp hk
  subst e
  match k, hk with
  | 0, _ => exact b_122
  | 1, _ => exact b_124
  | 2, _ => exact b_126
  | k + 3, hk => exact absurd hk (by omega)
theorem in_RQ : ∀ w ∈ u_ws R_RQ T_RQ 3, w ∈ bigW := by
  intro w h
  obtain ⟨k, hk, e⟩ := List.mem_map.mp h
  have hk := List.mem_range.mp hk
  subst e
  match k, hk with
  | 0, _ => exact b_202
  | 1, _ => exact b_204
  | 2, _ => exact b_206
  | k + 3, hk => exact absurd hk (by omega)
theorem in_RB : ∀ w ∈ u_ws R_RB T_RB 7, w ∈ bigW := by
  intro w h
  obtain ⟨k, hk, e⟩ := List.mem_map.mp h
  have hk := List.mem_range.mp hk
  subst e
  match k, hk with
  | 0, _ => exact b_94
  | 1, _ => exact b_96
  | 2, _ => exact b_98
  | 3, _ => exact b_100
  | 4, _ => exact b_102
  | 5, _ => exact b_104
  | 6, _ => exact b_106
  | k + 7, hk => exact absurd hk (by omega)
theorem in_RD : ∀ w ∈ u_ws R_RD T_RD 8, w ∈ bigW := by
  intro w h
  obtain ⟨k, hk, e⟩ := List.mem_map.mp h
  have hk := List.mem_range.mp hk
  subst e
  match k, hk with
  | 0, _ => exact b_62
  | 1, _ => exact b_64
  | 2, _ => exact b_66
  | 3, _ => exact b_68
  | 4, _ => exact b_70
  | 5, _ => exact b_72
  | 6, _ => exact b_74
  | 7, _ => exact b_76
  | k + 8, hk => exact absurd hk (by omega)
theorem in_RR : ∀ w ∈ u_ws R_RR T_RR 10, w ∈ bigW := by
  intro w h
  obtain ⟨k, hk, e⟩ := List.mem_map.mp h
  have hk := List.mem_range.mp hk
  subst e
  match k, hk with
  | 0, _ => exact b_234
  | 1, _ => exact b_236
  | 2, _ => exact b_238
  | 3, _ => exact b_240
  | 4, _ => exact b_242
  | 5, _ => exact b_244
  | 6, _ => exact b_246
  | 7, _ => exact b_248
  | 8, _ => exact b_250
  | 9, _ => exact b_252
  | k + 10, hk => exact absurd hk (by omega)
theorem in_MD : ∀ w ∈ u_ws R_MD T_MD 32, w ∈ bigW := by
  intro w h
  obtain ⟨k, hk, e⟩ := List.mem_map.mp h
  have hk := List.mem_range.mp hk
  subst e
  match k, hk with
  | 0, _ => exact b_700
  | 1, _ => exact b_702
  | 2, _ => exact b_704
  | 3, _ => exact b_706
  | 4, _ => exact b_708
  | 5, _ => exact b_710
  | 6, _ => exact b_712
  | 7, _ => exact b_714
  | 8, _ => exact b_716
  | 9, _ => exact b_718
  | 10, _ => exact b_720
  | 11, _ => exact b_722
  | 12, _ => exact b_724
  | 13, _ => exact b_726
  | 14, _ => exact b_728
  | 15, _ => exact b_730
  | 16, _ => exact b_732
  | 17, _ => exact b_734
  | 18, _ => exact b_736
  | 19, _ => exact b_738
  | 20, _ => exact b_740
  | 21, _ => exact b_742
  | 22, _ => exact b_744
  | 23, _ => exact b_746
  | 24, _ => exact b_748
  | 25, _ => exact b_750
  | 26, _ => exact b_752
  | 27, _ => exact b_754
  | 28, _ => exact b_756
  | 29, _ => exact b_758
  | 30, _ => exact b_760
  | 31, _ => exact b_762
  | k + 32, hk => exact absurd hk (by omega)
abbrev k_RR_init : ByteArray := prog_1_method_1_code
def y_RR_init : MethodName := ⟨R_RR, "<init>", "()V"⟩
def ws_RR_init : List Cond := .code y_RR_init k_RR_init 1 none :: bigW
theorem wb_RR_init : ∀ w ∈ bigW, w ∈ ws_RR_init := fun _ h => List.mem_cons_of_mem _ h
theorem wc_RR_init : Cond.code y_RR_init k_RR_init 1 none ∈ bigW := b_23
abbrev k_RR_unit : ByteArray := prog_1_method_2_code
def y_RR_unit : MethodName := ⟨R_RR, "unit", "(IIII)I"⟩
def ws_RR_unit : List Cond := .code y_RR_unit k_RR_unit 6 (some .int) :: bigW
theorem wb_RR_unit : ∀ w ∈ bigW, w ∈ ws_RR_unit := fun _ h => List.mem_cons_of_mem _ h
theorem wc_RR_unit : Cond.code y_RR_unit k_RR_unit 6 (some .int) ∈ bigW := b_262
abbrev k_RR_rule : ByteArray := prog_1_method_3_code
def y_RR_rule : MethodName := ⟨R_RR, "rule", "()I"⟩
def ws_RR_rule : List Cond := .code y_RR_rule k_RR_rule 2 (some .int) :: bigW
theorem wb_RR_rule : ∀ w ∈ bigW, w ∈ ws_RR_rule := fun _ h => List.mem_cons_of_mem _ h
theorem wc_RR_rule : Cond.code y_RR_rule k_RR_rule 2 (some .int) ∈ bigW := b_344
abbrev k_RR_drop : ByteArray := prog_1_method_4_code
def y_RR_drop : MethodName := ⟨R_RR, "drop", "(I)Z"⟩
def ws_RR_drop : List Cond := .code y_RR_drop k_RR_drop 2 (some .boolean) :: bigW
theorem wb_RR_drop : ∀ w ∈ bigW, w ∈ ws_RR_drop := fun _ h => List.mem_cons_of_mem _ h
theorem wc_RR_drop : Cond.code y_RR_drop k_RR_drop 2 (some .boolean) ∈ bigW := b_385
abbrev k_RR_person : ByteArray := prog_1_method_5_code
def y_RR_person : MethodName := ⟨R_RR, "person", "(I)I"⟩
def ws_RR_person : List Cond := .code y_RR_person k_RR_person 2 (some .int) :: bigW
theorem wb_RR_person : ∀ w ∈ bigW, w ∈ ws_RR_person := fun _ h => List.mem_cons_of_mem _ h
theorem wc_RR_person : Cond.code y_RR_person k_RR_person 2 (some .int) ∈ bigW := b_413
abbrev k_RR_record : ByteArray := prog_1_method_6_code
def y_RR_record : MethodName := ⟨R_RR, "record", "(II)I"⟩
def ws_RR_record : List Cond := .code y_RR_record k_RR_record 4 (some .int) :: bigW
theorem wb_RR_record : ∀ w ∈ bigW, w ∈ ws_RR_record := fun _ h => List.mem_cons_of_mem _ h
theorem wc_RR_record : Cond.code y_RR_record k_RR_record 4 (some .int) ∈ bigW := b_441
abbrev k_RR_value : ByteArray := prog_1_method_7_code
def y_RR_value : MethodName := ⟨R_RR, "value", "(IIJ)J"⟩
def ws_RR_value : List Cond := .code y_RR_value k_RR_value 5 (some .long) :: bigW
theorem wb_RR_value : ∀ w ∈ bigW, w ∈ ws_RR_value := fun _ h => List.mem_cons_of_mem _ h
theorem wc_RR_value : Cond.code y_RR_value k_RR_value 5 (some .long) ∈ bigW := b_455
abbrev k_RR_embargo : ByteArray := prog_1_method_8_code
def y_RR_embargo : MethodName := ⟨R_RR, "embargo", "(II)I"⟩
def ws_RR_embargo : List Cond := .code y_RR_embargo k_RR_embargo 4 (some .int) :: bigW
theorem wb_RR_embargo : ∀ w ∈ bigW, w ∈ ws_RR_embargo := fun _ h => List.mem_cons_of_mem _ h
theorem wc_RR_embargo : Cond.code y_RR_embargo k_RR_embargo 4 (some .int) ∈ bigW := b_479
abbrev k_RR_agreement : ByteArray := prog_1_method_9_code
def y_RR_agreement : MethodName := ⟨R_RR, "agreement", "(IIII)I"⟩
def ws_RR_agreement : List Cond := .code y_RR_agreement k_RR_agreement 5 (some .int) :: bigW
theorem wb_RR_agreement : ∀ w ∈ bigW, w ∈ ws_RR_agreement := fun _ h => List.mem_cons_of_mem _ h
theorem wc_RR_agreement : Cond.code y_RR_agreement k_RR_agreement 5 (some .int) ∈ bigW := b_491
abbrev k_RR_asks : ByteArray := prog_1_method_10_code
def y_RR_asks : MethodName := ⟨R_RR, "asks", "(IIIII)I"⟩
def ws_RR_asks : List Cond := .code y_RR_asks k_RR_asks 7 (some .int) :: bigW
theorem wb_RR_asks : ∀ w ∈ bigW, w ∈ ws_RR_asks := fun _ h => List.mem_cons_of_mem _ h
theorem wc_RR_asks : Cond.code y_RR_asks k_RR_asks 7 (some .int) ∈ bigW := b_509
abbrev k_RR_masked : ByteArray := prog_1_method_11_code
def y_RR_masked : MethodName := ⟨R_RR, "masked", "(II)J"⟩
def ws_RR_masked : List Cond := .code y_RR_masked k_RR_masked 5 (some .long) :: bigW
theorem wb_RR_masked : ∀ w ∈ bigW, w ∈ ws_RR_masked := fun _ h => List.mem_cons_of_mem _ h
theorem wc_RR_masked : Cond.code y_RR_masked k_RR_masked 5 (some .long) ∈ bigW := b_544
abbrev k_RR_look : ByteArray := prog_1_method_12_code
def y_RR_look : MethodName := ⟨R_RR, "look", "(II)I"⟩
def ws_RR_look : List Cond := .code y_RR_look k_RR_look 3 (some .int) :: bigW
theorem wb_RR_look : ∀ w ∈ bigW, w ∈ ws_RR_look := fun _ h => List.mem_cons_of_mem _ h
theorem wc_RR_look : Cond.code y_RR_look k_RR_look 3 (some .int) ∈ bigW := b_553
abbrev k_RR_looked : ByteArray := prog_1_method_13_code
def y_RR_looked : MethodName := ⟨R_RR, "looked", "(II)I"⟩
def ws_RR_looked : List Cond := .code y_RR_looked k_RR_looked 3 (some .int) :: bigW
theorem wb_RR_looked : ∀ w ∈ bigW, w ∈ ws_RR_looked := fun _ h => List.mem_cons_of_mem _ h
theorem wc_RR_looked : Cond.code y_RR_looked k_RR_looked 3 (some .int) ∈ bigW := b_566
abbrev k_RR_export : ByteArray := prog_1_method_14_code
def y_RR_export : MethodName := ⟨R_RR, "export", "(II)I"⟩
def ws_RR_export : List Cond := .code y_RR_export k_RR_export 4 (some .int) :: bigW
theorem wb_RR_export : ∀ w ∈ bigW, w ∈ ws_RR_export := fun _ h => List.mem_cons_of_mem _ h
theorem wc_RR_export : Cond.code y_RR_export k_RR_export 4 (some .int) ∈ bigW := b_578
abbrev k_RR_exported : ByteArray := prog_1_method_15_code
def y_RR_exported : MethodName := ⟨R_RR, "exported", "(I)I"⟩
def ws_RR_exported : List Cond := .code y_RR_exported k_RR_exported 2 (some .int) :: bigW
theorem wb_RR_exported : ∀ w ∈ bigW, w ∈ ws_RR_exported := fun _ h => List.mem_cons_of_mem _ h
theorem wc_RR_exported : Cond.code y_RR_exported k_RR_exported 2 (some .int) ∈ bigW := b_593
abbrev k_RR_request : ByteArray := prog_1_method_16_code
def y_RR_request : MethodName := ⟨R_RR, "request", "(III)I"⟩
def ws_RR_request : List Cond := .code y_RR_request k_RR_request 5 (some .int) :: bigW
theorem wb_RR_request : ∀ w ∈ bigW, w ∈ ws_RR_request := fun _ h => List.mem_cons_of_mem _ h
theorem wc_RR_request : Cond.code y_RR_request k_RR_request 5 (some .int) ∈ bigW := b_601
abbrev k_RR_limit : ByteArray := prog_1_method_17_code
def y_RR_limit : MethodName := ⟨R_RR, "limit", "(II)I"⟩
def ws_RR_limit : List Cond := .code y_RR_limit k_RR_limit 4 (some .int) :: bigW
theorem wb_RR_limit : ∀ w ∈ bigW, w ∈ ws_RR_limit := fun _ h => List.mem_cons_of_mem _ h
theorem wc_RR_limit : Cond.code y_RR_limit k_RR_limit 4 (some .int) ∈ bigW := b_617
abbrev k_RR_idle : ByteArray := prog_1_method_18_code
def y_RR_idle : MethodName := ⟨R_RR, "idle", "(I)I"⟩
def ws_RR_idle : List Cond := .code y_RR_idle k_RR_idle 5 (some .int) :: bigW
theorem wb_RR_idle : ∀ w ∈ bigW, w ∈ ws_RR_idle := fun _ h => List.mem_cons_of_mem _ h
theorem wc_RR_idle : Cond.code y_RR_idle k_RR_idle 5 (some .int) ∈ bigW := b_625
abbrev k_RR_count : ByteArray := prog_1_method_19_code
def y_RR_count : MethodName := ⟨R_RR, "count", "(I)I"⟩
def ws_RR_count : List Cond := .code y_RR_count k_RR_count 2 (some .int) :: bigW
theorem wb_RR_count : ∀ w ∈ bigW, w ∈ ws_RR_count := fun _ h => List.mem_cons_of_mem _ h
theorem wc_RR_count : Cond.code y_RR_count k_RR_count 2 (some .int) ∈ bigW := b_659
abbrev k_RR_requirePerson : ByteArray := prog_1_method_20_code
def y_RR_requirePerson : MethodName := ⟨R_RR, "requirePerson", "(I)V"⟩
def ws_RR_requirePerson : List Cond := .code y_RR_requirePerson k_RR_requirePerson 2 none :: bigW
theorem wb_RR_requirePerson : ∀ w ∈ bigW, w ∈ ws_RR_requirePerson := fun _ h => List.mem_cons_of_mem _ h
theorem wc_RR_requirePerson : Cond.code y_RR_requirePerson k_RR_requirePerson 2 none ∈ bigW := b_495
abbrev k_RR_requireRecord : ByteArray := prog_1_method_21_code
def y_RR_requireRecord : MethodName := ⟨R_RR, "requireRecord", "(I)V"⟩
def ws_RR_requireRecord : List Cond := .code y_RR_requireRecord k_RR_requireRecord 2 none :: bigW
theorem wb_RR_requireRecord : ∀ w ∈ bigW, w ∈ ws_RR_requireRecord := fun _ h => List.mem_cons_of_mem _ h
theorem wc_RR_requireRecord : Cond.code y_RR_requireRecord k_RR_requireRecord 2 none ∈ bigW := b_459
abbrev k_RR_requireField : ByteArray := prog_1_method_22_code
def y_RR_requireField : MethodName := ⟨R_RR, "requireField", "(I)V"⟩
def ws_RR_requireField : List Cond := .code y_RR_requireField k_RR_requireField 1 none :: bigW
theorem wb_RR_requireField : ∀ w ∈ bigW, w ∈ ws_RR_requireField := fun _ h => List.mem_cons_of_mem _ h
theorem wc_RR_requireField : Cond.code y_RR_requireField k_RR_requireField 1 none ∈ bigW := b_463
abbrev k_RR_requireDay : ByteArray := prog_1_method_23_code
def y_RR_requireDay : MethodName := ⟨R_RR, "requireDay", "(I)V"⟩
def ws_RR_requireDay : List Cond := .code y_RR_requireDay k_RR_requireDay 1 none :: bigW
theorem wb_RR_requireDay : ∀ w ∈ bigW, w ∈ ws_RR_requireDay := fun _ h => List.mem_cons_of_mem _ h
theorem wc_RR_requireDay : Cond.code y_RR_requireDay k_RR_requireDay 1 none ∈ bigW := b_482
abbrev k_RR_openRules : ByteArray := prog_1_method_24_code
def y_RR_openRules : MethodName := ⟨R_RR, "openRules", "(III)I"⟩
def ws_RR_openRules : List Cond := .code y_RR_openRules k_RR_openRules 6 (some .int) :: bigW
theorem wb_RR_openRules : ∀ w ∈ bigW, w ∈ ws_RR_openRules := fun _ h => List.mem_cons_of_mem _ h
theorem wc_RR_openRules : Cond.code y_RR_openRules k_RR_openRules 6 (some .int) ∈ bigW := b_514
abbrev k_RR_rulesForField : ByteArray := prog_1_method_25_code
def y_RR_rulesForField : MethodName := ⟨R_RR, "rulesForField", "(II)I"⟩
def ws_RR_rulesForField : List Cond := .code y_RR_rulesForField k_RR_rulesForField 4 (some .int) :: bigW
theorem wb_RR_rulesForField : ∀ w ∈ bigW, w ∈ ws_RR_rulesForField := fun _ h => List.mem_cons_of_mem _ h
theorem wc_RR_rulesForField : Cond.code y_RR_rulesForField k_RR_rulesForField 4 (some .int) ∈ bigW := b_528
abbrev k_RR_isExportable : ByteArray := prog_1_method_26_code
def y_RR_isExportable : MethodName := ⟨R_RR, "isExportable", "(I)Z"⟩
def ws_RR_isExportable : List Cond := .code y_RR_isExportable k_RR_isExportable 3 (some .boolean) :: bigW
theorem wb_RR_isExportable : ∀ w ∈ bigW, w ∈ ws_RR_isExportable := fun _ h => List.mem_cons_of_mem _ h
theorem wc_RR_isExportable : Cond.code y_RR_isExportable k_RR_isExportable 3 (some .boolean) ∈ bigW := b_582
abbrev k_RR_fillFieldRules : ByteArray := prog_1_method_27_code
def y_RR_fillFieldRules : MethodName := ⟨R_RR, "fillFieldRules", "()V"⟩
def ws_RR_fillFieldRules : List Cond := .code y_RR_fillFieldRules k_RR_fillFieldRules 3 none :: bigW
theorem wb_RR_fillFieldRules : ∀ w ∈ bigW, w ∈ ws_RR_fillFieldRules := fun _ h => List.mem_cons_of_mem _ h
theorem wc_RR_fillFieldRules : Cond.code y_RR_fillFieldRules k_RR_fillFieldRules 3 none ∈ bigW := b_629
abbrev k_RR_neededRules : ByteArray := prog_1_method_28_code
def y_RR_neededRules : MethodName := ⟨R_RR, "neededRules", "(I)I"⟩
def ws_RR_neededRules : List Cond := .code y_RR_neededRules k_RR_neededRules 4 (some .int) :: bigW
theorem wb_RR_neededRules : ∀ w ∈ bigW, w ∈ ws_RR_neededRules := fun _ h => List.mem_cons_of_mem _ h
theorem wc_RR_neededRules : Cond.code y_RR_neededRules k_RR_neededRules 4 (some .int) ∈ bigW := b_633
abbrev k_MD_init : ByteArray := prog_12_method_1_code
def y_MD_init : MethodName := ⟨R_MD, "<init>", "()V"⟩
def ws_MD_init : List Cond := .code y_MD_init k_MD_init 1 none :: bigW
theorem wb_MD_init : ∀ w ∈ bigW, w ∈ ws_MD_init := fun _ h => List.mem_cons_of_mem _ h
theorem wc_MD_init : Cond.code y_MD_init k_MD_init 1 none ∈ bigW := b_666
abbrev k_MD_thrown : ByteArray := prog_12_method_2_code
def y_MD_thrown : MethodName := ⟨R_MD, "thrown", "()I"⟩
def ws_MD_thrown : List Cond := .code y_MD_thrown k_MD_thrown 1 (some .int) :: bigW
theorem wb_MD_thrown : ∀ w ∈ bigW, w ∈ ws_MD_thrown := fun _ h => List.mem_cons_of_mem _ h
theorem wc_MD_thrown : Cond.code y_MD_thrown k_MD_thrown 1 (some .int) ∈ bigW := b_769
abbrev k_MD_throwing : ByteArray := prog_12_method_3_code
def y_MD_throwing : MethodName := ⟨R_MD, "throwing", "(ZZZ)Z"⟩
def ws_MD_throwing : List Cond := .code y_MD_throwing k_MD_throwing 4 (some .boolean) :: bigW
theorem wb_MD_throwing : ∀ w ∈ bigW, w ∈ ws_MD_throwing := fun _ h => List.mem_cons_of_mem _ h
theorem wc_MD_throwing : Cond.code y_MD_throwing k_MD_throwing 4 (some .boolean) ∈ bigW := b_780
abbrev k_MD_in : ByteArray := prog_12_method_4_code
def y_MD_in : MethodName := ⟨R_MD, "in", "(III)Z"⟩
def ws_MD_in : List Cond := .code y_MD_in k_MD_in 3 (some .boolean) :: bigW
theorem wb_MD_in : ∀ w ∈ bigW, w ∈ ws_MD_in := fun _ h => List.mem_cons_of_mem _ h
theorem wc_MD_in : Cond.code y_MD_in k_MD_in 3 (some .boolean) ∈ bigW := b_798
abbrev k_MD_isPerson : ByteArray := prog_12_method_5_code
def y_MD_isPerson : MethodName := ⟨R_MD, "isPerson", "(I)Z"⟩
def ws_MD_isPerson : List Cond := .code y_MD_isPerson k_MD_isPerson 2 (some .boolean) :: bigW
theorem wb_MD_isPerson : ∀ w ∈ bigW, w ∈ ws_MD_isPerson := fun _ h => List.mem_cons_of_mem _ h
theorem wc_MD_isPerson : Cond.code y_MD_isPerson k_MD_isPerson 2 (some .boolean) ∈ bigW := b_837
abbrev k_MD_isRecord : ByteArray := prog_12_method_6_code
def y_MD_isRecord : MethodName := ⟨R_MD, "isRecord", "(I)Z"⟩
def ws_MD_isRecord : List Cond := .code y_MD_isRecord k_MD_isRecord 2 (some .boolean) :: bigW
theorem wb_MD_isRecord : ∀ w ∈ bigW, w ∈ ws_MD_isRecord := fun _ h => List.mem_cons_of_mem _ h
theorem wc_MD_isRecord : Cond.code y_MD_isRecord k_MD_isRecord 2 (some .boolean) ∈ bigW := b_818
abbrev k_MD_isField : ByteArray := prog_12_method_7_code
def y_MD_isField : MethodName := ⟨R_MD, "isField", "(I)Z"⟩
def ws_MD_isField : List Cond := .code y_MD_isField k_MD_isField 1 (some .boolean) :: bigW
theorem wb_MD_isField : ∀ w ∈ bigW, w ∈ ws_MD_isField := fun _ h => List.mem_cons_of_mem _ h
theorem wc_MD_isField : Cond.code y_MD_isField k_MD_isField 1 (some .boolean) ∈ bigW := b_821
abbrev k_MD_isDay : ByteArray := prog_12_method_8_code
def y_MD_isDay : MethodName := ⟨R_MD, "isDay", "(I)Z"⟩
def ws_MD_isDay : List Cond := .code y_MD_isDay k_MD_isDay 1 (some .boolean) :: bigW
theorem wb_MD_isDay : ∀ w ∈ bigW, w ∈ ws_MD_isDay := fun _ h => List.mem_cons_of_mem _ h
theorem wc_MD_isDay : Cond.code y_MD_isDay k_MD_isDay 1 (some .boolean) ∈ bigW := b_828
abbrev k_MD_signOf : ByteArray := prog_12_method_9_code
def y_MD_signOf : MethodName := ⟨R_MD, "signOf", "(II)I"⟩
def ws_MD_signOf : List Cond := .code y_MD_signOf k_MD_signOf 2 (some .int) :: bigW
theorem wb_MD_signOf : ∀ w ∈ bigW, w ∈ ws_MD_signOf := fun _ h => List.mem_cons_of_mem _ h
theorem wc_MD_signOf : Cond.code y_MD_signOf k_MD_signOf 2 (some .int) ∈ bigW := b_776
abbrev k_MD_unit : ByteArray := prog_12_method_10_code
def y_MD_unit : MethodName := ⟨R_MD, "unit", "(IIII)I"⟩
def ws_MD_unit : List Cond := .code y_MD_unit k_MD_unit 8 (some .int) :: bigW
theorem wb_MD_unit : ∀ w ∈ bigW, w ∈ ws_MD_unit := fun _ h => List.mem_cons_of_mem _ h
theorem wc_MD_unit : Cond.code y_MD_unit k_MD_unit 8 (some .int) ∈ bigW := b_773
abbrev k_MD_digitsOf : ByteArray := prog_12_method_11_code
def y_MD_digitsOf : MethodName := ⟨R_MD, "digitsOf", "(I)I"⟩
def ws_MD_digitsOf : List Cond := .code y_MD_digitsOf k_MD_digitsOf 1 (some .int) :: bigW
theorem wb_MD_digitsOf : ∀ w ∈ bigW, w ∈ ws_MD_digitsOf := fun _ h => List.mem_cons_of_mem _ h
theorem wc_MD_digitsOf : Cond.code y_MD_digitsOf k_MD_digitsOf 1 (some .int) ∈ bigW := b_795
abbrev k_MD_padAt : ByteArray := prog_12_method_12_code
def y_MD_padAt : MethodName := ⟨R_MD, "padAt", "(I)I"⟩
def ws_MD_padAt : List Cond := .code y_MD_padAt k_MD_padAt 2 (some .int) :: bigW
theorem wb_MD_padAt : ∀ w ∈ bigW, w ∈ ws_MD_padAt := fun _ h => List.mem_cons_of_mem _ h
theorem wc_MD_padAt : Cond.code y_MD_padAt k_MD_padAt 2 (some .int) ∈ bigW := b_792
abbrev k_MD_wrongAt : ByteArray := prog_12_method_13_code
def y_MD_wrongAt : MethodName := ⟨R_MD, "wrongAt", "()I"⟩
def ws_MD_wrongAt : List Cond := .code y_MD_wrongAt k_MD_wrongAt 4 (some .int) :: bigW
theorem wb_MD_wrongAt : ∀ w ∈ bigW, w ∈ ws_MD_wrongAt := fun _ h => List.mem_cons_of_mem _ h
theorem wc_MD_wrongAt : Cond.code y_MD_wrongAt k_MD_wrongAt 4 (some .int) ∈ bigW := b_788
abbrev k_MD_rule : ByteArray := prog_12_method_14_code
def y_MD_rule : MethodName := ⟨R_MD, "rule", "()I"⟩
def ws_MD_rule : List Cond := .code y_MD_rule k_MD_rule 4 (some .int) :: bigW
theorem wb_MD_rule : ∀ w ∈ bigW, w ∈ ws_MD_rule := fun _ h => List.mem_cons_of_mem _ h
theorem wc_MD_rule : Cond.code y_MD_rule k_MD_rule 4 (some .int) ∈ bigW := b_784
abbrev k_MD_drop : ByteArray := prog_12_method_15_code
def y_MD_drop : MethodName := ⟨R_MD, "drop", "(I)Z"⟩
def ws_MD_drop : List Cond := .code y_MD_drop k_MD_drop 3 (some .boolean) :: bigW
theorem wb_MD_drop : ∀ w ∈ bigW, w ∈ ws_MD_drop := fun _ h => List.mem_cons_of_mem _ h
theorem wc_MD_drop : Cond.code y_MD_drop k_MD_drop 3 (some .boolean) ∈ bigW := b_802
abbrev k_MD_person : ByteArray := prog_12_method_16_code
def y_MD_person : MethodName := ⟨R_MD, "person", "(I)I"⟩
def ws_MD_person : List Cond := .code y_MD_person k_MD_person 2 (some .int) :: bigW
theorem wb_MD_person : ∀ w ∈ bigW, w ∈ ws_MD_person := fun _ h => List.mem_cons_of_mem _ h
theorem wc_MD_person : Cond.code y_MD_person k_MD_person 2 (some .int) ∈ bigW := b_806
abbrev k_MD_record : ByteArray := prog_12_method_17_code
def y_MD_record : MethodName := ⟨R_MD, "record", "(II)I"⟩
def ws_MD_record : List Cond := .code y_MD_record k_MD_record 3 (some .int) :: bigW
theorem wb_MD_record : ∀ w ∈ bigW, w ∈ ws_MD_record := fun _ h => List.mem_cons_of_mem _ h
theorem wc_MD_record : Cond.code y_MD_record k_MD_record 3 (some .int) ∈ bigW := b_810
abbrev k_MD_value : ByteArray := prog_12_method_18_code
def y_MD_value : MethodName := ⟨R_MD, "value", "(IIJ)J"⟩
def ws_MD_value : List Cond := .code y_MD_value k_MD_value 7 (some .long) :: bigW
theorem wb_MD_value : ∀ w ∈ bigW, w ∈ ws_MD_value := fun _ h => List.mem_cons_of_mem _ h
theorem wc_MD_value : Cond.code y_MD_value k_MD_value 7 (some .long) ∈ bigW := b_814
abbrev k_MD_embargo : ByteArray := prog_12_method_19_code
def y_MD_embargo : MethodName := ⟨R_MD, "embargo", "(II)I"⟩
def ws_MD_embargo : List Cond := .code y_MD_embargo k_MD_embargo 4 (some .int) :: bigW
theorem wb_MD_embargo : ∀ w ∈ bigW, w ∈ ws_MD_embargo := fun _ h => List.mem_cons_of_mem _ h
theorem wc_MD_embargo : Cond.code y_MD_embargo k_MD_embargo 4 (some .int) ∈ bigW := b_825
abbrev k_MD_agreement : ByteArray := prog_12_method_20_code
def y_MD_agreement : MethodName := ⟨R_MD, "agreement", "(IIII)I"⟩
def ws_MD_agreement : List Cond := .code y_MD_agreement k_MD_agreement 6 (some .int) :: bigW
theorem wb_MD_agreement : ∀ w ∈ bigW, w ∈ ws_MD_agreement := fun _ h => List.mem_cons_of_mem _ h
theorem wc_MD_agreement : Cond.code y_MD_agreement k_MD_agreement 6 (some .int) ∈ bigW := b_833
abbrev k_MD_hasAgreement : ByteArray := prog_12_method_21_code
def y_MD_hasAgreement : MethodName := ⟨R_MD, "hasAgreement", "(III)Z"⟩
def ws_MD_hasAgreement : List Cond := .code y_MD_hasAgreement k_MD_hasAgreement 6 (some .boolean) :: bigW
theorem wb_MD_hasAgreement : ∀ w ∈ bigW, w ∈ ws_MD_hasAgreement := fun _ h => List.mem_cons_of_mem _ h
theorem wc_MD_hasAgreement : Cond.code y_MD_hasAgreement k_MD_hasAgreement 6 (some .boolean) ∈ bigW := b_861
abbrev k_MD_holds : ByteArray := prog_12_method_22_code
def y_MD_holds : MethodName := ⟨R_MD, "holds", "(II)Z"⟩
def ws_MD_holds : List Cond := .code y_MD_holds k_MD_holds 3 (some .boolean) :: bigW
theorem wb_MD_holds : ∀ w ∈ bigW, w ∈ ws_MD_holds := fun _ h => List.mem_cons_of_mem _ h
theorem wc_MD_holds : Cond.code y_MD_holds k_MD_holds 3 (some .boolean) ∈ bigW := b_857
abbrev k_MD_suits : ByteArray := prog_12_method_23_code
def y_MD_suits : MethodName := ⟨R_MD, "suits", "(I)Z"⟩
def ws_MD_suits : List Cond := .code y_MD_suits k_MD_suits 8 (some .boolean) :: bigW
theorem wb_MD_suits : ∀ w ∈ bigW, w ∈ ws_MD_suits := fun _ h => List.mem_cons_of_mem _ h
theorem wc_MD_suits : Cond.code y_MD_suits k_MD_suits 8 (some .boolean) ∈ bigW := b_853
abbrev k_MD_got : ByteArray := prog_12_method_24_code
def y_MD_got : MethodName := ⟨R_MD, "got", "(I)I"⟩
def ws_MD_got : List Cond := .code y_MD_got k_MD_got 6 (some .int) :: bigW
theorem wb_MD_got : ∀ w ∈ bigW, w ∈ ws_MD_got := fun _ h => List.mem_cons_of_mem _ h
theorem wc_MD_got : Cond.code y_MD_got k_MD_got 6 (some .int) ∈ bigW := b_849
abbrev k_MD_put : ByteArray := prog_12_method_25_code
def y_MD_put : MethodName := ⟨R_MD, "put", "(IIIII)V"⟩
def ws_MD_put : List Cond := .code y_MD_put k_MD_put 6 none :: bigW
theorem wb_MD_put : ∀ w ∈ bigW, w ∈ ws_MD_put := fun _ h => List.mem_cons_of_mem _ h
theorem wc_MD_put : Cond.code y_MD_put k_MD_put 6 none ∈ bigW := b_845
abbrev k_MD_asks : ByteArray := prog_12_method_26_code
def y_MD_asks : MethodName := ⟨R_MD, "asks", "(IIIII)I"⟩
def ws_MD_asks : List Cond := .code y_MD_asks k_MD_asks 8 (some .int) :: bigW
theorem wb_MD_asks : ∀ w ∈ bigW, w ∈ ws_MD_asks := fun _ h => List.mem_cons_of_mem _ h
theorem wc_MD_asks : Cond.code y_MD_asks k_MD_asks 8 (some .int) ∈ bigW := b_841
abbrev k_MD_masked : ByteArray := prog_12_method_27_code
def y_MD_masked : MethodName := ⟨R_MD, "masked", "(II)J"⟩
def ws_MD_masked : List Cond := .code y_MD_masked k_MD_masked 3 (some .long) :: bigW
theorem wb_MD_masked : ∀ w ∈ bigW, w ∈ ws_MD_masked := fun _ h => List.mem_cons_of_mem _ h
theorem wc_MD_masked : Cond.code y_MD_masked k_MD_masked 3 (some .long) ∈ bigW := b_865
abbrev k_MD_look : ByteArray := prog_12_method_28_code
def y_MD_look : MethodName := ⟨R_MD, "look", "(II)I"⟩
def ws_MD_look : List Cond := .code y_MD_look k_MD_look 3 (some .int) :: bigW
theorem wb_MD_look : ∀ w ∈ bigW, w ∈ ws_MD_look := fun _ h => List.mem_cons_of_mem _ h
theorem wc_MD_look : Cond.code y_MD_look k_MD_look 3 (some .int) ∈ bigW := b_870
abbrev k_MD_looked : ByteArray := prog_12_method_29_code
def y_MD_looked : MethodName := ⟨R_MD, "looked", "(II)I"⟩
def ws_MD_looked : List Cond := .code y_MD_looked k_MD_looked 7 (some .int) :: bigW
theorem wb_MD_looked : ∀ w ∈ bigW, w ∈ ws_MD_looked := fun _ h => List.mem_cons_of_mem _ h
theorem wc_MD_looked : Cond.code y_MD_looked k_MD_looked 7 (some .int) ∈ bigW := b_874
abbrev k_MD_isWhole : ByteArray := prog_12_method_30_code
def y_MD_isWhole : MethodName := ⟨R_MD, "isWhole", "(III)Z"⟩
def ws_MD_isWhole : List Cond := .code y_MD_isWhole k_MD_isWhole 6 (some .boolean) :: bigW
theorem wb_MD_isWhole : ∀ w ∈ bigW, w ∈ ws_MD_isWhole := fun _ h => List.mem_cons_of_mem _ h
theorem wc_MD_isWhole : Cond.code y_MD_isWhole k_MD_isWhole 6 (some .boolean) ∈ bigW := b_882
abbrev k_MD_export : ByteArray := prog_12_method_31_code
def y_MD_export : MethodName := ⟨R_MD, "export", "(II)I"⟩
def ws_MD_export : List Cond := .code y_MD_export k_MD_export 4 (some .int) :: bigW
theorem wb_MD_export : ∀ w ∈ bigW, w ∈ ws_MD_export := fun _ h => List.mem_cons_of_mem _ h
theorem wc_MD_export : Cond.code y_MD_export k_MD_export 4 (some .int) ∈ bigW := b_878
abbrev k_MD_exported : ByteArray := prog_12_method_32_code
def y_MD_exported : MethodName := ⟨R_MD, "exported", "(I)I"⟩
def ws_MD_exported : List Cond := .code y_MD_exported k_MD_exported 2 (some .int) :: bigW
theorem wb_MD_exported : ∀ w ∈ bigW, w ∈ ws_MD_exported := fun _ h => List.mem_cons_of_mem _ h
theorem wc_MD_exported : Cond.code y_MD_exported k_MD_exported 2 (some .int) ∈ bigW := b_886
abbrev k_MD_request : ByteArray := prog_12_method_33_code
def y_MD_request : MethodName := ⟨R_MD, "request", "(III)I"⟩
def ws_MD_request : List Cond := .code y_MD_request k_MD_request 6 (some .int) :: bigW
theorem wb_MD_request : ∀ w ∈ bigW, w ∈ ws_MD_request := fun _ h => List.mem_cons_of_mem _ h
theorem wc_MD_request : Cond.code y_MD_request k_MD_request 6 (some .int) ∈ bigW := b_890
abbrev k_MD_limit : ByteArray := prog_12_method_34_code
def y_MD_limit : MethodName := ⟨R_MD, "limit", "(II)I"⟩
def ws_MD_limit : List Cond := .code y_MD_limit k_MD_limit 4 (some .int) :: bigW
theorem wb_MD_limit : ∀ w ∈ bigW, w ∈ ws_MD_limit := fun _ h => List.mem_cons_of_mem _ h
theorem wc_MD_limit : Cond.code y_MD_limit k_MD_limit 4 (some .int) ∈ bigW := b_894
abbrev k_MD_changes : ByteArray := prog_12_method_35_code
def y_MD_changes : MethodName := ⟨R_MD, "changes", "(IIII)Z"⟩
def ws_MD_changes : List Cond := .code y_MD_changes k_MD_changes 7 (some .boolean) :: bigW
theorem wb_MD_changes : ∀ w ∈ bigW, w ∈ ws_MD_changes := fun _ h => List.mem_cons_of_mem _ h
theorem wc_MD_changes : Cond.code y_MD_changes k_MD_changes 7 (some .boolean) ∈ bigW := b_902
abbrev k_MD_idle : ByteArray := prog_12_method_36_code
def y_MD_idle : MethodName := ⟨R_MD, "idle", "(I)I"⟩
def ws_MD_idle : List Cond := .code y_MD_idle k_MD_idle 5 (some .int) :: bigW
theorem wb_MD_idle : ∀ w ∈ bigW, w ∈ ws_MD_idle := fun _ h => List.mem_cons_of_mem _ h
theorem wc_MD_idle : Cond.code y_MD_idle k_MD_idle 5 (some .int) ∈ bigW := b_898
abbrev k_MD_count : ByteArray := prog_12_method_37_code
def y_MD_count : MethodName := ⟨R_MD, "count", "(I)I"⟩
def ws_MD_count : List Cond := .code y_MD_count k_MD_count 4 (some .int) :: bigW
theorem wb_MD_count : ∀ w ∈ bigW, w ∈ ws_MD_count := fun _ h => List.mem_cons_of_mem _ h
theorem wc_MD_count : Cond.code y_MD_count k_MD_count 4 (some .int) ∈ bigW := b_906
abbrev k_AG_init : ByteArray := prog_2_method_1_code
def y_AG_init : MethodName := ⟨R_AG, "<init>", "()V"⟩
def ws_AG_init : List Cond := .code y_AG_init k_AG_init 1 none :: bigW
theorem wb_AG_init : ∀ w ∈ bigW, w ∈ ws_AG_init := fun _ h => List.mem_cons_of_mem _ h
theorem wc_AG_init : Cond.code y_AG_init k_AG_init 1 none ∈ bigW := b_156
abbrev k_AG_add : ByteArray := prog_2_method_2_code
def y_AG_add : MethodName := ⟨R_AG, "add", "(IIII)V"⟩
def ws_AG_add : List Cond := .code y_AG_add k_AG_add 5 none :: bigW
theorem wb_AG_add : ∀ w ∈ bigW, w ∈ ws_AG_add := fun _ h => List.mem_cons_of_mem _ h
theorem wc_AG_add : Cond.code y_AG_add k_AG_add 5 none ∈ bigW := b_502
abbrev k_AG_hold : ByteArray := prog_2_method_3_code
def y_AG_hold : MethodName := ⟨R_AG, "hold", "(III)Z"⟩
def ws_AG_hold : List Cond := .code y_AG_hold k_AG_hold 5 (some .boolean) :: bigW
theorem wb_AG_hold : ∀ w ∈ bigW, w ∈ ws_AG_hold := fun _ h => List.mem_cons_of_mem _ h
theorem wc_AG_hold : Cond.code y_AG_hold k_AG_hold 5 (some .boolean) ∈ bigW := b_518
abbrev k_EX_init : ByteArray := prog_3_method_1_code
def y_EX_init : MethodName := ⟨R_EX, "<init>", "()V"⟩
def ws_EX_init : List Cond := .code y_EX_init k_EX_init 1 none :: bigW
theorem wb_EX_init : ∀ w ∈ bigW, w ∈ ws_EX_init := fun _ h => List.mem_cons_of_mem _ h
theorem wc_EX_init : Cond.code y_EX_init k_EX_init 1 none ∈ bigW := b_213
abbrev k_EX_add : ByteArray := prog_3_method_2_code
def y_EX_add : MethodName := ⟨R_EX, "add", "(I)V"⟩
def ws_EX_add : List Cond := .code y_EX_add k_EX_add 2 none :: bigW
theorem wb_EX_add : ∀ w ∈ bigW, w ∈ ws_EX_add := fun _ h => List.mem_cons_of_mem _ h
theorem wc_EX_add : Cond.code y_EX_add k_EX_add 2 none ∈ bigW := b_586
abbrev k_HO_init : ByteArray := prog_4_method_1_code
def y_HO_init : MethodName := ⟨R_HO, "<init>", "()V"⟩
def ws_HO_init : List Cond := .code y_HO_init k_HO_init 1 none :: bigW
theorem wb_HO_init : ∀ w ∈ bigW, w ∈ ws_HO_init := fun _ h => List.mem_cons_of_mem _ h
theorem wc_HO_init : Cond.code y_HO_init k_HO_init 1 none ∈ bigW := b_133
abbrev k_HO_add : ByteArray := prog_4_method_2_code
def y_HO_add : MethodName := ⟨R_HO, "add", "(I)I"⟩
def ws_HO_add : List Cond := .code y_HO_add k_HO_add 2 (some .int) :: bigW
theorem wb_HO_add : ∀ w ∈ bigW, w ∈ ws_HO_add := fun _ h => List.mem_cons_of_mem _ h
theorem wc_HO_add : Cond.code y_HO_add k_HO_add 2 (some .int) ∈ bigW := b_448
abbrev k_HO_at : ByteArray := prog_4_method_3_code
def y_HO_at : MethodName := ⟨R_HO, "at", "(II)J"⟩
def ws_HO_at : List Cond := .code y_HO_at k_HO_at 3 (some .long) :: bigW
theorem wb_HO_at : ∀ w ∈ bigW, w ∈ ws_HO_at := fun _ h => List.mem_cons_of_mem _ h
theorem wc_HO_at : Cond.code y_HO_at k_HO_at 3 (some .long) ∈ bigW := b_472
abbrev k_HO_put : ByteArray := prog_4_method_4_code
def y_HO_put : MethodName := ⟨R_HO, "put", "(IIJ)J"⟩
def ws_HO_put : List Cond := .code y_HO_put k_HO_put 7 (some .long) :: bigW
theorem wb_HO_put : ∀ w ∈ bigW, w ∈ ws_HO_put := fun _ h => List.mem_cons_of_mem _ h
theorem wc_HO_put : Cond.code y_HO_put k_HO_put 7 (some .long) ∈ bigW := b_468
abbrev k_LO_init : ByteArray := prog_5_method_1_code
def y_LO_init : MethodName := ⟨R_LO, "<init>", "()V"⟩
def ws_LO_init : List Cond := .code y_LO_init k_LO_init 1 none :: bigW
theorem wb_LO_init : ∀ w ∈ bigW, w ∈ ws_LO_init := fun _ h => List.mem_cons_of_mem _ h
theorem wc_LO_init : Cond.code y_LO_init k_LO_init 1 none ∈ bigW := b_179
abbrev k_LO_keep : ByteArray := prog_5_method_2_code
def y_LO_keep : MethodName := ⟨R_LO, "keep", "(IIIIII)V"⟩
def ws_LO_keep : List Cond := .code y_LO_keep k_LO_keep 8 none :: bigW
theorem wb_LO_keep : ∀ w ∈ bigW, w ∈ ws_LO_keep := fun _ h => List.mem_cons_of_mem _ h
theorem wc_LO_keep : Cond.code y_LO_keep k_LO_keep 8 none ∈ bigW := b_537
abbrev k_LO_part : ByteArray := prog_5_method_3_code
def y_LO_part : MethodName := ⟨R_LO, "part", "(II)I"⟩
def ws_LO_part : List Cond := .code y_LO_part k_LO_part 3 (some .int) :: bigW
theorem wb_LO_part : ∀ w ∈ bigW, w ∈ ws_LO_part := fun _ h => List.mem_cons_of_mem _ h
theorem wc_LO_part : Cond.code y_LO_part k_LO_part 3 (some .int) ∈ bigW := b_559
abbrev k_LO_looker : ByteArray := prog_5_method_4_code
def y_LO_looker : MethodName := ⟨R_LO, "looker", "(II)I"⟩
def ws_LO_looker : List Cond := .code y_LO_looker k_LO_looker 5 (some .int) :: bigW
theorem wb_LO_looker : ∀ w ∈ bigW, w ∈ ws_LO_looker := fun _ h => List.mem_cons_of_mem _ h
theorem wc_LO_looker : Cond.code y_LO_looker k_LO_looker 5 (some .int) ∈ bigW := b_571
abbrev k_PA_init : ByteArray := prog_6_method_1_code
def y_PA_init : MethodName := ⟨R_PA, "<init>", "()V"⟩
def ws_PA_init : List Cond := .code y_PA_init k_PA_init 1 none :: bigW
theorem wb_PA_init : ∀ w ∈ bigW, w ∈ ws_PA_init := fun _ h => List.mem_cons_of_mem _ h
theorem wc_PA_init : Cond.code y_PA_init k_PA_init 1 none ∈ bigW := b_31
abbrev k_PA_signsIn : ByteArray := prog_6_method_2_code
def y_PA_signsIn : MethodName := ⟨R_PA, "signsIn", "(I)I"⟩
def ws_PA_signsIn : List Cond := .code y_PA_signsIn k_PA_signsIn 3 (some .int) :: bigW
theorem wb_PA_signsIn : ∀ w ∈ bigW, w ∈ ws_PA_signsIn := fun _ h => List.mem_cons_of_mem _ h
theorem wc_PA_signsIn : Cond.code y_PA_signsIn k_PA_signsIn 3 (some .int) ∈ bigW := b_265
abbrev k_PA_append : ByteArray := prog_6_method_3_code
def y_PA_append : MethodName := ⟨R_PA, "append", "(I)V"⟩
def ws_PA_append : List Cond := .code y_PA_append k_PA_append 4 none :: bigW
theorem wb_PA_append : ∀ w ∈ bigW, w ∈ ws_PA_append := fun _ h => List.mem_cons_of_mem _ h
theorem wc_PA_append : Cond.code y_PA_append k_PA_append 4 none ∈ bigW := b_337
abbrev k_PE_init : ByteArray := prog_7_method_1_code
def y_PE_init : MethodName := ⟨R_PE, "<init>", "()V"⟩
def ws_PE_init : List Cond := .code y_PE_init k_PE_init 1 none :: bigW
theorem wb_PE_init : ∀ w ∈ bigW, w ∈ ws_PE_init := fun _ h => List.mem_cons_of_mem _ h
theorem wc_PE_init : Cond.code y_PE_init k_PE_init 1 none ∈ bigW := b_114
abbrev k_PE_add : ByteArray := prog_7_method_2_code
def y_PE_add : MethodName := ⟨R_PE, "add", "(I)I"⟩
def ws_PE_add : List Cond := .code y_PE_add k_PE_add 2 (some .int) :: bigW
theorem wb_PE_add : ∀ w ∈ bigW, w ∈ ws_PE_add := fun _ h => List.mem_cons_of_mem _ h
theorem wc_PE_add : Cond.code y_PE_add k_PE_add 2 (some .int) ∈ bigW := b_434
abbrev k_RQ_init : ByteArray := prog_8_method_1_code
def y_RQ_init : MethodName := ⟨R_RQ, "<init>", "()V"⟩
def ws_RQ_init : List Cond := .code y_RQ_init k_RQ_init 1 none :: bigW
theorem wb_RQ_init : ∀ w ∈ bigW, w ∈ ws_RQ_init := fun _ h => List.mem_cons_of_mem _ h
theorem wc_RQ_init : Cond.code y_RQ_init k_RQ_init 1 none ∈ bigW := b_196
abbrev k_RQ_within : ByteArray := prog_8_method_2_code
def y_RQ_within : MethodName := ⟨R_RQ, "within", "(II)I"⟩
def ws_RQ_within : List Cond := .code y_RQ_within k_RQ_within 5 (some .int) :: bigW
theorem wb_RQ_within : ∀ w ∈ bigW, w ∈ ws_RQ_within := fun _ h => List.mem_cons_of_mem _ h
theorem wc_RQ_within : Cond.code y_RQ_within k_RQ_within 5 (some .int) ∈ bigW := b_606
abbrev k_RQ_keep : ByteArray := prog_8_method_3_code
def y_RQ_keep : MethodName := ⟨R_RQ, "keep", "(II)V"⟩
def ws_RQ_keep : List Cond := .code y_RQ_keep k_RQ_keep 3 none :: bigW
theorem wb_RQ_keep : ∀ w ∈ bigW, w ∈ ws_RQ_keep := fun _ h => List.mem_cons_of_mem _ h
theorem wc_RQ_keep : Cond.code y_RQ_keep k_RQ_keep 3 none ∈ bigW := b_610
abbrev k_RB_init : ByteArray := prog_9_method_1_code
def y_RB_init : MethodName := ⟨R_RB, "<init>", "()V"⟩
def ws_RB_init : List Cond := .code y_RB_init k_RB_init 1 none :: bigW
theorem wb_RB_init : ∀ w ∈ bigW, w ∈ ws_RB_init := fun _ h => List.mem_cons_of_mem _ h
theorem wc_RB_init : Cond.code y_RB_init k_RB_init 1 none ∈ bigW := b_83
abbrev k_RB_tell : ByteArray := prog_9_method_2_code
def y_RB_tell : MethodName := ⟨R_RB, "tell", "(III)I"⟩
def ws_RB_tell : List Cond := .code y_RB_tell k_RB_tell 5 (some .int) :: bigW
theorem wb_RB_tell : ∀ w ∈ bigW, w ∈ ws_RB_tell := fun _ h => List.mem_cons_of_mem _ h
theorem wc_RB_tell : Cond.code y_RB_tell k_RB_tell 5 (some .int) ∈ bigW := b_377
abbrev k_RB_untell : ByteArray := prog_9_method_3_code
def y_RB_untell : MethodName := ⟨R_RB, "untell", "(I)Z"⟩
def ws_RB_untell : List Cond := .code y_RB_untell k_RB_untell 4 (some .boolean) :: bigW
theorem wb_RB_untell : ∀ w ∈ bigW, w ∈ ws_RB_untell := fun _ h => List.mem_cons_of_mem _ h
theorem wc_RB_untell : Cond.code y_RB_untell k_RB_untell 4 (some .boolean) ∈ bigW := b_405
abbrev k_RB_suiting : ByteArray := prog_9_method_4_code
def y_RB_suiting : MethodName := ⟨R_RB, "suiting", "(II)I"⟩
def ws_RB_suiting : List Cond := .code y_RB_suiting k_RB_suiting 6 (some .int) :: bigW
theorem wb_RB_suiting : ∀ w ∈ bigW, w ∈ ws_RB_suiting := fun _ h => List.mem_cons_of_mem _ h
theorem wc_RB_suiting : Cond.code y_RB_suiting k_RB_suiting 6 (some .int) ∈ bigW := b_524
abbrev k_RB_answerOf : ByteArray := prog_9_method_5_code
def y_RB_answerOf : MethodName := ⟨R_RB, "answerOf", "(I)I"⟩
def ws_RB_answerOf : List Cond := .code y_RB_answerOf k_RB_answerOf 2 (some .int) :: bigW
theorem wb_RB_answerOf : ∀ w ∈ bigW, w ∈ ws_RB_answerOf := fun _ h => List.mem_cons_of_mem _ h
theorem wc_RB_answerOf : Cond.code y_RB_answerOf k_RB_answerOf 2 (some .int) ∈ bigW := b_533
abbrev k_RB_neededOf : ByteArray := prog_9_method_6_code
def y_RB_neededOf : MethodName := ⟨R_RB, "neededOf", "(I)I"⟩
def ws_RB_neededOf : List Cond := .code y_RB_neededOf k_RB_neededOf 4 (some .int) :: bigW
theorem wb_RB_neededOf : ∀ w ∈ bigW, w ∈ ws_RB_neededOf := fun _ h => List.mem_cons_of_mem _ h
theorem wc_RB_neededOf : Cond.code y_RB_neededOf k_RB_neededOf 4 (some .int) ∈ bigW := b_637
abbrev k_RB_lastOf : ByteArray := prog_9_method_7_code
def y_RB_lastOf : MethodName := ⟨R_RB, "lastOf", "(I)I"⟩
def ws_RB_lastOf : List Cond := .code y_RB_lastOf k_RB_lastOf 3 (some .int) :: bigW
theorem wb_RB_lastOf : ∀ w ∈ bigW, w ∈ ws_RB_lastOf := fun _ h => List.mem_cons_of_mem _ h
theorem wc_RB_lastOf : Cond.code y_RB_lastOf k_RB_lastOf 3 (some .int) ∈ bigW := b_647
abbrev k_RB_firstOf : ByteArray := prog_9_method_8_code
def y_RB_firstOf : MethodName := ⟨R_RB, "firstOf", "(I)I"⟩
def ws_RB_firstOf : List Cond := .code y_RB_firstOf k_RB_firstOf 3 (some .int) :: bigW
theorem wb_RB_firstOf : ∀ w ∈ bigW, w ∈ ws_RB_firstOf := fun _ h => List.mem_cons_of_mem _ h
theorem wc_RB_firstOf : Cond.code y_RB_firstOf k_RB_firstOf 3 (some .int) ∈ bigW := b_652
abbrev k_RD_init : ByteArray := prog_10_method_1_code
def y_RD_init : MethodName := ⟨R_RD, "<init>", "()V"⟩
def ws_RD_init : List Cond := .code y_RD_init k_RD_init 1 none :: bigW
theorem wb_RD_init : ∀ w ∈ bigW, w ∈ ws_RD_init := fun _ h => List.mem_cons_of_mem _ h
theorem wc_RD_init : Cond.code y_RD_init k_RD_init 1 none ∈ bigW := b_48
abbrev k_RD_reads : ByteArray := prog_10_method_2_code
def y_RD_reads : MethodName := ⟨R_RD, "reads", "(LRecordRights$Pad;)Z"⟩
def ws_RD_reads : List Cond := .code y_RD_reads k_RD_reads 3 (some .boolean) :: bigW
theorem wb_RD_reads : ∀ w ∈ bigW, w ∈ ws_RD_reads := fun _ h => List.mem_cons_of_mem _ h
theorem wc_RD_reads : Cond.code y_RD_reads k_RD_reads 3 (some .boolean) ∈ bigW := b_349
abbrev k_RD_takes : ByteArray := prog_10_method_3_code
def y_RD_takes : MethodName := ⟨R_RD, "takes", "(I)Z"⟩
def ws_RD_takes : List Cond := .code y_RD_takes k_RD_takes 2 (some .boolean) :: bigW
theorem wb_RD_takes : ∀ w ∈ bigW, w ∈ ws_RD_takes := fun _ h => List.mem_cons_of_mem _ h
theorem wc_RD_takes : Cond.code y_RD_takes k_RD_takes 2 (some .boolean) ∈ bigW := b_353
abbrev k_RD_takesAnswer : ByteArray := prog_10_method_4_code
def y_RD_takesAnswer : MethodName := ⟨R_RD, "takesAnswer", "(I)Z"⟩
def ws_RD_takesAnswer : List Cond := .code y_RD_takesAnswer k_RD_takesAnswer 2 (some .boolean) :: bigW
theorem wb_RD_takesAnswer : ∀ w ∈ bigW, w ∈ ws_RD_takesAnswer := fun _ h => List.mem_cons_of_mem _ h
theorem wc_RD_takesAnswer : Cond.code y_RD_takesAnswer k_RD_takesAnswer 2 (some .boolean) ∈ bigW := b_357
abbrev k_RD_takesLetter : ByteArray := prog_10_method_5_code
def y_RD_takesLetter : MethodName := ⟨R_RD, "takesLetter", "(I)Z"⟩
def ws_RD_takesLetter : List Cond := .code y_RD_takesLetter k_RD_takesLetter 2 (some .boolean) :: bigW
theorem wb_RD_takesLetter : ∀ w ∈ bigW, w ∈ ws_RD_takesLetter := fun _ h => List.mem_cons_of_mem _ h
theorem wc_RD_takesLetter : Cond.code y_RD_takesLetter k_RD_takesLetter 2 (some .boolean) ∈ bigW := b_361
abbrev k_RD_awaitsDigit : ByteArray := prog_10_method_6_code
def y_RD_awaitsDigit : MethodName := ⟨R_RD, "awaitsDigit", "(II)Z"⟩
def ws_RD_awaitsDigit : List Cond := .code y_RD_awaitsDigit k_RD_awaitsDigit 3 (some .boolean) :: bigW
theorem wb_RD_awaitsDigit : ∀ w ∈ bigW, w ∈ ws_RD_awaitsDigit := fun _ h => List.mem_cons_of_mem _ h
theorem wc_RD_awaitsDigit : Cond.code y_RD_awaitsDigit k_RD_awaitsDigit 3 (some .boolean) ∈ bigW := b_365
abbrev k_RD_takesDigit : ByteArray := prog_10_method_7_code
def y_RD_takesDigit : MethodName := ⟨R_RD, "takesDigit", "(I)Z"⟩
def ws_RD_takesDigit : List Cond := .code y_RD_takesDigit k_RD_takesDigit 2 (some .boolean) :: bigW
theorem wb_RD_takesDigit : ∀ w ∈ bigW, w ∈ ws_RD_takesDigit := fun _ h => List.mem_cons_of_mem _ h
theorem wc_RD_takesDigit : Cond.code y_RD_takesDigit k_RD_takesDigit 2 (some .boolean) ∈ bigW := b_373
abbrev k_RD_addCondition : ByteArray := prog_10_method_8_code
def y_RD_addCondition : MethodName := ⟨R_RD, "addCondition", "(I)V"⟩
def ws_RD_addCondition : List Cond := .code y_RD_addCondition k_RD_addCondition 2 none :: bigW
theorem wb_RD_addCondition : ∀ w ∈ bigW, w ∈ ws_RD_addCondition := fun _ h => List.mem_cons_of_mem _ h
theorem wc_RD_addCondition : Cond.code y_RD_addCondition k_RD_addCondition 2 none ∈ bigW := b_369
abbrev k_LW_unit : ByteArray := method_3_code
def y_LW_unit : MethodName := ⟨R_LW, "unit", "(LRecordRights;IIII[J)I"⟩
def ws_LW_unit : List Cond := (Jvm.Cond.codeWith ({ cls := "RecordRightsLaw", name := "unit", desc := "(LRecordRights;IIII[J)I" } : Jvm.MethodName) method_3_code (7 : Nat) (Option.some Jvm.ClassFile.FieldType.int) [((0 : Nat), (14 : Nat), (17 : Nat), (13 : Nat))]) :: bigW
theorem wb_LW_unit : ∀ w ∈ bigW, w ∈ ws_LW_unit := fun _ h => List.mem_cons_of_mem _ h
theorem wc_LW_unit : (Jvm.Cond.codeWith ({ cls := "RecordRightsLaw", name := "unit", desc := "(LRecordRights;IIII[J)I" } : Jvm.MethodName) method_3_code (7 : Nat) (Option.some Jvm.ClassFile.FieldType.int) [((0 : Nat), (14 : Nat), (17 : Nat), (13 : Nat))]) ∈ bigW := b_257
abbrev k_LW_rule : ByteArray := method_4_code
def y_LW_rule : MethodName := ⟨R_LW, "rule", "(LRecordRights;[J)I"⟩
def ws_LW_rule : List Cond := (Jvm.Cond.codeWith ({ cls := "RecordRightsLaw", name := "rule", desc := "(LRecordRights;[J)I" } : Jvm.MethodName) method_4_code (3 : Nat) (Option.some Jvm.ClassFile.FieldType.int) [((0 : Nat), (8 : Nat), (11 : Nat), (13 : Nat))]) :: bigW
theorem wb_LW_rule : ∀ w ∈ bigW, w ∈ ws_LW_rule := fun _ h => List.mem_cons_of_mem _ h
theorem wc_LW_rule : (Jvm.Cond.codeWith ({ cls := "RecordRightsLaw", name := "rule", desc := "(LRecordRights;[J)I" } : Jvm.MethodName) method_4_code (3 : Nat) (Option.some Jvm.ClassFile.FieldType.int) [((0 : Nat), (8 : Nat), (11 : Nat), (13 : Nat))]) ∈ bigW := b_340
abbrev k_LW_drop : ByteArray := method_5_code
def y_LW_drop : MethodName := ⟨R_LW, "drop", "(LRecordRights;I[J)I"⟩
def ws_LW_drop : List Cond := (Jvm.Cond.codeWith ({ cls := "RecordRightsLaw", name := "drop", desc := "(LRecordRights;I[J)I" } : Jvm.MethodName) method_5_code (4 : Nat) (Option.some Jvm.ClassFile.FieldType.int) [((0 : Nat), (16 : Nat), (19 : Nat), (23 : Nat))]) :: bigW
theorem wb_LW_drop : ∀ w ∈ bigW, w ∈ ws_LW_drop := fun _ h => List.mem_cons_of_mem _ h
theorem wc_LW_drop : (Jvm.Cond.codeWith ({ cls := "RecordRightsLaw", name := "drop", desc := "(LRecordRights;I[J)I" } : Jvm.MethodName) method_5_code (4 : Nat) (Option.some Jvm.ClassFile.FieldType.int) [((0 : Nat), (16 : Nat), (19 : Nat), (23 : Nat))]) ∈ bigW := b_380
abbrev k_LW_person : ByteArray := method_6_code
def y_LW_person : MethodName := ⟨R_LW, "person", "(LRecordRights;I[J)I"⟩
def ws_LW_person : List Cond := (Jvm.Cond.codeWith ({ cls := "RecordRightsLaw", name := "person", desc := "(LRecordRights;I[J)I" } : Jvm.MethodName) method_6_code (4 : Nat) (Option.some Jvm.ClassFile.FieldType.int) [((0 : Nat), (9 : Nat), (12 : Nat), (29 : Nat)), ((0 : Nat), (9 : Nat), (15 : Nat), (13 : Nat))]) :: bigW
theorem wb_LW_person : ∀ w ∈ bigW, w ∈ ws_LW_person := fun _ h => List.mem_cons_of_mem _ h
theorem wc_LW_person : (Jvm.Cond.codeWith ({ cls := "RecordRightsLaw", name := "person", desc := "(LRecordRights;I[J)I" } : Jvm.MethodName) method_6_code (4 : Nat) (Option.some Jvm.ClassFile.FieldType.int) [((0 : Nat), (9 : Nat), (12 : Nat), (29 : Nat)), ((0 : Nat), (9 : Nat), (15 : Nat), (13 : Nat))]) ∈ bigW := b_408
abbrev k_LW_record : ByteArray := method_7_code
def y_LW_record : MethodName := ⟨R_LW, "record", "(LRecordRights;II[J)I"⟩
def ws_LW_record : List Cond := (Jvm.Cond.codeWith ({ cls := "RecordRightsLaw", name := "record", desc := "(LRecordRights;II[J)I" } : Jvm.MethodName) method_7_code (5 : Nat) (Option.some Jvm.ClassFile.FieldType.int) [((0 : Nat), (10 : Nat), (13 : Nat), (29 : Nat)), ((0 : Nat), (10 : Nat), (17 : Nat), (13 : Nat))]) :: bigW
theorem wb_LW_record : ∀ w ∈ bigW, w ∈ ws_LW_record := fun _ h => List.mem_cons_of_mem _ h
theorem wc_LW_record : (Jvm.Cond.codeWith ({ cls := "RecordRightsLaw", name := "record", desc := "(LRecordRights;II[J)I" } : Jvm.MethodName) method_7_code (5 : Nat) (Option.some Jvm.ClassFile.FieldType.int) [((0 : Nat), (10 : Nat), (13 : Nat), (29 : Nat)), ((0 : Nat), (10 : Nat), (17 : Nat), (13 : Nat))]) ∈ bigW := b_437
abbrev k_LW_value : ByteArray := method_8_code
def y_LW_value : MethodName := ⟨R_LW, "value", "(LRecordRights;IIJ[J)I"⟩
def ws_LW_value : List Cond := (Jvm.Cond.codeWith ({ cls := "RecordRightsLaw", name := "value", desc := "(LRecordRights;IIJ[J)I" } : Jvm.MethodName) method_8_code (7 : Nat) (Option.some Jvm.ClassFile.FieldType.int) [((0 : Nat), (11 : Nat), (14 : Nat), (23 : Nat))]) :: bigW
theorem wb_LW_value : ∀ w ∈ bigW, w ∈ ws_LW_value := fun _ h => List.mem_cons_of_mem _ h
theorem wc_LW_value : (Jvm.Cond.codeWith ({ cls := "RecordRightsLaw", name := "value", desc := "(LRecordRights;IIJ[J)I" } : Jvm.MethodName) method_8_code (7 : Nat) (Option.some Jvm.ClassFile.FieldType.int) [((0 : Nat), (11 : Nat), (14 : Nat), (23 : Nat))]) ∈ bigW := b_451
abbrev k_LW_embargo : ByteArray := method_9_code
def y_LW_embargo : MethodName := ⟨R_LW, "embargo", "(LRecordRights;II[J)I"⟩
def ws_LW_embargo : List Cond := (Jvm.Cond.codeWith ({ cls := "RecordRightsLaw", name := "embargo", desc := "(LRecordRights;II[J)I" } : Jvm.MethodName) method_9_code (5 : Nat) (Option.some Jvm.ClassFile.FieldType.int) [((0 : Nat), (10 : Nat), (13 : Nat), (23 : Nat)), ((0 : Nat), (10 : Nat), (17 : Nat), (29 : Nat))]) :: bigW
theorem wb_LW_embargo : ∀ w ∈ bigW, w ∈ ws_LW_embargo := fun _ h => List.mem_cons_of_mem _ h
theorem wc_LW_embargo : (Jvm.Cond.codeWith ({ cls := "RecordRightsLaw", name := "embargo", desc := "(LRecordRights;II[J)I" } : Jvm.MethodName) method_9_code (5 : Nat) (Option.some Jvm.ClassFile.FieldType.int) [((0 : Nat), (10 : Nat), (13 : Nat), (23 : Nat)), ((0 : Nat), (10 : Nat), (17 : Nat), (29 : Nat))]) ∈ bigW := b_475
abbrev k_LW_agreement : ByteArray := method_10_code
def y_LW_agreement : MethodName := ⟨R_LW, "agreement", "(LRecordRights;IIII[J)I"⟩
def ws_LW_agreement : List Cond := (Jvm.Cond.codeWith ({ cls := "RecordRightsLaw", name := "agreement", desc := "(LRecordRights;IIII[J)I" } : Jvm.MethodName) method_10_code (7 : Nat) (Option.some Jvm.ClassFile.FieldType.int) [((0 : Nat), (14 : Nat), (17 : Nat), (23 : Nat)), ((0 : Nat), (14 : Nat), (21 : Nat), (29 : Nat)), ((0 : Nat), (14 : Nat), (25 : Nat), (13 : Nat))]) :: bigW
theorem wb_LW_agreement : ∀ w ∈ bigW, w ∈ ws_LW_agreement := fun _ h => List.mem_cons_of_mem _ h
theorem wc_LW_agreement : (Jvm.Cond.codeWith ({ cls := "RecordRightsLaw", name := "agreement", desc := "(LRecordRights;IIII[J)I" } : Jvm.MethodName) method_10_code (7 : Nat) (Option.some Jvm.ClassFile.FieldType.int) [((0 : Nat), (14 : Nat), (17 : Nat), (23 : Nat)), ((0 : Nat), (14 : Nat), (21 : Nat), (29 : Nat)), ((0 : Nat), (14 : Nat), (25 : Nat), (13 : Nat))]) ∈ bigW := b_487
abbrev k_LW_asks : ByteArray := method_11_code
def y_LW_asks : MethodName := ⟨R_LW, "asks", "(LRecordRights;IIIII[J)I"⟩
def ws_LW_asks : List Cond := (Jvm.Cond.codeWith ({ cls := "RecordRightsLaw", name := "asks", desc := "(LRecordRights;IIIII[J)I" } : Jvm.MethodName) method_11_code (8 : Nat) (Option.some Jvm.ClassFile.FieldType.int) [((0 : Nat), (16 : Nat), (19 : Nat), (23 : Nat)), ((0 : Nat), (16 : Nat), (23 : Nat), (29 : Nat))]) :: bigW
theorem wb_LW_asks : ∀ w ∈ bigW, w ∈ ws_LW_asks := fun _ h => List.mem_cons_of_mem _ h
theorem wc_LW_asks : (Jvm.Cond.codeWith ({ cls := "RecordRightsLaw", name := "asks", desc := "(LRecordRights;IIIII[J)I" } : Jvm.MethodName) method_11_code (8 : Nat) (Option.some Jvm.ClassFile.FieldType.int) [((0 : Nat), (16 : Nat), (19 : Nat), (23 : Nat)), ((0 : Nat), (16 : Nat), (23 : Nat), (29 : Nat))]) ∈ bigW := b_505
abbrev k_LW_masked : ByteArray := method_12_code
def y_LW_masked : MethodName := ⟨R_LW, "masked", "(LRecordRights;II[J)I"⟩
def ws_LW_masked : List Cond := (Jvm.Cond.codeWith ({ cls := "RecordRightsLaw", name := "masked", desc := "(LRecordRights;II[J)I" } : Jvm.MethodName) method_12_code (5 : Nat) (Option.some Jvm.ClassFile.FieldType.int) [((0 : Nat), (9 : Nat), (12 : Nat), (23 : Nat))]) :: bigW
theorem wb_LW_masked : ∀ w ∈ bigW, w ∈ ws_LW_masked := fun _ h => List.mem_cons_of_mem _ h
theorem wc_LW_masked : (Jvm.Cond.codeWith ({ cls := "RecordRightsLaw", name := "masked", desc := "(LRecordRights;II[J)I" } : Jvm.MethodName) method_12_code (5 : Nat) (Option.some Jvm.ClassFile.FieldType.int) [((0 : Nat), (9 : Nat), (12 : Nat), (23 : Nat))]) ∈ bigW := b_540
abbrev k_LW_look : ByteArray := method_13_code
def y_LW_look : MethodName := ⟨R_LW, "look", "(LRecordRights;II[J)I"⟩
def ws_LW_look : List Cond := (Jvm.Cond.codeWith ({ cls := "RecordRightsLaw", name := "look", desc := "(LRecordRights;II[J)I" } : Jvm.MethodName) method_13_code (5 : Nat) (Option.some Jvm.ClassFile.FieldType.int) [((0 : Nat), (10 : Nat), (13 : Nat), (23 : Nat))]) :: bigW
theorem wb_LW_look : ∀ w ∈ bigW, w ∈ ws_LW_look := fun _ h => List.mem_cons_of_mem _ h
theorem wc_LW_look : (Jvm.Cond.codeWith ({ cls := "RecordRightsLaw", name := "look", desc := "(LRecordRights;II[J)I" } : Jvm.MethodName) method_13_code (5 : Nat) (Option.some Jvm.ClassFile.FieldType.int) [((0 : Nat), (10 : Nat), (13 : Nat), (23 : Nat))]) ∈ bigW := b_549
abbrev k_LW_looked : ByteArray := method_14_code
def y_LW_looked : MethodName := ⟨R_LW, "looked", "(LRecordRights;II[J)I"⟩
def ws_LW_looked : List Cond := (Jvm.Cond.codeWith ({ cls := "RecordRightsLaw", name := "looked", desc := "(LRecordRights;II[J)I" } : Jvm.MethodName) method_14_code (5 : Nat) (Option.some Jvm.ClassFile.FieldType.int) [((0 : Nat), (10 : Nat), (13 : Nat), (23 : Nat))]) :: bigW
theorem wb_LW_looked : ∀ w ∈ bigW, w ∈ ws_LW_looked := fun _ h => List.mem_cons_of_mem _ h
theorem wc_LW_looked : (Jvm.Cond.codeWith ({ cls := "RecordRightsLaw", name := "looked", desc := "(LRecordRights;II[J)I" } : Jvm.MethodName) method_14_code (5 : Nat) (Option.some Jvm.ClassFile.FieldType.int) [((0 : Nat), (10 : Nat), (13 : Nat), (23 : Nat))]) ∈ bigW := b_562
abbrev k_LW_export : ByteArray := method_15_code
def y_LW_export : MethodName := ⟨R_LW, "export", "(LRecordRights;II[J)I"⟩
def ws_LW_export : List Cond := (Jvm.Cond.codeWith ({ cls := "RecordRightsLaw", name := "export", desc := "(LRecordRights;II[J)I" } : Jvm.MethodName) method_15_code (5 : Nat) (Option.some Jvm.ClassFile.FieldType.int) [((0 : Nat), (10 : Nat), (13 : Nat), (23 : Nat)), ((0 : Nat), (10 : Nat), (17 : Nat), (29 : Nat))]) :: bigW
theorem wb_LW_export : ∀ w ∈ bigW, w ∈ ws_LW_export := fun _ h => List.mem_cons_of_mem _ h
theorem wc_LW_export : (Jvm.Cond.codeWith ({ cls := "RecordRightsLaw", name := "export", desc := "(LRecordRights;II[J)I" } : Jvm.MethodName) method_15_code (5 : Nat) (Option.some Jvm.ClassFile.FieldType.int) [((0 : Nat), (10 : Nat), (13 : Nat), (23 : Nat)), ((0 : Nat), (10 : Nat), (17 : Nat), (29 : Nat))]) ∈ bigW := b_574
abbrev k_LW_exported : ByteArray := method_16_code
def y_LW_exported : MethodName := ⟨R_LW, "exported", "(LRecordRights;I[J)I"⟩
def ws_LW_exported : List Cond := (Jvm.Cond.codeWith ({ cls := "RecordRightsLaw", name := "exported", desc := "(LRecordRights;I[J)I" } : Jvm.MethodName) method_16_code (4 : Nat) (Option.some Jvm.ClassFile.FieldType.int) [((0 : Nat), (9 : Nat), (12 : Nat), (23 : Nat))]) :: bigW
theorem wb_LW_exported : ∀ w ∈ bigW, w ∈ ws_LW_exported := fun _ h => List.mem_cons_of_mem _ h
theorem wc_LW_exported : (Jvm.Cond.codeWith ({ cls := "RecordRightsLaw", name := "exported", desc := "(LRecordRights;I[J)I" } : Jvm.MethodName) method_16_code (4 : Nat) (Option.some Jvm.ClassFile.FieldType.int) [((0 : Nat), (9 : Nat), (12 : Nat), (23 : Nat))]) ∈ bigW := b_589
abbrev k_LW_request : ByteArray := method_17_code
def y_LW_request : MethodName := ⟨R_LW, "request", "(LRecordRights;III[J)I"⟩
def ws_LW_request : List Cond := (Jvm.Cond.codeWith ({ cls := "RecordRightsLaw", name := "request", desc := "(LRecordRights;III[J)I" } : Jvm.MethodName) method_17_code (6 : Nat) (Option.some Jvm.ClassFile.FieldType.int) [((0 : Nat), (12 : Nat), (15 : Nat), (23 : Nat)), ((0 : Nat), (12 : Nat), (19 : Nat), (29 : Nat)), ((0 : Nat), (12 : Nat), (23 : Nat), (13 : Nat))]) :: bigW
theorem wb_LW_request : ∀ w ∈ bigW, w ∈ ws_LW_request := fun _ h => List.mem_cons_of_mem _ h
theorem wc_LW_request : (Jvm.Cond.codeWith ({ cls := "RecordRightsLaw", name := "request", desc := "(LRecordRights;III[J)I" } : Jvm.MethodName) method_17_code (6 : Nat) (Option.some Jvm.ClassFile.FieldType.int) [((0 : Nat), (12 : Nat), (15 : Nat), (23 : Nat)), ((0 : Nat), (12 : Nat), (19 : Nat), (29 : Nat)), ((0 : Nat), (12 : Nat), (23 : Nat), (13 : Nat))]) ∈ bigW := b_597
abbrev k_LW_limit : ByteArray := method_18_code
def y_LW_limit : MethodName := ⟨R_LW, "limit", "(LRecordRights;II[J)I"⟩
def ws_LW_limit : List Cond := (Jvm.Cond.codeWith ({ cls := "RecordRightsLaw", name := "limit", desc := "(LRecordRights;II[J)I" } : Jvm.MethodName) method_18_code (5 : Nat) (Option.some Jvm.ClassFile.FieldType.int) [((0 : Nat), (10 : Nat), (13 : Nat), (23 : Nat)), ((0 : Nat), (10 : Nat), (17 : Nat), (29 : Nat))]) :: bigW
theorem wb_LW_limit : ∀ w ∈ bigW, w ∈ ws_LW_limit := fun _ h => List.mem_cons_of_mem _ h
theorem wc_LW_limit : (Jvm.Cond.codeWith ({ cls := "RecordRightsLaw", name := "limit", desc := "(LRecordRights;II[J)I" } : Jvm.MethodName) method_18_code (5 : Nat) (Option.some Jvm.ClassFile.FieldType.int) [((0 : Nat), (10 : Nat), (13 : Nat), (23 : Nat)), ((0 : Nat), (10 : Nat), (17 : Nat), (29 : Nat))]) ∈ bigW := b_613
abbrev k_LW_idle : ByteArray := method_19_code
def y_LW_idle : MethodName := ⟨R_LW, "idle", "(LRecordRights;I[J)I"⟩
def ws_LW_idle : List Cond := (Jvm.Cond.codeWith ({ cls := "RecordRightsLaw", name := "idle", desc := "(LRecordRights;I[J)I" } : Jvm.MethodName) method_19_code (4 : Nat) (Option.some Jvm.ClassFile.FieldType.int) [((0 : Nat), (9 : Nat), (12 : Nat), (29 : Nat))]) :: bigW
theorem wb_LW_idle : ∀ w ∈ bigW, w ∈ ws_LW_idle := fun _ h => List.mem_cons_of_mem _ h
theorem wc_LW_idle : (Jvm.Cond.codeWith ({ cls := "RecordRightsLaw", name := "idle", desc := "(LRecordRights;I[J)I" } : Jvm.MethodName) method_19_code (4 : Nat) (Option.some Jvm.ClassFile.FieldType.int) [((0 : Nat), (9 : Nat), (12 : Nat), (29 : Nat))]) ∈ bigW := b_621
abbrev k_LW_count : ByteArray := method_20_code
def y_LW_count : MethodName := ⟨R_LW, "count", "(LRecordRights;I[J)I"⟩
def ws_LW_count : List Cond := (Jvm.Cond.codeWith ({ cls := "RecordRightsLaw", name := "count", desc := "(LRecordRights;I[J)I" } : Jvm.MethodName) method_20_code (4 : Nat) (Option.some Jvm.ClassFile.FieldType.int) [((0 : Nat), (9 : Nat), (12 : Nat), (29 : Nat))]) :: bigW
theorem wb_LW_count : ∀ w ∈ bigW, w ∈ ws_LW_count := fun _ h => List.mem_cons_of_mem _ h
theorem wc_LW_count : (Jvm.Cond.codeWith ({ cls := "RecordRightsLaw", name := "count", desc := "(LRecordRights;I[J)I" } : Jvm.MethodName) method_20_code (4 : Nat) (Option.some Jvm.ClassFile.FieldType.int) [((0 : Nat), (9 : Nat), (12 : Nat), (29 : Nat))]) ∈ bigW := b_655
abbrev k_JI_bitCount : ByteArray := prog_16_method_49_code
def y_JI_bitCount : MethodName := ⟨R_JI, "bitCount", "(I)I"⟩
def ws_JI_bitCount : List Cond := .code y_JI_bitCount k_JI_bitCount 1 (some .int) :: bigW
theorem wb_JI_bitCount : ∀ w ∈ bigW, w ∈ ws_JI_bitCount := fun _ h => List.mem_cons_of_mem _ h
theorem wc_JI_bitCount : Cond.code y_JI_bitCount k_JI_bitCount 1 (some .int) ∈ bigW := b_640
