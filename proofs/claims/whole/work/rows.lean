section
-- ===== PART A: goes FIRST, ahead of the names: the tables' words, and 'selects' of the private methods out of them =====
/-- a private method of a class that the tables say can be made, by its rows of tables_1 -/
def lw_okq (q : MethodName × Nat) : Prop := (q.1.cls ≠ "java/lang/invoke/MethodHandle" ∧ q.1.cls ≠ "java/lang/invoke/VarHandle") ∧ Cond.instantiable q.1.cls q.2 ∈ tables_1 ∧ Cond.privateMethod q.1 ∈ tables_1 ∧ Cond.instanceMethod q.1 ∈ tables_1
theorem lw_p0 : lw_okq (⟨"ShareGrid", "fileUnder", "(I)I"⟩, 12) := ⟨⟨by decide +kernel, by decide +kernel⟩, List.mem_of_getElem? (i := 10) (by decide +kernel), List.mem_of_getElem? (i := 167) (by decide +kernel), List.mem_of_getElem? (i := 168) (by decide +kernel)⟩
theorem lw_p1 : lw_okq (⟨"ShareGrid", "isWordPlace", "(I)Z"⟩, 12) := ⟨⟨by decide +kernel, by decide +kernel⟩, List.mem_of_getElem? (i := 10) (by decide +kernel), List.mem_of_getElem? (i := 175) (by decide +kernel), List.mem_of_getElem? (i := 176) (by decide +kernel)⟩
theorem lw_p2 : lw_okq (⟨"ShareGrid", "serversUp", "()I"⟩, 12) := ⟨⟨by decide +kernel, by decide +kernel⟩, List.mem_of_getElem? (i := 10) (by decide +kernel), List.mem_of_getElem? (i := 183) (by decide +kernel), List.mem_of_getElem? (i := 184) (by decide +kernel)⟩
theorem lw_p3 : lw_okq (⟨"ShareGrid", "makeFreshRecord", "(II)I"⟩, 12) := ⟨⟨by decide +kernel, by decide +kernel⟩, List.mem_of_getElem? (i := 10) (by decide +kernel), List.mem_of_getElem? (i := 190) (by decide +kernel), List.mem_of_getElem? (i := 191) (by decide +kernel)⟩
theorem lw_p4 : lw_okq (⟨"ShareGrid$Coder", "shareAt", "(I)I"⟩, 3) := ⟨⟨by decide +kernel, by decide +kernel⟩, List.mem_of_getElem? (i := 91) (by decide +kernel), List.mem_of_getElem? (i := 194) (by decide +kernel), List.mem_of_getElem? (i := 195) (by decide +kernel)⟩
theorem lw_p5 : lw_okq (⟨"ShareGrid$ServerRecord", "rootOfFingerprints", "()I"⟩, 5) := ⟨⟨by decide +kernel, by decide +kernel⟩, List.mem_of_getElem? (i := 35) (by decide +kernel), List.mem_of_getElem? (i := 212) (by decide +kernel), List.mem_of_getElem? (i := 213) (by decide +kernel)⟩
theorem lw_p6 : lw_okq (⟨"ShareGrid$StoredFile", "noteNext", "(II)V"⟩, 6) := ⟨⟨by decide +kernel, by decide +kernel⟩, List.mem_of_getElem? (i := 28) (by decide +kernel), List.mem_of_getElem? (i := 217) (by decide +kernel), List.mem_of_getElem? (i := 218) (by decide +kernel)⟩
theorem lw_p7 : lw_okq (⟨"ShareGrid", "takesRecords", "(I)Z"⟩, 12) := ⟨⟨by decide +kernel, by decide +kernel⟩, List.mem_of_getElem? (i := 10) (by decide +kernel), List.mem_of_getElem? (i := 221) (by decide +kernel), List.mem_of_getElem? (i := 222) (by decide +kernel)⟩
theorem lw_p8 : lw_okq (⟨"ShareGrid", "giveFreshRecord", "(LShareGrid$StoredFile;I)V"⟩, 12) := ⟨⟨by decide +kernel, by decide +kernel⟩, List.mem_of_getElem? (i := 10) (by decide +kernel), List.mem_of_getElem? (i := 225) (by decide +kernel), List.mem_of_getElem? (i := 226) (by decide +kernel)⟩
theorem lw_p9 : lw_okq (⟨"ShareGrid$ServerRecord", "copyFrom", "(LShareGrid$ServerRecord;)V"⟩, 5) := ⟨⟨by decide +kernel, by decide +kernel⟩, List.mem_of_getElem? (i := 35) (by decide +kernel), List.mem_of_getElem? (i := 229) (by decide +kernel), List.mem_of_getElem? (i := 230) (by decide +kernel)⟩
theorem lw_p10 : lw_okq (⟨"ShareGrid", "bestNumber", "(LShareGrid$StoredFile;)I"⟩, 12) := ⟨⟨by decide +kernel, by decide +kernel⟩, List.mem_of_getElem? (i := 10) (by decide +kernel), List.mem_of_getElem? (i := 240) (by decide +kernel), List.mem_of_getElem? (i := 241) (by decide +kernel)⟩
theorem lw_p11 : lw_okq (⟨"ShareGrid$StoredFile", "isSoundAt", "(I)Z"⟩, 6) := ⟨⟨by decide +kernel, by decide +kernel⟩, List.mem_of_getElem? (i := 28) (by decide +kernel), List.mem_of_getElem? (i := 247) (by decide +kernel), List.mem_of_getElem? (i := 248) (by decide +kernel)⟩
theorem lw_p12 : lw_okq (⟨"ShareGrid", "decodeVersion", "(LShareGrid$StoredFile;I)I"⟩, 12) := ⟨⟨by decide +kernel, by decide +kernel⟩, List.mem_of_getElem? (i := 10) (by decide +kernel), List.mem_of_getElem? (i := 253) (by decide +kernel), List.mem_of_getElem? (i := 254) (by decide +kernel)⟩
theorem lw_p13 : lw_okq (⟨"ShareGrid$StoredFile", "isSoundWith", "(II)Z"⟩, 6) := ⟨⟨by decide +kernel, by decide +kernel⟩, List.mem_of_getElem? (i := 28) (by decide +kernel), List.mem_of_getElem? (i := 257) (by decide +kernel), List.mem_of_getElem? (i := 258) (by decide +kernel)⟩
theorem lw_p14 : lw_okq (⟨"ShareGrid$Coder", "decodeShares", "()V"⟩, 3) := ⟨⟨by decide +kernel, by decide +kernel⟩, List.mem_of_getElem? (i := 91) (by decide +kernel), List.mem_of_getElem? (i := 263) (by decide +kernel), List.mem_of_getElem? (i := 264) (by decide +kernel)⟩
theorem lw_p15 : lw_okq (⟨"ShareGrid$Coder", "sharesToDifferences", "()V"⟩, 3) := ⟨⟨by decide +kernel, by decide +kernel⟩, List.mem_of_getElem? (i := 91) (by decide +kernel), List.mem_of_getElem? (i := 267) (by decide +kernel), List.mem_of_getElem? (i := 268) (by decide +kernel)⟩
def lw_privs_1 : List (MethodName × Nat) := [(⟨"ShareGrid", "fileUnder", "(I)I"⟩, 12), (⟨"ShareGrid", "isWordPlace", "(I)Z"⟩, 12), (⟨"ShareGrid", "serversUp", "()I"⟩, 12), (⟨"ShareGrid", "makeFreshRecord", "(II)I"⟩, 12), (⟨"ShareGrid$Coder", "shareAt", "(I)I"⟩, 3), (⟨"ShareGrid$ServerRecord", "rootOfFingerprints", "()I"⟩, 5), (⟨"ShareGrid$StoredFile", "noteNext", "(II)V"⟩, 6), (⟨"ShareGrid", "takesRecords", "(I)Z"⟩, 12), (⟨"ShareGrid", "giveFreshRecord", "(LShareGrid$StoredFile;I)V"⟩, 12), (⟨"ShareGrid$ServerRecord", "copyFrom", "(LShareGrid$ServerRecord;)V"⟩, 5), (⟨"ShareGrid", "bestNumber", "(LShareGrid$StoredFile;)I"⟩, 12), (⟨"ShareGrid$StoredFile", "isSoundAt", "(I)Z"⟩, 6), (⟨"ShareGrid", "decodeVersion", "(LShareGrid$StoredFile;I)I"⟩, 12), (⟨"ShareGrid$StoredFile", "isSoundWith", "(II)Z"⟩, 6), (⟨"ShareGrid$Coder", "decodeShares", "()V"⟩, 3), (⟨"ShareGrid$Coder", "sharesToDifferences", "()V"⟩, 3)]
theorem lw_r1 : ∀ q ∈ lw_privs_1, lw_okq q := List.forall_mem_cons.mpr ⟨lw_p0, List.forall_mem_cons.mpr ⟨lw_p1, List.forall_mem_cons.mpr ⟨lw_p2, List.forall_mem_cons.mpr ⟨lw_p3, List.forall_mem_cons.mpr ⟨lw_p4, List.forall_mem_cons.mpr ⟨lw_p5, List.forall_mem_cons.mpr ⟨lw_p6, List.forall_mem_cons.mpr ⟨lw_p7, List.forall_mem_cons.mpr ⟨lw_p8, List.forall_mem_cons.mpr ⟨lw_p9, List.forall_mem_cons.mpr ⟨lw_p10, List.forall_mem_cons.mpr ⟨lw_p11, List.forall_mem_cons.mpr ⟨lw_p12, List.forall_mem_cons.mpr ⟨lw_p13, List.forall_mem_cons.mpr ⟨lw_p14, List.forall_mem_cons.mpr ⟨lw_p15, fun _ h => absurd h List.not_mem_nil⟩⟩⟩⟩⟩⟩⟩⟩⟩⟩⟩⟩⟩⟩⟩⟩
theorem lw_p16 : lw_okq (⟨"ShareGrid$Coder", "differencesToCipherWords", "()V"⟩, 3) := ⟨⟨by decide +kernel, by decide +kernel⟩, List.mem_of_getElem? (i := 91) (by decide +kernel), List.mem_of_getElem? (i := 275) (by decide +kernel), List.mem_of_getElem? (i := 276) (by decide +kernel)⟩
theorem lw_p17 : lw_okq (⟨"ShareGrid", "isPlace", "(I)Z"⟩, 12) := ⟨⟨by decide +kernel, by decide +kernel⟩, List.mem_of_getElem? (i := 10) (by decide +kernel), List.mem_of_getElem? (i := 303) (by decide +kernel), List.mem_of_getElem? (i := 304) (by decide +kernel)⟩
theorem lw_p18 : lw_okq (⟨"ShareGrid", "isFile", "(I)Z"⟩, 12) := ⟨⟨by decide +kernel, by decide +kernel⟩, List.mem_of_getElem? (i := 10) (by decide +kernel), List.mem_of_getElem? (i := 311) (by decide +kernel), List.mem_of_getElem? (i := 312) (by decide +kernel)⟩
theorem lw_p19 : lw_okq (⟨"ShareGrid", "greatestNumber", "(I)I"⟩, 12) := ⟨⟨by decide +kernel, by decide +kernel⟩, List.mem_of_getElem? (i := 10) (by decide +kernel), List.mem_of_getElem? (i := 342) (by decide +kernel), List.mem_of_getElem? (i := 343) (by decide +kernel)⟩
theorem lw_p20 : lw_okq (⟨"ShareGridModel", "mix", "(II)I"⟩, 17) := ⟨⟨by decide +kernel, by decide +kernel⟩, List.mem_of_getElem? (i := 349) (by decide +kernel), List.mem_of_getElem? (i := 411) (by decide +kernel), List.mem_of_getElem? (i := 412) (by decide +kernel)⟩
theorem lw_p21 : lw_okq (⟨"ShareGridModel", "fileOf", "(I)I"⟩, 17) := ⟨⟨by decide +kernel, by decide +kernel⟩, List.mem_of_getElem? (i := 349) (by decide +kernel), List.mem_of_getElem? (i := 422) (by decide +kernel), List.mem_of_getElem? (i := 423) (by decide +kernel)⟩
theorem lw_p22 : lw_okq (⟨"ShareGridModel", "upCount", "()I"⟩, 17) := ⟨⟨by decide +kernel, by decide +kernel⟩, List.mem_of_getElem? (i := 349) (by decide +kernel), List.mem_of_getElem? (i := 434) (by decide +kernel), List.mem_of_getElem? (i := 435) (by decide +kernel)⟩
theorem lw_p23 : lw_okq (⟨"ShareGridModel", "shareAt", "(I)I"⟩, 17) := ⟨⟨by decide +kernel, by decide +kernel⟩, List.mem_of_getElem? (i := 349) (by decide +kernel), List.mem_of_getElem? (i := 438) (by decide +kernel), List.mem_of_getElem? (i := 439) (by decide +kernel)⟩
theorem lw_p24 : lw_okq (⟨"ShareGridModel", "power", "(II)I"⟩, 17) := ⟨⟨by decide +kernel, by decide +kernel⟩, List.mem_of_getElem? (i := 349) (by decide +kernel), List.mem_of_getElem? (i := 442) (by decide +kernel), List.mem_of_getElem? (i := 443) (by decide +kernel)⟩
theorem lw_p25 : lw_okq (⟨"ShareGridModel", "product", "(II)I"⟩, 17) := ⟨⟨by decide +kernel, by decide +kernel⟩, List.mem_of_getElem? (i := 349) (by decide +kernel), List.mem_of_getElem? (i := 446) (by decide +kernel), List.mem_of_getElem? (i := 447) (by decide +kernel)⟩
theorem lw_p26 : lw_okq (⟨"ShareGridModel", "scaled", "(II)I"⟩, 17) := ⟨⟨by decide +kernel, by decide +kernel⟩, List.mem_of_getElem? (i := 349) (by decide +kernel), List.mem_of_getElem? (i := 450) (by decide +kernel), List.mem_of_getElem? (i := 451) (by decide +kernel)⟩
theorem lw_p27 : lw_okq (⟨"ShareGridModel", "keep", "(IIII)V"⟩, 17) := ⟨⟨by decide +kernel, by decide +kernel⟩, List.mem_of_getElem? (i := 349) (by decide +kernel), List.mem_of_getElem? (i := 454) (by decide +kernel), List.mem_of_getElem? (i := 455) (by decide +kernel)⟩
theorem lw_p28 : lw_okq (⟨"ShareGridModel", "bestOf", "(I)I"⟩, 17) := ⟨⟨by decide +kernel, by decide +kernel⟩, List.mem_of_getElem? (i := 349) (by decide +kernel), List.mem_of_getElem? (i := 462) (by decide +kernel), List.mem_of_getElem? (i := 463) (by decide +kernel)⟩
theorem lw_p29 : lw_okq (⟨"ShareGridModel", "serves", "(III)Z"⟩, 17) := ⟨⟨by decide +kernel, by decide +kernel⟩, List.mem_of_getElem? (i := 349) (by decide +kernel), List.mem_of_getElem? (i := 466) (by decide +kernel), List.mem_of_getElem? (i := 467) (by decide +kernel)⟩
theorem lw_p30 : lw_okq (⟨"ShareGridModel", "isSound", "(II)Z"⟩, 17) := ⟨⟨by decide +kernel, by decide +kernel⟩, List.mem_of_getElem? (i := 349) (by decide +kernel), List.mem_of_getElem? (i := 470) (by decide +kernel), List.mem_of_getElem? (i := 471) (by decide +kernel)⟩
theorem lw_p31 : lw_okq (⟨"ShareGridModel", "rootOf", "(II)I"⟩, 17) := ⟨⟨by decide +kernel, by decide +kernel⟩, List.mem_of_getElem? (i := 349) (by decide +kernel), List.mem_of_getElem? (i := 474) (by decide +kernel), List.mem_of_getElem? (i := 475) (by decide +kernel)⟩
def lw_privs_2 : List (MethodName × Nat) := [(⟨"ShareGrid$Coder", "differencesToCipherWords", "()V"⟩, 3), (⟨"ShareGrid", "isPlace", "(I)Z"⟩, 12), (⟨"ShareGrid", "isFile", "(I)Z"⟩, 12), (⟨"ShareGrid", "greatestNumber", "(I)I"⟩, 12), (⟨"ShareGridModel", "mix", "(II)I"⟩, 17), (⟨"ShareGridModel", "fileOf", "(I)I"⟩, 17), (⟨"ShareGridModel", "upCount", "()I"⟩, 17), (⟨"ShareGridModel", "shareAt", "(I)I"⟩, 17), (⟨"ShareGridModel", "power", "(II)I"⟩, 17), (⟨"ShareGridModel", "product", "(II)I"⟩, 17), (⟨"ShareGridModel", "scaled", "(II)I"⟩, 17), (⟨"ShareGridModel", "keep", "(IIII)V"⟩, 17), (⟨"ShareGridModel", "bestOf", "(I)I"⟩, 17), (⟨"ShareGridModel", "serves", "(III)Z"⟩, 17), (⟨"ShareGridModel", "isSound", "(II)Z"⟩, 17), (⟨"ShareGridModel", "rootOf", "(II)I"⟩, 17)]
theorem lw_r2 : ∀ q ∈ lw_privs_2, lw_okq q := List.forall_mem_cons.mpr ⟨lw_p16, List.forall_mem_cons.mpr ⟨lw_p17, List.forall_mem_cons.mpr ⟨lw_p18, List.forall_mem_cons.mpr ⟨lw_p19, List.forall_mem_cons.mpr ⟨lw_p20, List.forall_mem_cons.mpr ⟨lw_p21, List.forall_mem_cons.mpr ⟨lw_p22, List.forall_mem_cons.mpr ⟨lw_p23, List.forall_mem_cons.mpr ⟨lw_p24, List.forall_mem_cons.mpr ⟨lw_p25, List.forall_mem_cons.mpr ⟨lw_p26, List.forall_mem_cons.mpr ⟨lw_p27, List.forall_mem_cons.mpr ⟨lw_p28, List.forall_mem_cons.mpr ⟨lw_p29, List.forall_mem_cons.mpr ⟨lw_p30, List.forall_mem_cons.mpr ⟨lw_p31, fun _ h => absurd h List.not_mem_nil⟩⟩⟩⟩⟩⟩⟩⟩⟩⟩⟩⟩⟩⟩⟩⟩
theorem lw_p32 : lw_okq (⟨"ShareGridModel", "decode", "(II)V"⟩, 17) := ⟨⟨by decide +kernel, by decide +kernel⟩, List.mem_of_getElem? (i := 349) (by decide +kernel), List.mem_of_getElem? (i := 478) (by decide +kernel), List.mem_of_getElem? (i := 479) (by decide +kernel)⟩
theorem lw_p33 : lw_okq (⟨"ShareGridModel", "subtract", "(III)V"⟩, 17) := ⟨⟨by decide +kernel, by decide +kernel⟩, List.mem_of_getElem? (i := 349) (by decide +kernel), List.mem_of_getElem? (i := 482) (by decide +kernel), List.mem_of_getElem? (i := 483) (by decide +kernel)⟩
theorem lw_p34 : lw_okq (⟨"ShareGridModel", "copyRow", "(II)V"⟩, 17) := ⟨⟨by decide +kernel, by decide +kernel⟩, List.mem_of_getElem? (i := 349) (by decide +kernel), List.mem_of_getElem? (i := 503) (by decide +kernel), List.mem_of_getElem? (i := 504) (by decide +kernel)⟩
theorem lw_p35 : lw_okq (⟨"ShareGridModel", "bad", "(II)Z"⟩, 17) := ⟨⟨by decide +kernel, by decide +kernel⟩, List.mem_of_getElem? (i := 349) (by decide +kernel), List.mem_of_getElem? (i := 515) (by decide +kernel), List.mem_of_getElem? (i := 516) (by decide +kernel)⟩
def lw_privs_3 : List (MethodName × Nat) := [(⟨"ShareGridModel", "decode", "(II)V"⟩, 17), (⟨"ShareGridModel", "subtract", "(III)V"⟩, 17), (⟨"ShareGridModel", "copyRow", "(II)V"⟩, 17), (⟨"ShareGridModel", "bad", "(II)Z"⟩, 17)]
theorem lw_r3 : ∀ q ∈ lw_privs_3, lw_okq q := List.forall_mem_cons.mpr ⟨lw_p32, List.forall_mem_cons.mpr ⟨lw_p33, List.forall_mem_cons.mpr ⟨lw_p34, List.forall_mem_cons.mpr ⟨lw_p35, fun _ h => absurd h List.not_mem_nil⟩⟩⟩⟩
def lw_privs : List (MethodName × Nat) := lw_privs_1 ++ (lw_privs_2 ++ (lw_privs_3))
def lw_tbl : List Cond := k2_sels lw_privs ++ tables_1
theorem lw_privs_ok : ∀ q ∈ lw_privs, lw_okq q := by
  show ∀ q ∈ lw_privs_1 ++ (lw_privs_2 ++ (lw_privs_3)), lw_okq q
  exact List.forall_mem_append.mpr ⟨lw_r1, List.forall_mem_append.mpr ⟨lw_r2, lw_r3⟩⟩
-- ===== end of PART A; then your names; then what follows =====
end
section
def R_C : String := "ShareGrid$Coder"
def F_C : u_T := fun k => match k with
  | 0 => ("ShareGrid$Coder", "needed", "I", true)
  | 1 => ("ShareGrid$Coder", "cipherWords", "[I", true)
  | _ => ("ShareGrid$Coder", "points", "[I", true)
def t_C : Nat → FieldType := fun k => match k with
  | 0 => .int
  | 1 => .array .int
  | _ => .array .int
theorem n_C : ∀ a, a < 3 → ∀ b, b < 3 → a ≠ b → (F_C a).2.1 ≠ (F_C b).2.1 := by decide +kernel
theorem t_C_ok : ∀ k, k < 3 → parseFieldDescriptor (F_C k).2.2.1 = some (t_C k) := by decide +kernel
def R_R : String := "ShareGrid$ServerRecord"
def F_R : u_T := fun k => match k with
  | 0 => ("ShareGrid$ServerRecord", "fingerprints", "[I", true)
  | 1 => ("ShareGrid$ServerRecord", "held", "Z", false)
  | 2 => ("ShareGrid$ServerRecord", "share", "I", false)
  | 3 => ("ShareGrid$ServerRecord", "number", "I", false)
  | _ => ("ShareGrid$ServerRecord", "seal", "I", false)
def t_R : Nat → FieldType := fun k => match k with
  | 0 => .array .int
  | 1 => .boolean
  | 2 => .int
  | 3 => .int
  | _ => .int
theorem n_R : ∀ a, a < 5 → ∀ b, b < 5 → a ≠ b → (F_R a).2.1 ≠ (F_R b).2.1 := by decide +kernel
theorem t_R_ok : ∀ k, k < 5 → parseFieldDescriptor (F_R k).2.2.1 = some (t_R k) := by decide +kernel
def R_F : String := "ShareGrid$StoredFile"
def F_F : u_T := fun k => match k with
  | 0 => ("ShareGrid$StoredFile", "records", "[LShareGrid$ServerRecord;", true)
  | 1 => ("ShareGrid$StoredFile", "pictures", "[LShareGrid$ServerRecord;", true)
  | 2 => ("ShareGrid$StoredFile", "notedRoots", "[I", true)
  | 3 => ("ShareGrid$StoredFile", "notedSeals", "[I", true)
  | 4 => ("ShareGrid$StoredFile", "verifyKey", "I", false)
  | _ => ("ShareGrid$StoredFile", "written", "I", false)
def t_F : Nat → FieldType := fun k => match k with
  | 0 => .array (.object "ShareGrid$ServerRecord")
  | 1 => .array (.object "ShareGrid$ServerRecord")
  | 2 => .array .int
  | 3 => .array .int
  | 4 => .int
  | _ => .int
theorem n_F : ∀ a, a < 6 → ∀ b, b < 6 → a ≠ b → (F_F a).2.1 ≠ (F_F b).2.1 := by decide +kernel
theorem t_F_ok : ∀ k, k < 6 → parseFieldDescriptor (F_F k).2.2.1 = some (t_F k) := by decide +kernel
def R_G : String := "ShareGrid"
def F_G : u_T := fun k => match k with
  | 0 => ("ShareGrid", "needed", "I", true)
  | 1 => ("ShareGrid", "servers", "I", true)
  | 2 => ("ShareGrid", "up", "[Z", true)
  | 3 => ("ShareGrid", "stuck", "[Z", true)
  | 4 => ("ShareGrid", "files", "[LShareGrid$StoredFile;", true)
  | 5 => ("ShareGrid", "draftWords", "[I", true)
  | 6 => ("ShareGrid", "readWords", "[I", true)
  | 7 => ("ShareGrid", "coder", "LShareGrid$Coder;", true)
  | 8 => ("ShareGrid", "fresh", "LShareGrid$ServerRecord;", true)
  | 9 => ("ShareGrid", "seenOfNumber", "[I", true)
  | 10 => ("ShareGrid", "fileCount", "I", false)
  | _ => ("ShareGrid", "hasRead", "Z", false)
def t_G : Nat → FieldType := fun k => match k with
  | 0 => .int
  | 1 => .int
  | 2 => .array .boolean
  | 3 => .array .boolean
  | 4 => .array (.object "ShareGrid$StoredFile")
  | 5 => .array .int
  | 6 => .array .int
  | 7 => .object "ShareGrid$Coder"
  | 8 => .object "ShareGrid$ServerRecord"
  | 9 => .array .int
  | 10 => .int
  | _ => .boolean
theorem n_G : ∀ a, a < 12 → ∀ b, b < 12 → a ≠ b → (F_G a).2.1 ≠ (F_G b).2.1 := by decide +kernel
theorem t_G_ok : ∀ k, k < 12 → parseFieldDescriptor (F_G k).2.2.1 = some (t_G k) := by decide +kernel
def R_M : String := "ShareGridModel"
def F_M : u_T := fun k => match k with
  | 0 => ("ShareGridModel", "needed", "I", true)
  | 1 => ("ShareGridModel", "servers", "I", true)
  | 2 => ("ShareGridModel", "up", "[Z", true)
  | 3 => ("ShareGridModel", "stuck", "[Z", true)
  | 4 => ("ShareGridModel", "verify", "[I", true)
  | 5 => ("ShareGridModel", "written", "[I", true)
  | 6 => ("ShareGridModel", "files", "I", false)
  | 7 => ("ShareGridModel", "roots", "[I", true)
  | 8 => ("ShareGridModel", "seals", "[I", true)
  | 9 => ("ShareGridModel", "row", "[I", true)
  | 10 => ("ShareGridModel", "there", "[Z", true)
  | 11 => ("ShareGridModel", "draft", "[I", true)
  | 12 => ("ShareGridModel", "words", "[I", true)
  | 13 => ("ShareGridModel", "hasRead", "Z", false)
  | 14 => ("ShareGridModel", "cipher", "[I", true)
  | 15 => ("ShareGridModel", "factor", "[I", true)
  | _ => ("ShareGridModel", "right", "[I", true)
def t_M : Nat → FieldType := fun k => match k with
  | 0 => .int
  | 1 => .int
  | 2 => .array .boolean
  | 3 => .array .boolean
  | 4 => .array .int
  | 5 => .array .int
  | 6 => .int
  | 7 => .array .int
  | 8 => .array .int
  | 9 => .array .int
  | 10 => .array .boolean
  | 11 => .array .int
  | 12 => .array .int
  | 13 => .boolean
  | 14 => .array .int
  | 15 => .array .int
  | _ => .array .int
theorem n_M : ∀ a, a < 17 → ∀ b, b < 17 → a ≠ b → (F_M a).2.1 ≠ (F_M b).2.1 := by decide +kernel
theorem t_M_ok : ∀ k, k < 17 → parseFieldDescriptor (F_M k).2.2.1 = some (t_M k) := by decide +kernel
abbrev classes : List vw_C := [(R_C, F_C, 3), (R_R, F_R, 5), (R_F, F_F, 6), (R_G, F_G, 12), (R_M, F_M, 17)]
abbrev b_G_init : ByteArray := prog_1_method_1_code
def y_G_init : MethodName := ⟨"ShareGrid", "<init>", "(II)V"⟩
abbrev b_G_key : ByteArray := prog_1_method_2_code
def y_G_key : MethodName := ⟨"ShareGrid", "key", "(II)I"⟩
abbrev b_G_create : ByteArray := prog_1_method_3_code
def y_G_create : MethodName := ⟨"ShareGrid", "create", "(I)I"⟩
abbrev b_G_draft : ByteArray := prog_1_method_4_code
def y_G_draft : MethodName := ⟨"ShareGrid", "draft", "(II)I"⟩
abbrev b_G_write : ByteArray := prog_1_method_5_code
def y_G_write : MethodName := ⟨"ShareGrid", "write", "(I)I"⟩
abbrev b_G_read : ByteArray := prog_1_method_6_code
def y_G_read : MethodName := ⟨"ShareGrid", "read", "(I)I"⟩
abbrev b_G_word : ByteArray := prog_1_method_7_code
def y_G_word : MethodName := ⟨"ShareGrid", "word", "(I)J"⟩
abbrev b_G_sound : ByteArray := prog_1_method_8_code
def y_G_sound : MethodName := ⟨"ShareGrid", "sound", "(I)I"⟩
abbrev b_G_best : ByteArray := prog_1_method_9_code
def y_G_best : MethodName := ⟨"ShareGrid", "best", "(I)I"⟩
abbrev b_G_repair : ByteArray := prog_1_method_10_code
def y_G_repair : MethodName := ⟨"ShareGrid", "repair", "(I)I"⟩
abbrev b_G_server : ByteArray := prog_1_method_11_code
def y_G_server : MethodName := ⟨"ShareGrid", "server", "(IZZ)I"⟩
abbrev b_G_tamper : ByteArray := prog_1_method_12_code
def y_G_tamper : MethodName := ⟨"ShareGrid", "tamper", "(IIII)I"⟩
abbrev b_G_picture : ByteArray := prog_1_method_13_code
def y_G_picture : MethodName := ⟨"ShareGrid", "picture", "(II)I"⟩
abbrev b_G_fallBack : ByteArray := prog_1_method_14_code
def y_G_fallBack : MethodName := ⟨"ShareGrid", "fallBack", "(II)I"⟩
abbrev b_G_wipe : ByteArray := prog_1_method_15_code
def y_G_wipe : MethodName := ⟨"ShareGrid", "wipe", "(II)I"⟩
abbrev b_G_share : ByteArray := prog_1_method_16_code
def y_G_share : MethodName := ⟨"ShareGrid", "share", "(III)J"⟩
abbrev b_G_times : ByteArray := prog_1_method_17_code
def y_G_times : MethodName := ⟨"ShareGrid", "times", "(II)I"⟩
abbrev b_G_count : ByteArray := prog_1_method_18_code
def y_G_count : MethodName := ⟨"ShareGrid", "count", "(I)I"⟩
abbrev b_G_greatestNumber : ByteArray := prog_1_method_19_code
def y_G_greatestNumber : MethodName := ⟨"ShareGrid", "greatestNumber", "(I)I"⟩
abbrev b_G_clamped : ByteArray := prog_1_method_20_code
def y_G_clamped : MethodName := ⟨"ShareGrid", "clamped", "(III)I"⟩
abbrev b_G_isWordPlace : ByteArray := prog_1_method_21_code
def y_G_isWordPlace : MethodName := ⟨"ShareGrid", "isWordPlace", "(I)Z"⟩
abbrev b_G_isPlace : ByteArray := prog_1_method_22_code
def y_G_isPlace : MethodName := ⟨"ShareGrid", "isPlace", "(I)Z"⟩
abbrev b_G_isFile : ByteArray := prog_1_method_23_code
def y_G_isFile : MethodName := ⟨"ShareGrid", "isFile", "(I)Z"⟩
abbrev b_G_isByte : ByteArray := prog_1_method_24_code
def y_G_isByte : MethodName := ⟨"ShareGrid", "isByte", "(I)Z"⟩
abbrev b_G_fileUnder : ByteArray := prog_1_method_25_code
def y_G_fileUnder : MethodName := ⟨"ShareGrid", "fileUnder", "(I)I"⟩
abbrev b_G_takesRecords : ByteArray := prog_1_method_26_code
def y_G_takesRecords : MethodName := ⟨"ShareGrid", "takesRecords", "(I)Z"⟩
abbrev b_G_serversUp : ByteArray := prog_1_method_27_code
def y_G_serversUp : MethodName := ⟨"ShareGrid", "serversUp", "()I"⟩
abbrev b_G_bestNumber : ByteArray := prog_1_method_28_code
def y_G_bestNumber : MethodName := ⟨"ShareGrid", "bestNumber", "(LShareGrid$StoredFile;)I"⟩
abbrev b_G_decodeVersion : ByteArray := prog_1_method_29_code
def y_G_decodeVersion : MethodName := ⟨"ShareGrid", "decodeVersion", "(LShareGrid$StoredFile;I)I"⟩
abbrev b_G_makeFreshRecord : ByteArray := prog_1_method_30_code
def y_G_makeFreshRecord : MethodName := ⟨"ShareGrid", "makeFreshRecord", "(II)I"⟩
abbrev b_G_giveFreshRecord : ByteArray := prog_1_method_31_code
def y_G_giveFreshRecord : MethodName := ⟨"ShareGrid", "giveFreshRecord", "(LShareGrid$StoredFile;I)V"⟩
abbrev b_G_mix : ByteArray := prog_1_method_32_code
def y_G_mix : MethodName := ⟨"ShareGrid", "mix", "(II)I"⟩
abbrev b_G_readKeyOf : ByteArray := prog_1_method_33_code
def y_G_readKeyOf : MethodName := ⟨"ShareGrid", "readKeyOf", "(I)I"⟩
abbrev b_G_verifyKeyOf : ByteArray := prog_1_method_34_code
def y_G_verifyKeyOf : MethodName := ⟨"ShareGrid", "verifyKeyOf", "(I)I"⟩
abbrev b_G_cipherMask : ByteArray := prog_1_method_35_code
def y_G_cipherMask : MethodName := ⟨"ShareGrid", "cipherMask", "(III)I"⟩
abbrev b_G_fingerprint : ByteArray := prog_1_method_36_code
def y_G_fingerprint : MethodName := ⟨"ShareGrid", "fingerprint", "(II)I"⟩
abbrev b_G_pointOf : ByteArray := prog_1_method_37_code
def y_G_pointOf : MethodName := ⟨"ShareGrid", "pointOf", "(I)I"⟩
abbrev b_G_placeOf : ByteArray := prog_1_method_38_code
def y_G_placeOf : MethodName := ⟨"ShareGrid", "placeOf", "(I)I"⟩
abbrev b_G_scaled : ByteArray := prog_1_method_39_code
def y_G_scaled : MethodName := ⟨"ShareGrid", "scaled", "(II)I"⟩
abbrev b_G_timesX : ByteArray := prog_1_method_40_code
def y_G_timesX : MethodName := ⟨"ShareGrid", "timesX", "(I)I"⟩
abbrev b_G_inverse : ByteArray := prog_1_method_41_code
def y_G_inverse : MethodName := ⟨"ShareGrid", "inverse", "(I)I"⟩
abbrev b_M_init : ByteArray := prog_6_method_1_code
def y_M_init : MethodName := ⟨"ShareGridModel", "<init>", "(II)V"⟩
abbrev b_M_mix : ByteArray := prog_6_method_2_code
def y_M_mix : MethodName := ⟨"ShareGridModel", "mix", "(II)I"⟩
abbrev b_M_key : ByteArray := prog_6_method_3_code
def y_M_key : MethodName := ⟨"ShareGridModel", "key", "(II)I"⟩
abbrev b_M_fileOf : ByteArray := prog_6_method_4_code
def y_M_fileOf : MethodName := ⟨"ShareGridModel", "fileOf", "(I)I"⟩
abbrev b_M_create : ByteArray := prog_6_method_5_code
def y_M_create : MethodName := ⟨"ShareGridModel", "create", "(I)I"⟩
abbrev b_M_draft : ByteArray := prog_6_method_6_code
def y_M_draft : MethodName := ⟨"ShareGridModel", "draft", "(II)I"⟩
abbrev b_M_product : ByteArray := prog_6_method_7_code
def y_M_product : MethodName := ⟨"ShareGridModel", "product", "(II)I"⟩
abbrev b_M_scaled : ByteArray := prog_6_method_8_code
def y_M_scaled : MethodName := ⟨"ShareGridModel", "scaled", "(II)I"⟩
abbrev b_M_power : ByteArray := prog_6_method_9_code
def y_M_power : MethodName := ⟨"ShareGridModel", "power", "(II)I"⟩
abbrev b_M_shareAt : ByteArray := prog_6_method_10_code
def y_M_shareAt : MethodName := ⟨"ShareGridModel", "shareAt", "(I)I"⟩
abbrev b_M_rootOf : ByteArray := prog_6_method_11_code
def y_M_rootOf : MethodName := ⟨"ShareGridModel", "rootOf", "(II)I"⟩
abbrev b_M_upCount : ByteArray := prog_6_method_12_code
def y_M_upCount : MethodName := ⟨"ShareGridModel", "upCount", "()I"⟩
abbrev b_M_copyRow : ByteArray := prog_6_method_13_code
def y_M_copyRow : MethodName := ⟨"ShareGridModel", "copyRow", "(II)V"⟩
abbrev b_M_write : ByteArray := prog_6_method_14_code
def y_M_write : MethodName := ⟨"ShareGridModel", "write", "(I)I"⟩
abbrev b_M_keep : ByteArray := prog_6_method_15_code
def y_M_keep : MethodName := ⟨"ShareGridModel", "keep", "(IIII)V"⟩
abbrev b_M_isSound : ByteArray := prog_6_method_16_code
def y_M_isSound : MethodName := ⟨"ShareGridModel", "isSound", "(II)Z"⟩
abbrev b_M_serves : ByteArray := prog_6_method_17_code
def y_M_serves : MethodName := ⟨"ShareGridModel", "serves", "(III)Z"⟩
abbrev b_M_bestOf : ByteArray := prog_6_method_18_code
def y_M_bestOf : MethodName := ⟨"ShareGridModel", "bestOf", "(I)I"⟩
abbrev b_M_subtract : ByteArray := prog_6_method_19_code
def y_M_subtract : MethodName := ⟨"ShareGridModel", "subtract", "(III)V"⟩
abbrev b_M_decode : ByteArray := prog_6_method_20_code
def y_M_decode : MethodName := ⟨"ShareGridModel", "decode", "(II)V"⟩
abbrev b_M_read : ByteArray := prog_6_method_21_code
def y_M_read : MethodName := ⟨"ShareGridModel", "read", "(I)I"⟩
abbrev b_M_word : ByteArray := prog_6_method_22_code
def y_M_word : MethodName := ⟨"ShareGridModel", "word", "(I)J"⟩
abbrev b_M_sound : ByteArray := prog_6_method_23_code
def y_M_sound : MethodName := ⟨"ShareGridModel", "sound", "(I)I"⟩
abbrev b_M_best : ByteArray := prog_6_method_24_code
def y_M_best : MethodName := ⟨"ShareGridModel", "best", "(I)I"⟩
abbrev b_M_repair : ByteArray := prog_6_method_25_code
def y_M_repair : MethodName := ⟨"ShareGridModel", "repair", "(I)I"⟩
abbrev b_M_bad : ByteArray := prog_6_method_26_code
def y_M_bad : MethodName := ⟨"ShareGridModel", "bad", "(II)Z"⟩
abbrev b_M_server : ByteArray := prog_6_method_27_code
def y_M_server : MethodName := ⟨"ShareGridModel", "server", "(IZZ)I"⟩
abbrev b_M_tamper : ByteArray := prog_6_method_28_code
def y_M_tamper : MethodName := ⟨"ShareGridModel", "tamper", "(IIII)I"⟩
abbrev b_M_picture : ByteArray := prog_6_method_29_code
def y_M_picture : MethodName := ⟨"ShareGridModel", "picture", "(II)I"⟩
abbrev b_M_fallBack : ByteArray := prog_6_method_30_code
def y_M_fallBack : MethodName := ⟨"ShareGridModel", "fallBack", "(II)I"⟩
abbrev b_M_wipe : ByteArray := prog_6_method_31_code
def y_M_wipe : MethodName := ⟨"ShareGridModel", "wipe", "(II)I"⟩
abbrev b_M_share : ByteArray := prog_6_method_32_code
def y_M_share : MethodName := ⟨"ShareGridModel", "share", "(III)J"⟩
abbrev b_M_times : ByteArray := prog_6_method_33_code
def y_M_times : MethodName := ⟨"ShareGridModel", "times", "(II)I"⟩
abbrev b_M_count : ByteArray := prog_6_method_34_code
def y_M_count : MethodName := ⟨"ShareGridModel", "count", "(I)I"⟩
abbrev b_C_init : ByteArray := prog_2_method_1_code
def y_C_init : MethodName := ⟨"ShareGrid$Coder", "<init>", "(I)V"⟩
abbrev b_C_shareAt : ByteArray := prog_2_method_2_code
def y_C_shareAt : MethodName := ⟨"ShareGrid$Coder", "shareAt", "(I)I"⟩
abbrev b_C_decodeShares : ByteArray := prog_2_method_3_code
def y_C_decodeShares : MethodName := ⟨"ShareGrid$Coder", "decodeShares", "()V"⟩
abbrev b_C_sharesToDifferences : ByteArray := prog_2_method_4_code
def y_C_sharesToDifferences : MethodName := ⟨"ShareGrid$Coder", "sharesToDifferences", "()V"⟩
abbrev b_C_differencesToCipherWords : ByteArray := prog_2_method_5_code
def y_C_differencesToCipherWords : MethodName := ⟨"ShareGrid$Coder", "differencesToCipherWords", "()V"⟩
abbrev b_R_init : ByteArray := prog_3_method_1_code
def y_R_init : MethodName := ⟨"ShareGrid$ServerRecord", "<init>", "(I)V"⟩
abbrev b_R_copyFrom : ByteArray := prog_3_method_2_code
def y_R_copyFrom : MethodName := ⟨"ShareGrid$ServerRecord", "copyFrom", "(LShareGrid$ServerRecord;)V"⟩
abbrev b_R_rootOfFingerprints : ByteArray := prog_3_method_3_code
def y_R_rootOfFingerprints : MethodName := ⟨"ShareGrid$ServerRecord", "rootOfFingerprints", "()I"⟩
abbrev b_F_init : ByteArray := prog_4_method_1_code
def y_F_init : MethodName := ⟨"ShareGrid$StoredFile", "<init>", "(I)V"⟩
abbrev b_F_noteNext : ByteArray := prog_4_method_2_code
def y_F_noteNext : MethodName := ⟨"ShareGrid$StoredFile", "noteNext", "(II)V"⟩
abbrev b_F_isSoundAt : ByteArray := prog_4_method_3_code
def y_F_isSoundAt : MethodName := ⟨"ShareGrid$StoredFile", "isSoundAt", "(I)Z"⟩
abbrev b_F_isSoundWith : ByteArray := prog_4_method_4_code
def y_F_isSoundWith : MethodName := ⟨"ShareGrid$StoredFile", "isSoundWith", "(II)Z"⟩
abbrev b_L_cell : ByteArray := method_2_code
def y_L_cell : MethodName := ⟨"ShareGridLaw", "cell", "([II)I"⟩
abbrev b_J_init : ByteArray := object_method_1_code
def y_J_init : MethodName := ⟨"java/lang/Object", "<init>", "()V"⟩
abbrev b_J_max : ByteArray := prog_7_method_65_code
def y_J_max : MethodName := ⟨"java/lang/Math", "max", "(II)I"⟩
abbrev b_J_min : ByteArray := prog_7_method_69_code
def y_J_min : MethodName := ⟨"java/lang/Math", "min", "(II)I"⟩
abbrev b_J_fill : ByteArray := prog_9_method_103_code
def y_J_fill : MethodName := ⟨"java/util/Arrays", "fill", "([II)V"⟩
end
section
theorem d_C_init_0 : decode b_C_init 0 = .ok (.aload_n 0, 1) := by decide +kernel
theorem d_C_init_1 : decode b_C_init 1 = .ok (.invokespecial 1, 3) := by decide +kernel
theorem d_C_init_4 : decode b_C_init 4 = .ok (.aload_n 0, 1) := by decide +kernel
theorem d_C_init_5 : decode b_C_init 5 = .ok (.iload_n 1, 1) := by decide +kernel
theorem d_C_init_6 : decode b_C_init 6 = .ok (.putfield 7, 3) := by decide +kernel
theorem d_C_init_9 : decode b_C_init 9 = .ok (.aload_n 0, 1) := by decide +kernel
theorem d_C_init_10 : decode b_C_init 10 = .ok (.iload_n 1, 1) := by decide +kernel
theorem d_C_init_11 : decode b_C_init 11 = .ok (.newarray .int, 2) := by decide +kernel
theorem d_C_init_13 : decode b_C_init 13 = .ok (.putfield 13, 3) := by decide +kernel
theorem d_C_init_16 : decode b_C_init 16 = .ok (.aload_n 0, 1) := by decide +kernel
theorem d_C_init_17 : decode b_C_init 17 = .ok (.iload_n 1, 1) := by decide +kernel
theorem d_C_init_18 : decode b_C_init 18 = .ok (.newarray .int, 2) := by decide +kernel
theorem d_C_init_20 : decode b_C_init 20 = .ok (.putfield 17, 3) := by decide +kernel
theorem d_C_init_23 : decode b_C_init 23 = .ok (.return_, 1) := by decide +kernel
theorem d_C_shareAt_0 : decode b_C_shareAt 0 = .ok (.iconst 0, 1) := by decide +kernel
theorem d_C_shareAt_1 : decode b_C_shareAt 1 = .ok (.istore_n 2, 1) := by decide +kernel
theorem d_C_shareAt_2 : decode b_C_shareAt 2 = .ok (.aload_n 0, 1) := by decide +kernel
theorem d_C_shareAt_3 : decode b_C_shareAt 3 = .ok (.getfield 7, 3) := by decide +kernel
theorem d_C_shareAt_6 : decode b_C_shareAt 6 = .ok (.iconst 1, 1) := by decide +kernel
theorem d_C_shareAt_7 : decode b_C_shareAt 7 = .ok (.isub, 1) := by decide +kernel
theorem d_C_shareAt_8 : decode b_C_shareAt 8 = .ok (.istore_n 3, 1) := by decide +kernel
theorem d_C_shareAt_9 : decode b_C_shareAt 9 = .ok (.iload_n 3, 1) := by decide +kernel
theorem d_C_shareAt_10 : decode b_C_shareAt 10 = .ok (.ifCond .lt 25, 3) := by decide +kernel
theorem d_C_shareAt_13 : decode b_C_shareAt 13 = .ok (.iload_n 2, 1) := by decide +kernel
theorem d_C_shareAt_14 : decode b_C_shareAt 14 = .ok (.iload_n 1, 1) := by decide +kernel
theorem d_C_shareAt_15 : decode b_C_shareAt 15 = .ok (.invokestatic 20, 3) := by decide +kernel
theorem d_C_shareAt_18 : decode b_C_shareAt 18 = .ok (.invokestatic 26, 3) := by decide +kernel
theorem d_C_shareAt_21 : decode b_C_shareAt 21 = .ok (.aload_n 0, 1) := by decide +kernel
theorem d_C_shareAt_22 : decode b_C_shareAt 22 = .ok (.getfield 13, 3) := by decide +kernel
theorem d_C_shareAt_25 : decode b_C_shareAt 25 = .ok (.iload_n 3, 1) := by decide +kernel
theorem d_C_shareAt_26 : decode b_C_shareAt 26 = .ok (.iaload, 1) := by decide +kernel
theorem d_C_shareAt_27 : decode b_C_shareAt 27 = .ok (.ixor, 1) := by decide +kernel
theorem d_C_shareAt_28 : decode b_C_shareAt 28 = .ok (.istore_n 2, 1) := by decide +kernel
theorem d_C_shareAt_29 : decode b_C_shareAt 29 = .ok (.iinc 3 (-1), 3) := by decide +kernel
theorem d_C_shareAt_32 : decode b_C_shareAt 32 = .ok (.goto (-23), 3) := by decide +kernel
theorem d_C_shareAt_35 : decode b_C_shareAt 35 = .ok (.iload_n 2, 1) := by decide +kernel
theorem d_C_shareAt_36 : decode b_C_shareAt 36 = .ok (.ireturn, 1) := by decide +kernel
theorem d_C_decodeShares_0 : decode b_C_decodeShares 0 = .ok (.aload_n 0, 1) := by decide +kernel
theorem d_C_decodeShares_1 : decode b_C_decodeShares 1 = .ok (.invokevirtual 30, 3) := by decide +kernel
theorem d_C_decodeShares_4 : decode b_C_decodeShares 4 = .ok (.aload_n 0, 1) := by decide +kernel
theorem d_C_decodeShares_5 : decode b_C_decodeShares 5 = .ok (.invokevirtual 33, 3) := by decide +kernel
theorem d_C_decodeShares_8 : decode b_C_decodeShares 8 = .ok (.return_, 1) := by decide +kernel
theorem d_C_sharesToDifferences_0 : decode b_C_sharesToDifferences 0 = .ok (.iconst 1, 1) := by decide +kernel
theorem d_C_sharesToDifferences_1 : decode b_C_sharesToDifferences 1 = .ok (.istore_n 1, 1) := by decide +kernel
theorem d_C_sharesToDifferences_2 : decode b_C_sharesToDifferences 2 = .ok (.iload_n 1, 1) := by decide +kernel
theorem d_C_sharesToDifferences_3 : decode b_C_sharesToDifferences 3 = .ok (.aload_n 0, 1) := by decide +kernel
theorem d_C_sharesToDifferences_4 : decode b_C_sharesToDifferences 4 = .ok (.getfield 7, 3) := by decide +kernel
theorem d_C_sharesToDifferences_7 : decode b_C_sharesToDifferences 7 = .ok (.if_icmp .ge 71, 3) := by decide +kernel
theorem d_C_sharesToDifferences_10 : decode b_C_sharesToDifferences 10 = .ok (.aload_n 0, 1) := by decide +kernel
theorem d_C_sharesToDifferences_11 : decode b_C_sharesToDifferences 11 = .ok (.getfield 7, 3) := by decide +kernel
theorem d_C_sharesToDifferences_14 : decode b_C_sharesToDifferences 14 = .ok (.iconst 1, 1) := by decide +kernel
theorem d_C_sharesToDifferences_15 : decode b_C_sharesToDifferences 15 = .ok (.isub, 1) := by decide +kernel
theorem d_C_sharesToDifferences_16 : decode b_C_sharesToDifferences 16 = .ok (.istore_n 2, 1) := by decide +kernel
theorem d_C_sharesToDifferences_17 : decode b_C_sharesToDifferences 17 = .ok (.iload_n 2, 1) := by decide +kernel
theorem d_C_sharesToDifferences_18 : decode b_C_sharesToDifferences 18 = .ok (.iload_n 1, 1) := by decide +kernel
theorem d_C_sharesToDifferences_19 : decode b_C_sharesToDifferences 19 = .ok (.if_icmp .lt 53, 3) := by decide +kernel
theorem d_C_sharesToDifferences_22 : decode b_C_sharesToDifferences 22 = .ok (.aload_n 0, 1) := by decide +kernel
theorem d_C_sharesToDifferences_23 : decode b_C_sharesToDifferences 23 = .ok (.getfield 17, 3) := by decide +kernel
theorem d_C_sharesToDifferences_26 : decode b_C_sharesToDifferences 26 = .ok (.iload_n 2, 1) := by decide +kernel
theorem d_C_sharesToDifferences_27 : decode b_C_sharesToDifferences 27 = .ok (.iaload, 1) := by decide +kernel
theorem d_C_sharesToDifferences_28 : decode b_C_sharesToDifferences 28 = .ok (.aload_n 0, 1) := by decide +kernel
theorem d_C_sharesToDifferences_29 : decode b_C_sharesToDifferences 29 = .ok (.getfield 17, 3) := by decide +kernel
theorem d_C_sharesToDifferences_32 : decode b_C_sharesToDifferences 32 = .ok (.iload_n 2, 1) := by decide +kernel
theorem d_C_sharesToDifferences_33 : decode b_C_sharesToDifferences 33 = .ok (.iload_n 1, 1) := by decide +kernel
theorem d_C_sharesToDifferences_34 : decode b_C_sharesToDifferences 34 = .ok (.isub, 1) := by decide +kernel
theorem d_C_sharesToDifferences_35 : decode b_C_sharesToDifferences 35 = .ok (.iaload, 1) := by decide +kernel
theorem d_C_sharesToDifferences_36 : decode b_C_sharesToDifferences 36 = .ok (.ixor, 1) := by decide +kernel
theorem d_C_sharesToDifferences_37 : decode b_C_sharesToDifferences 37 = .ok (.istore_n 3, 1) := by decide +kernel
theorem d_C_sharesToDifferences_38 : decode b_C_sharesToDifferences 38 = .ok (.aload_n 0, 1) := by decide +kernel
theorem d_C_sharesToDifferences_39 : decode b_C_sharesToDifferences 39 = .ok (.getfield 13, 3) := by decide +kernel
theorem d_C_sharesToDifferences_42 : decode b_C_sharesToDifferences 42 = .ok (.iload_n 2, 1) := by decide +kernel
theorem d_C_sharesToDifferences_43 : decode b_C_sharesToDifferences 43 = .ok (.aload_n 0, 1) := by decide +kernel
theorem d_C_sharesToDifferences_44 : decode b_C_sharesToDifferences 44 = .ok (.getfield 13, 3) := by decide +kernel
theorem d_C_sharesToDifferences_47 : decode b_C_sharesToDifferences 47 = .ok (.iload_n 2, 1) := by decide +kernel
theorem d_C_sharesToDifferences_48 : decode b_C_sharesToDifferences 48 = .ok (.iaload, 1) := by decide +kernel
theorem d_C_sharesToDifferences_49 : decode b_C_sharesToDifferences 49 = .ok (.aload_n 0, 1) := by decide +kernel
theorem d_C_sharesToDifferences_50 : decode b_C_sharesToDifferences 50 = .ok (.getfield 13, 3) := by decide +kernel
theorem d_C_sharesToDifferences_53 : decode b_C_sharesToDifferences 53 = .ok (.iload_n 2, 1) := by decide +kernel
theorem d_C_sharesToDifferences_54 : decode b_C_sharesToDifferences 54 = .ok (.iconst 1, 1) := by decide +kernel
theorem d_C_sharesToDifferences_55 : decode b_C_sharesToDifferences 55 = .ok (.isub, 1) := by decide +kernel
theorem d_C_sharesToDifferences_56 : decode b_C_sharesToDifferences 56 = .ok (.iaload, 1) := by decide +kernel
theorem d_C_sharesToDifferences_57 : decode b_C_sharesToDifferences 57 = .ok (.ixor, 1) := by decide +kernel
theorem d_C_sharesToDifferences_58 : decode b_C_sharesToDifferences 58 = .ok (.iload_n 3, 1) := by decide +kernel
theorem d_C_sharesToDifferences_59 : decode b_C_sharesToDifferences 59 = .ok (.invokestatic 36, 3) := by decide +kernel
theorem d_C_sharesToDifferences_62 : decode b_C_sharesToDifferences 62 = .ok (.invokestatic 26, 3) := by decide +kernel
theorem d_C_sharesToDifferences_65 : decode b_C_sharesToDifferences 65 = .ok (.iastore, 1) := by decide +kernel
theorem d_C_sharesToDifferences_66 : decode b_C_sharesToDifferences 66 = .ok (.iinc 2 (-1), 3) := by decide +kernel
theorem d_C_sharesToDifferences_69 : decode b_C_sharesToDifferences 69 = .ok (.goto (-52), 3) := by decide +kernel
theorem d_C_sharesToDifferences_72 : decode b_C_sharesToDifferences 72 = .ok (.iinc 1 1, 3) := by decide +kernel
theorem d_C_sharesToDifferences_75 : decode b_C_sharesToDifferences 75 = .ok (.goto (-73), 3) := by decide +kernel
theorem d_C_sharesToDifferences_78 : decode b_C_sharesToDifferences 78 = .ok (.return_, 1) := by decide +kernel
theorem d_C_differencesToCipherWords_0 : decode b_C_differencesToCipherWords 0 = .ok (.aload_n 0, 1) := by decide +kernel
theorem d_C_differencesToCipherWords_1 : decode b_C_differencesToCipherWords 1 = .ok (.getfield 7, 3) := by decide +kernel
theorem d_C_differencesToCipherWords_4 : decode b_C_differencesToCipherWords 4 = .ok (.iconst 2, 1) := by decide +kernel
theorem d_C_differencesToCipherWords_5 : decode b_C_differencesToCipherWords 5 = .ok (.isub, 1) := by decide +kernel
theorem d_C_differencesToCipherWords_6 : decode b_C_differencesToCipherWords 6 = .ok (.istore_n 1, 1) := by decide +kernel
theorem d_C_differencesToCipherWords_7 : decode b_C_differencesToCipherWords 7 = .ok (.iload_n 1, 1) := by decide +kernel
theorem d_C_differencesToCipherWords_8 : decode b_C_differencesToCipherWords 8 = .ok (.ifCond .lt 53, 3) := by decide +kernel
theorem d_C_differencesToCipherWords_11 : decode b_C_differencesToCipherWords 11 = .ok (.iload_n 1, 1) := by decide +kernel
theorem d_C_differencesToCipherWords_12 : decode b_C_differencesToCipherWords 12 = .ok (.istore_n 2, 1) := by decide +kernel
theorem d_C_differencesToCipherWords_13 : decode b_C_differencesToCipherWords 13 = .ok (.iload_n 2, 1) := by decide +kernel
theorem d_C_differencesToCipherWords_14 : decode b_C_differencesToCipherWords 14 = .ok (.aload_n 0, 1) := by decide +kernel
theorem d_C_differencesToCipherWords_15 : decode b_C_differencesToCipherWords 15 = .ok (.getfield 7, 3) := by decide +kernel
theorem d_C_differencesToCipherWords_18 : decode b_C_differencesToCipherWords 18 = .ok (.iconst 1, 1) := by decide +kernel
theorem d_C_differencesToCipherWords_19 : decode b_C_differencesToCipherWords 19 = .ok (.isub, 1) := by decide +kernel
theorem d_C_differencesToCipherWords_20 : decode b_C_differencesToCipherWords 20 = .ok (.if_icmp .ge 35, 3) := by decide +kernel
theorem d_C_differencesToCipherWords_23 : decode b_C_differencesToCipherWords 23 = .ok (.aload_n 0, 1) := by decide +kernel
theorem d_C_differencesToCipherWords_24 : decode b_C_differencesToCipherWords 24 = .ok (.getfield 13, 3) := by decide +kernel
theorem d_C_differencesToCipherWords_27 : decode b_C_differencesToCipherWords 27 = .ok (.iload_n 2, 1) := by decide +kernel
theorem d_C_differencesToCipherWords_28 : decode b_C_differencesToCipherWords 28 = .ok (.dup2, 1) := by decide +kernel
theorem d_C_differencesToCipherWords_29 : decode b_C_differencesToCipherWords 29 = .ok (.iaload, 1) := by decide +kernel
theorem d_C_differencesToCipherWords_30 : decode b_C_differencesToCipherWords 30 = .ok (.aload_n 0, 1) := by decide +kernel
theorem d_C_differencesToCipherWords_31 : decode b_C_differencesToCipherWords 31 = .ok (.getfield 13, 3) := by decide +kernel
theorem d_C_differencesToCipherWords_34 : decode b_C_differencesToCipherWords 34 = .ok (.iload_n 2, 1) := by decide +kernel
theorem d_C_differencesToCipherWords_35 : decode b_C_differencesToCipherWords 35 = .ok (.iconst 1, 1) := by decide +kernel
theorem d_C_differencesToCipherWords_36 : decode b_C_differencesToCipherWords 36 = .ok (.iadd, 1) := by decide +kernel
theorem d_C_differencesToCipherWords_37 : decode b_C_differencesToCipherWords 37 = .ok (.iaload, 1) := by decide +kernel
theorem d_C_differencesToCipherWords_38 : decode b_C_differencesToCipherWords 38 = .ok (.aload_n 0, 1) := by decide +kernel
theorem d_C_differencesToCipherWords_39 : decode b_C_differencesToCipherWords 39 = .ok (.getfield 17, 3) := by decide +kernel
theorem d_C_differencesToCipherWords_42 : decode b_C_differencesToCipherWords 42 = .ok (.iload_n 1, 1) := by decide +kernel
theorem d_C_differencesToCipherWords_43 : decode b_C_differencesToCipherWords 43 = .ok (.iaload, 1) := by decide +kernel
theorem d_C_differencesToCipherWords_44 : decode b_C_differencesToCipherWords 44 = .ok (.invokestatic 26, 3) := by decide +kernel
theorem d_C_differencesToCipherWords_47 : decode b_C_differencesToCipherWords 47 = .ok (.ixor, 1) := by decide +kernel
theorem d_C_differencesToCipherWords_48 : decode b_C_differencesToCipherWords 48 = .ok (.iastore, 1) := by decide +kernel
theorem d_C_differencesToCipherWords_49 : decode b_C_differencesToCipherWords 49 = .ok (.iinc 2 1, 3) := by decide +kernel
theorem d_C_differencesToCipherWords_52 : decode b_C_differencesToCipherWords 52 = .ok (.goto (-39), 3) := by decide +kernel
theorem d_C_differencesToCipherWords_55 : decode b_C_differencesToCipherWords 55 = .ok (.iinc 1 (-1), 3) := by decide +kernel
theorem d_C_differencesToCipherWords_58 : decode b_C_differencesToCipherWords 58 = .ok (.goto (-51), 3) := by decide +kernel
theorem d_C_differencesToCipherWords_61 : decode b_C_differencesToCipherWords 61 = .ok (.return_, 1) := by decide +kernel
theorem d_R_init_0 : decode b_R_init 0 = .ok (.aload_n 0, 1) := by decide +kernel
theorem d_R_init_1 : decode b_R_init 1 = .ok (.invokespecial 1, 3) := by decide +kernel
theorem d_R_init_4 : decode b_R_init 4 = .ok (.aload_n 0, 1) := by decide +kernel
theorem d_R_init_5 : decode b_R_init 5 = .ok (.iload_n 1, 1) := by decide +kernel
theorem d_R_init_6 : decode b_R_init 6 = .ok (.newarray .int, 2) := by decide +kernel
theorem d_R_init_8 : decode b_R_init 8 = .ok (.putfield 7, 3) := by decide +kernel
theorem d_R_init_11 : decode b_R_init 11 = .ok (.return_, 1) := by decide +kernel
theorem d_R_copyFrom_0 : decode b_R_copyFrom 0 = .ok (.aload_n 0, 1) := by decide +kernel
theorem d_R_copyFrom_1 : decode b_R_copyFrom 1 = .ok (.aload_n 1, 1) := by decide +kernel
theorem d_R_copyFrom_2 : decode b_R_copyFrom 2 = .ok (.getfield 13, 3) := by decide +kernel
theorem d_R_copyFrom_5 : decode b_R_copyFrom 5 = .ok (.putfield 13, 3) := by decide +kernel
theorem d_R_copyFrom_8 : decode b_R_copyFrom 8 = .ok (.aload_n 0, 1) := by decide +kernel
theorem d_R_copyFrom_9 : decode b_R_copyFrom 9 = .ok (.aload_n 1, 1) := by decide +kernel
theorem d_R_copyFrom_10 : decode b_R_copyFrom 10 = .ok (.getfield 17, 3) := by decide +kernel
theorem d_R_copyFrom_13 : decode b_R_copyFrom 13 = .ok (.putfield 17, 3) := by decide +kernel
theorem d_R_copyFrom_16 : decode b_R_copyFrom 16 = .ok (.aload_n 0, 1) := by decide +kernel
theorem d_R_copyFrom_17 : decode b_R_copyFrom 17 = .ok (.aload_n 1, 1) := by decide +kernel
theorem d_R_copyFrom_18 : decode b_R_copyFrom 18 = .ok (.getfield 21, 3) := by decide +kernel
theorem d_R_copyFrom_21 : decode b_R_copyFrom 21 = .ok (.putfield 21, 3) := by decide +kernel
theorem d_R_copyFrom_24 : decode b_R_copyFrom 24 = .ok (.aload_n 0, 1) := by decide +kernel
theorem d_R_copyFrom_25 : decode b_R_copyFrom 25 = .ok (.aload_n 1, 1) := by decide +kernel
theorem d_R_copyFrom_26 : decode b_R_copyFrom 26 = .ok (.getfield 24, 3) := by decide +kernel
theorem d_R_copyFrom_29 : decode b_R_copyFrom 29 = .ok (.putfield 24, 3) := by decide +kernel
theorem d_R_copyFrom_32 : decode b_R_copyFrom 32 = .ok (.aload_n 1, 1) := by decide +kernel
theorem d_R_copyFrom_33 : decode b_R_copyFrom 33 = .ok (.getfield 7, 3) := by decide +kernel
theorem d_R_copyFrom_36 : decode b_R_copyFrom 36 = .ok (.iconst 0, 1) := by decide +kernel
theorem d_R_copyFrom_37 : decode b_R_copyFrom 37 = .ok (.aload_n 0, 1) := by decide +kernel
theorem d_R_copyFrom_38 : decode b_R_copyFrom 38 = .ok (.getfield 7, 3) := by decide +kernel
theorem d_R_copyFrom_41 : decode b_R_copyFrom 41 = .ok (.iconst 0, 1) := by decide +kernel
theorem d_R_copyFrom_42 : decode b_R_copyFrom 42 = .ok (.aload_n 0, 1) := by decide +kernel
theorem d_R_copyFrom_43 : decode b_R_copyFrom 43 = .ok (.getfield 7, 3) := by decide +kernel
theorem d_R_copyFrom_46 : decode b_R_copyFrom 46 = .ok (.arraylength, 1) := by decide +kernel
theorem d_R_copyFrom_47 : decode b_R_copyFrom 47 = .ok (.invokestatic 27, 3) := by decide +kernel
theorem d_R_copyFrom_50 : decode b_R_copyFrom 50 = .ok (.return_, 1) := by decide +kernel
theorem d_R_rootOfFingerprints_0 : decode b_R_rootOfFingerprints 0 = .ok (.bipush 7, 2) := by decide +kernel
theorem d_R_rootOfFingerprints_2 : decode b_R_rootOfFingerprints 2 = .ok (.istore_n 1, 1) := by decide +kernel
theorem d_R_rootOfFingerprints_3 : decode b_R_rootOfFingerprints 3 = .ok (.iconst 0, 1) := by decide +kernel
theorem d_R_rootOfFingerprints_4 : decode b_R_rootOfFingerprints 4 = .ok (.istore_n 2, 1) := by decide +kernel
theorem d_R_rootOfFingerprints_5 : decode b_R_rootOfFingerprints 5 = .ok (.iload_n 2, 1) := by decide +kernel
theorem d_R_rootOfFingerprints_6 : decode b_R_rootOfFingerprints 6 = .ok (.aload_n 0, 1) := by decide +kernel
theorem d_R_rootOfFingerprints_7 : decode b_R_rootOfFingerprints 7 = .ok (.getfield 7, 3) := by decide +kernel
theorem d_R_rootOfFingerprints_10 : decode b_R_rootOfFingerprints 10 = .ok (.arraylength, 1) := by decide +kernel
theorem d_R_rootOfFingerprints_11 : decode b_R_rootOfFingerprints 11 = .ok (.if_icmp .ge 20, 3) := by decide +kernel
theorem d_R_rootOfFingerprints_14 : decode b_R_rootOfFingerprints 14 = .ok (.iload_n 1, 1) := by decide +kernel
theorem d_R_rootOfFingerprints_15 : decode b_R_rootOfFingerprints 15 = .ok (.aload_n 0, 1) := by decide +kernel
theorem d_R_rootOfFingerprints_16 : decode b_R_rootOfFingerprints 16 = .ok (.getfield 7, 3) := by decide +kernel
theorem d_R_rootOfFingerprints_19 : decode b_R_rootOfFingerprints 19 = .ok (.iload_n 2, 1) := by decide +kernel
theorem d_R_rootOfFingerprints_20 : decode b_R_rootOfFingerprints 20 = .ok (.iaload, 1) := by decide +kernel
theorem d_R_rootOfFingerprints_21 : decode b_R_rootOfFingerprints 21 = .ok (.invokestatic 33, 3) := by decide +kernel
theorem d_R_rootOfFingerprints_24 : decode b_R_rootOfFingerprints 24 = .ok (.istore_n 1, 1) := by decide +kernel
theorem d_R_rootOfFingerprints_25 : decode b_R_rootOfFingerprints 25 = .ok (.iinc 2 1, 3) := by decide +kernel
theorem d_R_rootOfFingerprints_28 : decode b_R_rootOfFingerprints 28 = .ok (.goto (-23), 3) := by decide +kernel
theorem d_R_rootOfFingerprints_31 : decode b_R_rootOfFingerprints 31 = .ok (.iload_n 1, 1) := by decide +kernel
theorem d_R_rootOfFingerprints_32 : decode b_R_rootOfFingerprints 32 = .ok (.aload_n 0, 1) := by decide +kernel
theorem d_R_rootOfFingerprints_33 : decode b_R_rootOfFingerprints 33 = .ok (.getfield 21, 3) := by decide +kernel
theorem d_R_rootOfFingerprints_36 : decode b_R_rootOfFingerprints 36 = .ok (.invokestatic 33, 3) := by decide +kernel
theorem d_R_rootOfFingerprints_39 : decode b_R_rootOfFingerprints 39 = .ok (.ireturn, 1) := by decide +kernel
theorem d_F_init_0 : decode b_F_init 0 = .ok (.aload_n 0, 1) := by decide +kernel
theorem d_F_init_1 : decode b_F_init 1 = .ok (.invokespecial 3, 3) := by decide +kernel
theorem d_F_init_4 : decode b_F_init 4 = .ok (.aload_n 0, 1) := by decide +kernel
theorem d_F_init_5 : decode b_F_init 5 = .ok (.iload_n 1, 1) := by decide +kernel
theorem d_F_init_6 : decode b_F_init 6 = .ok (.anewarray 9, 3) := by decide +kernel
theorem d_F_init_9 : decode b_F_init 9 = .ok (.putfield 11, 3) := by decide +kernel
theorem d_F_init_12 : decode b_F_init 12 = .ok (.aload_n 0, 1) := by decide +kernel
theorem d_F_init_13 : decode b_F_init 13 = .ok (.iload_n 1, 1) := by decide +kernel
theorem d_F_init_14 : decode b_F_init 14 = .ok (.anewarray 9, 3) := by decide +kernel
theorem d_F_init_17 : decode b_F_init 17 = .ok (.putfield 17, 3) := by decide +kernel
theorem d_F_init_20 : decode b_F_init 20 = .ok (.iconst 0, 1) := by decide +kernel
theorem d_F_init_21 : decode b_F_init 21 = .ok (.istore_n 2, 1) := by decide +kernel
theorem d_F_init_22 : decode b_F_init 22 = .ok (.iload_n 2, 1) := by decide +kernel
theorem d_F_init_23 : decode b_F_init 23 = .ok (.iload_n 1, 1) := by decide +kernel
theorem d_F_init_24 : decode b_F_init 24 = .ok (.if_icmp .ge 37, 3) := by decide +kernel
theorem d_F_init_27 : decode b_F_init 27 = .ok (.aload_n 0, 1) := by decide +kernel
theorem d_F_init_28 : decode b_F_init 28 = .ok (.getfield 11, 3) := by decide +kernel
theorem d_F_init_31 : decode b_F_init 31 = .ok (.iload_n 2, 1) := by decide +kernel
theorem d_F_init_32 : decode b_F_init 32 = .ok (.new 9, 3) := by decide +kernel
theorem d_F_init_35 : decode b_F_init 35 = .ok (.dup, 1) := by decide +kernel
theorem d_F_init_36 : decode b_F_init 36 = .ok (.iload_n 1, 1) := by decide +kernel
theorem d_F_init_37 : decode b_F_init 37 = .ok (.invokespecial 20, 3) := by decide +kernel
theorem d_F_init_40 : decode b_F_init 40 = .ok (.aastore, 1) := by decide +kernel
theorem d_F_init_41 : decode b_F_init 41 = .ok (.aload_n 0, 1) := by decide +kernel
theorem d_F_init_42 : decode b_F_init 42 = .ok (.getfield 17, 3) := by decide +kernel
theorem d_F_init_45 : decode b_F_init 45 = .ok (.iload_n 2, 1) := by decide +kernel
theorem d_F_init_46 : decode b_F_init 46 = .ok (.new 9, 3) := by decide +kernel
theorem d_F_init_49 : decode b_F_init 49 = .ok (.dup, 1) := by decide +kernel
theorem d_F_init_50 : decode b_F_init 50 = .ok (.iload_n 1, 1) := by decide +kernel
theorem d_F_init_51 : decode b_F_init 51 = .ok (.invokespecial 20, 3) := by decide +kernel
theorem d_F_init_54 : decode b_F_init 54 = .ok (.aastore, 1) := by decide +kernel
theorem d_F_init_55 : decode b_F_init 55 = .ok (.iinc 2 1, 3) := by decide +kernel
theorem d_F_init_58 : decode b_F_init 58 = .ok (.goto (-36), 3) := by decide +kernel
theorem d_F_init_61 : decode b_F_init 61 = .ok (.aload_n 0, 1) := by decide +kernel
theorem d_F_init_62 : decode b_F_init 62 = .ok (.bipush 31, 2) := by decide +kernel
theorem d_F_init_64 : decode b_F_init 64 = .ok (.newarray .int, 2) := by decide +kernel
theorem d_F_init_66 : decode b_F_init 66 = .ok (.putfield 23, 3) := by decide +kernel
theorem d_F_init_69 : decode b_F_init 69 = .ok (.aload_n 0, 1) := by decide +kernel
theorem d_F_init_70 : decode b_F_init 70 = .ok (.bipush 31, 2) := by decide +kernel
theorem d_F_init_72 : decode b_F_init 72 = .ok (.newarray .int, 2) := by decide +kernel
theorem d_F_init_74 : decode b_F_init 74 = .ok (.putfield 27, 3) := by decide +kernel
theorem d_F_init_77 : decode b_F_init 77 = .ok (.return_, 1) := by decide +kernel
theorem d_F_noteNext_0 : decode b_F_noteNext 0 = .ok (.aload_n 0, 1) := by decide +kernel
theorem d_F_noteNext_1 : decode b_F_noteNext 1 = .ok (.dup, 1) := by decide +kernel
theorem d_F_noteNext_2 : decode b_F_noteNext 2 = .ok (.getfield 30, 3) := by decide +kernel
theorem d_F_noteNext_5 : decode b_F_noteNext 5 = .ok (.iconst 1, 1) := by decide +kernel
theorem d_F_noteNext_6 : decode b_F_noteNext 6 = .ok (.iadd, 1) := by decide +kernel
theorem d_F_noteNext_7 : decode b_F_noteNext 7 = .ok (.putfield 30, 3) := by decide +kernel
theorem d_F_noteNext_10 : decode b_F_noteNext 10 = .ok (.aload_n 0, 1) := by decide +kernel
theorem d_F_noteNext_11 : decode b_F_noteNext 11 = .ok (.getfield 23, 3) := by decide +kernel
theorem d_F_noteNext_14 : decode b_F_noteNext 14 = .ok (.aload_n 0, 1) := by decide +kernel
theorem d_F_noteNext_15 : decode b_F_noteNext 15 = .ok (.getfield 30, 3) := by decide +kernel
theorem d_F_noteNext_18 : decode b_F_noteNext 18 = .ok (.iload_n 1, 1) := by decide +kernel
theorem d_F_noteNext_19 : decode b_F_noteNext 19 = .ok (.iastore, 1) := by decide +kernel
theorem d_F_noteNext_20 : decode b_F_noteNext 20 = .ok (.aload_n 0, 1) := by decide +kernel
theorem d_F_noteNext_21 : decode b_F_noteNext 21 = .ok (.getfield 27, 3) := by decide +kernel
theorem d_F_noteNext_24 : decode b_F_noteNext 24 = .ok (.aload_n 0, 1) := by decide +kernel
theorem d_F_noteNext_25 : decode b_F_noteNext 25 = .ok (.getfield 30, 3) := by decide +kernel
theorem d_F_noteNext_28 : decode b_F_noteNext 28 = .ok (.iload_n 2, 1) := by decide +kernel
theorem d_F_noteNext_29 : decode b_F_noteNext 29 = .ok (.iastore, 1) := by decide +kernel
theorem d_F_noteNext_30 : decode b_F_noteNext 30 = .ok (.return_, 1) := by decide +kernel
theorem d_F_isSoundAt_0 : decode b_F_isSoundAt 0 = .ok (.aload_n 0, 1) := by decide +kernel
theorem d_F_isSoundAt_1 : decode b_F_isSoundAt 1 = .ok (.getfield 11, 3) := by decide +kernel
theorem d_F_isSoundAt_4 : decode b_F_isSoundAt 4 = .ok (.iload_n 1, 1) := by decide +kernel
theorem d_F_isSoundAt_5 : decode b_F_isSoundAt 5 = .ok (.aaload, 1) := by decide +kernel
theorem d_F_isSoundAt_6 : decode b_F_isSoundAt 6 = .ok (.astore_n 2, 1) := by decide +kernel
theorem d_F_isSoundAt_7 : decode b_F_isSoundAt 7 = .ok (.aload_n 2, 1) := by decide +kernel
theorem d_F_isSoundAt_8 : decode b_F_isSoundAt 8 = .ok (.getfield 34, 3) := by decide +kernel
theorem d_F_isSoundAt_11 : decode b_F_isSoundAt 11 = .ok (.istore_n 3, 1) := by decide +kernel
theorem d_F_isSoundAt_12 : decode b_F_isSoundAt 12 = .ok (.aload_n 2, 1) := by decide +kernel
theorem d_F_isSoundAt_13 : decode b_F_isSoundAt 13 = .ok (.getfield 37, 3) := by decide +kernel
theorem d_F_isSoundAt_16 : decode b_F_isSoundAt 16 = .ok (.ifCond .eq 16, 3) := by decide +kernel
theorem d_F_isSoundAt_19 : decode b_F_isSoundAt 19 = .ok (.iload_n 3, 1) := by decide +kernel
theorem d_F_isSoundAt_20 : decode b_F_isSoundAt 20 = .ok (.iconst 1, 1) := by decide +kernel
theorem d_F_isSoundAt_21 : decode b_F_isSoundAt 21 = .ok (.if_icmp .lt 11, 3) := by decide +kernel
theorem d_F_isSoundAt_24 : decode b_F_isSoundAt 24 = .ok (.iload_n 3, 1) := by decide +kernel
theorem d_F_isSoundAt_25 : decode b_F_isSoundAt 25 = .ok (.aload_n 0, 1) := by decide +kernel
theorem d_F_isSoundAt_26 : decode b_F_isSoundAt 26 = .ok (.getfield 30, 3) := by decide +kernel
theorem d_F_isSoundAt_29 : decode b_F_isSoundAt 29 = .ok (.if_icmp .le 5, 3) := by decide +kernel
theorem d_F_isSoundAt_32 : decode b_F_isSoundAt 32 = .ok (.iconst 0, 1) := by decide +kernel
theorem d_F_isSoundAt_33 : decode b_F_isSoundAt 33 = .ok (.ireturn, 1) := by decide +kernel
theorem d_F_isSoundAt_34 : decode b_F_isSoundAt 34 = .ok (.aload_n 2, 1) := by decide +kernel
theorem d_F_isSoundAt_35 : decode b_F_isSoundAt 35 = .ok (.getfield 41, 3) := by decide +kernel
theorem d_F_isSoundAt_38 : decode b_F_isSoundAt 38 = .ok (.iload_n 1, 1) := by decide +kernel
theorem d_F_isSoundAt_39 : decode b_F_isSoundAt 39 = .ok (.invokestatic 44, 3) := by decide +kernel
theorem d_F_isSoundAt_42 : decode b_F_isSoundAt 42 = .ok (.aload_n 2, 1) := by decide +kernel
theorem d_F_isSoundAt_43 : decode b_F_isSoundAt 43 = .ok (.getfield 48, 3) := by decide +kernel
theorem d_F_isSoundAt_46 : decode b_F_isSoundAt 46 = .ok (.iload_n 1, 1) := by decide +kernel
theorem d_F_isSoundAt_47 : decode b_F_isSoundAt 47 = .ok (.iaload, 1) := by decide +kernel
theorem d_F_isSoundAt_48 : decode b_F_isSoundAt 48 = .ok (.if_icmp .ne 33, 3) := by decide +kernel
theorem d_F_isSoundAt_51 : decode b_F_isSoundAt 51 = .ok (.aload_n 2, 1) := by decide +kernel
theorem d_F_isSoundAt_52 : decode b_F_isSoundAt 52 = .ok (.invokevirtual 51, 3) := by decide +kernel
theorem d_F_isSoundAt_55 : decode b_F_isSoundAt 55 = .ok (.aload_n 0, 1) := by decide +kernel
theorem d_F_isSoundAt_56 : decode b_F_isSoundAt 56 = .ok (.getfield 23, 3) := by decide +kernel
theorem d_F_isSoundAt_59 : decode b_F_isSoundAt 59 = .ok (.iload_n 3, 1) := by decide +kernel
theorem d_F_isSoundAt_60 : decode b_F_isSoundAt 60 = .ok (.iaload, 1) := by decide +kernel
theorem d_F_isSoundAt_61 : decode b_F_isSoundAt 61 = .ok (.if_icmp .ne 20, 3) := by decide +kernel
theorem d_F_isSoundAt_64 : decode b_F_isSoundAt 64 = .ok (.aload_n 2, 1) := by decide +kernel
theorem d_F_isSoundAt_65 : decode b_F_isSoundAt 65 = .ok (.getfield 55, 3) := by decide +kernel
theorem d_F_isSoundAt_68 : decode b_F_isSoundAt 68 = .ok (.aload_n 0, 1) := by decide +kernel
theorem d_F_isSoundAt_69 : decode b_F_isSoundAt 69 = .ok (.getfield 27, 3) := by decide +kernel
theorem d_F_isSoundAt_72 : decode b_F_isSoundAt 72 = .ok (.iload_n 3, 1) := by decide +kernel
theorem d_F_isSoundAt_73 : decode b_F_isSoundAt 73 = .ok (.iaload, 1) := by decide +kernel
theorem d_F_isSoundAt_74 : decode b_F_isSoundAt 74 = .ok (.if_icmp .ne 7, 3) := by decide +kernel
theorem d_F_isSoundAt_77 : decode b_F_isSoundAt 77 = .ok (.iconst 1, 1) := by decide +kernel
theorem d_F_isSoundAt_78 : decode b_F_isSoundAt 78 = .ok (.goto 4, 3) := by decide +kernel
theorem d_F_isSoundAt_81 : decode b_F_isSoundAt 81 = .ok (.iconst 0, 1) := by decide +kernel
theorem d_F_isSoundAt_82 : decode b_F_isSoundAt 82 = .ok (.ireturn, 1) := by decide +kernel
theorem d_F_isSoundWith_0 : decode b_F_isSoundWith 0 = .ok (.aload_n 0, 1) := by decide +kernel
theorem d_F_isSoundWith_1 : decode b_F_isSoundWith 1 = .ok (.getfield 11, 3) := by decide +kernel
theorem d_F_isSoundWith_4 : decode b_F_isSoundWith 4 = .ok (.iload_n 1, 1) := by decide +kernel
theorem d_F_isSoundWith_5 : decode b_F_isSoundWith 5 = .ok (.aaload, 1) := by decide +kernel
theorem d_F_isSoundWith_6 : decode b_F_isSoundWith 6 = .ok (.getfield 34, 3) := by decide +kernel
theorem d_F_isSoundWith_9 : decode b_F_isSoundWith 9 = .ok (.iload_n 2, 1) := by decide +kernel
theorem d_F_isSoundWith_10 : decode b_F_isSoundWith 10 = .ok (.if_icmp .ne 15, 3) := by decide +kernel
theorem d_F_isSoundWith_13 : decode b_F_isSoundWith 13 = .ok (.aload_n 0, 1) := by decide +kernel
theorem d_F_isSoundWith_14 : decode b_F_isSoundWith 14 = .ok (.iload_n 1, 1) := by decide +kernel
theorem d_F_isSoundWith_15 : decode b_F_isSoundWith 15 = .ok (.invokevirtual 58, 3) := by decide +kernel
theorem d_F_isSoundWith_18 : decode b_F_isSoundWith 18 = .ok (.ifCond .eq 7, 3) := by decide +kernel
theorem d_F_isSoundWith_21 : decode b_F_isSoundWith 21 = .ok (.iconst 1, 1) := by decide +kernel
theorem d_F_isSoundWith_22 : decode b_F_isSoundWith 22 = .ok (.goto 4, 3) := by decide +kernel
theorem d_F_isSoundWith_25 : decode b_F_isSoundWith 25 = .ok (.iconst 0, 1) := by decide +kernel
theorem d_F_isSoundWith_26 : decode b_F_isSoundWith 26 = .ok (.ireturn, 1) := by decide +kernel
theorem d_J_init_0 : decode b_J_init 0 = .ok (.return_, 1) := by decide +kernel
theorem d_J_max_0 : decode b_J_max 0 = .ok (.iload_n 0, 1) := by decide +kernel
theorem d_J_max_1 : decode b_J_max 1 = .ok (.iload_n 1, 1) := by decide +kernel
theorem d_J_max_2 : decode b_J_max 2 = .ok (.if_icmp .lt 7, 3) := by decide +kernel
theorem d_J_max_5 : decode b_J_max 5 = .ok (.iload_n 0, 1) := by decide +kernel
theorem d_J_max_6 : decode b_J_max 6 = .ok (.goto 4, 3) := by decide +kernel
theorem d_J_max_9 : decode b_J_max 9 = .ok (.iload_n 1, 1) := by decide +kernel
theorem d_J_max_10 : decode b_J_max 10 = .ok (.ireturn, 1) := by decide +kernel
theorem d_J_min_0 : decode b_J_min 0 = .ok (.iload_n 0, 1) := by decide +kernel
theorem d_J_min_1 : decode b_J_min 1 = .ok (.iload_n 1, 1) := by decide +kernel
theorem d_J_min_2 : decode b_J_min 2 = .ok (.if_icmp .gt 7, 3) := by decide +kernel
theorem d_J_min_5 : decode b_J_min 5 = .ok (.iload_n 0, 1) := by decide +kernel
theorem d_J_min_6 : decode b_J_min 6 = .ok (.goto 4, 3) := by decide +kernel
theorem d_J_min_9 : decode b_J_min 9 = .ok (.iload_n 1, 1) := by decide +kernel
theorem d_J_min_10 : decode b_J_min 10 = .ok (.ireturn, 1) := by decide +kernel
theorem d_J_fill_0 : decode b_J_fill 0 = .ok (.iconst 0, 1) := by decide +kernel
theorem d_J_fill_1 : decode b_J_fill 1 = .ok (.istore_n 2, 1) := by decide +kernel
theorem d_J_fill_2 : decode b_J_fill 2 = .ok (.aload_n 0, 1) := by decide +kernel
theorem d_J_fill_3 : decode b_J_fill 3 = .ok (.arraylength, 1) := by decide +kernel
theorem d_J_fill_4 : decode b_J_fill 4 = .ok (.istore_n 3, 1) := by decide +kernel
theorem d_J_fill_5 : decode b_J_fill 5 = .ok (.iload_n 2, 1) := by decide +kernel
theorem d_J_fill_6 : decode b_J_fill 6 = .ok (.iload_n 3, 1) := by decide +kernel
theorem d_J_fill_7 : decode b_J_fill 7 = .ok (.if_icmp .ge 13, 3) := by decide +kernel
theorem d_J_fill_10 : decode b_J_fill 10 = .ok (.aload_n 0, 1) := by decide +kernel
theorem d_J_fill_11 : decode b_J_fill 11 = .ok (.iload_n 2, 1) := by decide +kernel
theorem d_J_fill_12 : decode b_J_fill 12 = .ok (.iload_n 1, 1) := by decide +kernel
theorem d_J_fill_13 : decode b_J_fill 13 = .ok (.iastore, 1) := by decide +kernel
theorem d_J_fill_14 : decode b_J_fill 14 = .ok (.iinc 2 1, 3) := by decide +kernel
theorem d_J_fill_17 : decode b_J_fill 17 = .ok (.goto (-12), 3) := by decide +kernel
theorem d_J_fill_20 : decode b_J_fill 20 = .ok (.return_, 1) := by decide +kernel
end
section
theorem d_G_init_0 : decode b_G_init 0 = .ok (.aload_n 0, 1) := by decide +kernel
theorem d_G_init_1 : decode b_G_init 1 = .ok (.invokespecial 1, 3) := by decide +kernel
theorem d_G_init_4 : decode b_G_init 4 = .ok (.aload_n 0, 1) := by decide +kernel
theorem d_G_init_5 : decode b_G_init 5 = .ok (.iload_n 1, 1) := by decide +kernel
theorem d_G_init_6 : decode b_G_init 6 = .ok (.iconst 1, 1) := by decide +kernel
theorem d_G_init_7 : decode b_G_init 7 = .ok (.iconst 4, 1) := by decide +kernel
theorem d_G_init_8 : decode b_G_init 8 = .ok (.invokestatic 9, 3) := by decide +kernel
theorem d_G_init_11 : decode b_G_init 11 = .ok (.putfield 13, 3) := by decide +kernel
theorem d_G_init_14 : decode b_G_init 14 = .ok (.aload_n 0, 1) := by decide +kernel
theorem d_G_init_15 : decode b_G_init 15 = .ok (.iload_n 2, 1) := by decide +kernel
theorem d_G_init_16 : decode b_G_init 16 = .ok (.aload_n 0, 1) := by decide +kernel
theorem d_G_init_17 : decode b_G_init 17 = .ok (.getfield 13, 3) := by decide +kernel
theorem d_G_init_20 : decode b_G_init 20 = .ok (.bipush 7, 2) := by decide +kernel
theorem d_G_init_22 : decode b_G_init 22 = .ok (.invokestatic 9, 3) := by decide +kernel
theorem d_G_init_25 : decode b_G_init 25 = .ok (.putfield 17, 3) := by decide +kernel
theorem d_G_init_28 : decode b_G_init 28 = .ok (.aload_n 0, 1) := by decide +kernel
theorem d_G_init_29 : decode b_G_init 29 = .ok (.aload_n 0, 1) := by decide +kernel
theorem d_G_init_30 : decode b_G_init 30 = .ok (.getfield 17, 3) := by decide +kernel
theorem d_G_init_33 : decode b_G_init 33 = .ok (.newarray .boolean, 2) := by decide +kernel
theorem d_G_init_35 : decode b_G_init 35 = .ok (.putfield 20, 3) := by decide +kernel
theorem d_G_init_38 : decode b_G_init 38 = .ok (.aload_n 0, 1) := by decide +kernel
theorem d_G_init_39 : decode b_G_init 39 = .ok (.aload_n 0, 1) := by decide +kernel
theorem d_G_init_40 : decode b_G_init 40 = .ok (.getfield 17, 3) := by decide +kernel
theorem d_G_init_43 : decode b_G_init 43 = .ok (.newarray .boolean, 2) := by decide +kernel
theorem d_G_init_45 : decode b_G_init 45 = .ok (.putfield 24, 3) := by decide +kernel
theorem d_G_init_48 : decode b_G_init 48 = .ok (.iconst 0, 1) := by decide +kernel
theorem d_G_init_49 : decode b_G_init 49 = .ok (.istore_n 3, 1) := by decide +kernel
theorem d_G_init_50 : decode b_G_init 50 = .ok (.iload_n 3, 1) := by decide +kernel
theorem d_G_init_51 : decode b_G_init 51 = .ok (.aload_n 0, 1) := by decide +kernel
theorem d_G_init_52 : decode b_G_init 52 = .ok (.getfield 17, 3) := by decide +kernel
theorem d_G_init_55 : decode b_G_init 55 = .ok (.if_icmp .ge 16, 3) := by decide +kernel
theorem d_G_init_58 : decode b_G_init 58 = .ok (.aload_n 0, 1) := by decide +kernel
theorem d_G_init_59 : decode b_G_init 59 = .ok (.getfield 20, 3) := by decide +kernel
theorem d_G_init_62 : decode b_G_init 62 = .ok (.iload_n 3, 1) := by decide +kernel
theorem d_G_init_63 : decode b_G_init 63 = .ok (.iconst 1, 1) := by decide +kernel
theorem d_G_init_64 : decode b_G_init 64 = .ok (.bastore, 1) := by decide +kernel
theorem d_G_init_65 : decode b_G_init 65 = .ok (.iinc 3 1, 3) := by decide +kernel
theorem d_G_init_68 : decode b_G_init 68 = .ok (.goto (-18), 3) := by decide +kernel
theorem d_G_init_71 : decode b_G_init 71 = .ok (.aload_n 0, 1) := by decide +kernel
theorem d_G_init_72 : decode b_G_init 72 = .ok (.bipush 6, 2) := by decide +kernel
theorem d_G_init_74 : decode b_G_init 74 = .ok (.anewarray 27, 3) := by decide +kernel
theorem d_G_init_77 : decode b_G_init 77 = .ok (.putfield 29, 3) := by decide +kernel
theorem d_G_init_80 : decode b_G_init 80 = .ok (.iconst 0, 1) := by decide +kernel
theorem d_G_init_81 : decode b_G_init 81 = .ok (.istore_n 3, 1) := by decide +kernel
theorem d_G_init_82 : decode b_G_init 82 = .ok (.iload_n 3, 1) := by decide +kernel
theorem d_G_init_83 : decode b_G_init 83 = .ok (.bipush 6, 2) := by decide +kernel
theorem d_G_init_85 : decode b_G_init 85 = .ok (.if_icmp .ge 26, 3) := by decide +kernel
theorem d_G_init_88 : decode b_G_init 88 = .ok (.aload_n 0, 1) := by decide +kernel
theorem d_G_init_89 : decode b_G_init 89 = .ok (.getfield 29, 3) := by decide +kernel
theorem d_G_init_92 : decode b_G_init 92 = .ok (.iload_n 3, 1) := by decide +kernel
theorem d_G_init_93 : decode b_G_init 93 = .ok (.new 27, 3) := by decide +kernel
theorem d_G_init_96 : decode b_G_init 96 = .ok (.dup, 1) := by decide +kernel
theorem d_G_init_97 : decode b_G_init 97 = .ok (.aload_n 0, 1) := by decide +kernel
theorem d_G_init_98 : decode b_G_init 98 = .ok (.getfield 17, 3) := by decide +kernel
theorem d_G_init_101 : decode b_G_init 101 = .ok (.invokespecial 33, 3) := by decide +kernel
theorem d_G_init_104 : decode b_G_init 104 = .ok (.aastore, 1) := by decide +kernel
theorem d_G_init_105 : decode b_G_init 105 = .ok (.iinc 3 1, 3) := by decide +kernel
theorem d_G_init_108 : decode b_G_init 108 = .ok (.goto (-26), 3) := by decide +kernel
theorem d_G_init_111 : decode b_G_init 111 = .ok (.aload_n 0, 1) := by decide +kernel
theorem d_G_init_112 : decode b_G_init 112 = .ok (.aload_n 0, 1) := by decide +kernel
theorem d_G_init_113 : decode b_G_init 113 = .ok (.getfield 13, 3) := by decide +kernel
theorem d_G_init_116 : decode b_G_init 116 = .ok (.newarray .int, 2) := by decide +kernel
theorem d_G_init_118 : decode b_G_init 118 = .ok (.putfield 36, 3) := by decide +kernel
theorem d_G_init_121 : decode b_G_init 121 = .ok (.aload_n 0, 1) := by decide +kernel
theorem d_G_init_122 : decode b_G_init 122 = .ok (.aload_n 0, 1) := by decide +kernel
theorem d_G_init_123 : decode b_G_init 123 = .ok (.getfield 13, 3) := by decide +kernel
theorem d_G_init_126 : decode b_G_init 126 = .ok (.newarray .int, 2) := by decide +kernel
theorem d_G_init_128 : decode b_G_init 128 = .ok (.putfield 40, 3) := by decide +kernel
theorem d_G_init_131 : decode b_G_init 131 = .ok (.aload_n 0, 1) := by decide +kernel
theorem d_G_init_132 : decode b_G_init 132 = .ok (.new 43, 3) := by decide +kernel
theorem d_G_init_135 : decode b_G_init 135 = .ok (.dup, 1) := by decide +kernel
theorem d_G_init_136 : decode b_G_init 136 = .ok (.aload_n 0, 1) := by decide +kernel
theorem d_G_init_137 : decode b_G_init 137 = .ok (.getfield 13, 3) := by decide +kernel
theorem d_G_init_140 : decode b_G_init 140 = .ok (.invokespecial 45, 3) := by decide +kernel
theorem d_G_init_143 : decode b_G_init 143 = .ok (.putfield 46, 3) := by decide +kernel
theorem d_G_init_146 : decode b_G_init 146 = .ok (.aload_n 0, 1) := by decide +kernel
theorem d_G_init_147 : decode b_G_init 147 = .ok (.new 50, 3) := by decide +kernel
theorem d_G_init_150 : decode b_G_init 150 = .ok (.dup, 1) := by decide +kernel
theorem d_G_init_151 : decode b_G_init 151 = .ok (.aload_n 0, 1) := by decide +kernel
theorem d_G_init_152 : decode b_G_init 152 = .ok (.getfield 17, 3) := by decide +kernel
theorem d_G_init_155 : decode b_G_init 155 = .ok (.invokespecial 52, 3) := by decide +kernel
theorem d_G_init_158 : decode b_G_init 158 = .ok (.putfield 53, 3) := by decide +kernel
theorem d_G_init_161 : decode b_G_init 161 = .ok (.aload_n 0, 1) := by decide +kernel
theorem d_G_init_162 : decode b_G_init 162 = .ok (.bipush 31, 2) := by decide +kernel
theorem d_G_init_164 : decode b_G_init 164 = .ok (.newarray .int, 2) := by decide +kernel
theorem d_G_init_166 : decode b_G_init 166 = .ok (.putfield 57, 3) := by decide +kernel
theorem d_G_init_169 : decode b_G_init 169 = .ok (.aload_n 0, 1) := by decide +kernel
theorem d_G_init_170 : decode b_G_init 170 = .ok (.iconst 0, 1) := by decide +kernel
theorem d_G_init_171 : decode b_G_init 171 = .ok (.putfield 60, 3) := by decide +kernel
theorem d_G_init_174 : decode b_G_init 174 = .ok (.aload_n 0, 1) := by decide +kernel
theorem d_G_init_175 : decode b_G_init 175 = .ok (.iconst 0, 1) := by decide +kernel
theorem d_G_init_176 : decode b_G_init 176 = .ok (.putfield 63, 3) := by decide +kernel
theorem d_G_init_179 : decode b_G_init 179 = .ok (.return_, 1) := by decide +kernel
theorem d_G_key_0 : decode b_G_key 0 = .ok (.iload_n 2, 1) := by decide +kernel
theorem d_G_key_1 : decode b_G_key 1 = .ok (.tableswitch 45 1 3 #[27, 32, 37], 27) := by decide +kernel
theorem d_G_key_28 : decode b_G_key 28 = .ok (.iload_n 1, 1) := by decide +kernel
theorem d_G_key_29 : decode b_G_key 29 = .ok (.invokestatic 67, 3) := by decide +kernel
theorem d_G_key_32 : decode b_G_key 32 = .ok (.ireturn, 1) := by decide +kernel
theorem d_G_key_33 : decode b_G_key 33 = .ok (.iload_n 1, 1) := by decide +kernel
theorem d_G_key_34 : decode b_G_key 34 = .ok (.invokestatic 71, 3) := by decide +kernel
theorem d_G_key_37 : decode b_G_key 37 = .ok (.ireturn, 1) := by decide +kernel
theorem d_G_key_38 : decode b_G_key 38 = .ok (.iload_n 1, 1) := by decide +kernel
theorem d_G_key_39 : decode b_G_key 39 = .ok (.invokestatic 67, 3) := by decide +kernel
theorem d_G_key_42 : decode b_G_key 42 = .ok (.invokestatic 71, 3) := by decide +kernel
theorem d_G_key_45 : decode b_G_key 45 = .ok (.ireturn, 1) := by decide +kernel
theorem d_G_key_46 : decode b_G_key 46 = .ok (.iconst 0, 1) := by decide +kernel
theorem d_G_key_47 : decode b_G_key 47 = .ok (.ireturn, 1) := by decide +kernel
theorem d_G_create_0 : decode b_G_create 0 = .ok (.iload_n 1, 1) := by decide +kernel
theorem d_G_create_1 : decode b_G_create 1 = .ok (.invokestatic 67, 3) := by decide +kernel
theorem d_G_create_4 : decode b_G_create 4 = .ok (.invokestatic 71, 3) := by decide +kernel
theorem d_G_create_7 : decode b_G_create 7 = .ok (.istore_n 2, 1) := by decide +kernel
theorem d_G_create_8 : decode b_G_create 8 = .ok (.aload_n 0, 1) := by decide +kernel
theorem d_G_create_9 : decode b_G_create 9 = .ok (.iload_n 2, 1) := by decide +kernel
theorem d_G_create_10 : decode b_G_create 10 = .ok (.invokevirtual 74, 3) := by decide +kernel
theorem d_G_create_13 : decode b_G_create 13 = .ok (.ifCond .lt 5, 3) := by decide +kernel
theorem d_G_create_16 : decode b_G_create 16 = .ok (.iconst (-1), 1) := by decide +kernel
theorem d_G_create_17 : decode b_G_create 17 = .ok (.ireturn, 1) := by decide +kernel
theorem d_G_create_18 : decode b_G_create 18 = .ok (.aload_n 0, 1) := by decide +kernel
theorem d_G_create_19 : decode b_G_create 19 = .ok (.getfield 60, 3) := by decide +kernel
theorem d_G_create_22 : decode b_G_create 22 = .ok (.bipush 6, 2) := by decide +kernel
theorem d_G_create_24 : decode b_G_create 24 = .ok (.if_icmp .lt 6, 3) := by decide +kernel
theorem d_G_create_27 : decode b_G_create 27 = .ok (.bipush (-2), 2) := by decide +kernel
theorem d_G_create_29 : decode b_G_create 29 = .ok (.ireturn, 1) := by decide +kernel
theorem d_G_create_30 : decode b_G_create 30 = .ok (.aload_n 0, 1) := by decide +kernel
theorem d_G_create_31 : decode b_G_create 31 = .ok (.getfield 29, 3) := by decide +kernel
theorem d_G_create_34 : decode b_G_create 34 = .ok (.aload_n 0, 1) := by decide +kernel
theorem d_G_create_35 : decode b_G_create 35 = .ok (.getfield 60, 3) := by decide +kernel
theorem d_G_create_38 : decode b_G_create 38 = .ok (.aaload, 1) := by decide +kernel
theorem d_G_create_39 : decode b_G_create 39 = .ok (.iload_n 2, 1) := by decide +kernel
theorem d_G_create_40 : decode b_G_create 40 = .ok (.putfield 77, 3) := by decide +kernel
theorem d_G_create_43 : decode b_G_create 43 = .ok (.aload_n 0, 1) := by decide +kernel
theorem d_G_create_44 : decode b_G_create 44 = .ok (.dup, 1) := by decide +kernel
theorem d_G_create_45 : decode b_G_create 45 = .ok (.getfield 60, 3) := by decide +kernel
theorem d_G_create_48 : decode b_G_create 48 = .ok (.iconst 1, 1) := by decide +kernel
theorem d_G_create_49 : decode b_G_create 49 = .ok (.iadd, 1) := by decide +kernel
theorem d_G_create_50 : decode b_G_create 50 = .ok (.putfield 60, 3) := by decide +kernel
theorem d_G_create_53 : decode b_G_create 53 = .ok (.aload_n 0, 1) := by decide +kernel
theorem d_G_create_54 : decode b_G_create 54 = .ok (.getfield 60, 3) := by decide +kernel
theorem d_G_create_57 : decode b_G_create 57 = .ok (.iconst 1, 1) := by decide +kernel
theorem d_G_create_58 : decode b_G_create 58 = .ok (.isub, 1) := by decide +kernel
theorem d_G_create_59 : decode b_G_create 59 = .ok (.ireturn, 1) := by decide +kernel
theorem d_G_draft_0 : decode b_G_draft 0 = .ok (.aload_n 0, 1) := by decide +kernel
theorem d_G_draft_1 : decode b_G_draft 1 = .ok (.iload_n 1, 1) := by decide +kernel
theorem d_G_draft_2 : decode b_G_draft 2 = .ok (.invokevirtual 80, 3) := by decide +kernel
theorem d_G_draft_5 : decode b_G_draft 5 = .ok (.ifCond .ne 5, 3) := by decide +kernel
theorem d_G_draft_8 : decode b_G_draft 8 = .ok (.iconst (-1), 1) := by decide +kernel
theorem d_G_draft_9 : decode b_G_draft 9 = .ok (.ireturn, 1) := by decide +kernel
theorem d_G_draft_10 : decode b_G_draft 10 = .ok (.aload_n 0, 1) := by decide +kernel
theorem d_G_draft_11 : decode b_G_draft 11 = .ok (.getfield 36, 3) := by decide +kernel
theorem d_G_draft_14 : decode b_G_draft 14 = .ok (.iload_n 1, 1) := by decide +kernel
theorem d_G_draft_15 : decode b_G_draft 15 = .ok (.iload_n 2, 1) := by decide +kernel
theorem d_G_draft_16 : decode b_G_draft 16 = .ok (.iastore, 1) := by decide +kernel
theorem d_G_draft_17 : decode b_G_draft 17 = .ok (.iconst 0, 1) := by decide +kernel
theorem d_G_draft_18 : decode b_G_draft 18 = .ok (.ireturn, 1) := by decide +kernel
theorem d_G_write_0 : decode b_G_write 0 = .ok (.iload_n 1, 1) := by decide +kernel
theorem d_G_write_1 : decode b_G_write 1 = .ok (.invokestatic 67, 3) := by decide +kernel
theorem d_G_write_4 : decode b_G_write 4 = .ok (.istore_n 2, 1) := by decide +kernel
theorem d_G_write_5 : decode b_G_write 5 = .ok (.aload_n 0, 1) := by decide +kernel
theorem d_G_write_6 : decode b_G_write 6 = .ok (.iload_n 2, 1) := by decide +kernel
theorem d_G_write_7 : decode b_G_write 7 = .ok (.invokestatic 71, 3) := by decide +kernel
theorem d_G_write_10 : decode b_G_write 10 = .ok (.invokevirtual 74, 3) := by decide +kernel
theorem d_G_write_13 : decode b_G_write 13 = .ok (.istore_n 3, 1) := by decide +kernel
theorem d_G_write_14 : decode b_G_write 14 = .ok (.iload_n 3, 1) := by decide +kernel
theorem d_G_write_15 : decode b_G_write 15 = .ok (.ifCond .ge 5, 3) := by decide +kernel
theorem d_G_write_18 : decode b_G_write 18 = .ok (.iconst (-1), 1) := by decide +kernel
theorem d_G_write_19 : decode b_G_write 19 = .ok (.ireturn, 1) := by decide +kernel
theorem d_G_write_20 : decode b_G_write 20 = .ok (.aload_n 0, 1) := by decide +kernel
theorem d_G_write_21 : decode b_G_write 21 = .ok (.invokevirtual 84, 3) := by decide +kernel
theorem d_G_write_24 : decode b_G_write 24 = .ok (.aload_n 0, 1) := by decide +kernel
theorem d_G_write_25 : decode b_G_write 25 = .ok (.getfield 13, 3) := by decide +kernel
theorem d_G_write_28 : decode b_G_write 28 = .ok (.if_icmp .ge 6, 3) := by decide +kernel
theorem d_G_write_31 : decode b_G_write 31 = .ok (.bipush (-3), 2) := by decide +kernel
theorem d_G_write_33 : decode b_G_write 33 = .ok (.ireturn, 1) := by decide +kernel
theorem d_G_write_34 : decode b_G_write 34 = .ok (.aload_n 0, 1) := by decide +kernel
theorem d_G_write_35 : decode b_G_write 35 = .ok (.getfield 29, 3) := by decide +kernel
theorem d_G_write_38 : decode b_G_write 38 = .ok (.iload_n 3, 1) := by decide +kernel
theorem d_G_write_39 : decode b_G_write 39 = .ok (.aaload, 1) := by decide +kernel
theorem d_G_write_40 : decode b_G_write 40 = .ok (.astore 4, 2) := by decide +kernel
theorem d_G_write_42 : decode b_G_write 42 = .ok (.aload 4, 2) := by decide +kernel
theorem d_G_write_44 : decode b_G_write 44 = .ok (.getfield 88, 3) := by decide +kernel
theorem d_G_write_47 : decode b_G_write 47 = .ok (.bipush 30, 2) := by decide +kernel
theorem d_G_write_49 : decode b_G_write 49 = .ok (.if_icmp .lt 6, 3) := by decide +kernel
theorem d_G_write_52 : decode b_G_write 52 = .ok (.bipush (-2), 2) := by decide +kernel
theorem d_G_write_54 : decode b_G_write 54 = .ok (.ireturn, 1) := by decide +kernel
theorem d_G_write_55 : decode b_G_write 55 = .ok (.aload 4, 2) := by decide +kernel
theorem d_G_write_57 : decode b_G_write 57 = .ok (.getfield 88, 3) := by decide +kernel
theorem d_G_write_60 : decode b_G_write 60 = .ok (.iconst 1, 1) := by decide +kernel
theorem d_G_write_61 : decode b_G_write 61 = .ok (.iadd, 1) := by decide +kernel
theorem d_G_write_62 : decode b_G_write 62 = .ok (.istore 5, 2) := by decide +kernel
theorem d_G_write_64 : decode b_G_write 64 = .ok (.iconst 0, 1) := by decide +kernel
theorem d_G_write_65 : decode b_G_write 65 = .ok (.istore 6, 2) := by decide +kernel
theorem d_G_write_67 : decode b_G_write 67 = .ok (.iload 6, 2) := by decide +kernel
theorem d_G_write_69 : decode b_G_write 69 = .ok (.aload_n 0, 1) := by decide +kernel
theorem d_G_write_70 : decode b_G_write 70 = .ok (.getfield 13, 3) := by decide +kernel
theorem d_G_write_73 : decode b_G_write 73 = .ok (.if_icmp .ge 35, 3) := by decide +kernel
theorem d_G_write_76 : decode b_G_write 76 = .ok (.aload_n 0, 1) := by decide +kernel
theorem d_G_write_77 : decode b_G_write 77 = .ok (.getfield 46, 3) := by decide +kernel
theorem d_G_write_80 : decode b_G_write 80 = .ok (.getfield 91, 3) := by decide +kernel
theorem d_G_write_83 : decode b_G_write 83 = .ok (.iload 6, 2) := by decide +kernel
theorem d_G_write_85 : decode b_G_write 85 = .ok (.aload_n 0, 1) := by decide +kernel
theorem d_G_write_86 : decode b_G_write 86 = .ok (.getfield 36, 3) := by decide +kernel
theorem d_G_write_89 : decode b_G_write 89 = .ok (.iload 6, 2) := by decide +kernel
theorem d_G_write_91 : decode b_G_write 91 = .ok (.iaload, 1) := by decide +kernel
theorem d_G_write_92 : decode b_G_write 92 = .ok (.iload_n 2, 1) := by decide +kernel
theorem d_G_write_93 : decode b_G_write 93 = .ok (.iload 5, 2) := by decide +kernel
theorem d_G_write_95 : decode b_G_write 95 = .ok (.iload 6, 2) := by decide +kernel
theorem d_G_write_97 : decode b_G_write 97 = .ok (.invokestatic 94, 3) := by decide +kernel
theorem d_G_write_100 : decode b_G_write 100 = .ok (.ixor, 1) := by decide +kernel
theorem d_G_write_101 : decode b_G_write 101 = .ok (.iastore, 1) := by decide +kernel
theorem d_G_write_102 : decode b_G_write 102 = .ok (.iinc 6 1, 3) := by decide +kernel
theorem d_G_write_105 : decode b_G_write 105 = .ok (.goto (-38), 3) := by decide +kernel
theorem d_G_write_108 : decode b_G_write 108 = .ok (.aload_n 0, 1) := by decide +kernel
theorem d_G_write_109 : decode b_G_write 109 = .ok (.iload 5, 2) := by decide +kernel
theorem d_G_write_111 : decode b_G_write 111 = .ok (.iload_n 1, 1) := by decide +kernel
theorem d_G_write_112 : decode b_G_write 112 = .ok (.invokevirtual 97, 3) := by decide +kernel
theorem d_G_write_115 : decode b_G_write 115 = .ok (.istore 6, 2) := by decide +kernel
theorem d_G_write_117 : decode b_G_write 117 = .ok (.aload 4, 2) := by decide +kernel
theorem d_G_write_119 : decode b_G_write 119 = .ok (.iload 6, 2) := by decide +kernel
theorem d_G_write_121 : decode b_G_write 121 = .ok (.aload_n 0, 1) := by decide +kernel
theorem d_G_write_122 : decode b_G_write 122 = .ok (.getfield 53, 3) := by decide +kernel
theorem d_G_write_125 : decode b_G_write 125 = .ok (.getfield 101, 3) := by decide +kernel
theorem d_G_write_128 : decode b_G_write 128 = .ok (.invokevirtual 104, 3) := by decide +kernel
theorem d_G_write_131 : decode b_G_write 131 = .ok (.iconst 0, 1) := by decide +kernel
theorem d_G_write_132 : decode b_G_write 132 = .ok (.istore 7, 2) := by decide +kernel
theorem d_G_write_134 : decode b_G_write 134 = .ok (.iconst 0, 1) := by decide +kernel
theorem d_G_write_135 : decode b_G_write 135 = .ok (.istore 8, 2) := by decide +kernel
theorem d_G_write_137 : decode b_G_write 137 = .ok (.iload 8, 2) := by decide +kernel
theorem d_G_write_139 : decode b_G_write 139 = .ok (.aload_n 0, 1) := by decide +kernel
theorem d_G_write_140 : decode b_G_write 140 = .ok (.getfield 17, 3) := by decide +kernel
theorem d_G_write_143 : decode b_G_write 143 = .ok (.if_icmp .ge 29, 3) := by decide +kernel
theorem d_G_write_146 : decode b_G_write 146 = .ok (.aload_n 0, 1) := by decide +kernel
theorem d_G_write_147 : decode b_G_write 147 = .ok (.iload 8, 2) := by decide +kernel
theorem d_G_write_149 : decode b_G_write 149 = .ok (.invokevirtual 108, 3) := by decide +kernel
theorem d_G_write_152 : decode b_G_write 152 = .ok (.ifCond .eq 14, 3) := by decide +kernel
theorem d_G_write_155 : decode b_G_write 155 = .ok (.aload_n 0, 1) := by decide +kernel
theorem d_G_write_156 : decode b_G_write 156 = .ok (.aload 4, 2) := by decide +kernel
theorem d_G_write_158 : decode b_G_write 158 = .ok (.iload 8, 2) := by decide +kernel
theorem d_G_write_160 : decode b_G_write 160 = .ok (.invokevirtual 111, 3) := by decide +kernel
theorem d_G_write_163 : decode b_G_write 163 = .ok (.iinc 7 1, 3) := by decide +kernel
theorem d_G_write_166 : decode b_G_write 166 = .ok (.iinc 8 1, 3) := by decide +kernel
theorem d_G_write_169 : decode b_G_write 169 = .ok (.goto (-32), 3) := by decide +kernel
theorem d_G_write_172 : decode b_G_write 172 = .ok (.iload 7, 2) := by decide +kernel
theorem d_G_write_174 : decode b_G_write 174 = .ok (.ireturn, 1) := by decide +kernel
theorem d_G_read_0 : decode b_G_read 0 = .ok (.aload_n 0, 1) := by decide +kernel
theorem d_G_read_1 : decode b_G_read 1 = .ok (.iload_n 1, 1) := by decide +kernel
theorem d_G_read_2 : decode b_G_read 2 = .ok (.invokestatic 71, 3) := by decide +kernel
theorem d_G_read_5 : decode b_G_read 5 = .ok (.invokevirtual 74, 3) := by decide +kernel
theorem d_G_read_8 : decode b_G_read 8 = .ok (.istore_n 2, 1) := by decide +kernel
theorem d_G_read_9 : decode b_G_read 9 = .ok (.iload_n 2, 1) := by decide +kernel
theorem d_G_read_10 : decode b_G_read 10 = .ok (.ifCond .ge 5, 3) := by decide +kernel
theorem d_G_read_13 : decode b_G_read 13 = .ok (.iconst (-1), 1) := by decide +kernel
theorem d_G_read_14 : decode b_G_read 14 = .ok (.ireturn, 1) := by decide +kernel
theorem d_G_read_15 : decode b_G_read 15 = .ok (.aload_n 0, 1) := by decide +kernel
theorem d_G_read_16 : decode b_G_read 16 = .ok (.aload_n 0, 1) := by decide +kernel
theorem d_G_read_17 : decode b_G_read 17 = .ok (.getfield 29, 3) := by decide +kernel
theorem d_G_read_20 : decode b_G_read 20 = .ok (.iload_n 2, 1) := by decide +kernel
theorem d_G_read_21 : decode b_G_read 21 = .ok (.aaload, 1) := by decide +kernel
theorem d_G_read_22 : decode b_G_read 22 = .ok (.invokevirtual 115, 3) := by decide +kernel
theorem d_G_read_25 : decode b_G_read 25 = .ok (.istore_n 3, 1) := by decide +kernel
theorem d_G_read_26 : decode b_G_read 26 = .ok (.iload_n 3, 1) := by decide +kernel
theorem d_G_read_27 : decode b_G_read 27 = .ok (.ifCond .ne 6, 3) := by decide +kernel
theorem d_G_read_30 : decode b_G_read 30 = .ok (.bipush (-3), 2) := by decide +kernel
theorem d_G_read_32 : decode b_G_read 32 = .ok (.ireturn, 1) := by decide +kernel
theorem d_G_read_33 : decode b_G_read 33 = .ok (.aload_n 0, 1) := by decide +kernel
theorem d_G_read_34 : decode b_G_read 34 = .ok (.aload_n 0, 1) := by decide +kernel
theorem d_G_read_35 : decode b_G_read 35 = .ok (.getfield 29, 3) := by decide +kernel
theorem d_G_read_38 : decode b_G_read 38 = .ok (.iload_n 2, 1) := by decide +kernel
theorem d_G_read_39 : decode b_G_read 39 = .ok (.aaload, 1) := by decide +kernel
theorem d_G_read_40 : decode b_G_read 40 = .ok (.iload_n 3, 1) := by decide +kernel
theorem d_G_read_41 : decode b_G_read 41 = .ok (.invokevirtual 119, 3) := by decide +kernel
theorem d_G_read_44 : decode b_G_read 44 = .ok (.pop, 1) := by decide +kernel
theorem d_G_read_45 : decode b_G_read 45 = .ok (.iconst 0, 1) := by decide +kernel
theorem d_G_read_46 : decode b_G_read 46 = .ok (.istore 4, 2) := by decide +kernel
theorem d_G_read_48 : decode b_G_read 48 = .ok (.iload 4, 2) := by decide +kernel
theorem d_G_read_50 : decode b_G_read 50 = .ok (.aload_n 0, 1) := by decide +kernel
theorem d_G_read_51 : decode b_G_read 51 = .ok (.getfield 13, 3) := by decide +kernel
theorem d_G_read_54 : decode b_G_read 54 = .ok (.if_icmp .ge 34, 3) := by decide +kernel
theorem d_G_read_57 : decode b_G_read 57 = .ok (.aload_n 0, 1) := by decide +kernel
theorem d_G_read_58 : decode b_G_read 58 = .ok (.getfield 40, 3) := by decide +kernel
theorem d_G_read_61 : decode b_G_read 61 = .ok (.iload 4, 2) := by decide +kernel
theorem d_G_read_63 : decode b_G_read 63 = .ok (.aload_n 0, 1) := by decide +kernel
theorem d_G_read_64 : decode b_G_read 64 = .ok (.getfield 46, 3) := by decide +kernel
theorem d_G_read_67 : decode b_G_read 67 = .ok (.getfield 91, 3) := by decide +kernel
theorem d_G_read_70 : decode b_G_read 70 = .ok (.iload 4, 2) := by decide +kernel
theorem d_G_read_72 : decode b_G_read 72 = .ok (.iaload, 1) := by decide +kernel
theorem d_G_read_73 : decode b_G_read 73 = .ok (.iload_n 1, 1) := by decide +kernel
theorem d_G_read_74 : decode b_G_read 74 = .ok (.iload_n 3, 1) := by decide +kernel
theorem d_G_read_75 : decode b_G_read 75 = .ok (.iload 4, 2) := by decide +kernel
theorem d_G_read_77 : decode b_G_read 77 = .ok (.invokestatic 94, 3) := by decide +kernel
theorem d_G_read_80 : decode b_G_read 80 = .ok (.ixor, 1) := by decide +kernel
theorem d_G_read_81 : decode b_G_read 81 = .ok (.iastore, 1) := by decide +kernel
theorem d_G_read_82 : decode b_G_read 82 = .ok (.iinc 4 1, 3) := by decide +kernel
theorem d_G_read_85 : decode b_G_read 85 = .ok (.goto (-37), 3) := by decide +kernel
theorem d_G_read_88 : decode b_G_read 88 = .ok (.aload_n 0, 1) := by decide +kernel
theorem d_G_read_89 : decode b_G_read 89 = .ok (.iconst 1, 1) := by decide +kernel
theorem d_G_read_90 : decode b_G_read 90 = .ok (.putfield 63, 3) := by decide +kernel
theorem d_G_read_93 : decode b_G_read 93 = .ok (.iload_n 3, 1) := by decide +kernel
theorem d_G_read_94 : decode b_G_read 94 = .ok (.ireturn, 1) := by decide +kernel
theorem d_G_word_0 : decode b_G_word 0 = .ok (.aload_n 0, 1) := by decide +kernel
theorem d_G_word_1 : decode b_G_word 1 = .ok (.getfield 63, 3) := by decide +kernel
theorem d_G_word_4 : decode b_G_word 4 = .ok (.ifCond .eq 11, 3) := by decide +kernel
theorem d_G_word_7 : decode b_G_word 7 = .ok (.aload_n 0, 1) := by decide +kernel
theorem d_G_word_8 : decode b_G_word 8 = .ok (.iload_n 1, 1) := by decide +kernel
theorem d_G_word_9 : decode b_G_word 9 = .ok (.invokevirtual 80, 3) := by decide +kernel
theorem d_G_word_12 : decode b_G_word 12 = .ok (.ifCond .ne 7, 3) := by decide +kernel
theorem d_G_word_15 : decode b_G_word 15 = .ok (.ldc2_w 123, 3) := by decide +kernel
theorem d_G_word_18 : decode b_G_word 18 = .ok (.lreturn, 1) := by decide +kernel
theorem d_G_word_19 : decode b_G_word 19 = .ok (.aload_n 0, 1) := by decide +kernel
theorem d_G_word_20 : decode b_G_word 20 = .ok (.getfield 40, 3) := by decide +kernel
theorem d_G_word_23 : decode b_G_word 23 = .ok (.iload_n 1, 1) := by decide +kernel
theorem d_G_word_24 : decode b_G_word 24 = .ok (.iaload, 1) := by decide +kernel
theorem d_G_word_25 : decode b_G_word 25 = .ok (.i2l, 1) := by decide +kernel
theorem d_G_word_26 : decode b_G_word 26 = .ok (.lreturn, 1) := by decide +kernel
theorem d_G_sound_0 : decode b_G_sound 0 = .ok (.aload_n 0, 1) := by decide +kernel
theorem d_G_sound_1 : decode b_G_sound 1 = .ok (.iload_n 1, 1) := by decide +kernel
theorem d_G_sound_2 : decode b_G_sound 2 = .ok (.invokevirtual 74, 3) := by decide +kernel
theorem d_G_sound_5 : decode b_G_sound 5 = .ok (.istore_n 2, 1) := by decide +kernel
theorem d_G_sound_6 : decode b_G_sound 6 = .ok (.iload_n 2, 1) := by decide +kernel
theorem d_G_sound_7 : decode b_G_sound 7 = .ok (.ifCond .ge 5, 3) := by decide +kernel
theorem d_G_sound_10 : decode b_G_sound 10 = .ok (.iconst (-1), 1) := by decide +kernel
theorem d_G_sound_11 : decode b_G_sound 11 = .ok (.ireturn, 1) := by decide +kernel
theorem d_G_sound_12 : decode b_G_sound 12 = .ok (.iconst 0, 1) := by decide +kernel
theorem d_G_sound_13 : decode b_G_sound 13 = .ok (.istore_n 3, 1) := by decide +kernel
theorem d_G_sound_14 : decode b_G_sound 14 = .ok (.iconst 0, 1) := by decide +kernel
theorem d_G_sound_15 : decode b_G_sound 15 = .ok (.istore 4, 2) := by decide +kernel
theorem d_G_sound_17 : decode b_G_sound 17 = .ok (.iload 4, 2) := by decide +kernel
theorem d_G_sound_19 : decode b_G_sound 19 = .ok (.aload_n 0, 1) := by decide +kernel
theorem d_G_sound_20 : decode b_G_sound 20 = .ok (.getfield 17, 3) := by decide +kernel
theorem d_G_sound_23 : decode b_G_sound 23 = .ok (.if_icmp .ge 36, 3) := by decide +kernel
theorem d_G_sound_26 : decode b_G_sound 26 = .ok (.aload_n 0, 1) := by decide +kernel
theorem d_G_sound_27 : decode b_G_sound 27 = .ok (.getfield 20, 3) := by decide +kernel
theorem d_G_sound_30 : decode b_G_sound 30 = .ok (.iload 4, 2) := by decide +kernel
theorem d_G_sound_32 : decode b_G_sound 32 = .ok (.baload, 1) := by decide +kernel
theorem d_G_sound_33 : decode b_G_sound 33 = .ok (.ifCond .eq 20, 3) := by decide +kernel
theorem d_G_sound_36 : decode b_G_sound 36 = .ok (.aload_n 0, 1) := by decide +kernel
theorem d_G_sound_37 : decode b_G_sound 37 = .ok (.getfield 29, 3) := by decide +kernel
theorem d_G_sound_40 : decode b_G_sound 40 = .ok (.iload_n 2, 1) := by decide +kernel
theorem d_G_sound_41 : decode b_G_sound 41 = .ok (.aaload, 1) := by decide +kernel
theorem d_G_sound_42 : decode b_G_sound 42 = .ok (.iload 4, 2) := by decide +kernel
theorem d_G_sound_44 : decode b_G_sound 44 = .ok (.invokevirtual 125, 3) := by decide +kernel
theorem d_G_sound_47 : decode b_G_sound 47 = .ok (.ifCond .eq 6, 3) := by decide +kernel
theorem d_G_sound_50 : decode b_G_sound 50 = .ok (.iinc 3 1, 3) := by decide +kernel
theorem d_G_sound_53 : decode b_G_sound 53 = .ok (.iinc 4 1, 3) := by decide +kernel
theorem d_G_sound_56 : decode b_G_sound 56 = .ok (.goto (-39), 3) := by decide +kernel
theorem d_G_sound_59 : decode b_G_sound 59 = .ok (.iload_n 3, 1) := by decide +kernel
theorem d_G_sound_60 : decode b_G_sound 60 = .ok (.ireturn, 1) := by decide +kernel
theorem d_G_best_0 : decode b_G_best 0 = .ok (.aload_n 0, 1) := by decide +kernel
theorem d_G_best_1 : decode b_G_best 1 = .ok (.iload_n 1, 1) := by decide +kernel
theorem d_G_best_2 : decode b_G_best 2 = .ok (.invokevirtual 74, 3) := by decide +kernel
theorem d_G_best_5 : decode b_G_best 5 = .ok (.istore_n 2, 1) := by decide +kernel
theorem d_G_best_6 : decode b_G_best 6 = .ok (.iload_n 2, 1) := by decide +kernel
theorem d_G_best_7 : decode b_G_best 7 = .ok (.ifCond .ge 5, 3) := by decide +kernel
theorem d_G_best_10 : decode b_G_best 10 = .ok (.iconst (-1), 1) := by decide +kernel
theorem d_G_best_11 : decode b_G_best 11 = .ok (.ireturn, 1) := by decide +kernel
theorem d_G_best_12 : decode b_G_best 12 = .ok (.aload_n 0, 1) := by decide +kernel
theorem d_G_best_13 : decode b_G_best 13 = .ok (.aload_n 0, 1) := by decide +kernel
theorem d_G_best_14 : decode b_G_best 14 = .ok (.getfield 29, 3) := by decide +kernel
theorem d_G_best_17 : decode b_G_best 17 = .ok (.iload_n 2, 1) := by decide +kernel
theorem d_G_best_18 : decode b_G_best 18 = .ok (.aaload, 1) := by decide +kernel
theorem d_G_best_19 : decode b_G_best 19 = .ok (.invokevirtual 115, 3) := by decide +kernel
theorem d_G_best_22 : decode b_G_best 22 = .ok (.ireturn, 1) := by decide +kernel
theorem d_G_repair_0 : decode b_G_repair 0 = .ok (.aload_n 0, 1) := by decide +kernel
theorem d_G_repair_1 : decode b_G_repair 1 = .ok (.iload_n 1, 1) := by decide +kernel
theorem d_G_repair_2 : decode b_G_repair 2 = .ok (.invokevirtual 74, 3) := by decide +kernel
theorem d_G_repair_5 : decode b_G_repair 5 = .ok (.istore_n 2, 1) := by decide +kernel
theorem d_G_repair_6 : decode b_G_repair 6 = .ok (.iload_n 2, 1) := by decide +kernel
theorem d_G_repair_7 : decode b_G_repair 7 = .ok (.ifCond .ge 5, 3) := by decide +kernel
theorem d_G_repair_10 : decode b_G_repair 10 = .ok (.iconst (-1), 1) := by decide +kernel
theorem d_G_repair_11 : decode b_G_repair 11 = .ok (.ireturn, 1) := by decide +kernel
theorem d_G_repair_12 : decode b_G_repair 12 = .ok (.aload_n 0, 1) := by decide +kernel
theorem d_G_repair_13 : decode b_G_repair 13 = .ok (.getfield 29, 3) := by decide +kernel
theorem d_G_repair_16 : decode b_G_repair 16 = .ok (.iload_n 2, 1) := by decide +kernel
theorem d_G_repair_17 : decode b_G_repair 17 = .ok (.aaload, 1) := by decide +kernel
theorem d_G_repair_18 : decode b_G_repair 18 = .ok (.astore_n 3, 1) := by decide +kernel
theorem d_G_repair_19 : decode b_G_repair 19 = .ok (.aload_n 0, 1) := by decide +kernel
theorem d_G_repair_20 : decode b_G_repair 20 = .ok (.aload_n 3, 1) := by decide +kernel
theorem d_G_repair_21 : decode b_G_repair 21 = .ok (.invokevirtual 115, 3) := by decide +kernel
theorem d_G_repair_24 : decode b_G_repair 24 = .ok (.istore 4, 2) := by decide +kernel
theorem d_G_repair_26 : decode b_G_repair 26 = .ok (.iload 4, 2) := by decide +kernel
theorem d_G_repair_28 : decode b_G_repair 28 = .ok (.ifCond .ne 6, 3) := by decide +kernel
theorem d_G_repair_31 : decode b_G_repair 31 = .ok (.bipush (-3), 2) := by decide +kernel
theorem d_G_repair_33 : decode b_G_repair 33 = .ok (.ireturn, 1) := by decide +kernel
theorem d_G_repair_34 : decode b_G_repair 34 = .ok (.aload_n 0, 1) := by decide +kernel
theorem d_G_repair_35 : decode b_G_repair 35 = .ok (.aload_n 3, 1) := by decide +kernel
theorem d_G_repair_36 : decode b_G_repair 36 = .ok (.iload 4, 2) := by decide +kernel
theorem d_G_repair_38 : decode b_G_repair 38 = .ok (.invokevirtual 119, 3) := by decide +kernel
theorem d_G_repair_41 : decode b_G_repair 41 = .ok (.istore 5, 2) := by decide +kernel
theorem d_G_repair_43 : decode b_G_repair 43 = .ok (.aload_n 0, 1) := by decide +kernel
theorem d_G_repair_44 : decode b_G_repair 44 = .ok (.getfield 53, 3) := by decide +kernel
theorem d_G_repair_47 : decode b_G_repair 47 = .ok (.aload_n 3, 1) := by decide +kernel
theorem d_G_repair_48 : decode b_G_repair 48 = .ok (.getfield 128, 3) := by decide +kernel
theorem d_G_repair_51 : decode b_G_repair 51 = .ok (.iload 5, 2) := by decide +kernel
theorem d_G_repair_53 : decode b_G_repair 53 = .ok (.aaload, 1) := by decide +kernel
theorem d_G_repair_54 : decode b_G_repair 54 = .ok (.invokevirtual 132, 3) := by decide +kernel
theorem d_G_repair_57 : decode b_G_repair 57 = .ok (.iconst 0, 1) := by decide +kernel
theorem d_G_repair_58 : decode b_G_repair 58 = .ok (.istore 6, 2) := by decide +kernel
theorem d_G_repair_60 : decode b_G_repair 60 = .ok (.iconst 0, 1) := by decide +kernel
theorem d_G_repair_61 : decode b_G_repair 61 = .ok (.istore 7, 2) := by decide +kernel
theorem d_G_repair_63 : decode b_G_repair 63 = .ok (.iload 7, 2) := by decide +kernel
theorem d_G_repair_65 : decode b_G_repair 65 = .ok (.aload_n 0, 1) := by decide +kernel
theorem d_G_repair_66 : decode b_G_repair 66 = .ok (.getfield 17, 3) := by decide +kernel
theorem d_G_repair_69 : decode b_G_repair 69 = .ok (.if_icmp .ge 39, 3) := by decide +kernel
theorem d_G_repair_72 : decode b_G_repair 72 = .ok (.aload_n 0, 1) := by decide +kernel
theorem d_G_repair_73 : decode b_G_repair 73 = .ok (.iload 7, 2) := by decide +kernel
theorem d_G_repair_75 : decode b_G_repair 75 = .ok (.invokevirtual 108, 3) := by decide +kernel
theorem d_G_repair_78 : decode b_G_repair 78 = .ok (.ifCond .eq 24, 3) := by decide +kernel
theorem d_G_repair_81 : decode b_G_repair 81 = .ok (.aload_n 3, 1) := by decide +kernel
theorem d_G_repair_82 : decode b_G_repair 82 = .ok (.iload 7, 2) := by decide +kernel
theorem d_G_repair_84 : decode b_G_repair 84 = .ok (.iload 4, 2) := by decide +kernel
theorem d_G_repair_86 : decode b_G_repair 86 = .ok (.invokevirtual 136, 3) := by decide +kernel
theorem d_G_repair_89 : decode b_G_repair 89 = .ok (.ifCond .ne 13, 3) := by decide +kernel
theorem d_G_repair_92 : decode b_G_repair 92 = .ok (.aload_n 0, 1) := by decide +kernel
theorem d_G_repair_93 : decode b_G_repair 93 = .ok (.aload_n 3, 1) := by decide +kernel
theorem d_G_repair_94 : decode b_G_repair 94 = .ok (.iload 7, 2) := by decide +kernel
theorem d_G_repair_96 : decode b_G_repair 96 = .ok (.invokevirtual 111, 3) := by decide +kernel
theorem d_G_repair_99 : decode b_G_repair 99 = .ok (.iinc 6 1, 3) := by decide +kernel
theorem d_G_repair_102 : decode b_G_repair 102 = .ok (.iinc 7 1, 3) := by decide +kernel
theorem d_G_repair_105 : decode b_G_repair 105 = .ok (.goto (-42), 3) := by decide +kernel
theorem d_G_repair_108 : decode b_G_repair 108 = .ok (.iload 6, 2) := by decide +kernel
theorem d_G_repair_110 : decode b_G_repair 110 = .ok (.ireturn, 1) := by decide +kernel
theorem d_G_server_0 : decode b_G_server 0 = .ok (.aload_n 0, 1) := by decide +kernel
theorem d_G_server_1 : decode b_G_server 1 = .ok (.iload_n 1, 1) := by decide +kernel
theorem d_G_server_2 : decode b_G_server 2 = .ok (.invokevirtual 140, 3) := by decide +kernel
theorem d_G_server_5 : decode b_G_server 5 = .ok (.ifCond .ne 5, 3) := by decide +kernel
theorem d_G_server_8 : decode b_G_server 8 = .ok (.iconst (-1), 1) := by decide +kernel
theorem d_G_server_9 : decode b_G_server 9 = .ok (.ireturn, 1) := by decide +kernel
theorem d_G_server_10 : decode b_G_server 10 = .ok (.aload_n 0, 1) := by decide +kernel
theorem d_G_server_11 : decode b_G_server 11 = .ok (.getfield 20, 3) := by decide +kernel
theorem d_G_server_14 : decode b_G_server 14 = .ok (.iload_n 1, 1) := by decide +kernel
theorem d_G_server_15 : decode b_G_server 15 = .ok (.iload_n 2, 1) := by decide +kernel
theorem d_G_server_16 : decode b_G_server 16 = .ok (.bastore, 1) := by decide +kernel
theorem d_G_server_17 : decode b_G_server 17 = .ok (.aload_n 0, 1) := by decide +kernel
theorem d_G_server_18 : decode b_G_server 18 = .ok (.getfield 24, 3) := by decide +kernel
theorem d_G_server_21 : decode b_G_server 21 = .ok (.iload_n 1, 1) := by decide +kernel
theorem d_G_server_22 : decode b_G_server 22 = .ok (.iload_n 3, 1) := by decide +kernel
theorem d_G_server_23 : decode b_G_server 23 = .ok (.bastore, 1) := by decide +kernel
theorem d_G_server_24 : decode b_G_server 24 = .ok (.iconst 0, 1) := by decide +kernel
theorem d_G_server_25 : decode b_G_server 25 = .ok (.ireturn, 1) := by decide +kernel
theorem d_G_tamper_0 : decode b_G_tamper 0 = .ok (.aload_n 0, 1) := by decide +kernel
theorem d_G_tamper_1 : decode b_G_tamper 1 = .ok (.iload_n 1, 1) := by decide +kernel
theorem d_G_tamper_2 : decode b_G_tamper 2 = .ok (.invokevirtual 143, 3) := by decide +kernel
theorem d_G_tamper_5 : decode b_G_tamper 5 = .ok (.ifCond .eq 25, 3) := by decide +kernel
theorem d_G_tamper_8 : decode b_G_tamper 8 = .ok (.aload_n 0, 1) := by decide +kernel
theorem d_G_tamper_9 : decode b_G_tamper 9 = .ok (.iload_n 2, 1) := by decide +kernel
theorem d_G_tamper_10 : decode b_G_tamper 10 = .ok (.invokevirtual 140, 3) := by decide +kernel
theorem d_G_tamper_13 : decode b_G_tamper 13 = .ok (.ifCond .eq 17, 3) := by decide +kernel
theorem d_G_tamper_16 : decode b_G_tamper 16 = .ok (.iload_n 3, 1) := by decide +kernel
theorem d_G_tamper_17 : decode b_G_tamper 17 = .ok (.ifCond .lt 13, 3) := by decide +kernel
theorem d_G_tamper_20 : decode b_G_tamper 20 = .ok (.iload_n 3, 1) := by decide +kernel
theorem d_G_tamper_21 : decode b_G_tamper 21 = .ok (.iconst 3, 1) := by decide +kernel
theorem d_G_tamper_22 : decode b_G_tamper 22 = .ok (.aload_n 0, 1) := by decide +kernel
theorem d_G_tamper_23 : decode b_G_tamper 23 = .ok (.getfield 17, 3) := by decide +kernel
theorem d_G_tamper_26 : decode b_G_tamper 26 = .ok (.iadd, 1) := by decide +kernel
theorem d_G_tamper_27 : decode b_G_tamper 27 = .ok (.if_icmp .lt 5, 3) := by decide +kernel
theorem d_G_tamper_30 : decode b_G_tamper 30 = .ok (.iconst (-1), 1) := by decide +kernel
theorem d_G_tamper_31 : decode b_G_tamper 31 = .ok (.ireturn, 1) := by decide +kernel
theorem d_G_tamper_32 : decode b_G_tamper 32 = .ok (.aload_n 0, 1) := by decide +kernel
theorem d_G_tamper_33 : decode b_G_tamper 33 = .ok (.getfield 29, 3) := by decide +kernel
theorem d_G_tamper_36 : decode b_G_tamper 36 = .ok (.iload_n 1, 1) := by decide +kernel
theorem d_G_tamper_37 : decode b_G_tamper 37 = .ok (.aaload, 1) := by decide +kernel
theorem d_G_tamper_38 : decode b_G_tamper 38 = .ok (.getfield 128, 3) := by decide +kernel
theorem d_G_tamper_41 : decode b_G_tamper 41 = .ok (.iload_n 2, 1) := by decide +kernel
theorem d_G_tamper_42 : decode b_G_tamper 42 = .ok (.aaload, 1) := by decide +kernel
theorem d_G_tamper_43 : decode b_G_tamper 43 = .ok (.astore 5, 2) := by decide +kernel
theorem d_G_tamper_45 : decode b_G_tamper 45 = .ok (.aload 5, 2) := by decide +kernel
theorem d_G_tamper_47 : decode b_G_tamper 47 = .ok (.getfield 146, 3) := by decide +kernel
theorem d_G_tamper_50 : decode b_G_tamper 50 = .ok (.ifCond .ne 5, 3) := by decide +kernel
theorem d_G_tamper_53 : decode b_G_tamper 53 = .ok (.iconst (-1), 1) := by decide +kernel
theorem d_G_tamper_54 : decode b_G_tamper 54 = .ok (.ireturn, 1) := by decide +kernel
theorem d_G_tamper_55 : decode b_G_tamper 55 = .ok (.iload_n 3, 1) := by decide +kernel
theorem d_G_tamper_56 : decode b_G_tamper 56 = .ok (.tableswitch 73 0 2 #[28, 43, 58], 28) := by decide +kernel
theorem d_G_tamper_84 : decode b_G_tamper 84 = .ok (.aload 5, 2) := by decide +kernel
theorem d_G_tamper_86 : decode b_G_tamper 86 = .ok (.dup, 1) := by decide +kernel
theorem d_G_tamper_87 : decode b_G_tamper 87 = .ok (.getfield 149, 3) := by decide +kernel
theorem d_G_tamper_90 : decode b_G_tamper 90 = .ok (.iload 4, 2) := by decide +kernel
theorem d_G_tamper_92 : decode b_G_tamper 92 = .ok (.ixor, 1) := by decide +kernel
theorem d_G_tamper_93 : decode b_G_tamper 93 = .ok (.putfield 149, 3) := by decide +kernel
theorem d_G_tamper_96 : decode b_G_tamper 96 = .ok (.goto 47, 3) := by decide +kernel
theorem d_G_tamper_99 : decode b_G_tamper 99 = .ok (.aload 5, 2) := by decide +kernel
theorem d_G_tamper_101 : decode b_G_tamper 101 = .ok (.dup, 1) := by decide +kernel
theorem d_G_tamper_102 : decode b_G_tamper 102 = .ok (.getfield 152, 3) := by decide +kernel
theorem d_G_tamper_105 : decode b_G_tamper 105 = .ok (.iload 4, 2) := by decide +kernel
theorem d_G_tamper_107 : decode b_G_tamper 107 = .ok (.ixor, 1) := by decide +kernel
theorem d_G_tamper_108 : decode b_G_tamper 108 = .ok (.putfield 152, 3) := by decide +kernel
theorem d_G_tamper_111 : decode b_G_tamper 111 = .ok (.goto 32, 3) := by decide +kernel
theorem d_G_tamper_114 : decode b_G_tamper 114 = .ok (.aload 5, 2) := by decide +kernel
theorem d_G_tamper_116 : decode b_G_tamper 116 = .ok (.dup, 1) := by decide +kernel
theorem d_G_tamper_117 : decode b_G_tamper 117 = .ok (.getfield 101, 3) := by decide +kernel
theorem d_G_tamper_120 : decode b_G_tamper 120 = .ok (.iload 4, 2) := by decide +kernel
theorem d_G_tamper_122 : decode b_G_tamper 122 = .ok (.ixor, 1) := by decide +kernel
theorem d_G_tamper_123 : decode b_G_tamper 123 = .ok (.putfield 101, 3) := by decide +kernel
theorem d_G_tamper_126 : decode b_G_tamper 126 = .ok (.goto 17, 3) := by decide +kernel
theorem d_G_tamper_129 : decode b_G_tamper 129 = .ok (.aload 5, 2) := by decide +kernel
theorem d_G_tamper_131 : decode b_G_tamper 131 = .ok (.getfield 155, 3) := by decide +kernel
theorem d_G_tamper_134 : decode b_G_tamper 134 = .ok (.iload_n 3, 1) := by decide +kernel
theorem d_G_tamper_135 : decode b_G_tamper 135 = .ok (.iconst 3, 1) := by decide +kernel
theorem d_G_tamper_136 : decode b_G_tamper 136 = .ok (.isub, 1) := by decide +kernel
theorem d_G_tamper_137 : decode b_G_tamper 137 = .ok (.dup2, 1) := by decide +kernel
theorem d_G_tamper_138 : decode b_G_tamper 138 = .ok (.iaload, 1) := by decide +kernel
theorem d_G_tamper_139 : decode b_G_tamper 139 = .ok (.iload 4, 2) := by decide +kernel
theorem d_G_tamper_141 : decode b_G_tamper 141 = .ok (.ixor, 1) := by decide +kernel
theorem d_G_tamper_142 : decode b_G_tamper 142 = .ok (.iastore, 1) := by decide +kernel
theorem d_G_tamper_143 : decode b_G_tamper 143 = .ok (.iconst 0, 1) := by decide +kernel
theorem d_G_tamper_144 : decode b_G_tamper 144 = .ok (.ireturn, 1) := by decide +kernel
theorem d_G_picture_0 : decode b_G_picture 0 = .ok (.aload_n 0, 1) := by decide +kernel
theorem d_G_picture_1 : decode b_G_picture 1 = .ok (.iload_n 1, 1) := by decide +kernel
theorem d_G_picture_2 : decode b_G_picture 2 = .ok (.invokevirtual 143, 3) := by decide +kernel
theorem d_G_picture_5 : decode b_G_picture 5 = .ok (.ifCond .eq 28, 3) := by decide +kernel
theorem d_G_picture_8 : decode b_G_picture 8 = .ok (.aload_n 0, 1) := by decide +kernel
theorem d_G_picture_9 : decode b_G_picture 9 = .ok (.iload_n 2, 1) := by decide +kernel
theorem d_G_picture_10 : decode b_G_picture 10 = .ok (.invokevirtual 140, 3) := by decide +kernel
theorem d_G_picture_13 : decode b_G_picture 13 = .ok (.ifCond .eq 20, 3) := by decide +kernel
theorem d_G_picture_16 : decode b_G_picture 16 = .ok (.aload_n 0, 1) := by decide +kernel
theorem d_G_picture_17 : decode b_G_picture 17 = .ok (.getfield 29, 3) := by decide +kernel
theorem d_G_picture_20 : decode b_G_picture 20 = .ok (.iload_n 1, 1) := by decide +kernel
theorem d_G_picture_21 : decode b_G_picture 21 = .ok (.aaload, 1) := by decide +kernel
theorem d_G_picture_22 : decode b_G_picture 22 = .ok (.getfield 128, 3) := by decide +kernel
theorem d_G_picture_25 : decode b_G_picture 25 = .ok (.iload_n 2, 1) := by decide +kernel
theorem d_G_picture_26 : decode b_G_picture 26 = .ok (.aaload, 1) := by decide +kernel
theorem d_G_picture_27 : decode b_G_picture 27 = .ok (.getfield 146, 3) := by decide +kernel
theorem d_G_picture_30 : decode b_G_picture 30 = .ok (.ifCond .ne 5, 3) := by decide +kernel
theorem d_G_picture_33 : decode b_G_picture 33 = .ok (.iconst (-1), 1) := by decide +kernel
theorem d_G_picture_34 : decode b_G_picture 34 = .ok (.ireturn, 1) := by decide +kernel
theorem d_G_picture_35 : decode b_G_picture 35 = .ok (.aload_n 0, 1) := by decide +kernel
theorem d_G_picture_36 : decode b_G_picture 36 = .ok (.getfield 29, 3) := by decide +kernel
theorem d_G_picture_39 : decode b_G_picture 39 = .ok (.iload_n 1, 1) := by decide +kernel
theorem d_G_picture_40 : decode b_G_picture 40 = .ok (.aaload, 1) := by decide +kernel
theorem d_G_picture_41 : decode b_G_picture 41 = .ok (.getfield 158, 3) := by decide +kernel
theorem d_G_picture_44 : decode b_G_picture 44 = .ok (.iload_n 2, 1) := by decide +kernel
theorem d_G_picture_45 : decode b_G_picture 45 = .ok (.aaload, 1) := by decide +kernel
theorem d_G_picture_46 : decode b_G_picture 46 = .ok (.aload_n 0, 1) := by decide +kernel
theorem d_G_picture_47 : decode b_G_picture 47 = .ok (.getfield 29, 3) := by decide +kernel
theorem d_G_picture_50 : decode b_G_picture 50 = .ok (.iload_n 1, 1) := by decide +kernel
theorem d_G_picture_51 : decode b_G_picture 51 = .ok (.aaload, 1) := by decide +kernel
theorem d_G_picture_52 : decode b_G_picture 52 = .ok (.getfield 128, 3) := by decide +kernel
theorem d_G_picture_55 : decode b_G_picture 55 = .ok (.iload_n 2, 1) := by decide +kernel
theorem d_G_picture_56 : decode b_G_picture 56 = .ok (.aaload, 1) := by decide +kernel
theorem d_G_picture_57 : decode b_G_picture 57 = .ok (.invokevirtual 132, 3) := by decide +kernel
theorem d_G_picture_60 : decode b_G_picture 60 = .ok (.iconst 0, 1) := by decide +kernel
theorem d_G_picture_61 : decode b_G_picture 61 = .ok (.ireturn, 1) := by decide +kernel
theorem d_G_fallBack_0 : decode b_G_fallBack 0 = .ok (.aload_n 0, 1) := by decide +kernel
theorem d_G_fallBack_1 : decode b_G_fallBack 1 = .ok (.iload_n 1, 1) := by decide +kernel
theorem d_G_fallBack_2 : decode b_G_fallBack 2 = .ok (.invokevirtual 143, 3) := by decide +kernel
theorem d_G_fallBack_5 : decode b_G_fallBack 5 = .ok (.ifCond .eq 28, 3) := by decide +kernel
theorem d_G_fallBack_8 : decode b_G_fallBack 8 = .ok (.aload_n 0, 1) := by decide +kernel
theorem d_G_fallBack_9 : decode b_G_fallBack 9 = .ok (.iload_n 2, 1) := by decide +kernel
theorem d_G_fallBack_10 : decode b_G_fallBack 10 = .ok (.invokevirtual 140, 3) := by decide +kernel
theorem d_G_fallBack_13 : decode b_G_fallBack 13 = .ok (.ifCond .eq 20, 3) := by decide +kernel
theorem d_G_fallBack_16 : decode b_G_fallBack 16 = .ok (.aload_n 0, 1) := by decide +kernel
theorem d_G_fallBack_17 : decode b_G_fallBack 17 = .ok (.getfield 29, 3) := by decide +kernel
theorem d_G_fallBack_20 : decode b_G_fallBack 20 = .ok (.iload_n 1, 1) := by decide +kernel
theorem d_G_fallBack_21 : decode b_G_fallBack 21 = .ok (.aaload, 1) := by decide +kernel
theorem d_G_fallBack_22 : decode b_G_fallBack 22 = .ok (.getfield 158, 3) := by decide +kernel
theorem d_G_fallBack_25 : decode b_G_fallBack 25 = .ok (.iload_n 2, 1) := by decide +kernel
theorem d_G_fallBack_26 : decode b_G_fallBack 26 = .ok (.aaload, 1) := by decide +kernel
theorem d_G_fallBack_27 : decode b_G_fallBack 27 = .ok (.getfield 146, 3) := by decide +kernel
theorem d_G_fallBack_30 : decode b_G_fallBack 30 = .ok (.ifCond .ne 5, 3) := by decide +kernel
theorem d_G_fallBack_33 : decode b_G_fallBack 33 = .ok (.iconst (-1), 1) := by decide +kernel
theorem d_G_fallBack_34 : decode b_G_fallBack 34 = .ok (.ireturn, 1) := by decide +kernel
theorem d_G_fallBack_35 : decode b_G_fallBack 35 = .ok (.aload_n 0, 1) := by decide +kernel
theorem d_G_fallBack_36 : decode b_G_fallBack 36 = .ok (.getfield 29, 3) := by decide +kernel
theorem d_G_fallBack_39 : decode b_G_fallBack 39 = .ok (.iload_n 1, 1) := by decide +kernel
theorem d_G_fallBack_40 : decode b_G_fallBack 40 = .ok (.aaload, 1) := by decide +kernel
theorem d_G_fallBack_41 : decode b_G_fallBack 41 = .ok (.getfield 128, 3) := by decide +kernel
theorem d_G_fallBack_44 : decode b_G_fallBack 44 = .ok (.iload_n 2, 1) := by decide +kernel
theorem d_G_fallBack_45 : decode b_G_fallBack 45 = .ok (.aaload, 1) := by decide +kernel
theorem d_G_fallBack_46 : decode b_G_fallBack 46 = .ok (.aload_n 0, 1) := by decide +kernel
theorem d_G_fallBack_47 : decode b_G_fallBack 47 = .ok (.getfield 29, 3) := by decide +kernel
theorem d_G_fallBack_50 : decode b_G_fallBack 50 = .ok (.iload_n 1, 1) := by decide +kernel
theorem d_G_fallBack_51 : decode b_G_fallBack 51 = .ok (.aaload, 1) := by decide +kernel
theorem d_G_fallBack_52 : decode b_G_fallBack 52 = .ok (.getfield 158, 3) := by decide +kernel
theorem d_G_fallBack_55 : decode b_G_fallBack 55 = .ok (.iload_n 2, 1) := by decide +kernel
theorem d_G_fallBack_56 : decode b_G_fallBack 56 = .ok (.aaload, 1) := by decide +kernel
theorem d_G_fallBack_57 : decode b_G_fallBack 57 = .ok (.invokevirtual 132, 3) := by decide +kernel
theorem d_G_fallBack_60 : decode b_G_fallBack 60 = .ok (.iconst 0, 1) := by decide +kernel
theorem d_G_fallBack_61 : decode b_G_fallBack 61 = .ok (.ireturn, 1) := by decide +kernel
theorem d_G_wipe_0 : decode b_G_wipe 0 = .ok (.aload_n 0, 1) := by decide +kernel
theorem d_G_wipe_1 : decode b_G_wipe 1 = .ok (.iload_n 1, 1) := by decide +kernel
theorem d_G_wipe_2 : decode b_G_wipe 2 = .ok (.invokevirtual 143, 3) := by decide +kernel
theorem d_G_wipe_5 : decode b_G_wipe 5 = .ok (.ifCond .eq 11, 3) := by decide +kernel
theorem d_G_wipe_8 : decode b_G_wipe 8 = .ok (.aload_n 0, 1) := by decide +kernel
theorem d_G_wipe_9 : decode b_G_wipe 9 = .ok (.iload_n 2, 1) := by decide +kernel
theorem d_G_wipe_10 : decode b_G_wipe 10 = .ok (.invokevirtual 140, 3) := by decide +kernel
theorem d_G_wipe_13 : decode b_G_wipe 13 = .ok (.ifCond .ne 5, 3) := by decide +kernel
theorem d_G_wipe_16 : decode b_G_wipe 16 = .ok (.iconst (-1), 1) := by decide +kernel
theorem d_G_wipe_17 : decode b_G_wipe 17 = .ok (.ireturn, 1) := by decide +kernel
theorem d_G_wipe_18 : decode b_G_wipe 18 = .ok (.aload_n 0, 1) := by decide +kernel
theorem d_G_wipe_19 : decode b_G_wipe 19 = .ok (.getfield 29, 3) := by decide +kernel
theorem d_G_wipe_22 : decode b_G_wipe 22 = .ok (.iload_n 1, 1) := by decide +kernel
theorem d_G_wipe_23 : decode b_G_wipe 23 = .ok (.aaload, 1) := by decide +kernel
theorem d_G_wipe_24 : decode b_G_wipe 24 = .ok (.getfield 128, 3) := by decide +kernel
theorem d_G_wipe_27 : decode b_G_wipe 27 = .ok (.iload_n 2, 1) := by decide +kernel
theorem d_G_wipe_28 : decode b_G_wipe 28 = .ok (.aaload, 1) := by decide +kernel
theorem d_G_wipe_29 : decode b_G_wipe 29 = .ok (.iconst 0, 1) := by decide +kernel
theorem d_G_wipe_30 : decode b_G_wipe 30 = .ok (.putfield 146, 3) := by decide +kernel
theorem d_G_wipe_33 : decode b_G_wipe 33 = .ok (.iconst 0, 1) := by decide +kernel
theorem d_G_wipe_34 : decode b_G_wipe 34 = .ok (.ireturn, 1) := by decide +kernel
theorem d_G_share_0 : decode b_G_share 0 = .ok (.aload_n 0, 1) := by decide +kernel
theorem d_G_share_1 : decode b_G_share 1 = .ok (.iload_n 1, 1) := by decide +kernel
theorem d_G_share_2 : decode b_G_share 2 = .ok (.invokevirtual 143, 3) := by decide +kernel
theorem d_G_share_5 : decode b_G_share 5 = .ok (.ifCond .eq 28, 3) := by decide +kernel
theorem d_G_share_8 : decode b_G_share 8 = .ok (.aload_n 0, 1) := by decide +kernel
theorem d_G_share_9 : decode b_G_share 9 = .ok (.iload_n 2, 1) := by decide +kernel
theorem d_G_share_10 : decode b_G_share 10 = .ok (.invokevirtual 140, 3) := by decide +kernel
theorem d_G_share_13 : decode b_G_share 13 = .ok (.ifCond .eq 20, 3) := by decide +kernel
theorem d_G_share_16 : decode b_G_share 16 = .ok (.aload_n 0, 1) := by decide +kernel
theorem d_G_share_17 : decode b_G_share 17 = .ok (.getfield 29, 3) := by decide +kernel
theorem d_G_share_20 : decode b_G_share 20 = .ok (.iload_n 1, 1) := by decide +kernel
theorem d_G_share_21 : decode b_G_share 21 = .ok (.aaload, 1) := by decide +kernel
theorem d_G_share_22 : decode b_G_share 22 = .ok (.getfield 128, 3) := by decide +kernel
theorem d_G_share_25 : decode b_G_share 25 = .ok (.iload_n 2, 1) := by decide +kernel
theorem d_G_share_26 : decode b_G_share 26 = .ok (.aaload, 1) := by decide +kernel
theorem d_G_share_27 : decode b_G_share 27 = .ok (.getfield 146, 3) := by decide +kernel
theorem d_G_share_30 : decode b_G_share 30 = .ok (.ifCond .ne 7, 3) := by decide +kernel
theorem d_G_share_33 : decode b_G_share 33 = .ok (.ldc2_w 123, 3) := by decide +kernel
theorem d_G_share_36 : decode b_G_share 36 = .ok (.lreturn, 1) := by decide +kernel
theorem d_G_share_37 : decode b_G_share 37 = .ok (.aload_n 0, 1) := by decide +kernel
theorem d_G_share_38 : decode b_G_share 38 = .ok (.getfield 29, 3) := by decide +kernel
theorem d_G_share_41 : decode b_G_share 41 = .ok (.iload_n 1, 1) := by decide +kernel
theorem d_G_share_42 : decode b_G_share 42 = .ok (.aaload, 1) := by decide +kernel
theorem d_G_share_43 : decode b_G_share 43 = .ok (.getfield 128, 3) := by decide +kernel
theorem d_G_share_46 : decode b_G_share 46 = .ok (.iload_n 2, 1) := by decide +kernel
theorem d_G_share_47 : decode b_G_share 47 = .ok (.aaload, 1) := by decide +kernel
theorem d_G_share_48 : decode b_G_share 48 = .ok (.astore 4, 2) := by decide +kernel
theorem d_G_share_50 : decode b_G_share 50 = .ok (.iload_n 3, 1) := by decide +kernel
theorem d_G_share_51 : decode b_G_share 51 = .ok (.tableswitch 46 0 2 #[25, 32, 39], 25) := by decide +kernel
theorem d_G_share_76 : decode b_G_share 76 = .ok (.aload 4, 2) := by decide +kernel
theorem d_G_share_78 : decode b_G_share 78 = .ok (.getfield 149, 3) := by decide +kernel
theorem d_G_share_81 : decode b_G_share 81 = .ok (.i2l, 1) := by decide +kernel
theorem d_G_share_82 : decode b_G_share 82 = .ok (.lreturn, 1) := by decide +kernel
theorem d_G_share_83 : decode b_G_share 83 = .ok (.aload 4, 2) := by decide +kernel
theorem d_G_share_85 : decode b_G_share 85 = .ok (.getfield 152, 3) := by decide +kernel
theorem d_G_share_88 : decode b_G_share 88 = .ok (.i2l, 1) := by decide +kernel
theorem d_G_share_89 : decode b_G_share 89 = .ok (.lreturn, 1) := by decide +kernel
theorem d_G_share_90 : decode b_G_share 90 = .ok (.aload 4, 2) := by decide +kernel
theorem d_G_share_92 : decode b_G_share 92 = .ok (.getfield 101, 3) := by decide +kernel
theorem d_G_share_95 : decode b_G_share 95 = .ok (.i2l, 1) := by decide +kernel
theorem d_G_share_96 : decode b_G_share 96 = .ok (.lreturn, 1) := by decide +kernel
theorem d_G_share_97 : decode b_G_share 97 = .ok (.ldc2_w 123, 3) := by decide +kernel
theorem d_G_share_100 : decode b_G_share 100 = .ok (.lreturn, 1) := by decide +kernel
theorem d_G_times_0 : decode b_G_times 0 = .ok (.iload_n 1, 1) := by decide +kernel
theorem d_G_times_1 : decode b_G_times 1 = .ok (.invokestatic 161, 3) := by decide +kernel
theorem d_G_times_4 : decode b_G_times 4 = .ok (.ifCond .eq 10, 3) := by decide +kernel
theorem d_G_times_7 : decode b_G_times 7 = .ok (.iload_n 2, 1) := by decide +kernel
theorem d_G_times_8 : decode b_G_times 8 = .ok (.invokestatic 161, 3) := by decide +kernel
theorem d_G_times_11 : decode b_G_times 11 = .ok (.ifCond .ne 5, 3) := by decide +kernel
theorem d_G_times_14 : decode b_G_times 14 = .ok (.iconst (-1), 1) := by decide +kernel
theorem d_G_times_15 : decode b_G_times 15 = .ok (.ireturn, 1) := by decide +kernel
theorem d_G_times_16 : decode b_G_times 16 = .ok (.iload_n 1, 1) := by decide +kernel
theorem d_G_times_17 : decode b_G_times 17 = .ok (.iload_n 2, 1) := by decide +kernel
theorem d_G_times_18 : decode b_G_times 18 = .ok (.invokestatic 164, 3) := by decide +kernel
theorem d_G_times_21 : decode b_G_times 21 = .ok (.ireturn, 1) := by decide +kernel
theorem d_G_count_0 : decode b_G_count 0 = .ok (.iload_n 1, 1) := by decide +kernel
theorem d_G_count_1 : decode b_G_count 1 = .ok (.tableswitch 51 0 3 #[31, 36, 41, 46], 31) := by decide +kernel
theorem d_G_count_32 : decode b_G_count 32 = .ok (.aload_n 0, 1) := by decide +kernel
theorem d_G_count_33 : decode b_G_count 33 = .ok (.getfield 60, 3) := by decide +kernel
theorem d_G_count_36 : decode b_G_count 36 = .ok (.ireturn, 1) := by decide +kernel
theorem d_G_count_37 : decode b_G_count 37 = .ok (.aload_n 0, 1) := by decide +kernel
theorem d_G_count_38 : decode b_G_count 38 = .ok (.invokevirtual 84, 3) := by decide +kernel
theorem d_G_count_41 : decode b_G_count 41 = .ok (.ireturn, 1) := by decide +kernel
theorem d_G_count_42 : decode b_G_count 42 = .ok (.aload_n 0, 1) := by decide +kernel
theorem d_G_count_43 : decode b_G_count 43 = .ok (.getfield 13, 3) := by decide +kernel
theorem d_G_count_46 : decode b_G_count 46 = .ok (.ireturn, 1) := by decide +kernel
theorem d_G_count_47 : decode b_G_count 47 = .ok (.aload_n 0, 1) := by decide +kernel
theorem d_G_count_48 : decode b_G_count 48 = .ok (.getfield 17, 3) := by decide +kernel
theorem d_G_count_51 : decode b_G_count 51 = .ok (.ireturn, 1) := by decide +kernel
theorem d_G_count_52 : decode b_G_count 52 = .ok (.aload_n 0, 1) := by decide +kernel
theorem d_G_count_53 : decode b_G_count 53 = .ok (.iload_n 1, 1) := by decide +kernel
theorem d_G_count_54 : decode b_G_count 54 = .ok (.bipush 10, 2) := by decide +kernel
theorem d_G_count_56 : decode b_G_count 56 = .ok (.isub, 1) := by decide +kernel
theorem d_G_count_57 : decode b_G_count 57 = .ok (.invokevirtual 167, 3) := by decide +kernel
theorem d_G_count_60 : decode b_G_count 60 = .ok (.ireturn, 1) := by decide +kernel
theorem d_G_greatestNumber_0 : decode b_G_greatestNumber 0 = .ok (.aload_n 0, 1) := by decide +kernel
theorem d_G_greatestNumber_1 : decode b_G_greatestNumber 1 = .ok (.iload_n 1, 1) := by decide +kernel
theorem d_G_greatestNumber_2 : decode b_G_greatestNumber 2 = .ok (.invokevirtual 143, 3) := by decide +kernel
theorem d_G_greatestNumber_5 : decode b_G_greatestNumber 5 = .ok (.ifCond .eq 15, 3) := by decide +kernel
theorem d_G_greatestNumber_8 : decode b_G_greatestNumber 8 = .ok (.aload_n 0, 1) := by decide +kernel
theorem d_G_greatestNumber_9 : decode b_G_greatestNumber 9 = .ok (.getfield 29, 3) := by decide +kernel
theorem d_G_greatestNumber_12 : decode b_G_greatestNumber 12 = .ok (.iload_n 1, 1) := by decide +kernel
theorem d_G_greatestNumber_13 : decode b_G_greatestNumber 13 = .ok (.aaload, 1) := by decide +kernel
theorem d_G_greatestNumber_14 : decode b_G_greatestNumber 14 = .ok (.getfield 88, 3) := by decide +kernel
theorem d_G_greatestNumber_17 : decode b_G_greatestNumber 17 = .ok (.goto 4, 3) := by decide +kernel
theorem d_G_greatestNumber_20 : decode b_G_greatestNumber 20 = .ok (.iconst (-1), 1) := by decide +kernel
theorem d_G_greatestNumber_21 : decode b_G_greatestNumber 21 = .ok (.ireturn, 1) := by decide +kernel
theorem d_G_clamped_0 : decode b_G_clamped 0 = .ok (.iload_n 1, 1) := by decide +kernel
theorem d_G_clamped_1 : decode b_G_clamped 1 = .ok (.iload_n 0, 1) := by decide +kernel
theorem d_G_clamped_2 : decode b_G_clamped 2 = .ok (.iload_n 2, 1) := by decide +kernel
theorem d_G_clamped_3 : decode b_G_clamped 3 = .ok (.invokestatic 170, 3) := by decide +kernel
theorem d_G_clamped_6 : decode b_G_clamped 6 = .ok (.invokestatic 175, 3) := by decide +kernel
theorem d_G_clamped_9 : decode b_G_clamped 9 = .ok (.ireturn, 1) := by decide +kernel
theorem d_G_isWordPlace_0 : decode b_G_isWordPlace 0 = .ok (.iload_n 1, 1) := by decide +kernel
theorem d_G_isWordPlace_1 : decode b_G_isWordPlace 1 = .ok (.ifCond .lt 15, 3) := by decide +kernel
theorem d_G_isWordPlace_4 : decode b_G_isWordPlace 4 = .ok (.iload_n 1, 1) := by decide +kernel
theorem d_G_isWordPlace_5 : decode b_G_isWordPlace 5 = .ok (.aload_n 0, 1) := by decide +kernel
theorem d_G_isWordPlace_6 : decode b_G_isWordPlace 6 = .ok (.getfield 13, 3) := by decide +kernel
theorem d_G_isWordPlace_9 : decode b_G_isWordPlace 9 = .ok (.if_icmp .ge 7, 3) := by decide +kernel
theorem d_G_isWordPlace_12 : decode b_G_isWordPlace 12 = .ok (.iconst 1, 1) := by decide +kernel
theorem d_G_isWordPlace_13 : decode b_G_isWordPlace 13 = .ok (.goto 4, 3) := by decide +kernel
theorem d_G_isWordPlace_16 : decode b_G_isWordPlace 16 = .ok (.iconst 0, 1) := by decide +kernel
theorem d_G_isWordPlace_17 : decode b_G_isWordPlace 17 = .ok (.ireturn, 1) := by decide +kernel
theorem d_G_isPlace_0 : decode b_G_isPlace 0 = .ok (.iload_n 1, 1) := by decide +kernel
theorem d_G_isPlace_1 : decode b_G_isPlace 1 = .ok (.ifCond .lt 15, 3) := by decide +kernel
theorem d_G_isPlace_4 : decode b_G_isPlace 4 = .ok (.iload_n 1, 1) := by decide +kernel
theorem d_G_isPlace_5 : decode b_G_isPlace 5 = .ok (.aload_n 0, 1) := by decide +kernel
theorem d_G_isPlace_6 : decode b_G_isPlace 6 = .ok (.getfield 17, 3) := by decide +kernel
theorem d_G_isPlace_9 : decode b_G_isPlace 9 = .ok (.if_icmp .ge 7, 3) := by decide +kernel
theorem d_G_isPlace_12 : decode b_G_isPlace 12 = .ok (.iconst 1, 1) := by decide +kernel
theorem d_G_isPlace_13 : decode b_G_isPlace 13 = .ok (.goto 4, 3) := by decide +kernel
theorem d_G_isPlace_16 : decode b_G_isPlace 16 = .ok (.iconst 0, 1) := by decide +kernel
theorem d_G_isPlace_17 : decode b_G_isPlace 17 = .ok (.ireturn, 1) := by decide +kernel
theorem d_G_isFile_0 : decode b_G_isFile 0 = .ok (.iload_n 1, 1) := by decide +kernel
theorem d_G_isFile_1 : decode b_G_isFile 1 = .ok (.ifCond .lt 15, 3) := by decide +kernel
theorem d_G_isFile_4 : decode b_G_isFile 4 = .ok (.iload_n 1, 1) := by decide +kernel
theorem d_G_isFile_5 : decode b_G_isFile 5 = .ok (.aload_n 0, 1) := by decide +kernel
theorem d_G_isFile_6 : decode b_G_isFile 6 = .ok (.getfield 60, 3) := by decide +kernel
theorem d_G_isFile_9 : decode b_G_isFile 9 = .ok (.if_icmp .ge 7, 3) := by decide +kernel
theorem d_G_isFile_12 : decode b_G_isFile 12 = .ok (.iconst 1, 1) := by decide +kernel
theorem d_G_isFile_13 : decode b_G_isFile 13 = .ok (.goto 4, 3) := by decide +kernel
theorem d_G_isFile_16 : decode b_G_isFile 16 = .ok (.iconst 0, 1) := by decide +kernel
theorem d_G_isFile_17 : decode b_G_isFile 17 = .ok (.ireturn, 1) := by decide +kernel
theorem d_G_isByte_0 : decode b_G_isByte 0 = .ok (.iload_n 0, 1) := by decide +kernel
theorem d_G_isByte_1 : decode b_G_isByte 1 = .ok (.ifCond .lt 14, 3) := by decide +kernel
theorem d_G_isByte_4 : decode b_G_isByte 4 = .ok (.iload_n 0, 1) := by decide +kernel
theorem d_G_isByte_5 : decode b_G_isByte 5 = .ok (.sipush 255, 3) := by decide +kernel
theorem d_G_isByte_8 : decode b_G_isByte 8 = .ok (.if_icmp .gt 7, 3) := by decide +kernel
theorem d_G_isByte_11 : decode b_G_isByte 11 = .ok (.iconst 1, 1) := by decide +kernel
theorem d_G_isByte_12 : decode b_G_isByte 12 = .ok (.goto 4, 3) := by decide +kernel
theorem d_G_isByte_15 : decode b_G_isByte 15 = .ok (.iconst 0, 1) := by decide +kernel
theorem d_G_isByte_16 : decode b_G_isByte 16 = .ok (.ireturn, 1) := by decide +kernel
theorem d_G_fileUnder_0 : decode b_G_fileUnder 0 = .ok (.iconst 0, 1) := by decide +kernel
theorem d_G_fileUnder_1 : decode b_G_fileUnder 1 = .ok (.istore_n 2, 1) := by decide +kernel
theorem d_G_fileUnder_2 : decode b_G_fileUnder 2 = .ok (.iload_n 2, 1) := by decide +kernel
theorem d_G_fileUnder_3 : decode b_G_fileUnder 3 = .ok (.aload_n 0, 1) := by decide +kernel
theorem d_G_fileUnder_4 : decode b_G_fileUnder 4 = .ok (.getfield 60, 3) := by decide +kernel
theorem d_G_fileUnder_7 : decode b_G_fileUnder 7 = .ok (.if_icmp .ge 24, 3) := by decide +kernel
theorem d_G_fileUnder_10 : decode b_G_fileUnder 10 = .ok (.aload_n 0, 1) := by decide +kernel
theorem d_G_fileUnder_11 : decode b_G_fileUnder 11 = .ok (.getfield 29, 3) := by decide +kernel
theorem d_G_fileUnder_14 : decode b_G_fileUnder 14 = .ok (.iload_n 2, 1) := by decide +kernel
theorem d_G_fileUnder_15 : decode b_G_fileUnder 15 = .ok (.aaload, 1) := by decide +kernel
theorem d_G_fileUnder_16 : decode b_G_fileUnder 16 = .ok (.getfield 77, 3) := by decide +kernel
theorem d_G_fileUnder_19 : decode b_G_fileUnder 19 = .ok (.iload_n 1, 1) := by decide +kernel
theorem d_G_fileUnder_20 : decode b_G_fileUnder 20 = .ok (.if_icmp .ne 5, 3) := by decide +kernel
theorem d_G_fileUnder_23 : decode b_G_fileUnder 23 = .ok (.iload_n 2, 1) := by decide +kernel
theorem d_G_fileUnder_24 : decode b_G_fileUnder 24 = .ok (.ireturn, 1) := by decide +kernel
theorem d_G_fileUnder_25 : decode b_G_fileUnder 25 = .ok (.iinc 2 1, 3) := by decide +kernel
theorem d_G_fileUnder_28 : decode b_G_fileUnder 28 = .ok (.goto (-26), 3) := by decide +kernel
theorem d_G_fileUnder_31 : decode b_G_fileUnder 31 = .ok (.iconst (-1), 1) := by decide +kernel
theorem d_G_fileUnder_32 : decode b_G_fileUnder 32 = .ok (.ireturn, 1) := by decide +kernel
theorem d_G_takesRecords_0 : decode b_G_takesRecords 0 = .ok (.aload_n 0, 1) := by decide +kernel
theorem d_G_takesRecords_1 : decode b_G_takesRecords 1 = .ok (.getfield 20, 3) := by decide +kernel
theorem d_G_takesRecords_4 : decode b_G_takesRecords 4 = .ok (.iload_n 1, 1) := by decide +kernel
theorem d_G_takesRecords_5 : decode b_G_takesRecords 5 = .ok (.baload, 1) := by decide +kernel
theorem d_G_takesRecords_6 : decode b_G_takesRecords 6 = .ok (.ifCond .eq 16, 3) := by decide +kernel
theorem d_G_takesRecords_9 : decode b_G_takesRecords 9 = .ok (.aload_n 0, 1) := by decide +kernel
theorem d_G_takesRecords_10 : decode b_G_takesRecords 10 = .ok (.getfield 24, 3) := by decide +kernel
theorem d_G_takesRecords_13 : decode b_G_takesRecords 13 = .ok (.iload_n 1, 1) := by decide +kernel
theorem d_G_takesRecords_14 : decode b_G_takesRecords 14 = .ok (.baload, 1) := by decide +kernel
theorem d_G_takesRecords_15 : decode b_G_takesRecords 15 = .ok (.ifCond .ne 7, 3) := by decide +kernel
theorem d_G_takesRecords_18 : decode b_G_takesRecords 18 = .ok (.iconst 1, 1) := by decide +kernel
theorem d_G_takesRecords_19 : decode b_G_takesRecords 19 = .ok (.goto 4, 3) := by decide +kernel
theorem d_G_takesRecords_22 : decode b_G_takesRecords 22 = .ok (.iconst 0, 1) := by decide +kernel
theorem d_G_takesRecords_23 : decode b_G_takesRecords 23 = .ok (.ireturn, 1) := by decide +kernel
theorem d_G_serversUp_0 : decode b_G_serversUp 0 = .ok (.iconst 0, 1) := by decide +kernel
theorem d_G_serversUp_1 : decode b_G_serversUp 1 = .ok (.istore_n 1, 1) := by decide +kernel
theorem d_G_serversUp_2 : decode b_G_serversUp 2 = .ok (.iconst 0, 1) := by decide +kernel
theorem d_G_serversUp_3 : decode b_G_serversUp 3 = .ok (.istore_n 2, 1) := by decide +kernel
theorem d_G_serversUp_4 : decode b_G_serversUp 4 = .ok (.iload_n 2, 1) := by decide +kernel
theorem d_G_serversUp_5 : decode b_G_serversUp 5 = .ok (.aload_n 0, 1) := by decide +kernel
theorem d_G_serversUp_6 : decode b_G_serversUp 6 = .ok (.getfield 17, 3) := by decide +kernel
theorem d_G_serversUp_9 : decode b_G_serversUp 9 = .ok (.if_icmp .ge 21, 3) := by decide +kernel
theorem d_G_serversUp_12 : decode b_G_serversUp 12 = .ok (.aload_n 0, 1) := by decide +kernel
theorem d_G_serversUp_13 : decode b_G_serversUp 13 = .ok (.getfield 20, 3) := by decide +kernel
theorem d_G_serversUp_16 : decode b_G_serversUp 16 = .ok (.iload_n 2, 1) := by decide +kernel
theorem d_G_serversUp_17 : decode b_G_serversUp 17 = .ok (.baload, 1) := by decide +kernel
theorem d_G_serversUp_18 : decode b_G_serversUp 18 = .ok (.ifCond .eq 6, 3) := by decide +kernel
theorem d_G_serversUp_21 : decode b_G_serversUp 21 = .ok (.iinc 1 1, 3) := by decide +kernel
theorem d_G_serversUp_24 : decode b_G_serversUp 24 = .ok (.iinc 2 1, 3) := by decide +kernel
theorem d_G_serversUp_27 : decode b_G_serversUp 27 = .ok (.goto (-23), 3) := by decide +kernel
theorem d_G_serversUp_30 : decode b_G_serversUp 30 = .ok (.iload_n 1, 1) := by decide +kernel
theorem d_G_serversUp_31 : decode b_G_serversUp 31 = .ok (.ireturn, 1) := by decide +kernel
theorem d_G_bestNumber_0 : decode b_G_bestNumber 0 = .ok (.aload_n 0, 1) := by decide +kernel
theorem d_G_bestNumber_1 : decode b_G_bestNumber 1 = .ok (.getfield 57, 3) := by decide +kernel
theorem d_G_bestNumber_4 : decode b_G_bestNumber 4 = .ok (.iconst 0, 1) := by decide +kernel
theorem d_G_bestNumber_5 : decode b_G_bestNumber 5 = .ok (.invokestatic 178, 3) := by decide +kernel
theorem d_G_bestNumber_8 : decode b_G_bestNumber 8 = .ok (.iconst 0, 1) := by decide +kernel
theorem d_G_bestNumber_9 : decode b_G_bestNumber 9 = .ok (.istore_n 2, 1) := by decide +kernel
theorem d_G_bestNumber_10 : decode b_G_bestNumber 10 = .ok (.iload_n 2, 1) := by decide +kernel
theorem d_G_bestNumber_11 : decode b_G_bestNumber 11 = .ok (.aload_n 0, 1) := by decide +kernel
theorem d_G_bestNumber_12 : decode b_G_bestNumber 12 = .ok (.getfield 17, 3) := by decide +kernel
theorem d_G_bestNumber_15 : decode b_G_bestNumber 15 = .ok (.if_icmp .ge 44, 3) := by decide +kernel
theorem d_G_bestNumber_18 : decode b_G_bestNumber 18 = .ok (.aload_n 0, 1) := by decide +kernel
theorem d_G_bestNumber_19 : decode b_G_bestNumber 19 = .ok (.getfield 20, 3) := by decide +kernel
theorem d_G_bestNumber_22 : decode b_G_bestNumber 22 = .ok (.iload_n 2, 1) := by decide +kernel
theorem d_G_bestNumber_23 : decode b_G_bestNumber 23 = .ok (.baload, 1) := by decide +kernel
theorem d_G_bestNumber_24 : decode b_G_bestNumber 24 = .ok (.ifCond .eq 29, 3) := by decide +kernel
theorem d_G_bestNumber_27 : decode b_G_bestNumber 27 = .ok (.aload_n 1, 1) := by decide +kernel
theorem d_G_bestNumber_28 : decode b_G_bestNumber 28 = .ok (.iload_n 2, 1) := by decide +kernel
theorem d_G_bestNumber_29 : decode b_G_bestNumber 29 = .ok (.invokevirtual 125, 3) := by decide +kernel
theorem d_G_bestNumber_32 : decode b_G_bestNumber 32 = .ok (.ifCond .eq 21, 3) := by decide +kernel
theorem d_G_bestNumber_35 : decode b_G_bestNumber 35 = .ok (.aload_n 0, 1) := by decide +kernel
theorem d_G_bestNumber_36 : decode b_G_bestNumber 36 = .ok (.getfield 57, 3) := by decide +kernel
theorem d_G_bestNumber_39 : decode b_G_bestNumber 39 = .ok (.aload_n 1, 1) := by decide +kernel
theorem d_G_bestNumber_40 : decode b_G_bestNumber 40 = .ok (.getfield 128, 3) := by decide +kernel
theorem d_G_bestNumber_43 : decode b_G_bestNumber 43 = .ok (.iload_n 2, 1) := by decide +kernel
theorem d_G_bestNumber_44 : decode b_G_bestNumber 44 = .ok (.aaload, 1) := by decide +kernel
theorem d_G_bestNumber_45 : decode b_G_bestNumber 45 = .ok (.getfield 152, 3) := by decide +kernel
theorem d_G_bestNumber_48 : decode b_G_bestNumber 48 = .ok (.dup2, 1) := by decide +kernel
theorem d_G_bestNumber_49 : decode b_G_bestNumber 49 = .ok (.iaload, 1) := by decide +kernel
theorem d_G_bestNumber_50 : decode b_G_bestNumber 50 = .ok (.iconst 1, 1) := by decide +kernel
theorem d_G_bestNumber_51 : decode b_G_bestNumber 51 = .ok (.iadd, 1) := by decide +kernel
theorem d_G_bestNumber_52 : decode b_G_bestNumber 52 = .ok (.iastore, 1) := by decide +kernel
theorem d_G_bestNumber_53 : decode b_G_bestNumber 53 = .ok (.iinc 2 1, 3) := by decide +kernel
theorem d_G_bestNumber_56 : decode b_G_bestNumber 56 = .ok (.goto (-46), 3) := by decide +kernel
theorem d_G_bestNumber_59 : decode b_G_bestNumber 59 = .ok (.aload_n 1, 1) := by decide +kernel
theorem d_G_bestNumber_60 : decode b_G_bestNumber 60 = .ok (.getfield 88, 3) := by decide +kernel
theorem d_G_bestNumber_63 : decode b_G_bestNumber 63 = .ok (.istore_n 2, 1) := by decide +kernel
theorem d_G_bestNumber_64 : decode b_G_bestNumber 64 = .ok (.iload_n 2, 1) := by decide +kernel
theorem d_G_bestNumber_65 : decode b_G_bestNumber 65 = .ok (.iconst 1, 1) := by decide +kernel
theorem d_G_bestNumber_66 : decode b_G_bestNumber 66 = .ok (.if_icmp .lt 24, 3) := by decide +kernel
theorem d_G_bestNumber_69 : decode b_G_bestNumber 69 = .ok (.aload_n 0, 1) := by decide +kernel
theorem d_G_bestNumber_70 : decode b_G_bestNumber 70 = .ok (.getfield 57, 3) := by decide +kernel
theorem d_G_bestNumber_73 : decode b_G_bestNumber 73 = .ok (.iload_n 2, 1) := by decide +kernel
theorem d_G_bestNumber_74 : decode b_G_bestNumber 74 = .ok (.iaload, 1) := by decide +kernel
theorem d_G_bestNumber_75 : decode b_G_bestNumber 75 = .ok (.aload_n 0, 1) := by decide +kernel
theorem d_G_bestNumber_76 : decode b_G_bestNumber 76 = .ok (.getfield 13, 3) := by decide +kernel
theorem d_G_bestNumber_79 : decode b_G_bestNumber 79 = .ok (.if_icmp .lt 5, 3) := by decide +kernel
theorem d_G_bestNumber_82 : decode b_G_bestNumber 82 = .ok (.iload_n 2, 1) := by decide +kernel
theorem d_G_bestNumber_83 : decode b_G_bestNumber 83 = .ok (.ireturn, 1) := by decide +kernel
theorem d_G_bestNumber_84 : decode b_G_bestNumber 84 = .ok (.iinc 2 (-1), 3) := by decide +kernel
theorem d_G_bestNumber_87 : decode b_G_bestNumber 87 = .ok (.goto (-23), 3) := by decide +kernel
theorem d_G_bestNumber_90 : decode b_G_bestNumber 90 = .ok (.iconst 0, 1) := by decide +kernel
theorem d_G_bestNumber_91 : decode b_G_bestNumber 91 = .ok (.ireturn, 1) := by decide +kernel
theorem d_G_decodeVersion_0 : decode b_G_decodeVersion 0 = .ok (.iconst 0, 1) := by decide +kernel
theorem d_G_decodeVersion_1 : decode b_G_decodeVersion 1 = .ok (.istore_n 3, 1) := by decide +kernel
theorem d_G_decodeVersion_2 : decode b_G_decodeVersion 2 = .ok (.iconst 0, 1) := by decide +kernel
theorem d_G_decodeVersion_3 : decode b_G_decodeVersion 3 = .ok (.istore 4, 2) := by decide +kernel
theorem d_G_decodeVersion_5 : decode b_G_decodeVersion 5 = .ok (.iload 4, 2) := by decide +kernel
theorem d_G_decodeVersion_7 : decode b_G_decodeVersion 7 = .ok (.aload_n 0, 1) := by decide +kernel
theorem d_G_decodeVersion_8 : decode b_G_decodeVersion 8 = .ok (.getfield 17, 3) := by decide +kernel
theorem d_G_decodeVersion_11 : decode b_G_decodeVersion 11 = .ok (.if_icmp .ge 73, 3) := by decide +kernel
theorem d_G_decodeVersion_14 : decode b_G_decodeVersion 14 = .ok (.iload_n 3, 1) := by decide +kernel
theorem d_G_decodeVersion_15 : decode b_G_decodeVersion 15 = .ok (.aload_n 0, 1) := by decide +kernel
theorem d_G_decodeVersion_16 : decode b_G_decodeVersion 16 = .ok (.getfield 13, 3) := by decide +kernel
theorem d_G_decodeVersion_19 : decode b_G_decodeVersion 19 = .ok (.if_icmp .ge 65, 3) := by decide +kernel
theorem d_G_decodeVersion_22 : decode b_G_decodeVersion 22 = .ok (.aload_n 0, 1) := by decide +kernel
theorem d_G_decodeVersion_23 : decode b_G_decodeVersion 23 = .ok (.getfield 20, 3) := by decide +kernel
theorem d_G_decodeVersion_26 : decode b_G_decodeVersion 26 = .ok (.iload 4, 2) := by decide +kernel
theorem d_G_decodeVersion_28 : decode b_G_decodeVersion 28 = .ok (.baload, 1) := by decide +kernel
theorem d_G_decodeVersion_29 : decode b_G_decodeVersion 29 = .ok (.ifCond .eq 49, 3) := by decide +kernel
theorem d_G_decodeVersion_32 : decode b_G_decodeVersion 32 = .ok (.aload_n 1, 1) := by decide +kernel
theorem d_G_decodeVersion_33 : decode b_G_decodeVersion 33 = .ok (.iload 4, 2) := by decide +kernel
theorem d_G_decodeVersion_35 : decode b_G_decodeVersion 35 = .ok (.iload_n 2, 1) := by decide +kernel
theorem d_G_decodeVersion_36 : decode b_G_decodeVersion 36 = .ok (.invokevirtual 136, 3) := by decide +kernel
theorem d_G_decodeVersion_39 : decode b_G_decodeVersion 39 = .ok (.ifCond .eq 39, 3) := by decide +kernel
theorem d_G_decodeVersion_42 : decode b_G_decodeVersion 42 = .ok (.aload_n 0, 1) := by decide +kernel
theorem d_G_decodeVersion_43 : decode b_G_decodeVersion 43 = .ok (.getfield 46, 3) := by decide +kernel
theorem d_G_decodeVersion_46 : decode b_G_decodeVersion 46 = .ok (.getfield 184, 3) := by decide +kernel
theorem d_G_decodeVersion_49 : decode b_G_decodeVersion 49 = .ok (.iload_n 3, 1) := by decide +kernel
theorem d_G_decodeVersion_50 : decode b_G_decodeVersion 50 = .ok (.iload 4, 2) := by decide +kernel
theorem d_G_decodeVersion_52 : decode b_G_decodeVersion 52 = .ok (.invokestatic 187, 3) := by decide +kernel
theorem d_G_decodeVersion_55 : decode b_G_decodeVersion 55 = .ok (.iastore, 1) := by decide +kernel
theorem d_G_decodeVersion_56 : decode b_G_decodeVersion 56 = .ok (.aload_n 0, 1) := by decide +kernel
theorem d_G_decodeVersion_57 : decode b_G_decodeVersion 57 = .ok (.getfield 46, 3) := by decide +kernel
theorem d_G_decodeVersion_60 : decode b_G_decodeVersion 60 = .ok (.getfield 91, 3) := by decide +kernel
theorem d_G_decodeVersion_63 : decode b_G_decodeVersion 63 = .ok (.iload_n 3, 1) := by decide +kernel
theorem d_G_decodeVersion_64 : decode b_G_decodeVersion 64 = .ok (.aload_n 1, 1) := by decide +kernel
theorem d_G_decodeVersion_65 : decode b_G_decodeVersion 65 = .ok (.getfield 128, 3) := by decide +kernel
theorem d_G_decodeVersion_68 : decode b_G_decodeVersion 68 = .ok (.iload 4, 2) := by decide +kernel
theorem d_G_decodeVersion_70 : decode b_G_decodeVersion 70 = .ok (.aaload, 1) := by decide +kernel
theorem d_G_decodeVersion_71 : decode b_G_decodeVersion 71 = .ok (.getfield 149, 3) := by decide +kernel
theorem d_G_decodeVersion_74 : decode b_G_decodeVersion 74 = .ok (.iastore, 1) := by decide +kernel
theorem d_G_decodeVersion_75 : decode b_G_decodeVersion 75 = .ok (.iinc 3 1, 3) := by decide +kernel
theorem d_G_decodeVersion_78 : decode b_G_decodeVersion 78 = .ok (.iinc 4 1, 3) := by decide +kernel
theorem d_G_decodeVersion_81 : decode b_G_decodeVersion 81 = .ok (.goto (-76), 3) := by decide +kernel
theorem d_G_decodeVersion_84 : decode b_G_decodeVersion 84 = .ok (.aload_n 0, 1) := by decide +kernel
theorem d_G_decodeVersion_85 : decode b_G_decodeVersion 85 = .ok (.getfield 46, 3) := by decide +kernel
theorem d_G_decodeVersion_88 : decode b_G_decodeVersion 88 = .ok (.invokevirtual 190, 3) := by decide +kernel
theorem d_G_decodeVersion_91 : decode b_G_decodeVersion 91 = .ok (.aload_n 0, 1) := by decide +kernel
theorem d_G_decodeVersion_92 : decode b_G_decodeVersion 92 = .ok (.getfield 46, 3) := by decide +kernel
theorem d_G_decodeVersion_95 : decode b_G_decodeVersion 95 = .ok (.getfield 184, 3) := by decide +kernel
theorem d_G_decodeVersion_98 : decode b_G_decodeVersion 98 = .ok (.iconst 0, 1) := by decide +kernel
theorem d_G_decodeVersion_99 : decode b_G_decodeVersion 99 = .ok (.iaload, 1) := by decide +kernel
theorem d_G_decodeVersion_100 : decode b_G_decodeVersion 100 = .ok (.invokestatic 193, 3) := by decide +kernel
theorem d_G_decodeVersion_103 : decode b_G_decodeVersion 103 = .ok (.ireturn, 1) := by decide +kernel
theorem d_G_makeFreshRecord_0 : decode b_G_makeFreshRecord 0 = .ok (.aload_n 0, 1) := by decide +kernel
theorem d_G_makeFreshRecord_1 : decode b_G_makeFreshRecord 1 = .ok (.getfield 53, 3) := by decide +kernel
theorem d_G_makeFreshRecord_4 : decode b_G_makeFreshRecord 4 = .ok (.iload_n 1, 1) := by decide +kernel
theorem d_G_makeFreshRecord_5 : decode b_G_makeFreshRecord 5 = .ok (.putfield 152, 3) := by decide +kernel
theorem d_G_makeFreshRecord_8 : decode b_G_makeFreshRecord 8 = .ok (.iconst 0, 1) := by decide +kernel
theorem d_G_makeFreshRecord_9 : decode b_G_makeFreshRecord 9 = .ok (.istore_n 3, 1) := by decide +kernel
theorem d_G_makeFreshRecord_10 : decode b_G_makeFreshRecord 10 = .ok (.iload_n 3, 1) := by decide +kernel
theorem d_G_makeFreshRecord_11 : decode b_G_makeFreshRecord 11 = .ok (.aload_n 0, 1) := by decide +kernel
theorem d_G_makeFreshRecord_12 : decode b_G_makeFreshRecord 12 = .ok (.getfield 17, 3) := by decide +kernel
theorem d_G_makeFreshRecord_15 : decode b_G_makeFreshRecord 15 = .ok (.if_icmp .ge 30, 3) := by decide +kernel
theorem d_G_makeFreshRecord_18 : decode b_G_makeFreshRecord 18 = .ok (.aload_n 0, 1) := by decide +kernel
theorem d_G_makeFreshRecord_19 : decode b_G_makeFreshRecord 19 = .ok (.getfield 53, 3) := by decide +kernel
theorem d_G_makeFreshRecord_22 : decode b_G_makeFreshRecord 22 = .ok (.getfield 155, 3) := by decide +kernel
theorem d_G_makeFreshRecord_25 : decode b_G_makeFreshRecord 25 = .ok (.iload_n 3, 1) := by decide +kernel
theorem d_G_makeFreshRecord_26 : decode b_G_makeFreshRecord 26 = .ok (.aload_n 0, 1) := by decide +kernel
theorem d_G_makeFreshRecord_27 : decode b_G_makeFreshRecord 27 = .ok (.getfield 46, 3) := by decide +kernel
theorem d_G_makeFreshRecord_30 : decode b_G_makeFreshRecord 30 = .ok (.iload_n 3, 1) := by decide +kernel
theorem d_G_makeFreshRecord_31 : decode b_G_makeFreshRecord 31 = .ok (.invokevirtual 196, 3) := by decide +kernel
theorem d_G_makeFreshRecord_34 : decode b_G_makeFreshRecord 34 = .ok (.iload_n 3, 1) := by decide +kernel
theorem d_G_makeFreshRecord_35 : decode b_G_makeFreshRecord 35 = .ok (.invokestatic 199, 3) := by decide +kernel
theorem d_G_makeFreshRecord_38 : decode b_G_makeFreshRecord 38 = .ok (.iastore, 1) := by decide +kernel
theorem d_G_makeFreshRecord_39 : decode b_G_makeFreshRecord 39 = .ok (.iinc 3 1, 3) := by decide +kernel
theorem d_G_makeFreshRecord_42 : decode b_G_makeFreshRecord 42 = .ok (.goto (-32), 3) := by decide +kernel
theorem d_G_makeFreshRecord_45 : decode b_G_makeFreshRecord 45 = .ok (.aload_n 0, 1) := by decide +kernel
theorem d_G_makeFreshRecord_46 : decode b_G_makeFreshRecord 46 = .ok (.getfield 53, 3) := by decide +kernel
theorem d_G_makeFreshRecord_49 : decode b_G_makeFreshRecord 49 = .ok (.invokevirtual 202, 3) := by decide +kernel
theorem d_G_makeFreshRecord_52 : decode b_G_makeFreshRecord 52 = .ok (.istore_n 3, 1) := by decide +kernel
theorem d_G_makeFreshRecord_53 : decode b_G_makeFreshRecord 53 = .ok (.aload_n 0, 1) := by decide +kernel
theorem d_G_makeFreshRecord_54 : decode b_G_makeFreshRecord 54 = .ok (.getfield 53, 3) := by decide +kernel
theorem d_G_makeFreshRecord_57 : decode b_G_makeFreshRecord 57 = .ok (.iload_n 3, 1) := by decide +kernel
theorem d_G_makeFreshRecord_58 : decode b_G_makeFreshRecord 58 = .ok (.iload_n 2, 1) := by decide +kernel
theorem d_G_makeFreshRecord_59 : decode b_G_makeFreshRecord 59 = .ok (.invokestatic 205, 3) := by decide +kernel
theorem d_G_makeFreshRecord_62 : decode b_G_makeFreshRecord 62 = .ok (.iload_n 2, 1) := by decide +kernel
theorem d_G_makeFreshRecord_63 : decode b_G_makeFreshRecord 63 = .ok (.ixor, 1) := by decide +kernel
theorem d_G_makeFreshRecord_64 : decode b_G_makeFreshRecord 64 = .ok (.putfield 101, 3) := by decide +kernel
theorem d_G_makeFreshRecord_67 : decode b_G_makeFreshRecord 67 = .ok (.aload_n 0, 1) := by decide +kernel
theorem d_G_makeFreshRecord_68 : decode b_G_makeFreshRecord 68 = .ok (.getfield 53, 3) := by decide +kernel
theorem d_G_makeFreshRecord_71 : decode b_G_makeFreshRecord 71 = .ok (.iconst 1, 1) := by decide +kernel
theorem d_G_makeFreshRecord_72 : decode b_G_makeFreshRecord 72 = .ok (.putfield 146, 3) := by decide +kernel
theorem d_G_makeFreshRecord_75 : decode b_G_makeFreshRecord 75 = .ok (.iload_n 3, 1) := by decide +kernel
theorem d_G_makeFreshRecord_76 : decode b_G_makeFreshRecord 76 = .ok (.ireturn, 1) := by decide +kernel
theorem d_G_giveFreshRecord_0 : decode b_G_giveFreshRecord 0 = .ok (.aload_n 0, 1) := by decide +kernel
theorem d_G_giveFreshRecord_1 : decode b_G_giveFreshRecord 1 = .ok (.getfield 53, 3) := by decide +kernel
theorem d_G_giveFreshRecord_4 : decode b_G_giveFreshRecord 4 = .ok (.aload_n 0, 1) := by decide +kernel
theorem d_G_giveFreshRecord_5 : decode b_G_giveFreshRecord 5 = .ok (.getfield 46, 3) := by decide +kernel
theorem d_G_giveFreshRecord_8 : decode b_G_giveFreshRecord 8 = .ok (.iload_n 2, 1) := by decide +kernel
theorem d_G_giveFreshRecord_9 : decode b_G_giveFreshRecord 9 = .ok (.invokevirtual 196, 3) := by decide +kernel
theorem d_G_giveFreshRecord_12 : decode b_G_giveFreshRecord 12 = .ok (.putfield 149, 3) := by decide +kernel
theorem d_G_giveFreshRecord_15 : decode b_G_giveFreshRecord 15 = .ok (.aload_n 1, 1) := by decide +kernel
theorem d_G_giveFreshRecord_16 : decode b_G_giveFreshRecord 16 = .ok (.getfield 128, 3) := by decide +kernel
theorem d_G_giveFreshRecord_19 : decode b_G_giveFreshRecord 19 = .ok (.iload_n 2, 1) := by decide +kernel
theorem d_G_giveFreshRecord_20 : decode b_G_giveFreshRecord 20 = .ok (.aaload, 1) := by decide +kernel
theorem d_G_giveFreshRecord_21 : decode b_G_giveFreshRecord 21 = .ok (.aload_n 0, 1) := by decide +kernel
theorem d_G_giveFreshRecord_22 : decode b_G_giveFreshRecord 22 = .ok (.getfield 53, 3) := by decide +kernel
theorem d_G_giveFreshRecord_25 : decode b_G_giveFreshRecord 25 = .ok (.invokevirtual 132, 3) := by decide +kernel
theorem d_G_giveFreshRecord_28 : decode b_G_giveFreshRecord 28 = .ok (.return_, 1) := by decide +kernel
theorem d_G_mix_0 : decode b_G_mix 0 = .ok (.iload_n 0, 1) := by decide +kernel
theorem d_G_mix_1 : decode b_G_mix 1 = .ok (.iload_n 1, 1) := by decide +kernel
theorem d_G_mix_2 : decode b_G_mix 2 = .ok (.ldc 208, 2) := by decide +kernel
theorem d_G_mix_4 : decode b_G_mix 4 = .ok (.imul, 1) := by decide +kernel
theorem d_G_mix_5 : decode b_G_mix 5 = .ok (.sipush 12345, 3) := by decide +kernel
theorem d_G_mix_8 : decode b_G_mix 8 = .ok (.iadd, 1) := by decide +kernel
theorem d_G_mix_9 : decode b_G_mix 9 = .ok (.ixor, 1) := by decide +kernel
theorem d_G_mix_10 : decode b_G_mix 10 = .ok (.ldc 209, 2) := by decide +kernel
theorem d_G_mix_12 : decode b_G_mix 12 = .ok (.imul, 1) := by decide +kernel
theorem d_G_mix_13 : decode b_G_mix 13 = .ok (.istore_n 2, 1) := by decide +kernel
theorem d_G_mix_14 : decode b_G_mix 14 = .ok (.iload_n 2, 1) := by decide +kernel
theorem d_G_mix_15 : decode b_G_mix 15 = .ok (.iload_n 2, 1) := by decide +kernel
theorem d_G_mix_16 : decode b_G_mix 16 = .ok (.bipush 15, 2) := by decide +kernel
theorem d_G_mix_18 : decode b_G_mix 18 = .ok (.iushr, 1) := by decide +kernel
theorem d_G_mix_19 : decode b_G_mix 19 = .ok (.ixor, 1) := by decide +kernel
theorem d_G_mix_20 : decode b_G_mix 20 = .ok (.ireturn, 1) := by decide +kernel
theorem d_G_readKeyOf_0 : decode b_G_readKeyOf 0 = .ok (.iload_n 0, 1) := by decide +kernel
theorem d_G_readKeyOf_1 : decode b_G_readKeyOf 1 = .ok (.iconst 1, 1) := by decide +kernel
theorem d_G_readKeyOf_2 : decode b_G_readKeyOf 2 = .ok (.invokestatic 205, 3) := by decide +kernel
theorem d_G_readKeyOf_5 : decode b_G_readKeyOf 5 = .ok (.ireturn, 1) := by decide +kernel
theorem d_G_verifyKeyOf_0 : decode b_G_verifyKeyOf 0 = .ok (.iload_n 0, 1) := by decide +kernel
theorem d_G_verifyKeyOf_1 : decode b_G_verifyKeyOf 1 = .ok (.iconst 2, 1) := by decide +kernel
theorem d_G_verifyKeyOf_2 : decode b_G_verifyKeyOf 2 = .ok (.invokestatic 205, 3) := by decide +kernel
theorem d_G_verifyKeyOf_5 : decode b_G_verifyKeyOf 5 = .ok (.ireturn, 1) := by decide +kernel
theorem d_G_cipherMask_0 : decode b_G_cipherMask 0 = .ok (.iload_n 0, 1) := by decide +kernel
theorem d_G_cipherMask_1 : decode b_G_cipherMask 1 = .ok (.iload_n 1, 1) := by decide +kernel
theorem d_G_cipherMask_2 : decode b_G_cipherMask 2 = .ok (.bipush 8, 2) := by decide +kernel
theorem d_G_cipherMask_4 : decode b_G_cipherMask 4 = .ok (.imul, 1) := by decide +kernel
theorem d_G_cipherMask_5 : decode b_G_cipherMask 5 = .ok (.iload_n 2, 1) := by decide +kernel
theorem d_G_cipherMask_6 : decode b_G_cipherMask 6 = .ok (.iadd, 1) := by decide +kernel
theorem d_G_cipherMask_7 : decode b_G_cipherMask 7 = .ok (.invokestatic 205, 3) := by decide +kernel
theorem d_G_cipherMask_10 : decode b_G_cipherMask 10 = .ok (.ireturn, 1) := by decide +kernel
theorem d_G_fingerprint_0 : decode b_G_fingerprint 0 = .ok (.iload_n 0, 1) := by decide +kernel
theorem d_G_fingerprint_1 : decode b_G_fingerprint 1 = .ok (.iload_n 1, 1) := by decide +kernel
theorem d_G_fingerprint_2 : decode b_G_fingerprint 2 = .ok (.bipush 100, 2) := by decide +kernel
theorem d_G_fingerprint_4 : decode b_G_fingerprint 4 = .ok (.iadd, 1) := by decide +kernel
theorem d_G_fingerprint_5 : decode b_G_fingerprint 5 = .ok (.invokestatic 205, 3) := by decide +kernel
theorem d_G_fingerprint_8 : decode b_G_fingerprint 8 = .ok (.ireturn, 1) := by decide +kernel
theorem d_G_pointOf_0 : decode b_G_pointOf 0 = .ok (.iload_n 0, 1) := by decide +kernel
theorem d_G_pointOf_1 : decode b_G_pointOf 1 = .ok (.iconst 1, 1) := by decide +kernel
theorem d_G_pointOf_2 : decode b_G_pointOf 2 = .ok (.iadd, 1) := by decide +kernel
theorem d_G_pointOf_3 : decode b_G_pointOf 3 = .ok (.ireturn, 1) := by decide +kernel
theorem d_G_placeOf_0 : decode b_G_placeOf 0 = .ok (.iload_n 0, 1) := by decide +kernel
theorem d_G_placeOf_1 : decode b_G_placeOf 1 = .ok (.iconst 1, 1) := by decide +kernel
theorem d_G_placeOf_2 : decode b_G_placeOf 2 = .ok (.isub, 1) := by decide +kernel
theorem d_G_placeOf_3 : decode b_G_placeOf 3 = .ok (.ireturn, 1) := by decide +kernel
theorem d_G_scaled_0 : decode b_G_scaled 0 = .ok (.iconst 0, 1) := by decide +kernel
theorem d_G_scaled_1 : decode b_G_scaled 1 = .ok (.istore_n 2, 1) := by decide +kernel
theorem d_G_scaled_2 : decode b_G_scaled 2 = .ok (.iload_n 0, 1) := by decide +kernel
theorem d_G_scaled_3 : decode b_G_scaled 3 = .ok (.istore_n 3, 1) := by decide +kernel
theorem d_G_scaled_4 : decode b_G_scaled 4 = .ok (.iconst 0, 1) := by decide +kernel
theorem d_G_scaled_5 : decode b_G_scaled 5 = .ok (.istore 4, 2) := by decide +kernel
theorem d_G_scaled_7 : decode b_G_scaled 7 = .ok (.iload 4, 2) := by decide +kernel
theorem d_G_scaled_9 : decode b_G_scaled 9 = .ok (.bipush 8, 2) := by decide +kernel
theorem d_G_scaled_11 : decode b_G_scaled 11 = .ok (.if_icmp .ge 27, 3) := by decide +kernel
theorem d_G_scaled_14 : decode b_G_scaled 14 = .ok (.iload_n 1, 1) := by decide +kernel
theorem d_G_scaled_15 : decode b_G_scaled 15 = .ok (.iload 4, 2) := by decide +kernel
theorem d_G_scaled_17 : decode b_G_scaled 17 = .ok (.iushr, 1) := by decide +kernel
theorem d_G_scaled_18 : decode b_G_scaled 18 = .ok (.iconst 1, 1) := by decide +kernel
theorem d_G_scaled_19 : decode b_G_scaled 19 = .ok (.iand, 1) := by decide +kernel
theorem d_G_scaled_20 : decode b_G_scaled 20 = .ok (.ifCond .eq 7, 3) := by decide +kernel
theorem d_G_scaled_23 : decode b_G_scaled 23 = .ok (.iload_n 2, 1) := by decide +kernel
theorem d_G_scaled_24 : decode b_G_scaled 24 = .ok (.iload_n 3, 1) := by decide +kernel
theorem d_G_scaled_25 : decode b_G_scaled 25 = .ok (.ixor, 1) := by decide +kernel
theorem d_G_scaled_26 : decode b_G_scaled 26 = .ok (.istore_n 2, 1) := by decide +kernel
theorem d_G_scaled_27 : decode b_G_scaled 27 = .ok (.iload_n 3, 1) := by decide +kernel
theorem d_G_scaled_28 : decode b_G_scaled 28 = .ok (.invokestatic 210, 3) := by decide +kernel
theorem d_G_scaled_31 : decode b_G_scaled 31 = .ok (.istore_n 3, 1) := by decide +kernel
theorem d_G_scaled_32 : decode b_G_scaled 32 = .ok (.iinc 4 1, 3) := by decide +kernel
theorem d_G_scaled_35 : decode b_G_scaled 35 = .ok (.goto (-28), 3) := by decide +kernel
theorem d_G_scaled_38 : decode b_G_scaled 38 = .ok (.iload_n 2, 1) := by decide +kernel
theorem d_G_scaled_39 : decode b_G_scaled 39 = .ok (.ireturn, 1) := by decide +kernel
theorem d_G_timesX_0 : decode b_G_timesX 0 = .ok (.iload_n 0, 1) := by decide +kernel
theorem d_G_timesX_1 : decode b_G_timesX 1 = .ok (.bipush 7, 2) := by decide +kernel
theorem d_G_timesX_3 : decode b_G_timesX 3 = .ok (.iushr, 1) := by decide +kernel
theorem d_G_timesX_4 : decode b_G_timesX 4 = .ok (.ldc 213, 2) := by decide +kernel
theorem d_G_timesX_6 : decode b_G_timesX 6 = .ok (.iand, 1) := by decide +kernel
theorem d_G_timesX_7 : decode b_G_timesX 7 = .ok (.istore_n 1, 1) := by decide +kernel
theorem d_G_timesX_8 : decode b_G_timesX 8 = .ok (.iload_n 0, 1) := by decide +kernel
theorem d_G_timesX_9 : decode b_G_timesX 9 = .ok (.ldc 214, 2) := by decide +kernel
theorem d_G_timesX_11 : decode b_G_timesX 11 = .ok (.iand, 1) := by decide +kernel
theorem d_G_timesX_12 : decode b_G_timesX 12 = .ok (.iconst 1, 1) := by decide +kernel
theorem d_G_timesX_13 : decode b_G_timesX 13 = .ok (.ishl, 1) := by decide +kernel
theorem d_G_timesX_14 : decode b_G_timesX 14 = .ok (.iload_n 1, 1) := by decide +kernel
theorem d_G_timesX_15 : decode b_G_timesX 15 = .ok (.bipush 29, 2) := by decide +kernel
theorem d_G_timesX_17 : decode b_G_timesX 17 = .ok (.imul, 1) := by decide +kernel
theorem d_G_timesX_18 : decode b_G_timesX 18 = .ok (.ixor, 1) := by decide +kernel
theorem d_G_timesX_19 : decode b_G_timesX 19 = .ok (.ireturn, 1) := by decide +kernel
theorem d_G_inverse_0 : decode b_G_inverse 0 = .ok (.iconst 1, 1) := by decide +kernel
theorem d_G_inverse_1 : decode b_G_inverse 1 = .ok (.istore_n 1, 1) := by decide +kernel
theorem d_G_inverse_2 : decode b_G_inverse 2 = .ok (.iload_n 0, 1) := by decide +kernel
theorem d_G_inverse_3 : decode b_G_inverse 3 = .ok (.istore_n 2, 1) := by decide +kernel
theorem d_G_inverse_4 : decode b_G_inverse 4 = .ok (.iconst 1, 1) := by decide +kernel
theorem d_G_inverse_5 : decode b_G_inverse 5 = .ok (.istore_n 3, 1) := by decide +kernel
theorem d_G_inverse_6 : decode b_G_inverse 6 = .ok (.iload_n 3, 1) := by decide +kernel
theorem d_G_inverse_7 : decode b_G_inverse 7 = .ok (.bipush 8, 2) := by decide +kernel
theorem d_G_inverse_9 : decode b_G_inverse 9 = .ok (.if_icmp .ge 21, 3) := by decide +kernel
theorem d_G_inverse_12 : decode b_G_inverse 12 = .ok (.iload_n 2, 1) := by decide +kernel
theorem d_G_inverse_13 : decode b_G_inverse 13 = .ok (.iload_n 2, 1) := by decide +kernel
theorem d_G_inverse_14 : decode b_G_inverse 14 = .ok (.invokestatic 164, 3) := by decide +kernel
theorem d_G_inverse_17 : decode b_G_inverse 17 = .ok (.istore_n 2, 1) := by decide +kernel
theorem d_G_inverse_18 : decode b_G_inverse 18 = .ok (.iload_n 1, 1) := by decide +kernel
theorem d_G_inverse_19 : decode b_G_inverse 19 = .ok (.iload_n 2, 1) := by decide +kernel
theorem d_G_inverse_20 : decode b_G_inverse 20 = .ok (.invokestatic 164, 3) := by decide +kernel
theorem d_G_inverse_23 : decode b_G_inverse 23 = .ok (.istore_n 1, 1) := by decide +kernel
theorem d_G_inverse_24 : decode b_G_inverse 24 = .ok (.iinc 3 1, 3) := by decide +kernel
theorem d_G_inverse_27 : decode b_G_inverse 27 = .ok (.goto (-21), 3) := by decide +kernel
theorem d_G_inverse_30 : decode b_G_inverse 30 = .ok (.iload_n 1, 1) := by decide +kernel
theorem d_G_inverse_31 : decode b_G_inverse 31 = .ok (.ireturn, 1) := by decide +kernel
end
section
theorem d_M_init_0 : decode b_M_init 0 = .ok (.aload_n 0, 1) := by decide +kernel
theorem d_M_init_1 : decode b_M_init 1 = .ok (.invokespecial 1, 3) := by decide +kernel
theorem d_M_init_4 : decode b_M_init 4 = .ok (.aload_n 0, 1) := by decide +kernel
theorem d_M_init_5 : decode b_M_init 5 = .ok (.bipush 7, 2) := by decide +kernel
theorem d_M_init_7 : decode b_M_init 7 = .ok (.newarray .boolean, 2) := by decide +kernel
theorem d_M_init_9 : decode b_M_init 9 = .ok (.putfield 7, 3) := by decide +kernel
theorem d_M_init_12 : decode b_M_init 12 = .ok (.aload_n 0, 1) := by decide +kernel
theorem d_M_init_13 : decode b_M_init 13 = .ok (.bipush 7, 2) := by decide +kernel
theorem d_M_init_15 : decode b_M_init 15 = .ok (.newarray .boolean, 2) := by decide +kernel
theorem d_M_init_17 : decode b_M_init 17 = .ok (.putfield 13, 3) := by decide +kernel
theorem d_M_init_20 : decode b_M_init 20 = .ok (.aload_n 0, 1) := by decide +kernel
theorem d_M_init_21 : decode b_M_init 21 = .ok (.bipush 6, 2) := by decide +kernel
theorem d_M_init_23 : decode b_M_init 23 = .ok (.newarray .int, 2) := by decide +kernel
theorem d_M_init_25 : decode b_M_init 25 = .ok (.putfield 16, 3) := by decide +kernel
theorem d_M_init_28 : decode b_M_init 28 = .ok (.aload_n 0, 1) := by decide +kernel
theorem d_M_init_29 : decode b_M_init 29 = .ok (.bipush 6, 2) := by decide +kernel
theorem d_M_init_31 : decode b_M_init 31 = .ok (.newarray .int, 2) := by decide +kernel
theorem d_M_init_33 : decode b_M_init 33 = .ok (.putfield 20, 3) := by decide +kernel
theorem d_M_init_36 : decode b_M_init 36 = .ok (.aload_n 0, 1) := by decide +kernel
theorem d_M_init_37 : decode b_M_init 37 = .ok (.sipush 186, 3) := by decide +kernel
theorem d_M_init_40 : decode b_M_init 40 = .ok (.newarray .int, 2) := by decide +kernel
theorem d_M_init_42 : decode b_M_init 42 = .ok (.putfield 23, 3) := by decide +kernel
theorem d_M_init_45 : decode b_M_init 45 = .ok (.aload_n 0, 1) := by decide +kernel
theorem d_M_init_46 : decode b_M_init 46 = .ok (.sipush 186, 3) := by decide +kernel
theorem d_M_init_49 : decode b_M_init 49 = .ok (.newarray .int, 2) := by decide +kernel
theorem d_M_init_51 : decode b_M_init 51 = .ok (.putfield 26, 3) := by decide +kernel
theorem d_M_init_54 : decode b_M_init 54 = .ok (.aload_n 0, 1) := by decide +kernel
theorem d_M_init_55 : decode b_M_init 55 = .ok (.sipush 840, 3) := by decide +kernel
theorem d_M_init_58 : decode b_M_init 58 = .ok (.newarray .int, 2) := by decide +kernel
theorem d_M_init_60 : decode b_M_init 60 = .ok (.putfield 29, 3) := by decide +kernel
theorem d_M_init_63 : decode b_M_init 63 = .ok (.aload_n 0, 1) := by decide +kernel
theorem d_M_init_64 : decode b_M_init 64 = .ok (.bipush 84, 2) := by decide +kernel
theorem d_M_init_66 : decode b_M_init 66 = .ok (.newarray .boolean, 2) := by decide +kernel
theorem d_M_init_68 : decode b_M_init 68 = .ok (.putfield 32, 3) := by decide +kernel
theorem d_M_init_71 : decode b_M_init 71 = .ok (.aload_n 0, 1) := by decide +kernel
theorem d_M_init_72 : decode b_M_init 72 = .ok (.iconst 4, 1) := by decide +kernel
theorem d_M_init_73 : decode b_M_init 73 = .ok (.newarray .int, 2) := by decide +kernel
theorem d_M_init_75 : decode b_M_init 75 = .ok (.putfield 35, 3) := by decide +kernel
theorem d_M_init_78 : decode b_M_init 78 = .ok (.aload_n 0, 1) := by decide +kernel
theorem d_M_init_79 : decode b_M_init 79 = .ok (.iconst 4, 1) := by decide +kernel
theorem d_M_init_80 : decode b_M_init 80 = .ok (.newarray .int, 2) := by decide +kernel
theorem d_M_init_82 : decode b_M_init 82 = .ok (.putfield 38, 3) := by decide +kernel
theorem d_M_init_85 : decode b_M_init 85 = .ok (.aload_n 0, 1) := by decide +kernel
theorem d_M_init_86 : decode b_M_init 86 = .ok (.iconst 4, 1) := by decide +kernel
theorem d_M_init_87 : decode b_M_init 87 = .ok (.newarray .int, 2) := by decide +kernel
theorem d_M_init_89 : decode b_M_init 89 = .ok (.putfield 41, 3) := by decide +kernel
theorem d_M_init_92 : decode b_M_init 92 = .ok (.aload_n 0, 1) := by decide +kernel
theorem d_M_init_93 : decode b_M_init 93 = .ok (.bipush 16, 2) := by decide +kernel
theorem d_M_init_95 : decode b_M_init 95 = .ok (.newarray .int, 2) := by decide +kernel
theorem d_M_init_97 : decode b_M_init 97 = .ok (.putfield 44, 3) := by decide +kernel
theorem d_M_init_100 : decode b_M_init 100 = .ok (.aload_n 0, 1) := by decide +kernel
theorem d_M_init_101 : decode b_M_init 101 = .ok (.iconst 4, 1) := by decide +kernel
theorem d_M_init_102 : decode b_M_init 102 = .ok (.newarray .int, 2) := by decide +kernel
theorem d_M_init_104 : decode b_M_init 104 = .ok (.putfield 47, 3) := by decide +kernel
theorem d_M_init_107 : decode b_M_init 107 = .ok (.aload_n 0, 1) := by decide +kernel
theorem d_M_init_108 : decode b_M_init 108 = .ok (.iload_n 1, 1) := by decide +kernel
theorem d_M_init_109 : decode b_M_init 109 = .ok (.iconst 1, 1) := by decide +kernel
theorem d_M_init_110 : decode b_M_init 110 = .ok (.if_icmp .ge 7, 3) := by decide +kernel
theorem d_M_init_113 : decode b_M_init 113 = .ok (.iconst 1, 1) := by decide +kernel
theorem d_M_init_114 : decode b_M_init 114 = .ok (.goto 13, 3) := by decide +kernel
theorem d_M_init_117 : decode b_M_init 117 = .ok (.iload_n 1, 1) := by decide +kernel
theorem d_M_init_118 : decode b_M_init 118 = .ok (.iconst 4, 1) := by decide +kernel
theorem d_M_init_119 : decode b_M_init 119 = .ok (.if_icmp .le 7, 3) := by decide +kernel
theorem d_M_init_122 : decode b_M_init 122 = .ok (.iconst 4, 1) := by decide +kernel
theorem d_M_init_123 : decode b_M_init 123 = .ok (.goto 4, 3) := by decide +kernel
theorem d_M_init_126 : decode b_M_init 126 = .ok (.iload_n 1, 1) := by decide +kernel
theorem d_M_init_127 : decode b_M_init 127 = .ok (.putfield 50, 3) := by decide +kernel
theorem d_M_init_130 : decode b_M_init 130 = .ok (.aload_n 0, 1) := by decide +kernel
theorem d_M_init_131 : decode b_M_init 131 = .ok (.iload_n 2, 1) := by decide +kernel
theorem d_M_init_132 : decode b_M_init 132 = .ok (.aload_n 0, 1) := by decide +kernel
theorem d_M_init_133 : decode b_M_init 133 = .ok (.getfield 50, 3) := by decide +kernel
theorem d_M_init_136 : decode b_M_init 136 = .ok (.if_icmp .ge 10, 3) := by decide +kernel
theorem d_M_init_139 : decode b_M_init 139 = .ok (.aload_n 0, 1) := by decide +kernel
theorem d_M_init_140 : decode b_M_init 140 = .ok (.getfield 50, 3) := by decide +kernel
theorem d_M_init_143 : decode b_M_init 143 = .ok (.goto 15, 3) := by decide +kernel
theorem d_M_init_146 : decode b_M_init 146 = .ok (.iload_n 2, 1) := by decide +kernel
theorem d_M_init_147 : decode b_M_init 147 = .ok (.bipush 7, 2) := by decide +kernel
theorem d_M_init_149 : decode b_M_init 149 = .ok (.if_icmp .le 8, 3) := by decide +kernel
theorem d_M_init_152 : decode b_M_init 152 = .ok (.bipush 7, 2) := by decide +kernel
theorem d_M_init_154 : decode b_M_init 154 = .ok (.goto 4, 3) := by decide +kernel
theorem d_M_init_157 : decode b_M_init 157 = .ok (.iload_n 2, 1) := by decide +kernel
theorem d_M_init_158 : decode b_M_init 158 = .ok (.putfield 54, 3) := by decide +kernel
theorem d_M_init_161 : decode b_M_init 161 = .ok (.iconst 0, 1) := by decide +kernel
theorem d_M_init_162 : decode b_M_init 162 = .ok (.istore_n 3, 1) := by decide +kernel
theorem d_M_init_163 : decode b_M_init 163 = .ok (.iload_n 3, 1) := by decide +kernel
theorem d_M_init_164 : decode b_M_init 164 = .ok (.bipush 7, 2) := by decide +kernel
theorem d_M_init_166 : decode b_M_init 166 = .ok (.if_icmp .ge 16, 3) := by decide +kernel
theorem d_M_init_169 : decode b_M_init 169 = .ok (.aload_n 0, 1) := by decide +kernel
theorem d_M_init_170 : decode b_M_init 170 = .ok (.getfield 7, 3) := by decide +kernel
theorem d_M_init_173 : decode b_M_init 173 = .ok (.iload_n 3, 1) := by decide +kernel
theorem d_M_init_174 : decode b_M_init 174 = .ok (.iconst 1, 1) := by decide +kernel
theorem d_M_init_175 : decode b_M_init 175 = .ok (.bastore, 1) := by decide +kernel
theorem d_M_init_176 : decode b_M_init 176 = .ok (.iinc 3 1, 3) := by decide +kernel
theorem d_M_init_179 : decode b_M_init 179 = .ok (.goto (-16), 3) := by decide +kernel
theorem d_M_init_182 : decode b_M_init 182 = .ok (.return_, 1) := by decide +kernel
theorem d_M_mix_0 : decode b_M_mix 0 = .ok (.iload_n 1, 1) := by decide +kernel
theorem d_M_mix_1 : decode b_M_mix 1 = .ok (.iload_n 2, 1) := by decide +kernel
theorem d_M_mix_2 : decode b_M_mix 2 = .ok (.ldc 57, 2) := by decide +kernel
theorem d_M_mix_4 : decode b_M_mix 4 = .ok (.imul, 1) := by decide +kernel
theorem d_M_mix_5 : decode b_M_mix 5 = .ok (.sipush 12345, 3) := by decide +kernel
theorem d_M_mix_8 : decode b_M_mix 8 = .ok (.iadd, 1) := by decide +kernel
theorem d_M_mix_9 : decode b_M_mix 9 = .ok (.ixor, 1) := by decide +kernel
theorem d_M_mix_10 : decode b_M_mix 10 = .ok (.ldc 58, 2) := by decide +kernel
theorem d_M_mix_12 : decode b_M_mix 12 = .ok (.imul, 1) := by decide +kernel
theorem d_M_mix_13 : decode b_M_mix 13 = .ok (.istore_n 3, 1) := by decide +kernel
theorem d_M_mix_14 : decode b_M_mix 14 = .ok (.iload_n 3, 1) := by decide +kernel
theorem d_M_mix_15 : decode b_M_mix 15 = .ok (.iload_n 3, 1) := by decide +kernel
theorem d_M_mix_16 : decode b_M_mix 16 = .ok (.bipush 15, 2) := by decide +kernel
theorem d_M_mix_18 : decode b_M_mix 18 = .ok (.iushr, 1) := by decide +kernel
theorem d_M_mix_19 : decode b_M_mix 19 = .ok (.ixor, 1) := by decide +kernel
theorem d_M_mix_20 : decode b_M_mix 20 = .ok (.ireturn, 1) := by decide +kernel
theorem d_M_key_0 : decode b_M_key 0 = .ok (.iload_n 2, 1) := by decide +kernel
theorem d_M_key_1 : decode b_M_key 1 = .ok (.iconst 1, 1) := by decide +kernel
theorem d_M_key_2 : decode b_M_key 2 = .ok (.if_icmp .ne 10, 3) := by decide +kernel
theorem d_M_key_5 : decode b_M_key 5 = .ok (.aload_n 0, 1) := by decide +kernel
theorem d_M_key_6 : decode b_M_key 6 = .ok (.iload_n 1, 1) := by decide +kernel
theorem d_M_key_7 : decode b_M_key 7 = .ok (.iconst 1, 1) := by decide +kernel
theorem d_M_key_8 : decode b_M_key 8 = .ok (.invokevirtual 59, 3) := by decide +kernel
theorem d_M_key_11 : decode b_M_key 11 = .ok (.ireturn, 1) := by decide +kernel
theorem d_M_key_12 : decode b_M_key 12 = .ok (.iload_n 2, 1) := by decide +kernel
theorem d_M_key_13 : decode b_M_key 13 = .ok (.iconst 2, 1) := by decide +kernel
theorem d_M_key_14 : decode b_M_key 14 = .ok (.if_icmp .ne 10, 3) := by decide +kernel
theorem d_M_key_17 : decode b_M_key 17 = .ok (.aload_n 0, 1) := by decide +kernel
theorem d_M_key_18 : decode b_M_key 18 = .ok (.iload_n 1, 1) := by decide +kernel
theorem d_M_key_19 : decode b_M_key 19 = .ok (.iconst 2, 1) := by decide +kernel
theorem d_M_key_20 : decode b_M_key 20 = .ok (.invokevirtual 59, 3) := by decide +kernel
theorem d_M_key_23 : decode b_M_key 23 = .ok (.ireturn, 1) := by decide +kernel
theorem d_M_key_24 : decode b_M_key 24 = .ok (.iload_n 2, 1) := by decide +kernel
theorem d_M_key_25 : decode b_M_key 25 = .ok (.iconst 3, 1) := by decide +kernel
theorem d_M_key_26 : decode b_M_key 26 = .ok (.if_icmp .ne 17, 3) := by decide +kernel
theorem d_M_key_29 : decode b_M_key 29 = .ok (.aload_n 0, 1) := by decide +kernel
theorem d_M_key_30 : decode b_M_key 30 = .ok (.aload_n 0, 1) := by decide +kernel
theorem d_M_key_31 : decode b_M_key 31 = .ok (.iload_n 1, 1) := by decide +kernel
theorem d_M_key_32 : decode b_M_key 32 = .ok (.iconst 1, 1) := by decide +kernel
theorem d_M_key_33 : decode b_M_key 33 = .ok (.invokevirtual 59, 3) := by decide +kernel
theorem d_M_key_36 : decode b_M_key 36 = .ok (.iconst 2, 1) := by decide +kernel
theorem d_M_key_37 : decode b_M_key 37 = .ok (.invokevirtual 59, 3) := by decide +kernel
theorem d_M_key_40 : decode b_M_key 40 = .ok (.goto 4, 3) := by decide +kernel
theorem d_M_key_43 : decode b_M_key 43 = .ok (.iconst 0, 1) := by decide +kernel
theorem d_M_key_44 : decode b_M_key 44 = .ok (.ireturn, 1) := by decide +kernel
theorem d_M_fileOf_0 : decode b_M_fileOf 0 = .ok (.iconst 0, 1) := by decide +kernel
theorem d_M_fileOf_1 : decode b_M_fileOf 1 = .ok (.istore_n 2, 1) := by decide +kernel
theorem d_M_fileOf_2 : decode b_M_fileOf 2 = .ok (.iload_n 2, 1) := by decide +kernel
theorem d_M_fileOf_3 : decode b_M_fileOf 3 = .ok (.aload_n 0, 1) := by decide +kernel
theorem d_M_fileOf_4 : decode b_M_fileOf 4 = .ok (.getfield 63, 3) := by decide +kernel
theorem d_M_fileOf_7 : decode b_M_fileOf 7 = .ok (.if_icmp .ge 21, 3) := by decide +kernel
theorem d_M_fileOf_10 : decode b_M_fileOf 10 = .ok (.aload_n 0, 1) := by decide +kernel
theorem d_M_fileOf_11 : decode b_M_fileOf 11 = .ok (.getfield 16, 3) := by decide +kernel
theorem d_M_fileOf_14 : decode b_M_fileOf 14 = .ok (.iload_n 2, 1) := by decide +kernel
theorem d_M_fileOf_15 : decode b_M_fileOf 15 = .ok (.iaload, 1) := by decide +kernel
theorem d_M_fileOf_16 : decode b_M_fileOf 16 = .ok (.iload_n 1, 1) := by decide +kernel
theorem d_M_fileOf_17 : decode b_M_fileOf 17 = .ok (.if_icmp .ne 5, 3) := by decide +kernel
theorem d_M_fileOf_20 : decode b_M_fileOf 20 = .ok (.iload_n 2, 1) := by decide +kernel
theorem d_M_fileOf_21 : decode b_M_fileOf 21 = .ok (.ireturn, 1) := by decide +kernel
theorem d_M_fileOf_22 : decode b_M_fileOf 22 = .ok (.iinc 2 1, 3) := by decide +kernel
theorem d_M_fileOf_25 : decode b_M_fileOf 25 = .ok (.goto (-23), 3) := by decide +kernel
theorem d_M_fileOf_28 : decode b_M_fileOf 28 = .ok (.iconst (-1), 1) := by decide +kernel
theorem d_M_fileOf_29 : decode b_M_fileOf 29 = .ok (.ireturn, 1) := by decide +kernel
theorem d_M_create_0 : decode b_M_create 0 = .ok (.aload_n 0, 1) := by decide +kernel
theorem d_M_create_1 : decode b_M_create 1 = .ok (.iload_n 1, 1) := by decide +kernel
theorem d_M_create_2 : decode b_M_create 2 = .ok (.iconst 3, 1) := by decide +kernel
theorem d_M_create_3 : decode b_M_create 3 = .ok (.invokevirtual 66, 3) := by decide +kernel
theorem d_M_create_6 : decode b_M_create 6 = .ok (.istore_n 2, 1) := by decide +kernel
theorem d_M_create_7 : decode b_M_create 7 = .ok (.aload_n 0, 1) := by decide +kernel
theorem d_M_create_8 : decode b_M_create 8 = .ok (.iload_n 2, 1) := by decide +kernel
theorem d_M_create_9 : decode b_M_create 9 = .ok (.invokevirtual 69, 3) := by decide +kernel
theorem d_M_create_12 : decode b_M_create 12 = .ok (.ifCond .lt 5, 3) := by decide +kernel
theorem d_M_create_15 : decode b_M_create 15 = .ok (.iconst (-1), 1) := by decide +kernel
theorem d_M_create_16 : decode b_M_create 16 = .ok (.ireturn, 1) := by decide +kernel
theorem d_M_create_17 : decode b_M_create 17 = .ok (.aload_n 0, 1) := by decide +kernel
theorem d_M_create_18 : decode b_M_create 18 = .ok (.getfield 63, 3) := by decide +kernel
theorem d_M_create_21 : decode b_M_create 21 = .ok (.bipush 6, 2) := by decide +kernel
theorem d_M_create_23 : decode b_M_create 23 = .ok (.if_icmp .ne 6, 3) := by decide +kernel
theorem d_M_create_26 : decode b_M_create 26 = .ok (.bipush (-2), 2) := by decide +kernel
theorem d_M_create_28 : decode b_M_create 28 = .ok (.ireturn, 1) := by decide +kernel
theorem d_M_create_29 : decode b_M_create 29 = .ok (.aload_n 0, 1) := by decide +kernel
theorem d_M_create_30 : decode b_M_create 30 = .ok (.getfield 16, 3) := by decide +kernel
theorem d_M_create_33 : decode b_M_create 33 = .ok (.aload_n 0, 1) := by decide +kernel
theorem d_M_create_34 : decode b_M_create 34 = .ok (.getfield 63, 3) := by decide +kernel
theorem d_M_create_37 : decode b_M_create 37 = .ok (.iload_n 2, 1) := by decide +kernel
theorem d_M_create_38 : decode b_M_create 38 = .ok (.iastore, 1) := by decide +kernel
theorem d_M_create_39 : decode b_M_create 39 = .ok (.aload_n 0, 1) := by decide +kernel
theorem d_M_create_40 : decode b_M_create 40 = .ok (.dup, 1) := by decide +kernel
theorem d_M_create_41 : decode b_M_create 41 = .ok (.getfield 63, 3) := by decide +kernel
theorem d_M_create_44 : decode b_M_create 44 = .ok (.iconst 1, 1) := by decide +kernel
theorem d_M_create_45 : decode b_M_create 45 = .ok (.iadd, 1) := by decide +kernel
theorem d_M_create_46 : decode b_M_create 46 = .ok (.putfield 63, 3) := by decide +kernel
theorem d_M_create_49 : decode b_M_create 49 = .ok (.aload_n 0, 1) := by decide +kernel
theorem d_M_create_50 : decode b_M_create 50 = .ok (.getfield 63, 3) := by decide +kernel
theorem d_M_create_53 : decode b_M_create 53 = .ok (.iconst 1, 1) := by decide +kernel
theorem d_M_create_54 : decode b_M_create 54 = .ok (.isub, 1) := by decide +kernel
theorem d_M_create_55 : decode b_M_create 55 = .ok (.ireturn, 1) := by decide +kernel
theorem d_M_draft_0 : decode b_M_draft 0 = .ok (.iload_n 1, 1) := by decide +kernel
theorem d_M_draft_1 : decode b_M_draft 1 = .ok (.ifCond .lt 11, 3) := by decide +kernel
theorem d_M_draft_4 : decode b_M_draft 4 = .ok (.iload_n 1, 1) := by decide +kernel
theorem d_M_draft_5 : decode b_M_draft 5 = .ok (.aload_n 0, 1) := by decide +kernel
theorem d_M_draft_6 : decode b_M_draft 6 = .ok (.getfield 50, 3) := by decide +kernel
theorem d_M_draft_9 : decode b_M_draft 9 = .ok (.if_icmp .lt 5, 3) := by decide +kernel
theorem d_M_draft_12 : decode b_M_draft 12 = .ok (.iconst (-1), 1) := by decide +kernel
theorem d_M_draft_13 : decode b_M_draft 13 = .ok (.ireturn, 1) := by decide +kernel
theorem d_M_draft_14 : decode b_M_draft 14 = .ok (.aload_n 0, 1) := by decide +kernel
theorem d_M_draft_15 : decode b_M_draft 15 = .ok (.getfield 35, 3) := by decide +kernel
theorem d_M_draft_18 : decode b_M_draft 18 = .ok (.iload_n 1, 1) := by decide +kernel
theorem d_M_draft_19 : decode b_M_draft 19 = .ok (.iload_n 2, 1) := by decide +kernel
theorem d_M_draft_20 : decode b_M_draft 20 = .ok (.iastore, 1) := by decide +kernel
theorem d_M_draft_21 : decode b_M_draft 21 = .ok (.iconst 0, 1) := by decide +kernel
theorem d_M_draft_22 : decode b_M_draft 22 = .ok (.ireturn, 1) := by decide +kernel
theorem d_M_product_0 : decode b_M_product 0 = .ok (.iconst 0, 1) := by decide +kernel
theorem d_M_product_1 : decode b_M_product 1 = .ok (.istore_n 3, 1) := by decide +kernel
theorem d_M_product_2 : decode b_M_product 2 = .ok (.bipush 7, 2) := by decide +kernel
theorem d_M_product_4 : decode b_M_product 4 = .ok (.istore 4, 2) := by decide +kernel
theorem d_M_product_6 : decode b_M_product 6 = .ok (.iload 4, 2) := by decide +kernel
theorem d_M_product_8 : decode b_M_product 8 = .ok (.ifCond .lt 39, 3) := by decide +kernel
theorem d_M_product_11 : decode b_M_product 11 = .ok (.iload_n 3, 1) := by decide +kernel
theorem d_M_product_12 : decode b_M_product 12 = .ok (.iconst 1, 1) := by decide +kernel
theorem d_M_product_13 : decode b_M_product 13 = .ok (.ishl, 1) := by decide +kernel
theorem d_M_product_14 : decode b_M_product 14 = .ok (.istore_n 3, 1) := by decide +kernel
theorem d_M_product_15 : decode b_M_product 15 = .ok (.iload_n 3, 1) := by decide +kernel
theorem d_M_product_16 : decode b_M_product 16 = .ok (.sipush 255, 3) := by decide +kernel
theorem d_M_product_19 : decode b_M_product 19 = .ok (.if_icmp .le 9, 3) := by decide +kernel
theorem d_M_product_22 : decode b_M_product 22 = .ok (.iload_n 3, 1) := by decide +kernel
theorem d_M_product_23 : decode b_M_product 23 = .ok (.sipush 285, 3) := by decide +kernel
theorem d_M_product_26 : decode b_M_product 26 = .ok (.ixor, 1) := by decide +kernel
theorem d_M_product_27 : decode b_M_product 27 = .ok (.istore_n 3, 1) := by decide +kernel
theorem d_M_product_28 : decode b_M_product 28 = .ok (.iload_n 2, 1) := by decide +kernel
theorem d_M_product_29 : decode b_M_product 29 = .ok (.iload 4, 2) := by decide +kernel
theorem d_M_product_31 : decode b_M_product 31 = .ok (.ishr, 1) := by decide +kernel
theorem d_M_product_32 : decode b_M_product 32 = .ok (.iconst 1, 1) := by decide +kernel
theorem d_M_product_33 : decode b_M_product 33 = .ok (.iand, 1) := by decide +kernel
theorem d_M_product_34 : decode b_M_product 34 = .ok (.ifCond .eq 7, 3) := by decide +kernel
theorem d_M_product_37 : decode b_M_product 37 = .ok (.iload_n 3, 1) := by decide +kernel
theorem d_M_product_38 : decode b_M_product 38 = .ok (.iload_n 1, 1) := by decide +kernel
theorem d_M_product_39 : decode b_M_product 39 = .ok (.ixor, 1) := by decide +kernel
theorem d_M_product_40 : decode b_M_product 40 = .ok (.istore_n 3, 1) := by decide +kernel
theorem d_M_product_41 : decode b_M_product 41 = .ok (.iinc 4 (-1), 3) := by decide +kernel
theorem d_M_product_44 : decode b_M_product 44 = .ok (.goto (-38), 3) := by decide +kernel
theorem d_M_product_47 : decode b_M_product 47 = .ok (.iload_n 3, 1) := by decide +kernel
theorem d_M_product_48 : decode b_M_product 48 = .ok (.ireturn, 1) := by decide +kernel
theorem d_M_scaled_0 : decode b_M_scaled 0 = .ok (.iconst 0, 1) := by decide +kernel
theorem d_M_scaled_1 : decode b_M_scaled 1 = .ok (.istore_n 3, 1) := by decide +kernel
theorem d_M_scaled_2 : decode b_M_scaled 2 = .ok (.iconst 0, 1) := by decide +kernel
theorem d_M_scaled_3 : decode b_M_scaled 3 = .ok (.istore 4, 2) := by decide +kernel
theorem d_M_scaled_5 : decode b_M_scaled 5 = .ok (.iload 4, 2) := by decide +kernel
theorem d_M_scaled_7 : decode b_M_scaled 7 = .ok (.iconst 4, 1) := by decide +kernel
theorem d_M_scaled_8 : decode b_M_scaled 8 = .ok (.if_icmp .ge 34, 3) := by decide +kernel
theorem d_M_scaled_11 : decode b_M_scaled 11 = .ok (.iload_n 3, 1) := by decide +kernel
theorem d_M_scaled_12 : decode b_M_scaled 12 = .ok (.aload_n 0, 1) := by decide +kernel
theorem d_M_scaled_13 : decode b_M_scaled 13 = .ok (.iload_n 1, 1) := by decide +kernel
theorem d_M_scaled_14 : decode b_M_scaled 14 = .ok (.bipush 8, 2) := by decide +kernel
theorem d_M_scaled_16 : decode b_M_scaled 16 = .ok (.iload 4, 2) := by decide +kernel
theorem d_M_scaled_18 : decode b_M_scaled 18 = .ok (.imul, 1) := by decide +kernel
theorem d_M_scaled_19 : decode b_M_scaled 19 = .ok (.iushr, 1) := by decide +kernel
theorem d_M_scaled_20 : decode b_M_scaled 20 = .ok (.sipush 255, 3) := by decide +kernel
theorem d_M_scaled_23 : decode b_M_scaled 23 = .ok (.iand, 1) := by decide +kernel
theorem d_M_scaled_24 : decode b_M_scaled 24 = .ok (.iload_n 2, 1) := by decide +kernel
theorem d_M_scaled_25 : decode b_M_scaled 25 = .ok (.invokevirtual 73, 3) := by decide +kernel
theorem d_M_scaled_28 : decode b_M_scaled 28 = .ok (.bipush 8, 2) := by decide +kernel
theorem d_M_scaled_30 : decode b_M_scaled 30 = .ok (.iload 4, 2) := by decide +kernel
theorem d_M_scaled_32 : decode b_M_scaled 32 = .ok (.imul, 1) := by decide +kernel
theorem d_M_scaled_33 : decode b_M_scaled 33 = .ok (.ishl, 1) := by decide +kernel
theorem d_M_scaled_34 : decode b_M_scaled 34 = .ok (.ior, 1) := by decide +kernel
theorem d_M_scaled_35 : decode b_M_scaled 35 = .ok (.istore_n 3, 1) := by decide +kernel
theorem d_M_scaled_36 : decode b_M_scaled 36 = .ok (.iinc 4 1, 3) := by decide +kernel
theorem d_M_scaled_39 : decode b_M_scaled 39 = .ok (.goto (-34), 3) := by decide +kernel
theorem d_M_scaled_42 : decode b_M_scaled 42 = .ok (.iload_n 3, 1) := by decide +kernel
theorem d_M_scaled_43 : decode b_M_scaled 43 = .ok (.ireturn, 1) := by decide +kernel
theorem d_M_power_0 : decode b_M_power 0 = .ok (.iconst 1, 1) := by decide +kernel
theorem d_M_power_1 : decode b_M_power 1 = .ok (.istore_n 3, 1) := by decide +kernel
theorem d_M_power_2 : decode b_M_power 2 = .ok (.iconst 0, 1) := by decide +kernel
theorem d_M_power_3 : decode b_M_power 3 = .ok (.istore 4, 2) := by decide +kernel
theorem d_M_power_5 : decode b_M_power 5 = .ok (.iload 4, 2) := by decide +kernel
theorem d_M_power_7 : decode b_M_power 7 = .ok (.iload_n 2, 1) := by decide +kernel
theorem d_M_power_8 : decode b_M_power 8 = .ok (.if_icmp .ge 16, 3) := by decide +kernel
theorem d_M_power_11 : decode b_M_power 11 = .ok (.aload_n 0, 1) := by decide +kernel
theorem d_M_power_12 : decode b_M_power 12 = .ok (.iload_n 3, 1) := by decide +kernel
theorem d_M_power_13 : decode b_M_power 13 = .ok (.iload_n 1, 1) := by decide +kernel
theorem d_M_power_14 : decode b_M_power 14 = .ok (.invokevirtual 73, 3) := by decide +kernel
theorem d_M_power_17 : decode b_M_power 17 = .ok (.istore_n 3, 1) := by decide +kernel
theorem d_M_power_18 : decode b_M_power 18 = .ok (.iinc 4 1, 3) := by decide +kernel
theorem d_M_power_21 : decode b_M_power 21 = .ok (.goto (-16), 3) := by decide +kernel
theorem d_M_power_24 : decode b_M_power 24 = .ok (.iload_n 3, 1) := by decide +kernel
theorem d_M_power_25 : decode b_M_power 25 = .ok (.ireturn, 1) := by decide +kernel
theorem d_M_shareAt_0 : decode b_M_shareAt 0 = .ok (.iconst 0, 1) := by decide +kernel
theorem d_M_shareAt_1 : decode b_M_shareAt 1 = .ok (.istore_n 2, 1) := by decide +kernel
theorem d_M_shareAt_2 : decode b_M_shareAt 2 = .ok (.iconst 0, 1) := by decide +kernel
theorem d_M_shareAt_3 : decode b_M_shareAt 3 = .ok (.istore_n 3, 1) := by decide +kernel
theorem d_M_shareAt_4 : decode b_M_shareAt 4 = .ok (.iload_n 3, 1) := by decide +kernel
theorem d_M_shareAt_5 : decode b_M_shareAt 5 = .ok (.aload_n 0, 1) := by decide +kernel
theorem d_M_shareAt_6 : decode b_M_shareAt 6 = .ok (.getfield 50, 3) := by decide +kernel
theorem d_M_shareAt_9 : decode b_M_shareAt 9 = .ok (.if_icmp .ge 30, 3) := by decide +kernel
theorem d_M_shareAt_12 : decode b_M_shareAt 12 = .ok (.iload_n 2, 1) := by decide +kernel
theorem d_M_shareAt_13 : decode b_M_shareAt 13 = .ok (.aload_n 0, 1) := by decide +kernel
theorem d_M_shareAt_14 : decode b_M_shareAt 14 = .ok (.aload_n 0, 1) := by decide +kernel
theorem d_M_shareAt_15 : decode b_M_shareAt 15 = .ok (.getfield 41, 3) := by decide +kernel
theorem d_M_shareAt_18 : decode b_M_shareAt 18 = .ok (.iload_n 3, 1) := by decide +kernel
theorem d_M_shareAt_19 : decode b_M_shareAt 19 = .ok (.iaload, 1) := by decide +kernel
theorem d_M_shareAt_20 : decode b_M_shareAt 20 = .ok (.aload_n 0, 1) := by decide +kernel
theorem d_M_shareAt_21 : decode b_M_shareAt 21 = .ok (.iload_n 1, 1) := by decide +kernel
theorem d_M_shareAt_22 : decode b_M_shareAt 22 = .ok (.iconst 1, 1) := by decide +kernel
theorem d_M_shareAt_23 : decode b_M_shareAt 23 = .ok (.iadd, 1) := by decide +kernel
theorem d_M_shareAt_24 : decode b_M_shareAt 24 = .ok (.iload_n 3, 1) := by decide +kernel
theorem d_M_shareAt_25 : decode b_M_shareAt 25 = .ok (.invokevirtual 76, 3) := by decide +kernel
theorem d_M_shareAt_28 : decode b_M_shareAt 28 = .ok (.invokevirtual 79, 3) := by decide +kernel
theorem d_M_shareAt_31 : decode b_M_shareAt 31 = .ok (.ixor, 1) := by decide +kernel
theorem d_M_shareAt_32 : decode b_M_shareAt 32 = .ok (.istore_n 2, 1) := by decide +kernel
theorem d_M_shareAt_33 : decode b_M_shareAt 33 = .ok (.iinc 3 1, 3) := by decide +kernel
theorem d_M_shareAt_36 : decode b_M_shareAt 36 = .ok (.goto (-32), 3) := by decide +kernel
theorem d_M_shareAt_39 : decode b_M_shareAt 39 = .ok (.iload_n 2, 1) := by decide +kernel
theorem d_M_shareAt_40 : decode b_M_shareAt 40 = .ok (.ireturn, 1) := by decide +kernel
theorem d_M_rootOf_0 : decode b_M_rootOf 0 = .ok (.bipush 7, 2) := by decide +kernel
theorem d_M_rootOf_2 : decode b_M_rootOf 2 = .ok (.istore_n 3, 1) := by decide +kernel
theorem d_M_rootOf_3 : decode b_M_rootOf 3 = .ok (.iconst 0, 1) := by decide +kernel
theorem d_M_rootOf_4 : decode b_M_rootOf 4 = .ok (.istore 4, 2) := by decide +kernel
theorem d_M_rootOf_6 : decode b_M_rootOf 6 = .ok (.iload 4, 2) := by decide +kernel
theorem d_M_rootOf_8 : decode b_M_rootOf 8 = .ok (.aload_n 0, 1) := by decide +kernel
theorem d_M_rootOf_9 : decode b_M_rootOf 9 = .ok (.getfield 54, 3) := by decide +kernel
theorem d_M_rootOf_12 : decode b_M_rootOf 12 = .ok (.if_icmp .ge 29, 3) := by decide +kernel
theorem d_M_rootOf_15 : decode b_M_rootOf 15 = .ok (.aload_n 0, 1) := by decide +kernel
theorem d_M_rootOf_16 : decode b_M_rootOf 16 = .ok (.iload_n 3, 1) := by decide +kernel
theorem d_M_rootOf_17 : decode b_M_rootOf 17 = .ok (.aload_n 0, 1) := by decide +kernel
theorem d_M_rootOf_18 : decode b_M_rootOf 18 = .ok (.getfield 29, 3) := by decide +kernel
theorem d_M_rootOf_21 : decode b_M_rootOf 21 = .ok (.iload_n 1, 1) := by decide +kernel
theorem d_M_rootOf_22 : decode b_M_rootOf 22 = .ok (.bipush 10, 2) := by decide +kernel
theorem d_M_rootOf_24 : decode b_M_rootOf 24 = .ok (.imul, 1) := by decide +kernel
theorem d_M_rootOf_25 : decode b_M_rootOf 25 = .ok (.iconst 3, 1) := by decide +kernel
theorem d_M_rootOf_26 : decode b_M_rootOf 26 = .ok (.iadd, 1) := by decide +kernel
theorem d_M_rootOf_27 : decode b_M_rootOf 27 = .ok (.iload 4, 2) := by decide +kernel
theorem d_M_rootOf_29 : decode b_M_rootOf 29 = .ok (.iadd, 1) := by decide +kernel
theorem d_M_rootOf_30 : decode b_M_rootOf 30 = .ok (.iaload, 1) := by decide +kernel
theorem d_M_rootOf_31 : decode b_M_rootOf 31 = .ok (.invokevirtual 59, 3) := by decide +kernel
theorem d_M_rootOf_34 : decode b_M_rootOf 34 = .ok (.istore_n 3, 1) := by decide +kernel
theorem d_M_rootOf_35 : decode b_M_rootOf 35 = .ok (.iinc 4 1, 3) := by decide +kernel
theorem d_M_rootOf_38 : decode b_M_rootOf 38 = .ok (.goto (-32), 3) := by decide +kernel
theorem d_M_rootOf_41 : decode b_M_rootOf 41 = .ok (.aload_n 0, 1) := by decide +kernel
theorem d_M_rootOf_42 : decode b_M_rootOf 42 = .ok (.iload_n 3, 1) := by decide +kernel
theorem d_M_rootOf_43 : decode b_M_rootOf 43 = .ok (.iload_n 2, 1) := by decide +kernel
theorem d_M_rootOf_44 : decode b_M_rootOf 44 = .ok (.invokevirtual 59, 3) := by decide +kernel
theorem d_M_rootOf_47 : decode b_M_rootOf 47 = .ok (.ireturn, 1) := by decide +kernel
theorem d_M_upCount_0 : decode b_M_upCount 0 = .ok (.iconst 0, 1) := by decide +kernel
theorem d_M_upCount_1 : decode b_M_upCount 1 = .ok (.istore_n 1, 1) := by decide +kernel
theorem d_M_upCount_2 : decode b_M_upCount 2 = .ok (.iconst 0, 1) := by decide +kernel
theorem d_M_upCount_3 : decode b_M_upCount 3 = .ok (.istore_n 2, 1) := by decide +kernel
theorem d_M_upCount_4 : decode b_M_upCount 4 = .ok (.iload_n 2, 1) := by decide +kernel
theorem d_M_upCount_5 : decode b_M_upCount 5 = .ok (.aload_n 0, 1) := by decide +kernel
theorem d_M_upCount_6 : decode b_M_upCount 6 = .ok (.getfield 54, 3) := by decide +kernel
theorem d_M_upCount_9 : decode b_M_upCount 9 = .ok (.if_icmp .ge 21, 3) := by decide +kernel
theorem d_M_upCount_12 : decode b_M_upCount 12 = .ok (.aload_n 0, 1) := by decide +kernel
theorem d_M_upCount_13 : decode b_M_upCount 13 = .ok (.getfield 7, 3) := by decide +kernel
theorem d_M_upCount_16 : decode b_M_upCount 16 = .ok (.iload_n 2, 1) := by decide +kernel
theorem d_M_upCount_17 : decode b_M_upCount 17 = .ok (.baload, 1) := by decide +kernel
theorem d_M_upCount_18 : decode b_M_upCount 18 = .ok (.ifCond .eq 6, 3) := by decide +kernel
theorem d_M_upCount_21 : decode b_M_upCount 21 = .ok (.iinc 1 1, 3) := by decide +kernel
theorem d_M_upCount_24 : decode b_M_upCount 24 = .ok (.iinc 2 1, 3) := by decide +kernel
theorem d_M_upCount_27 : decode b_M_upCount 27 = .ok (.goto (-23), 3) := by decide +kernel
theorem d_M_upCount_30 : decode b_M_upCount 30 = .ok (.iload_n 1, 1) := by decide +kernel
theorem d_M_upCount_31 : decode b_M_upCount 31 = .ok (.ireturn, 1) := by decide +kernel
theorem d_M_copyRow_0 : decode b_M_copyRow 0 = .ok (.aload_n 0, 1) := by decide +kernel
theorem d_M_copyRow_1 : decode b_M_copyRow 1 = .ok (.getfield 32, 3) := by decide +kernel
theorem d_M_copyRow_4 : decode b_M_copyRow 4 = .ok (.iload_n 2, 1) := by decide +kernel
theorem d_M_copyRow_5 : decode b_M_copyRow 5 = .ok (.aload_n 0, 1) := by decide +kernel
theorem d_M_copyRow_6 : decode b_M_copyRow 6 = .ok (.getfield 32, 3) := by decide +kernel
theorem d_M_copyRow_9 : decode b_M_copyRow 9 = .ok (.iload_n 1, 1) := by decide +kernel
theorem d_M_copyRow_10 : decode b_M_copyRow 10 = .ok (.baload, 1) := by decide +kernel
theorem d_M_copyRow_11 : decode b_M_copyRow 11 = .ok (.bastore, 1) := by decide +kernel
theorem d_M_copyRow_12 : decode b_M_copyRow 12 = .ok (.iconst 0, 1) := by decide +kernel
theorem d_M_copyRow_13 : decode b_M_copyRow 13 = .ok (.istore_n 3, 1) := by decide +kernel
theorem d_M_copyRow_14 : decode b_M_copyRow 14 = .ok (.iload_n 3, 1) := by decide +kernel
theorem d_M_copyRow_15 : decode b_M_copyRow 15 = .ok (.bipush 10, 2) := by decide +kernel
theorem d_M_copyRow_17 : decode b_M_copyRow 17 = .ok (.if_icmp .ge 31, 3) := by decide +kernel
theorem d_M_copyRow_20 : decode b_M_copyRow 20 = .ok (.aload_n 0, 1) := by decide +kernel
theorem d_M_copyRow_21 : decode b_M_copyRow 21 = .ok (.getfield 29, 3) := by decide +kernel
theorem d_M_copyRow_24 : decode b_M_copyRow 24 = .ok (.iload_n 2, 1) := by decide +kernel
theorem d_M_copyRow_25 : decode b_M_copyRow 25 = .ok (.bipush 10, 2) := by decide +kernel
theorem d_M_copyRow_27 : decode b_M_copyRow 27 = .ok (.imul, 1) := by decide +kernel
theorem d_M_copyRow_28 : decode b_M_copyRow 28 = .ok (.iload_n 3, 1) := by decide +kernel
theorem d_M_copyRow_29 : decode b_M_copyRow 29 = .ok (.iadd, 1) := by decide +kernel
theorem d_M_copyRow_30 : decode b_M_copyRow 30 = .ok (.aload_n 0, 1) := by decide +kernel
theorem d_M_copyRow_31 : decode b_M_copyRow 31 = .ok (.getfield 29, 3) := by decide +kernel
theorem d_M_copyRow_34 : decode b_M_copyRow 34 = .ok (.iload_n 1, 1) := by decide +kernel
theorem d_M_copyRow_35 : decode b_M_copyRow 35 = .ok (.bipush 10, 2) := by decide +kernel
theorem d_M_copyRow_37 : decode b_M_copyRow 37 = .ok (.imul, 1) := by decide +kernel
theorem d_M_copyRow_38 : decode b_M_copyRow 38 = .ok (.iload_n 3, 1) := by decide +kernel
theorem d_M_copyRow_39 : decode b_M_copyRow 39 = .ok (.iadd, 1) := by decide +kernel
theorem d_M_copyRow_40 : decode b_M_copyRow 40 = .ok (.iaload, 1) := by decide +kernel
theorem d_M_copyRow_41 : decode b_M_copyRow 41 = .ok (.iastore, 1) := by decide +kernel
theorem d_M_copyRow_42 : decode b_M_copyRow 42 = .ok (.iinc 3 1, 3) := by decide +kernel
theorem d_M_copyRow_45 : decode b_M_copyRow 45 = .ok (.goto (-31), 3) := by decide +kernel
theorem d_M_copyRow_48 : decode b_M_copyRow 48 = .ok (.return_, 1) := by decide +kernel
theorem d_M_write_0 : decode b_M_write 0 = .ok (.aload_n 0, 1) := by decide +kernel
theorem d_M_write_1 : decode b_M_write 1 = .ok (.aload_n 0, 1) := by decide +kernel
theorem d_M_write_2 : decode b_M_write 2 = .ok (.iload_n 1, 1) := by decide +kernel
theorem d_M_write_3 : decode b_M_write 3 = .ok (.iconst 3, 1) := by decide +kernel
theorem d_M_write_4 : decode b_M_write 4 = .ok (.invokevirtual 66, 3) := by decide +kernel
theorem d_M_write_7 : decode b_M_write 7 = .ok (.invokevirtual 69, 3) := by decide +kernel
theorem d_M_write_10 : decode b_M_write 10 = .ok (.istore_n 2, 1) := by decide +kernel
theorem d_M_write_11 : decode b_M_write 11 = .ok (.iload_n 2, 1) := by decide +kernel
theorem d_M_write_12 : decode b_M_write 12 = .ok (.ifCond .ge 5, 3) := by decide +kernel
theorem d_M_write_15 : decode b_M_write 15 = .ok (.iconst (-1), 1) := by decide +kernel
theorem d_M_write_16 : decode b_M_write 16 = .ok (.ireturn, 1) := by decide +kernel
theorem d_M_write_17 : decode b_M_write 17 = .ok (.aload_n 0, 1) := by decide +kernel
theorem d_M_write_18 : decode b_M_write 18 = .ok (.invokevirtual 82, 3) := by decide +kernel
theorem d_M_write_21 : decode b_M_write 21 = .ok (.aload_n 0, 1) := by decide +kernel
theorem d_M_write_22 : decode b_M_write 22 = .ok (.getfield 50, 3) := by decide +kernel
theorem d_M_write_25 : decode b_M_write 25 = .ok (.if_icmp .ge 6, 3) := by decide +kernel
theorem d_M_write_28 : decode b_M_write 28 = .ok (.bipush (-3), 2) := by decide +kernel
theorem d_M_write_30 : decode b_M_write 30 = .ok (.ireturn, 1) := by decide +kernel
theorem d_M_write_31 : decode b_M_write 31 = .ok (.aload_n 0, 1) := by decide +kernel
theorem d_M_write_32 : decode b_M_write 32 = .ok (.getfield 20, 3) := by decide +kernel
theorem d_M_write_35 : decode b_M_write 35 = .ok (.iload_n 2, 1) := by decide +kernel
theorem d_M_write_36 : decode b_M_write 36 = .ok (.iaload, 1) := by decide +kernel
theorem d_M_write_37 : decode b_M_write 37 = .ok (.bipush 30, 2) := by decide +kernel
theorem d_M_write_39 : decode b_M_write 39 = .ok (.if_icmp .ne 6, 3) := by decide +kernel
theorem d_M_write_42 : decode b_M_write 42 = .ok (.bipush (-2), 2) := by decide +kernel
theorem d_M_write_44 : decode b_M_write 44 = .ok (.ireturn, 1) := by decide +kernel
theorem d_M_write_45 : decode b_M_write 45 = .ok (.aload_n 0, 1) := by decide +kernel
theorem d_M_write_46 : decode b_M_write 46 = .ok (.getfield 20, 3) := by decide +kernel
theorem d_M_write_49 : decode b_M_write 49 = .ok (.iload_n 2, 1) := by decide +kernel
theorem d_M_write_50 : decode b_M_write 50 = .ok (.dup2, 1) := by decide +kernel
theorem d_M_write_51 : decode b_M_write 51 = .ok (.iaload, 1) := by decide +kernel
theorem d_M_write_52 : decode b_M_write 52 = .ok (.iconst 1, 1) := by decide +kernel
theorem d_M_write_53 : decode b_M_write 53 = .ok (.iadd, 1) := by decide +kernel
theorem d_M_write_54 : decode b_M_write 54 = .ok (.iastore, 1) := by decide +kernel
theorem d_M_write_55 : decode b_M_write 55 = .ok (.aload_n 0, 1) := by decide +kernel
theorem d_M_write_56 : decode b_M_write 56 = .ok (.getfield 20, 3) := by decide +kernel
theorem d_M_write_59 : decode b_M_write 59 = .ok (.iload_n 2, 1) := by decide +kernel
theorem d_M_write_60 : decode b_M_write 60 = .ok (.iaload, 1) := by decide +kernel
theorem d_M_write_61 : decode b_M_write 61 = .ok (.istore_n 3, 1) := by decide +kernel
theorem d_M_write_62 : decode b_M_write 62 = .ok (.aload_n 0, 1) := by decide +kernel
theorem d_M_write_63 : decode b_M_write 63 = .ok (.iload_n 1, 1) := by decide +kernel
theorem d_M_write_64 : decode b_M_write 64 = .ok (.iconst 1, 1) := by decide +kernel
theorem d_M_write_65 : decode b_M_write 65 = .ok (.invokevirtual 59, 3) := by decide +kernel
theorem d_M_write_68 : decode b_M_write 68 = .ok (.istore 4, 2) := by decide +kernel
theorem d_M_write_70 : decode b_M_write 70 = .ok (.iconst 0, 1) := by decide +kernel
theorem d_M_write_71 : decode b_M_write 71 = .ok (.istore 5, 2) := by decide +kernel
theorem d_M_write_73 : decode b_M_write 73 = .ok (.iload 5, 2) := by decide +kernel
theorem d_M_write_75 : decode b_M_write 75 = .ok (.aload_n 0, 1) := by decide +kernel
theorem d_M_write_76 : decode b_M_write 76 = .ok (.getfield 50, 3) := by decide +kernel
theorem d_M_write_79 : decode b_M_write 79 = .ok (.if_icmp .ge 37, 3) := by decide +kernel
theorem d_M_write_82 : decode b_M_write 82 = .ok (.aload_n 0, 1) := by decide +kernel
theorem d_M_write_83 : decode b_M_write 83 = .ok (.getfield 41, 3) := by decide +kernel
theorem d_M_write_86 : decode b_M_write 86 = .ok (.iload 5, 2) := by decide +kernel
theorem d_M_write_88 : decode b_M_write 88 = .ok (.aload_n 0, 1) := by decide +kernel
theorem d_M_write_89 : decode b_M_write 89 = .ok (.getfield 35, 3) := by decide +kernel
theorem d_M_write_92 : decode b_M_write 92 = .ok (.iload 5, 2) := by decide +kernel
theorem d_M_write_94 : decode b_M_write 94 = .ok (.iaload, 1) := by decide +kernel
theorem d_M_write_95 : decode b_M_write 95 = .ok (.aload_n 0, 1) := by decide +kernel
theorem d_M_write_96 : decode b_M_write 96 = .ok (.iload 4, 2) := by decide +kernel
theorem d_M_write_98 : decode b_M_write 98 = .ok (.iload_n 3, 1) := by decide +kernel
theorem d_M_write_99 : decode b_M_write 99 = .ok (.bipush 8, 2) := by decide +kernel
theorem d_M_write_101 : decode b_M_write 101 = .ok (.imul, 1) := by decide +kernel
theorem d_M_write_102 : decode b_M_write 102 = .ok (.iload 5, 2) := by decide +kernel
theorem d_M_write_104 : decode b_M_write 104 = .ok (.iadd, 1) := by decide +kernel
theorem d_M_write_105 : decode b_M_write 105 = .ok (.invokevirtual 59, 3) := by decide +kernel
theorem d_M_write_108 : decode b_M_write 108 = .ok (.ixor, 1) := by decide +kernel
theorem d_M_write_109 : decode b_M_write 109 = .ok (.iastore, 1) := by decide +kernel
theorem d_M_write_110 : decode b_M_write 110 = .ok (.iinc 5 1, 3) := by decide +kernel
theorem d_M_write_113 : decode b_M_write 113 = .ok (.goto (-40), 3) := by decide +kernel
theorem d_M_write_116 : decode b_M_write 116 = .ok (.bipush 7, 2) := by decide +kernel
theorem d_M_write_118 : decode b_M_write 118 = .ok (.istore 5, 2) := by decide +kernel
theorem d_M_write_120 : decode b_M_write 120 = .ok (.iconst 0, 1) := by decide +kernel
theorem d_M_write_121 : decode b_M_write 121 = .ok (.istore 6, 2) := by decide +kernel
theorem d_M_write_123 : decode b_M_write 123 = .ok (.iload 6, 2) := by decide +kernel
theorem d_M_write_125 : decode b_M_write 125 = .ok (.aload_n 0, 1) := by decide +kernel
theorem d_M_write_126 : decode b_M_write 126 = .ok (.getfield 54, 3) := by decide +kernel
theorem d_M_write_129 : decode b_M_write 129 = .ok (.if_icmp .ge 32, 3) := by decide +kernel
theorem d_M_write_132 : decode b_M_write 132 = .ok (.aload_n 0, 1) := by decide +kernel
theorem d_M_write_133 : decode b_M_write 133 = .ok (.iload 5, 2) := by decide +kernel
theorem d_M_write_135 : decode b_M_write 135 = .ok (.aload_n 0, 1) := by decide +kernel
theorem d_M_write_136 : decode b_M_write 136 = .ok (.aload_n 0, 1) := by decide +kernel
theorem d_M_write_137 : decode b_M_write 137 = .ok (.iload 6, 2) := by decide +kernel
theorem d_M_write_139 : decode b_M_write 139 = .ok (.invokevirtual 86, 3) := by decide +kernel
theorem d_M_write_142 : decode b_M_write 142 = .ok (.iload 6, 2) := by decide +kernel
theorem d_M_write_144 : decode b_M_write 144 = .ok (.bipush 100, 2) := by decide +kernel
theorem d_M_write_146 : decode b_M_write 146 = .ok (.iadd, 1) := by decide +kernel
theorem d_M_write_147 : decode b_M_write 147 = .ok (.invokevirtual 59, 3) := by decide +kernel
theorem d_M_write_150 : decode b_M_write 150 = .ok (.invokevirtual 59, 3) := by decide +kernel
theorem d_M_write_153 : decode b_M_write 153 = .ok (.istore 5, 2) := by decide +kernel
theorem d_M_write_155 : decode b_M_write 155 = .ok (.iinc 6 1, 3) := by decide +kernel
theorem d_M_write_158 : decode b_M_write 158 = .ok (.goto (-35), 3) := by decide +kernel
theorem d_M_write_161 : decode b_M_write 161 = .ok (.aload_n 0, 1) := by decide +kernel
theorem d_M_write_162 : decode b_M_write 162 = .ok (.iload 5, 2) := by decide +kernel
theorem d_M_write_164 : decode b_M_write 164 = .ok (.iload_n 3, 1) := by decide +kernel
theorem d_M_write_165 : decode b_M_write 165 = .ok (.invokevirtual 59, 3) := by decide +kernel
theorem d_M_write_168 : decode b_M_write 168 = .ok (.istore 5, 2) := by decide +kernel
theorem d_M_write_170 : decode b_M_write 170 = .ok (.aload_n 0, 1) := by decide +kernel
theorem d_M_write_171 : decode b_M_write 171 = .ok (.getfield 23, 3) := by decide +kernel
theorem d_M_write_174 : decode b_M_write 174 = .ok (.iload_n 2, 1) := by decide +kernel
theorem d_M_write_175 : decode b_M_write 175 = .ok (.bipush 31, 2) := by decide +kernel
theorem d_M_write_177 : decode b_M_write 177 = .ok (.imul, 1) := by decide +kernel
theorem d_M_write_178 : decode b_M_write 178 = .ok (.iload_n 3, 1) := by decide +kernel
theorem d_M_write_179 : decode b_M_write 179 = .ok (.iadd, 1) := by decide +kernel
theorem d_M_write_180 : decode b_M_write 180 = .ok (.iload 5, 2) := by decide +kernel
theorem d_M_write_182 : decode b_M_write 182 = .ok (.iastore, 1) := by decide +kernel
theorem d_M_write_183 : decode b_M_write 183 = .ok (.aload_n 0, 1) := by decide +kernel
theorem d_M_write_184 : decode b_M_write 184 = .ok (.getfield 26, 3) := by decide +kernel
theorem d_M_write_187 : decode b_M_write 187 = .ok (.iload_n 2, 1) := by decide +kernel
theorem d_M_write_188 : decode b_M_write 188 = .ok (.bipush 31, 2) := by decide +kernel
theorem d_M_write_190 : decode b_M_write 190 = .ok (.imul, 1) := by decide +kernel
theorem d_M_write_191 : decode b_M_write 191 = .ok (.iload_n 3, 1) := by decide +kernel
theorem d_M_write_192 : decode b_M_write 192 = .ok (.iadd, 1) := by decide +kernel
theorem d_M_write_193 : decode b_M_write 193 = .ok (.aload_n 0, 1) := by decide +kernel
theorem d_M_write_194 : decode b_M_write 194 = .ok (.iload 5, 2) := by decide +kernel
theorem d_M_write_196 : decode b_M_write 196 = .ok (.iload_n 1, 1) := by decide +kernel
theorem d_M_write_197 : decode b_M_write 197 = .ok (.invokevirtual 59, 3) := by decide +kernel
theorem d_M_write_200 : decode b_M_write 200 = .ok (.iload_n 1, 1) := by decide +kernel
theorem d_M_write_201 : decode b_M_write 201 = .ok (.ixor, 1) := by decide +kernel
theorem d_M_write_202 : decode b_M_write 202 = .ok (.iastore, 1) := by decide +kernel
theorem d_M_write_203 : decode b_M_write 203 = .ok (.iconst 0, 1) := by decide +kernel
theorem d_M_write_204 : decode b_M_write 204 = .ok (.istore 6, 2) := by decide +kernel
theorem d_M_write_206 : decode b_M_write 206 = .ok (.iconst 0, 1) := by decide +kernel
theorem d_M_write_207 : decode b_M_write 207 = .ok (.istore 7, 2) := by decide +kernel
theorem d_M_write_209 : decode b_M_write 209 = .ok (.iload 7, 2) := by decide +kernel
theorem d_M_write_211 : decode b_M_write 211 = .ok (.aload_n 0, 1) := by decide +kernel
theorem d_M_write_212 : decode b_M_write 212 = .ok (.getfield 54, 3) := by decide +kernel
theorem d_M_write_215 : decode b_M_write 215 = .ok (.if_icmp .ge 47, 3) := by decide +kernel
theorem d_M_write_218 : decode b_M_write 218 = .ok (.aload_n 0, 1) := by decide +kernel
theorem d_M_write_219 : decode b_M_write 219 = .ok (.getfield 7, 3) := by decide +kernel
theorem d_M_write_222 : decode b_M_write 222 = .ok (.iload 7, 2) := by decide +kernel
theorem d_M_write_224 : decode b_M_write 224 = .ok (.baload, 1) := by decide +kernel
theorem d_M_write_225 : decode b_M_write 225 = .ok (.ifCond .eq 31, 3) := by decide +kernel
theorem d_M_write_228 : decode b_M_write 228 = .ok (.aload_n 0, 1) := by decide +kernel
theorem d_M_write_229 : decode b_M_write 229 = .ok (.getfield 13, 3) := by decide +kernel
theorem d_M_write_232 : decode b_M_write 232 = .ok (.iload 7, 2) := by decide +kernel
theorem d_M_write_234 : decode b_M_write 234 = .ok (.baload, 1) := by decide +kernel
theorem d_M_write_235 : decode b_M_write 235 = .ok (.ifCond .ne 21, 3) := by decide +kernel
theorem d_M_write_238 : decode b_M_write 238 = .ok (.aload_n 0, 1) := by decide +kernel
theorem d_M_write_239 : decode b_M_write 239 = .ok (.iload_n 2, 1) := by decide +kernel
theorem d_M_write_240 : decode b_M_write 240 = .ok (.bipush 7, 2) := by decide +kernel
theorem d_M_write_242 : decode b_M_write 242 = .ok (.imul, 1) := by decide +kernel
theorem d_M_write_243 : decode b_M_write 243 = .ok (.iload 7, 2) := by decide +kernel
theorem d_M_write_245 : decode b_M_write 245 = .ok (.iadd, 1) := by decide +kernel
theorem d_M_write_246 : decode b_M_write 246 = .ok (.iload 7, 2) := by decide +kernel
theorem d_M_write_248 : decode b_M_write 248 = .ok (.iload_n 2, 1) := by decide +kernel
theorem d_M_write_249 : decode b_M_write 249 = .ok (.iload_n 3, 1) := by decide +kernel
theorem d_M_write_250 : decode b_M_write 250 = .ok (.invokevirtual 89, 3) := by decide +kernel
theorem d_M_write_253 : decode b_M_write 253 = .ok (.iinc 6 1, 3) := by decide +kernel
theorem d_M_write_256 : decode b_M_write 256 = .ok (.iinc 7 1, 3) := by decide +kernel
theorem d_M_write_259 : decode b_M_write 259 = .ok (.goto (-50), 3) := by decide +kernel
theorem d_M_write_262 : decode b_M_write 262 = .ok (.iload 6, 2) := by decide +kernel
theorem d_M_write_264 : decode b_M_write 264 = .ok (.ireturn, 1) := by decide +kernel
theorem d_M_keep_0 : decode b_M_keep 0 = .ok (.aload_n 0, 1) := by decide +kernel
theorem d_M_keep_1 : decode b_M_keep 1 = .ok (.getfield 32, 3) := by decide +kernel
theorem d_M_keep_4 : decode b_M_keep 4 = .ok (.iload_n 1, 1) := by decide +kernel
theorem d_M_keep_5 : decode b_M_keep 5 = .ok (.iconst 1, 1) := by decide +kernel
theorem d_M_keep_6 : decode b_M_keep 6 = .ok (.bastore, 1) := by decide +kernel
theorem d_M_keep_7 : decode b_M_keep 7 = .ok (.aload_n 0, 1) := by decide +kernel
theorem d_M_keep_8 : decode b_M_keep 8 = .ok (.getfield 29, 3) := by decide +kernel
theorem d_M_keep_11 : decode b_M_keep 11 = .ok (.iload_n 1, 1) := by decide +kernel
theorem d_M_keep_12 : decode b_M_keep 12 = .ok (.bipush 10, 2) := by decide +kernel
theorem d_M_keep_14 : decode b_M_keep 14 = .ok (.imul, 1) := by decide +kernel
theorem d_M_keep_15 : decode b_M_keep 15 = .ok (.aload_n 0, 1) := by decide +kernel
theorem d_M_keep_16 : decode b_M_keep 16 = .ok (.iload_n 2, 1) := by decide +kernel
theorem d_M_keep_17 : decode b_M_keep 17 = .ok (.invokevirtual 86, 3) := by decide +kernel
theorem d_M_keep_20 : decode b_M_keep 20 = .ok (.iastore, 1) := by decide +kernel
theorem d_M_keep_21 : decode b_M_keep 21 = .ok (.aload_n 0, 1) := by decide +kernel
theorem d_M_keep_22 : decode b_M_keep 22 = .ok (.getfield 29, 3) := by decide +kernel
theorem d_M_keep_25 : decode b_M_keep 25 = .ok (.iload_n 1, 1) := by decide +kernel
theorem d_M_keep_26 : decode b_M_keep 26 = .ok (.bipush 10, 2) := by decide +kernel
theorem d_M_keep_28 : decode b_M_keep 28 = .ok (.imul, 1) := by decide +kernel
theorem d_M_keep_29 : decode b_M_keep 29 = .ok (.iconst 1, 1) := by decide +kernel
theorem d_M_keep_30 : decode b_M_keep 30 = .ok (.iadd, 1) := by decide +kernel
theorem d_M_keep_31 : decode b_M_keep 31 = .ok (.iload 4, 2) := by decide +kernel
theorem d_M_keep_33 : decode b_M_keep 33 = .ok (.iastore, 1) := by decide +kernel
theorem d_M_keep_34 : decode b_M_keep 34 = .ok (.aload_n 0, 1) := by decide +kernel
theorem d_M_keep_35 : decode b_M_keep 35 = .ok (.getfield 29, 3) := by decide +kernel
theorem d_M_keep_38 : decode b_M_keep 38 = .ok (.iload_n 1, 1) := by decide +kernel
theorem d_M_keep_39 : decode b_M_keep 39 = .ok (.bipush 10, 2) := by decide +kernel
theorem d_M_keep_41 : decode b_M_keep 41 = .ok (.imul, 1) := by decide +kernel
theorem d_M_keep_42 : decode b_M_keep 42 = .ok (.iconst 2, 1) := by decide +kernel
theorem d_M_keep_43 : decode b_M_keep 43 = .ok (.iadd, 1) := by decide +kernel
theorem d_M_keep_44 : decode b_M_keep 44 = .ok (.aload_n 0, 1) := by decide +kernel
theorem d_M_keep_45 : decode b_M_keep 45 = .ok (.getfield 26, 3) := by decide +kernel
theorem d_M_keep_48 : decode b_M_keep 48 = .ok (.iload_n 3, 1) := by decide +kernel
theorem d_M_keep_49 : decode b_M_keep 49 = .ok (.bipush 31, 2) := by decide +kernel
theorem d_M_keep_51 : decode b_M_keep 51 = .ok (.imul, 1) := by decide +kernel
theorem d_M_keep_52 : decode b_M_keep 52 = .ok (.iload 4, 2) := by decide +kernel
theorem d_M_keep_54 : decode b_M_keep 54 = .ok (.iadd, 1) := by decide +kernel
theorem d_M_keep_55 : decode b_M_keep 55 = .ok (.iaload, 1) := by decide +kernel
theorem d_M_keep_56 : decode b_M_keep 56 = .ok (.iastore, 1) := by decide +kernel
theorem d_M_keep_57 : decode b_M_keep 57 = .ok (.iconst 0, 1) := by decide +kernel
theorem d_M_keep_58 : decode b_M_keep 58 = .ok (.istore 5, 2) := by decide +kernel
theorem d_M_keep_60 : decode b_M_keep 60 = .ok (.iload 5, 2) := by decide +kernel
theorem d_M_keep_62 : decode b_M_keep 62 = .ok (.aload_n 0, 1) := by decide +kernel
theorem d_M_keep_63 : decode b_M_keep 63 = .ok (.getfield 54, 3) := by decide +kernel
theorem d_M_keep_66 : decode b_M_keep 66 = .ok (.if_icmp .ge 38, 3) := by decide +kernel
theorem d_M_keep_69 : decode b_M_keep 69 = .ok (.aload_n 0, 1) := by decide +kernel
theorem d_M_keep_70 : decode b_M_keep 70 = .ok (.getfield 29, 3) := by decide +kernel
theorem d_M_keep_73 : decode b_M_keep 73 = .ok (.iload_n 1, 1) := by decide +kernel
theorem d_M_keep_74 : decode b_M_keep 74 = .ok (.bipush 10, 2) := by decide +kernel
theorem d_M_keep_76 : decode b_M_keep 76 = .ok (.imul, 1) := by decide +kernel
theorem d_M_keep_77 : decode b_M_keep 77 = .ok (.iconst 3, 1) := by decide +kernel
theorem d_M_keep_78 : decode b_M_keep 78 = .ok (.iadd, 1) := by decide +kernel
theorem d_M_keep_79 : decode b_M_keep 79 = .ok (.iload 5, 2) := by decide +kernel
theorem d_M_keep_81 : decode b_M_keep 81 = .ok (.iadd, 1) := by decide +kernel
theorem d_M_keep_82 : decode b_M_keep 82 = .ok (.aload_n 0, 1) := by decide +kernel
theorem d_M_keep_83 : decode b_M_keep 83 = .ok (.aload_n 0, 1) := by decide +kernel
theorem d_M_keep_84 : decode b_M_keep 84 = .ok (.iload 5, 2) := by decide +kernel
theorem d_M_keep_86 : decode b_M_keep 86 = .ok (.invokevirtual 86, 3) := by decide +kernel
theorem d_M_keep_89 : decode b_M_keep 89 = .ok (.iload 5, 2) := by decide +kernel
theorem d_M_keep_91 : decode b_M_keep 91 = .ok (.bipush 100, 2) := by decide +kernel
theorem d_M_keep_93 : decode b_M_keep 93 = .ok (.iadd, 1) := by decide +kernel
theorem d_M_keep_94 : decode b_M_keep 94 = .ok (.invokevirtual 59, 3) := by decide +kernel
theorem d_M_keep_97 : decode b_M_keep 97 = .ok (.iastore, 1) := by decide +kernel
theorem d_M_keep_98 : decode b_M_keep 98 = .ok (.iinc 5 1, 3) := by decide +kernel
theorem d_M_keep_101 : decode b_M_keep 101 = .ok (.goto (-41), 3) := by decide +kernel
theorem d_M_keep_104 : decode b_M_keep 104 = .ok (.return_, 1) := by decide +kernel
theorem d_M_isSound_0 : decode b_M_isSound 0 = .ok (.iload_n 1, 1) := by decide +kernel
theorem d_M_isSound_1 : decode b_M_isSound 1 = .ok (.bipush 7, 2) := by decide +kernel
theorem d_M_isSound_3 : decode b_M_isSound 3 = .ok (.imul, 1) := by decide +kernel
theorem d_M_isSound_4 : decode b_M_isSound 4 = .ok (.iload_n 2, 1) := by decide +kernel
theorem d_M_isSound_5 : decode b_M_isSound 5 = .ok (.iadd, 1) := by decide +kernel
theorem d_M_isSound_6 : decode b_M_isSound 6 = .ok (.istore_n 3, 1) := by decide +kernel
theorem d_M_isSound_7 : decode b_M_isSound 7 = .ok (.aload_n 0, 1) := by decide +kernel
theorem d_M_isSound_8 : decode b_M_isSound 8 = .ok (.getfield 29, 3) := by decide +kernel
theorem d_M_isSound_11 : decode b_M_isSound 11 = .ok (.iload_n 3, 1) := by decide +kernel
theorem d_M_isSound_12 : decode b_M_isSound 12 = .ok (.bipush 10, 2) := by decide +kernel
theorem d_M_isSound_14 : decode b_M_isSound 14 = .ok (.imul, 1) := by decide +kernel
theorem d_M_isSound_15 : decode b_M_isSound 15 = .ok (.iconst 1, 1) := by decide +kernel
theorem d_M_isSound_16 : decode b_M_isSound 16 = .ok (.iadd, 1) := by decide +kernel
theorem d_M_isSound_17 : decode b_M_isSound 17 = .ok (.iaload, 1) := by decide +kernel
theorem d_M_isSound_18 : decode b_M_isSound 18 = .ok (.istore 4, 2) := by decide +kernel
theorem d_M_isSound_20 : decode b_M_isSound 20 = .ok (.aload_n 0, 1) := by decide +kernel
theorem d_M_isSound_21 : decode b_M_isSound 21 = .ok (.getfield 32, 3) := by decide +kernel
theorem d_M_isSound_24 : decode b_M_isSound 24 = .ok (.iload_n 3, 1) := by decide +kernel
theorem d_M_isSound_25 : decode b_M_isSound 25 = .ok (.baload, 1) := by decide +kernel
theorem d_M_isSound_26 : decode b_M_isSound 26 = .ok (.ifCond .eq 20, 3) := by decide +kernel
theorem d_M_isSound_29 : decode b_M_isSound 29 = .ok (.iload 4, 2) := by decide +kernel
theorem d_M_isSound_31 : decode b_M_isSound 31 = .ok (.iconst 1, 1) := by decide +kernel
theorem d_M_isSound_32 : decode b_M_isSound 32 = .ok (.if_icmp .lt 14, 3) := by decide +kernel
theorem d_M_isSound_35 : decode b_M_isSound 35 = .ok (.iload 4, 2) := by decide +kernel
theorem d_M_isSound_37 : decode b_M_isSound 37 = .ok (.aload_n 0, 1) := by decide +kernel
theorem d_M_isSound_38 : decode b_M_isSound 38 = .ok (.getfield 20, 3) := by decide +kernel
theorem d_M_isSound_41 : decode b_M_isSound 41 = .ok (.iload_n 1, 1) := by decide +kernel
theorem d_M_isSound_42 : decode b_M_isSound 42 = .ok (.iaload, 1) := by decide +kernel
theorem d_M_isSound_43 : decode b_M_isSound 43 = .ok (.if_icmp .le 5, 3) := by decide +kernel
theorem d_M_isSound_46 : decode b_M_isSound 46 = .ok (.iconst 0, 1) := by decide +kernel
theorem d_M_isSound_47 : decode b_M_isSound 47 = .ok (.ireturn, 1) := by decide +kernel
theorem d_M_isSound_48 : decode b_M_isSound 48 = .ok (.aload_n 0, 1) := by decide +kernel
theorem d_M_isSound_49 : decode b_M_isSound 49 = .ok (.aload_n 0, 1) := by decide +kernel
theorem d_M_isSound_50 : decode b_M_isSound 50 = .ok (.getfield 29, 3) := by decide +kernel
theorem d_M_isSound_53 : decode b_M_isSound 53 = .ok (.iload_n 3, 1) := by decide +kernel
theorem d_M_isSound_54 : decode b_M_isSound 54 = .ok (.bipush 10, 2) := by decide +kernel
theorem d_M_isSound_56 : decode b_M_isSound 56 = .ok (.imul, 1) := by decide +kernel
theorem d_M_isSound_57 : decode b_M_isSound 57 = .ok (.iaload, 1) := by decide +kernel
theorem d_M_isSound_58 : decode b_M_isSound 58 = .ok (.iload_n 2, 1) := by decide +kernel
theorem d_M_isSound_59 : decode b_M_isSound 59 = .ok (.bipush 100, 2) := by decide +kernel
theorem d_M_isSound_61 : decode b_M_isSound 61 = .ok (.iadd, 1) := by decide +kernel
theorem d_M_isSound_62 : decode b_M_isSound 62 = .ok (.invokevirtual 59, 3) := by decide +kernel
theorem d_M_isSound_65 : decode b_M_isSound 65 = .ok (.aload_n 0, 1) := by decide +kernel
theorem d_M_isSound_66 : decode b_M_isSound 66 = .ok (.getfield 29, 3) := by decide +kernel
theorem d_M_isSound_69 : decode b_M_isSound 69 = .ok (.iload_n 3, 1) := by decide +kernel
theorem d_M_isSound_70 : decode b_M_isSound 70 = .ok (.bipush 10, 2) := by decide +kernel
theorem d_M_isSound_72 : decode b_M_isSound 72 = .ok (.imul, 1) := by decide +kernel
theorem d_M_isSound_73 : decode b_M_isSound 73 = .ok (.iconst 3, 1) := by decide +kernel
theorem d_M_isSound_74 : decode b_M_isSound 74 = .ok (.iadd, 1) := by decide +kernel
theorem d_M_isSound_75 : decode b_M_isSound 75 = .ok (.iload_n 2, 1) := by decide +kernel
theorem d_M_isSound_76 : decode b_M_isSound 76 = .ok (.iadd, 1) := by decide +kernel
theorem d_M_isSound_77 : decode b_M_isSound 77 = .ok (.iaload, 1) := by decide +kernel
theorem d_M_isSound_78 : decode b_M_isSound 78 = .ok (.if_icmp .eq 5, 3) := by decide +kernel
theorem d_M_isSound_81 : decode b_M_isSound 81 = .ok (.iconst 0, 1) := by decide +kernel
theorem d_M_isSound_82 : decode b_M_isSound 82 = .ok (.ireturn, 1) := by decide +kernel
theorem d_M_isSound_83 : decode b_M_isSound 83 = .ok (.aload_n 0, 1) := by decide +kernel
theorem d_M_isSound_84 : decode b_M_isSound 84 = .ok (.iload_n 3, 1) := by decide +kernel
theorem d_M_isSound_85 : decode b_M_isSound 85 = .ok (.iload 4, 2) := by decide +kernel
theorem d_M_isSound_87 : decode b_M_isSound 87 = .ok (.invokevirtual 93, 3) := by decide +kernel
theorem d_M_isSound_90 : decode b_M_isSound 90 = .ok (.aload_n 0, 1) := by decide +kernel
theorem d_M_isSound_91 : decode b_M_isSound 91 = .ok (.getfield 23, 3) := by decide +kernel
theorem d_M_isSound_94 : decode b_M_isSound 94 = .ok (.iload_n 1, 1) := by decide +kernel
theorem d_M_isSound_95 : decode b_M_isSound 95 = .ok (.bipush 31, 2) := by decide +kernel
theorem d_M_isSound_97 : decode b_M_isSound 97 = .ok (.imul, 1) := by decide +kernel
theorem d_M_isSound_98 : decode b_M_isSound 98 = .ok (.iload 4, 2) := by decide +kernel
theorem d_M_isSound_100 : decode b_M_isSound 100 = .ok (.iadd, 1) := by decide +kernel
theorem d_M_isSound_101 : decode b_M_isSound 101 = .ok (.iaload, 1) := by decide +kernel
theorem d_M_isSound_102 : decode b_M_isSound 102 = .ok (.if_icmp .ne 33, 3) := by decide +kernel
theorem d_M_isSound_105 : decode b_M_isSound 105 = .ok (.aload_n 0, 1) := by decide +kernel
theorem d_M_isSound_106 : decode b_M_isSound 106 = .ok (.getfield 29, 3) := by decide +kernel
theorem d_M_isSound_109 : decode b_M_isSound 109 = .ok (.iload_n 3, 1) := by decide +kernel
theorem d_M_isSound_110 : decode b_M_isSound 110 = .ok (.bipush 10, 2) := by decide +kernel
theorem d_M_isSound_112 : decode b_M_isSound 112 = .ok (.imul, 1) := by decide +kernel
theorem d_M_isSound_113 : decode b_M_isSound 113 = .ok (.iconst 2, 1) := by decide +kernel
theorem d_M_isSound_114 : decode b_M_isSound 114 = .ok (.iadd, 1) := by decide +kernel
theorem d_M_isSound_115 : decode b_M_isSound 115 = .ok (.iaload, 1) := by decide +kernel
theorem d_M_isSound_116 : decode b_M_isSound 116 = .ok (.aload_n 0, 1) := by decide +kernel
theorem d_M_isSound_117 : decode b_M_isSound 117 = .ok (.getfield 26, 3) := by decide +kernel
theorem d_M_isSound_120 : decode b_M_isSound 120 = .ok (.iload_n 1, 1) := by decide +kernel
theorem d_M_isSound_121 : decode b_M_isSound 121 = .ok (.bipush 31, 2) := by decide +kernel
theorem d_M_isSound_123 : decode b_M_isSound 123 = .ok (.imul, 1) := by decide +kernel
theorem d_M_isSound_124 : decode b_M_isSound 124 = .ok (.iload 4, 2) := by decide +kernel
theorem d_M_isSound_126 : decode b_M_isSound 126 = .ok (.iadd, 1) := by decide +kernel
theorem d_M_isSound_127 : decode b_M_isSound 127 = .ok (.iaload, 1) := by decide +kernel
theorem d_M_isSound_128 : decode b_M_isSound 128 = .ok (.if_icmp .ne 7, 3) := by decide +kernel
theorem d_M_isSound_131 : decode b_M_isSound 131 = .ok (.iconst 1, 1) := by decide +kernel
theorem d_M_isSound_132 : decode b_M_isSound 132 = .ok (.goto 4, 3) := by decide +kernel
theorem d_M_isSound_135 : decode b_M_isSound 135 = .ok (.iconst 0, 1) := by decide +kernel
theorem d_M_isSound_136 : decode b_M_isSound 136 = .ok (.ireturn, 1) := by decide +kernel
theorem d_M_serves_0 : decode b_M_serves 0 = .ok (.aload_n 0, 1) := by decide +kernel
theorem d_M_serves_1 : decode b_M_serves 1 = .ok (.getfield 7, 3) := by decide +kernel
theorem d_M_serves_4 : decode b_M_serves 4 = .ok (.iload_n 2, 1) := by decide +kernel
theorem d_M_serves_5 : decode b_M_serves 5 = .ok (.baload, 1) := by decide +kernel
theorem d_M_serves_6 : decode b_M_serves 6 = .ok (.ifCond .eq 36, 3) := by decide +kernel
theorem d_M_serves_9 : decode b_M_serves 9 = .ok (.aload_n 0, 1) := by decide +kernel
theorem d_M_serves_10 : decode b_M_serves 10 = .ok (.iload_n 1, 1) := by decide +kernel
theorem d_M_serves_11 : decode b_M_serves 11 = .ok (.iload_n 2, 1) := by decide +kernel
theorem d_M_serves_12 : decode b_M_serves 12 = .ok (.invokevirtual 96, 3) := by decide +kernel
theorem d_M_serves_15 : decode b_M_serves 15 = .ok (.ifCond .eq 27, 3) := by decide +kernel
theorem d_M_serves_18 : decode b_M_serves 18 = .ok (.aload_n 0, 1) := by decide +kernel
theorem d_M_serves_19 : decode b_M_serves 19 = .ok (.getfield 29, 3) := by decide +kernel
theorem d_M_serves_22 : decode b_M_serves 22 = .ok (.iload_n 1, 1) := by decide +kernel
theorem d_M_serves_23 : decode b_M_serves 23 = .ok (.bipush 70, 2) := by decide +kernel
theorem d_M_serves_25 : decode b_M_serves 25 = .ok (.imul, 1) := by decide +kernel
theorem d_M_serves_26 : decode b_M_serves 26 = .ok (.iload_n 2, 1) := by decide +kernel
theorem d_M_serves_27 : decode b_M_serves 27 = .ok (.bipush 10, 2) := by decide +kernel
theorem d_M_serves_29 : decode b_M_serves 29 = .ok (.imul, 1) := by decide +kernel
theorem d_M_serves_30 : decode b_M_serves 30 = .ok (.iadd, 1) := by decide +kernel
theorem d_M_serves_31 : decode b_M_serves 31 = .ok (.iconst 1, 1) := by decide +kernel
theorem d_M_serves_32 : decode b_M_serves 32 = .ok (.iadd, 1) := by decide +kernel
theorem d_M_serves_33 : decode b_M_serves 33 = .ok (.iaload, 1) := by decide +kernel
theorem d_M_serves_34 : decode b_M_serves 34 = .ok (.iload_n 3, 1) := by decide +kernel
theorem d_M_serves_35 : decode b_M_serves 35 = .ok (.if_icmp .ne 7, 3) := by decide +kernel
theorem d_M_serves_38 : decode b_M_serves 38 = .ok (.iconst 1, 1) := by decide +kernel
theorem d_M_serves_39 : decode b_M_serves 39 = .ok (.goto 4, 3) := by decide +kernel
theorem d_M_serves_42 : decode b_M_serves 42 = .ok (.iconst 0, 1) := by decide +kernel
theorem d_M_serves_43 : decode b_M_serves 43 = .ok (.ireturn, 1) := by decide +kernel
theorem d_M_bestOf_0 : decode b_M_bestOf 0 = .ok (.aload_n 0, 1) := by decide +kernel
theorem d_M_bestOf_1 : decode b_M_bestOf 1 = .ok (.getfield 20, 3) := by decide +kernel
theorem d_M_bestOf_4 : decode b_M_bestOf 4 = .ok (.iload_n 1, 1) := by decide +kernel
theorem d_M_bestOf_5 : decode b_M_bestOf 5 = .ok (.iaload, 1) := by decide +kernel
theorem d_M_bestOf_6 : decode b_M_bestOf 6 = .ok (.istore_n 2, 1) := by decide +kernel
theorem d_M_bestOf_7 : decode b_M_bestOf 7 = .ok (.iload_n 2, 1) := by decide +kernel
theorem d_M_bestOf_8 : decode b_M_bestOf 8 = .ok (.ifCond .le 53, 3) := by decide +kernel
theorem d_M_bestOf_11 : decode b_M_bestOf 11 = .ok (.iconst 0, 1) := by decide +kernel
theorem d_M_bestOf_12 : decode b_M_bestOf 12 = .ok (.istore_n 3, 1) := by decide +kernel
theorem d_M_bestOf_13 : decode b_M_bestOf 13 = .ok (.iconst 0, 1) := by decide +kernel
theorem d_M_bestOf_14 : decode b_M_bestOf 14 = .ok (.istore 4, 2) := by decide +kernel
theorem d_M_bestOf_16 : decode b_M_bestOf 16 = .ok (.iload 4, 2) := by decide +kernel
theorem d_M_bestOf_18 : decode b_M_bestOf 18 = .ok (.aload_n 0, 1) := by decide +kernel
theorem d_M_bestOf_19 : decode b_M_bestOf 19 = .ok (.getfield 54, 3) := by decide +kernel
theorem d_M_bestOf_22 : decode b_M_bestOf 22 = .ok (.if_icmp .ge 23, 3) := by decide +kernel
theorem d_M_bestOf_25 : decode b_M_bestOf 25 = .ok (.aload_n 0, 1) := by decide +kernel
theorem d_M_bestOf_26 : decode b_M_bestOf 26 = .ok (.iload_n 1, 1) := by decide +kernel
theorem d_M_bestOf_27 : decode b_M_bestOf 27 = .ok (.iload 4, 2) := by decide +kernel
theorem d_M_bestOf_29 : decode b_M_bestOf 29 = .ok (.iload_n 2, 1) := by decide +kernel
theorem d_M_bestOf_30 : decode b_M_bestOf 30 = .ok (.invokevirtual 100, 3) := by decide +kernel
theorem d_M_bestOf_33 : decode b_M_bestOf 33 = .ok (.ifCond .eq 6, 3) := by decide +kernel
theorem d_M_bestOf_36 : decode b_M_bestOf 36 = .ok (.iinc 3 1, 3) := by decide +kernel
theorem d_M_bestOf_39 : decode b_M_bestOf 39 = .ok (.iinc 4 1, 3) := by decide +kernel
theorem d_M_bestOf_42 : decode b_M_bestOf 42 = .ok (.goto (-26), 3) := by decide +kernel
theorem d_M_bestOf_45 : decode b_M_bestOf 45 = .ok (.iload_n 3, 1) := by decide +kernel
theorem d_M_bestOf_46 : decode b_M_bestOf 46 = .ok (.aload_n 0, 1) := by decide +kernel
theorem d_M_bestOf_47 : decode b_M_bestOf 47 = .ok (.getfield 50, 3) := by decide +kernel
theorem d_M_bestOf_50 : decode b_M_bestOf 50 = .ok (.if_icmp .lt 5, 3) := by decide +kernel
theorem d_M_bestOf_53 : decode b_M_bestOf 53 = .ok (.iload_n 2, 1) := by decide +kernel
theorem d_M_bestOf_54 : decode b_M_bestOf 54 = .ok (.ireturn, 1) := by decide +kernel
theorem d_M_bestOf_55 : decode b_M_bestOf 55 = .ok (.iinc 2 (-1), 3) := by decide +kernel
theorem d_M_bestOf_58 : decode b_M_bestOf 58 = .ok (.goto (-51), 3) := by decide +kernel
theorem d_M_bestOf_61 : decode b_M_bestOf 61 = .ok (.iconst 0, 1) := by decide +kernel
theorem d_M_bestOf_62 : decode b_M_bestOf 62 = .ok (.ireturn, 1) := by decide +kernel
theorem d_M_subtract_0 : decode b_M_subtract 0 = .ok (.iconst 0, 1) := by decide +kernel
theorem d_M_subtract_1 : decode b_M_subtract 1 = .ok (.istore 4, 2) := by decide +kernel
theorem d_M_subtract_3 : decode b_M_subtract 3 = .ok (.iload 4, 2) := by decide +kernel
theorem d_M_subtract_5 : decode b_M_subtract 5 = .ok (.aload_n 0, 1) := by decide +kernel
theorem d_M_subtract_6 : decode b_M_subtract 6 = .ok (.getfield 50, 3) := by decide +kernel
theorem d_M_subtract_9 : decode b_M_subtract 9 = .ok (.if_icmp .ge 39, 3) := by decide +kernel
theorem d_M_subtract_12 : decode b_M_subtract 12 = .ok (.aload_n 0, 1) := by decide +kernel
theorem d_M_subtract_13 : decode b_M_subtract 13 = .ok (.getfield 44, 3) := by decide +kernel
theorem d_M_subtract_16 : decode b_M_subtract 16 = .ok (.iload_n 1, 1) := by decide +kernel
theorem d_M_subtract_17 : decode b_M_subtract 17 = .ok (.iconst 4, 1) := by decide +kernel
theorem d_M_subtract_18 : decode b_M_subtract 18 = .ok (.imul, 1) := by decide +kernel
theorem d_M_subtract_19 : decode b_M_subtract 19 = .ok (.iload 4, 2) := by decide +kernel
theorem d_M_subtract_21 : decode b_M_subtract 21 = .ok (.iadd, 1) := by decide +kernel
theorem d_M_subtract_22 : decode b_M_subtract 22 = .ok (.dup2, 1) := by decide +kernel
theorem d_M_subtract_23 : decode b_M_subtract 23 = .ok (.iaload, 1) := by decide +kernel
theorem d_M_subtract_24 : decode b_M_subtract 24 = .ok (.aload_n 0, 1) := by decide +kernel
theorem d_M_subtract_25 : decode b_M_subtract 25 = .ok (.aload_n 0, 1) := by decide +kernel
theorem d_M_subtract_26 : decode b_M_subtract 26 = .ok (.getfield 44, 3) := by decide +kernel
theorem d_M_subtract_29 : decode b_M_subtract 29 = .ok (.iload_n 2, 1) := by decide +kernel
theorem d_M_subtract_30 : decode b_M_subtract 30 = .ok (.iconst 4, 1) := by decide +kernel
theorem d_M_subtract_31 : decode b_M_subtract 31 = .ok (.imul, 1) := by decide +kernel
theorem d_M_subtract_32 : decode b_M_subtract 32 = .ok (.iload 4, 2) := by decide +kernel
theorem d_M_subtract_34 : decode b_M_subtract 34 = .ok (.iadd, 1) := by decide +kernel
theorem d_M_subtract_35 : decode b_M_subtract 35 = .ok (.iaload, 1) := by decide +kernel
theorem d_M_subtract_36 : decode b_M_subtract 36 = .ok (.iload_n 3, 1) := by decide +kernel
theorem d_M_subtract_37 : decode b_M_subtract 37 = .ok (.invokevirtual 73, 3) := by decide +kernel
theorem d_M_subtract_40 : decode b_M_subtract 40 = .ok (.ixor, 1) := by decide +kernel
theorem d_M_subtract_41 : decode b_M_subtract 41 = .ok (.iastore, 1) := by decide +kernel
theorem d_M_subtract_42 : decode b_M_subtract 42 = .ok (.iinc 4 1, 3) := by decide +kernel
theorem d_M_subtract_45 : decode b_M_subtract 45 = .ok (.goto (-42), 3) := by decide +kernel
theorem d_M_subtract_48 : decode b_M_subtract 48 = .ok (.aload_n 0, 1) := by decide +kernel
theorem d_M_subtract_49 : decode b_M_subtract 49 = .ok (.getfield 47, 3) := by decide +kernel
theorem d_M_subtract_52 : decode b_M_subtract 52 = .ok (.iload_n 1, 1) := by decide +kernel
theorem d_M_subtract_53 : decode b_M_subtract 53 = .ok (.dup2, 1) := by decide +kernel
theorem d_M_subtract_54 : decode b_M_subtract 54 = .ok (.iaload, 1) := by decide +kernel
theorem d_M_subtract_55 : decode b_M_subtract 55 = .ok (.aload_n 0, 1) := by decide +kernel
theorem d_M_subtract_56 : decode b_M_subtract 56 = .ok (.aload_n 0, 1) := by decide +kernel
theorem d_M_subtract_57 : decode b_M_subtract 57 = .ok (.getfield 47, 3) := by decide +kernel
theorem d_M_subtract_60 : decode b_M_subtract 60 = .ok (.iload_n 2, 1) := by decide +kernel
theorem d_M_subtract_61 : decode b_M_subtract 61 = .ok (.iaload, 1) := by decide +kernel
theorem d_M_subtract_62 : decode b_M_subtract 62 = .ok (.iload_n 3, 1) := by decide +kernel
theorem d_M_subtract_63 : decode b_M_subtract 63 = .ok (.invokevirtual 79, 3) := by decide +kernel
theorem d_M_subtract_66 : decode b_M_subtract 66 = .ok (.ixor, 1) := by decide +kernel
theorem d_M_subtract_67 : decode b_M_subtract 67 = .ok (.iastore, 1) := by decide +kernel
theorem d_M_subtract_68 : decode b_M_subtract 68 = .ok (.return_, 1) := by decide +kernel
theorem d_M_decode_0 : decode b_M_decode 0 = .ok (.iconst 0, 1) := by decide +kernel
theorem d_M_decode_1 : decode b_M_decode 1 = .ok (.istore_n 3, 1) := by decide +kernel
theorem d_M_decode_2 : decode b_M_decode 2 = .ok (.iconst 0, 1) := by decide +kernel
theorem d_M_decode_3 : decode b_M_decode 3 = .ok (.istore 4, 2) := by decide +kernel
theorem d_M_decode_5 : decode b_M_decode 5 = .ok (.iload 4, 2) := by decide +kernel
theorem d_M_decode_7 : decode b_M_decode 7 = .ok (.aload_n 0, 1) := by decide +kernel
theorem d_M_decode_8 : decode b_M_decode 8 = .ok (.getfield 54, 3) := by decide +kernel
theorem d_M_decode_11 : decode b_M_decode 11 = .ok (.if_icmp .ge 91, 3) := by decide +kernel
theorem d_M_decode_14 : decode b_M_decode 14 = .ok (.iload_n 3, 1) := by decide +kernel
theorem d_M_decode_15 : decode b_M_decode 15 = .ok (.aload_n 0, 1) := by decide +kernel
theorem d_M_decode_16 : decode b_M_decode 16 = .ok (.getfield 50, 3) := by decide +kernel
theorem d_M_decode_19 : decode b_M_decode 19 = .ok (.if_icmp .ge 77, 3) := by decide +kernel
theorem d_M_decode_22 : decode b_M_decode 22 = .ok (.aload_n 0, 1) := by decide +kernel
theorem d_M_decode_23 : decode b_M_decode 23 = .ok (.iload_n 1, 1) := by decide +kernel
theorem d_M_decode_24 : decode b_M_decode 24 = .ok (.iload 4, 2) := by decide +kernel
theorem d_M_decode_26 : decode b_M_decode 26 = .ok (.iload_n 2, 1) := by decide +kernel
theorem d_M_decode_27 : decode b_M_decode 27 = .ok (.invokevirtual 100, 3) := by decide +kernel
theorem d_M_decode_30 : decode b_M_decode 30 = .ok (.ifCond .eq 66, 3) := by decide +kernel
theorem d_M_decode_33 : decode b_M_decode 33 = .ok (.iconst 0, 1) := by decide +kernel
theorem d_M_decode_34 : decode b_M_decode 34 = .ok (.istore 5, 2) := by decide +kernel
theorem d_M_decode_36 : decode b_M_decode 36 = .ok (.iload 5, 2) := by decide +kernel
theorem d_M_decode_38 : decode b_M_decode 38 = .ok (.aload_n 0, 1) := by decide +kernel
theorem d_M_decode_39 : decode b_M_decode 39 = .ok (.getfield 50, 3) := by decide +kernel
theorem d_M_decode_42 : decode b_M_decode 42 = .ok (.if_icmp .ge 30, 3) := by decide +kernel
theorem d_M_decode_45 : decode b_M_decode 45 = .ok (.aload_n 0, 1) := by decide +kernel
theorem d_M_decode_46 : decode b_M_decode 46 = .ok (.getfield 44, 3) := by decide +kernel
theorem d_M_decode_49 : decode b_M_decode 49 = .ok (.iload_n 3, 1) := by decide +kernel
theorem d_M_decode_50 : decode b_M_decode 50 = .ok (.iconst 4, 1) := by decide +kernel
theorem d_M_decode_51 : decode b_M_decode 51 = .ok (.imul, 1) := by decide +kernel
theorem d_M_decode_52 : decode b_M_decode 52 = .ok (.iload 5, 2) := by decide +kernel
theorem d_M_decode_54 : decode b_M_decode 54 = .ok (.iadd, 1) := by decide +kernel
theorem d_M_decode_55 : decode b_M_decode 55 = .ok (.aload_n 0, 1) := by decide +kernel
theorem d_M_decode_56 : decode b_M_decode 56 = .ok (.iload 4, 2) := by decide +kernel
theorem d_M_decode_58 : decode b_M_decode 58 = .ok (.iconst 1, 1) := by decide +kernel
theorem d_M_decode_59 : decode b_M_decode 59 = .ok (.iadd, 1) := by decide +kernel
theorem d_M_decode_60 : decode b_M_decode 60 = .ok (.iload 5, 2) := by decide +kernel
theorem d_M_decode_62 : decode b_M_decode 62 = .ok (.invokevirtual 76, 3) := by decide +kernel
theorem d_M_decode_65 : decode b_M_decode 65 = .ok (.iastore, 1) := by decide +kernel
theorem d_M_decode_66 : decode b_M_decode 66 = .ok (.iinc 5 1, 3) := by decide +kernel
theorem d_M_decode_69 : decode b_M_decode 69 = .ok (.goto (-33), 3) := by decide +kernel
theorem d_M_decode_72 : decode b_M_decode 72 = .ok (.aload_n 0, 1) := by decide +kernel
theorem d_M_decode_73 : decode b_M_decode 73 = .ok (.getfield 47, 3) := by decide +kernel
theorem d_M_decode_76 : decode b_M_decode 76 = .ok (.iload_n 3, 1) := by decide +kernel
theorem d_M_decode_77 : decode b_M_decode 77 = .ok (.aload_n 0, 1) := by decide +kernel
theorem d_M_decode_78 : decode b_M_decode 78 = .ok (.getfield 29, 3) := by decide +kernel
theorem d_M_decode_81 : decode b_M_decode 81 = .ok (.iload_n 1, 1) := by decide +kernel
theorem d_M_decode_82 : decode b_M_decode 82 = .ok (.bipush 70, 2) := by decide +kernel
theorem d_M_decode_84 : decode b_M_decode 84 = .ok (.imul, 1) := by decide +kernel
theorem d_M_decode_85 : decode b_M_decode 85 = .ok (.iload 4, 2) := by decide +kernel
theorem d_M_decode_87 : decode b_M_decode 87 = .ok (.bipush 10, 2) := by decide +kernel
theorem d_M_decode_89 : decode b_M_decode 89 = .ok (.imul, 1) := by decide +kernel
theorem d_M_decode_90 : decode b_M_decode 90 = .ok (.iadd, 1) := by decide +kernel
theorem d_M_decode_91 : decode b_M_decode 91 = .ok (.iaload, 1) := by decide +kernel
theorem d_M_decode_92 : decode b_M_decode 92 = .ok (.iastore, 1) := by decide +kernel
theorem d_M_decode_93 : decode b_M_decode 93 = .ok (.iinc 3 1, 3) := by decide +kernel
theorem d_M_decode_96 : decode b_M_decode 96 = .ok (.iinc 4 1, 3) := by decide +kernel
theorem d_M_decode_99 : decode b_M_decode 99 = .ok (.goto (-94), 3) := by decide +kernel
theorem d_M_decode_102 : decode b_M_decode 102 = .ok (.iconst 0, 1) := by decide +kernel
theorem d_M_decode_103 : decode b_M_decode 103 = .ok (.istore 4, 2) := by decide +kernel
theorem d_M_decode_105 : decode b_M_decode 105 = .ok (.iload 4, 2) := by decide +kernel
theorem d_M_decode_107 : decode b_M_decode 107 = .ok (.aload_n 0, 1) := by decide +kernel
theorem d_M_decode_108 : decode b_M_decode 108 = .ok (.getfield 50, 3) := by decide +kernel
theorem d_M_decode_111 : decode b_M_decode 111 = .ok (.if_icmp .ge 195, 3) := by decide +kernel
theorem d_M_decode_114 : decode b_M_decode 114 = .ok (.iload 4, 2) := by decide +kernel
theorem d_M_decode_116 : decode b_M_decode 116 = .ok (.istore 5, 2) := by decide +kernel
theorem d_M_decode_118 : decode b_M_decode 118 = .ok (.iload 5, 2) := by decide +kernel
theorem d_M_decode_120 : decode b_M_decode 120 = .ok (.aload_n 0, 1) := by decide +kernel
theorem d_M_decode_121 : decode b_M_decode 121 = .ok (.getfield 50, 3) := by decide +kernel
theorem d_M_decode_124 : decode b_M_decode 124 = .ok (.iconst 1, 1) := by decide +kernel
theorem d_M_decode_125 : decode b_M_decode 125 = .ok (.isub, 1) := by decide +kernel
theorem d_M_decode_126 : decode b_M_decode 126 = .ok (.if_icmp .ge 24, 3) := by decide +kernel
theorem d_M_decode_129 : decode b_M_decode 129 = .ok (.aload_n 0, 1) := by decide +kernel
theorem d_M_decode_130 : decode b_M_decode 130 = .ok (.getfield 44, 3) := by decide +kernel
theorem d_M_decode_133 : decode b_M_decode 133 = .ok (.iload 5, 2) := by decide +kernel
theorem d_M_decode_135 : decode b_M_decode 135 = .ok (.iconst 4, 1) := by decide +kernel
theorem d_M_decode_136 : decode b_M_decode 136 = .ok (.imul, 1) := by decide +kernel
theorem d_M_decode_137 : decode b_M_decode 137 = .ok (.iload 4, 2) := by decide +kernel
theorem d_M_decode_139 : decode b_M_decode 139 = .ok (.iadd, 1) := by decide +kernel
theorem d_M_decode_140 : decode b_M_decode 140 = .ok (.iaload, 1) := by decide +kernel
theorem d_M_decode_141 : decode b_M_decode 141 = .ok (.ifCond .ne 9, 3) := by decide +kernel
theorem d_M_decode_144 : decode b_M_decode 144 = .ok (.iinc 5 1, 3) := by decide +kernel
theorem d_M_decode_147 : decode b_M_decode 147 = .ok (.goto (-29), 3) := by decide +kernel
theorem d_M_decode_150 : decode b_M_decode 150 = .ok (.iload 5, 2) := by decide +kernel
theorem d_M_decode_152 : decode b_M_decode 152 = .ok (.iload 4, 2) := by decide +kernel
theorem d_M_decode_154 : decode b_M_decode 154 = .ok (.if_icmp .le 12, 3) := by decide +kernel
theorem d_M_decode_157 : decode b_M_decode 157 = .ok (.aload_n 0, 1) := by decide +kernel
theorem d_M_decode_158 : decode b_M_decode 158 = .ok (.iload 4, 2) := by decide +kernel
theorem d_M_decode_160 : decode b_M_decode 160 = .ok (.iload 5, 2) := by decide +kernel
theorem d_M_decode_162 : decode b_M_decode 162 = .ok (.iconst 1, 1) := by decide +kernel
theorem d_M_decode_163 : decode b_M_decode 163 = .ok (.invokevirtual 104, 3) := by decide +kernel
theorem d_M_decode_166 : decode b_M_decode 166 = .ok (.aload_n 0, 1) := by decide +kernel
theorem d_M_decode_167 : decode b_M_decode 167 = .ok (.aload_n 0, 1) := by decide +kernel
theorem d_M_decode_168 : decode b_M_decode 168 = .ok (.getfield 44, 3) := by decide +kernel
theorem d_M_decode_171 : decode b_M_decode 171 = .ok (.iload 4, 2) := by decide +kernel
theorem d_M_decode_173 : decode b_M_decode 173 = .ok (.iconst 4, 1) := by decide +kernel
theorem d_M_decode_174 : decode b_M_decode 174 = .ok (.imul, 1) := by decide +kernel
theorem d_M_decode_175 : decode b_M_decode 175 = .ok (.iload 4, 2) := by decide +kernel
theorem d_M_decode_177 : decode b_M_decode 177 = .ok (.iadd, 1) := by decide +kernel
theorem d_M_decode_178 : decode b_M_decode 178 = .ok (.iaload, 1) := by decide +kernel
theorem d_M_decode_179 : decode b_M_decode 179 = .ok (.sipush 254, 3) := by decide +kernel
theorem d_M_decode_182 : decode b_M_decode 182 = .ok (.invokevirtual 76, 3) := by decide +kernel
theorem d_M_decode_185 : decode b_M_decode 185 = .ok (.istore 6, 2) := by decide +kernel
theorem d_M_decode_187 : decode b_M_decode 187 = .ok (.iconst 0, 1) := by decide +kernel
theorem d_M_decode_188 : decode b_M_decode 188 = .ok (.istore 7, 2) := by decide +kernel
theorem d_M_decode_190 : decode b_M_decode 190 = .ok (.iload 7, 2) := by decide +kernel
theorem d_M_decode_192 : decode b_M_decode 192 = .ok (.aload_n 0, 1) := by decide +kernel
theorem d_M_decode_193 : decode b_M_decode 193 = .ok (.getfield 50, 3) := by decide +kernel
theorem d_M_decode_196 : decode b_M_decode 196 = .ok (.if_icmp .ge 39, 3) := by decide +kernel
theorem d_M_decode_199 : decode b_M_decode 199 = .ok (.aload_n 0, 1) := by decide +kernel
theorem d_M_decode_200 : decode b_M_decode 200 = .ok (.getfield 44, 3) := by decide +kernel
theorem d_M_decode_203 : decode b_M_decode 203 = .ok (.iload 4, 2) := by decide +kernel
theorem d_M_decode_205 : decode b_M_decode 205 = .ok (.iconst 4, 1) := by decide +kernel
theorem d_M_decode_206 : decode b_M_decode 206 = .ok (.imul, 1) := by decide +kernel
theorem d_M_decode_207 : decode b_M_decode 207 = .ok (.iload 7, 2) := by decide +kernel
theorem d_M_decode_209 : decode b_M_decode 209 = .ok (.iadd, 1) := by decide +kernel
theorem d_M_decode_210 : decode b_M_decode 210 = .ok (.aload_n 0, 1) := by decide +kernel
theorem d_M_decode_211 : decode b_M_decode 211 = .ok (.aload_n 0, 1) := by decide +kernel
theorem d_M_decode_212 : decode b_M_decode 212 = .ok (.getfield 44, 3) := by decide +kernel
theorem d_M_decode_215 : decode b_M_decode 215 = .ok (.iload 4, 2) := by decide +kernel
theorem d_M_decode_217 : decode b_M_decode 217 = .ok (.iconst 4, 1) := by decide +kernel
theorem d_M_decode_218 : decode b_M_decode 218 = .ok (.imul, 1) := by decide +kernel
theorem d_M_decode_219 : decode b_M_decode 219 = .ok (.iload 7, 2) := by decide +kernel
theorem d_M_decode_221 : decode b_M_decode 221 = .ok (.iadd, 1) := by decide +kernel
theorem d_M_decode_222 : decode b_M_decode 222 = .ok (.iaload, 1) := by decide +kernel
theorem d_M_decode_223 : decode b_M_decode 223 = .ok (.iload 6, 2) := by decide +kernel
theorem d_M_decode_225 : decode b_M_decode 225 = .ok (.invokevirtual 73, 3) := by decide +kernel
theorem d_M_decode_228 : decode b_M_decode 228 = .ok (.iastore, 1) := by decide +kernel
theorem d_M_decode_229 : decode b_M_decode 229 = .ok (.iinc 7 1, 3) := by decide +kernel
theorem d_M_decode_232 : decode b_M_decode 232 = .ok (.goto (-42), 3) := by decide +kernel
theorem d_M_decode_235 : decode b_M_decode 235 = .ok (.aload_n 0, 1) := by decide +kernel
theorem d_M_decode_236 : decode b_M_decode 236 = .ok (.getfield 47, 3) := by decide +kernel
theorem d_M_decode_239 : decode b_M_decode 239 = .ok (.iload 4, 2) := by decide +kernel
theorem d_M_decode_241 : decode b_M_decode 241 = .ok (.aload_n 0, 1) := by decide +kernel
theorem d_M_decode_242 : decode b_M_decode 242 = .ok (.aload_n 0, 1) := by decide +kernel
theorem d_M_decode_243 : decode b_M_decode 243 = .ok (.getfield 47, 3) := by decide +kernel
theorem d_M_decode_246 : decode b_M_decode 246 = .ok (.iload 4, 2) := by decide +kernel
theorem d_M_decode_248 : decode b_M_decode 248 = .ok (.iaload, 1) := by decide +kernel
theorem d_M_decode_249 : decode b_M_decode 249 = .ok (.iload 6, 2) := by decide +kernel
theorem d_M_decode_251 : decode b_M_decode 251 = .ok (.invokevirtual 79, 3) := by decide +kernel
theorem d_M_decode_254 : decode b_M_decode 254 = .ok (.iastore, 1) := by decide +kernel
theorem d_M_decode_255 : decode b_M_decode 255 = .ok (.iconst 0, 1) := by decide +kernel
theorem d_M_decode_256 : decode b_M_decode 256 = .ok (.istore 7, 2) := by decide +kernel
theorem d_M_decode_258 : decode b_M_decode 258 = .ok (.iload 7, 2) := by decide +kernel
theorem d_M_decode_260 : decode b_M_decode 260 = .ok (.aload_n 0, 1) := by decide +kernel
theorem d_M_decode_261 : decode b_M_decode 261 = .ok (.getfield 50, 3) := by decide +kernel
theorem d_M_decode_264 : decode b_M_decode 264 = .ok (.if_icmp .ge 36, 3) := by decide +kernel
theorem d_M_decode_267 : decode b_M_decode 267 = .ok (.iload 7, 2) := by decide +kernel
theorem d_M_decode_269 : decode b_M_decode 269 = .ok (.iload 4, 2) := by decide +kernel
theorem d_M_decode_271 : decode b_M_decode 271 = .ok (.if_icmp .eq 23, 3) := by decide +kernel
theorem d_M_decode_274 : decode b_M_decode 274 = .ok (.aload_n 0, 1) := by decide +kernel
theorem d_M_decode_275 : decode b_M_decode 275 = .ok (.iload 7, 2) := by decide +kernel
theorem d_M_decode_277 : decode b_M_decode 277 = .ok (.iload 4, 2) := by decide +kernel
theorem d_M_decode_279 : decode b_M_decode 279 = .ok (.aload_n 0, 1) := by decide +kernel
theorem d_M_decode_280 : decode b_M_decode 280 = .ok (.getfield 44, 3) := by decide +kernel
theorem d_M_decode_283 : decode b_M_decode 283 = .ok (.iload 7, 2) := by decide +kernel
theorem d_M_decode_285 : decode b_M_decode 285 = .ok (.iconst 4, 1) := by decide +kernel
theorem d_M_decode_286 : decode b_M_decode 286 = .ok (.imul, 1) := by decide +kernel
theorem d_M_decode_287 : decode b_M_decode 287 = .ok (.iload 4, 2) := by decide +kernel
theorem d_M_decode_289 : decode b_M_decode 289 = .ok (.iadd, 1) := by decide +kernel
theorem d_M_decode_290 : decode b_M_decode 290 = .ok (.iaload, 1) := by decide +kernel
theorem d_M_decode_291 : decode b_M_decode 291 = .ok (.invokevirtual 104, 3) := by decide +kernel
theorem d_M_decode_294 : decode b_M_decode 294 = .ok (.iinc 7 1, 3) := by decide +kernel
theorem d_M_decode_297 : decode b_M_decode 297 = .ok (.goto (-39), 3) := by decide +kernel
theorem d_M_decode_300 : decode b_M_decode 300 = .ok (.iinc 4 1, 3) := by decide +kernel
theorem d_M_decode_303 : decode b_M_decode 303 = .ok (.goto (-198), 3) := by decide +kernel
theorem d_M_decode_306 : decode b_M_decode 306 = .ok (.iconst 0, 1) := by decide +kernel
theorem d_M_decode_307 : decode b_M_decode 307 = .ok (.istore 4, 2) := by decide +kernel
theorem d_M_decode_309 : decode b_M_decode 309 = .ok (.iload 4, 2) := by decide +kernel
theorem d_M_decode_311 : decode b_M_decode 311 = .ok (.aload_n 0, 1) := by decide +kernel
theorem d_M_decode_312 : decode b_M_decode 312 = .ok (.getfield 50, 3) := by decide +kernel
theorem d_M_decode_315 : decode b_M_decode 315 = .ok (.if_icmp .ge 23, 3) := by decide +kernel
theorem d_M_decode_318 : decode b_M_decode 318 = .ok (.aload_n 0, 1) := by decide +kernel
theorem d_M_decode_319 : decode b_M_decode 319 = .ok (.getfield 41, 3) := by decide +kernel
theorem d_M_decode_322 : decode b_M_decode 322 = .ok (.iload 4, 2) := by decide +kernel
theorem d_M_decode_324 : decode b_M_decode 324 = .ok (.aload_n 0, 1) := by decide +kernel
theorem d_M_decode_325 : decode b_M_decode 325 = .ok (.getfield 47, 3) := by decide +kernel
theorem d_M_decode_328 : decode b_M_decode 328 = .ok (.iload 4, 2) := by decide +kernel
theorem d_M_decode_330 : decode b_M_decode 330 = .ok (.iaload, 1) := by decide +kernel
theorem d_M_decode_331 : decode b_M_decode 331 = .ok (.iastore, 1) := by decide +kernel
theorem d_M_decode_332 : decode b_M_decode 332 = .ok (.iinc 4 1, 3) := by decide +kernel
theorem d_M_decode_335 : decode b_M_decode 335 = .ok (.goto (-26), 3) := by decide +kernel
theorem d_M_decode_338 : decode b_M_decode 338 = .ok (.return_, 1) := by decide +kernel
theorem d_M_read_0 : decode b_M_read 0 = .ok (.aload_n 0, 1) := by decide +kernel
theorem d_M_read_1 : decode b_M_read 1 = .ok (.aload_n 0, 1) := by decide +kernel
theorem d_M_read_2 : decode b_M_read 2 = .ok (.iload_n 1, 1) := by decide +kernel
theorem d_M_read_3 : decode b_M_read 3 = .ok (.iconst 2, 1) := by decide +kernel
theorem d_M_read_4 : decode b_M_read 4 = .ok (.invokevirtual 59, 3) := by decide +kernel
theorem d_M_read_7 : decode b_M_read 7 = .ok (.invokevirtual 69, 3) := by decide +kernel
theorem d_M_read_10 : decode b_M_read 10 = .ok (.istore_n 2, 1) := by decide +kernel
theorem d_M_read_11 : decode b_M_read 11 = .ok (.iload_n 2, 1) := by decide +kernel
theorem d_M_read_12 : decode b_M_read 12 = .ok (.ifCond .ge 5, 3) := by decide +kernel
theorem d_M_read_15 : decode b_M_read 15 = .ok (.iconst (-1), 1) := by decide +kernel
theorem d_M_read_16 : decode b_M_read 16 = .ok (.ireturn, 1) := by decide +kernel
theorem d_M_read_17 : decode b_M_read 17 = .ok (.aload_n 0, 1) := by decide +kernel
theorem d_M_read_18 : decode b_M_read 18 = .ok (.iload_n 2, 1) := by decide +kernel
theorem d_M_read_19 : decode b_M_read 19 = .ok (.invokevirtual 108, 3) := by decide +kernel
theorem d_M_read_22 : decode b_M_read 22 = .ok (.istore_n 3, 1) := by decide +kernel
theorem d_M_read_23 : decode b_M_read 23 = .ok (.iload_n 3, 1) := by decide +kernel
theorem d_M_read_24 : decode b_M_read 24 = .ok (.ifCond .ne 6, 3) := by decide +kernel
theorem d_M_read_27 : decode b_M_read 27 = .ok (.bipush (-3), 2) := by decide +kernel
theorem d_M_read_29 : decode b_M_read 29 = .ok (.ireturn, 1) := by decide +kernel
theorem d_M_read_30 : decode b_M_read 30 = .ok (.aload_n 0, 1) := by decide +kernel
theorem d_M_read_31 : decode b_M_read 31 = .ok (.iload_n 2, 1) := by decide +kernel
theorem d_M_read_32 : decode b_M_read 32 = .ok (.iload_n 3, 1) := by decide +kernel
theorem d_M_read_33 : decode b_M_read 33 = .ok (.invokevirtual 111, 3) := by decide +kernel
theorem d_M_read_36 : decode b_M_read 36 = .ok (.iconst 0, 1) := by decide +kernel
theorem d_M_read_37 : decode b_M_read 37 = .ok (.istore 4, 2) := by decide +kernel
theorem d_M_read_39 : decode b_M_read 39 = .ok (.iload 4, 2) := by decide +kernel
theorem d_M_read_41 : decode b_M_read 41 = .ok (.aload_n 0, 1) := by decide +kernel
theorem d_M_read_42 : decode b_M_read 42 = .ok (.getfield 50, 3) := by decide +kernel
theorem d_M_read_45 : decode b_M_read 45 = .ok (.if_icmp .ge 36, 3) := by decide +kernel
theorem d_M_read_48 : decode b_M_read 48 = .ok (.aload_n 0, 1) := by decide +kernel
theorem d_M_read_49 : decode b_M_read 49 = .ok (.getfield 38, 3) := by decide +kernel
theorem d_M_read_52 : decode b_M_read 52 = .ok (.iload 4, 2) := by decide +kernel
theorem d_M_read_54 : decode b_M_read 54 = .ok (.aload_n 0, 1) := by decide +kernel
theorem d_M_read_55 : decode b_M_read 55 = .ok (.getfield 41, 3) := by decide +kernel
theorem d_M_read_58 : decode b_M_read 58 = .ok (.iload 4, 2) := by decide +kernel
theorem d_M_read_60 : decode b_M_read 60 = .ok (.iaload, 1) := by decide +kernel
theorem d_M_read_61 : decode b_M_read 61 = .ok (.aload_n 0, 1) := by decide +kernel
theorem d_M_read_62 : decode b_M_read 62 = .ok (.iload_n 1, 1) := by decide +kernel
theorem d_M_read_63 : decode b_M_read 63 = .ok (.iload_n 3, 1) := by decide +kernel
theorem d_M_read_64 : decode b_M_read 64 = .ok (.bipush 8, 2) := by decide +kernel
theorem d_M_read_66 : decode b_M_read 66 = .ok (.imul, 1) := by decide +kernel
theorem d_M_read_67 : decode b_M_read 67 = .ok (.iload 4, 2) := by decide +kernel
theorem d_M_read_69 : decode b_M_read 69 = .ok (.iadd, 1) := by decide +kernel
theorem d_M_read_70 : decode b_M_read 70 = .ok (.invokevirtual 59, 3) := by decide +kernel
theorem d_M_read_73 : decode b_M_read 73 = .ok (.ixor, 1) := by decide +kernel
theorem d_M_read_74 : decode b_M_read 74 = .ok (.iastore, 1) := by decide +kernel
theorem d_M_read_75 : decode b_M_read 75 = .ok (.iinc 4 1, 3) := by decide +kernel
theorem d_M_read_78 : decode b_M_read 78 = .ok (.goto (-39), 3) := by decide +kernel
theorem d_M_read_81 : decode b_M_read 81 = .ok (.aload_n 0, 1) := by decide +kernel
theorem d_M_read_82 : decode b_M_read 82 = .ok (.iconst 1, 1) := by decide +kernel
theorem d_M_read_83 : decode b_M_read 83 = .ok (.putfield 115, 3) := by decide +kernel
theorem d_M_read_86 : decode b_M_read 86 = .ok (.iload_n 3, 1) := by decide +kernel
theorem d_M_read_87 : decode b_M_read 87 = .ok (.ireturn, 1) := by decide +kernel
theorem d_M_word_0 : decode b_M_word 0 = .ok (.aload_n 0, 1) := by decide +kernel
theorem d_M_word_1 : decode b_M_word 1 = .ok (.getfield 115, 3) := by decide +kernel
theorem d_M_word_4 : decode b_M_word 4 = .ok (.ifCond .eq 15, 3) := by decide +kernel
theorem d_M_word_7 : decode b_M_word 7 = .ok (.iload_n 1, 1) := by decide +kernel
theorem d_M_word_8 : decode b_M_word 8 = .ok (.ifCond .lt 11, 3) := by decide +kernel
theorem d_M_word_11 : decode b_M_word 11 = .ok (.iload_n 1, 1) := by decide +kernel
theorem d_M_word_12 : decode b_M_word 12 = .ok (.aload_n 0, 1) := by decide +kernel
theorem d_M_word_13 : decode b_M_word 13 = .ok (.getfield 50, 3) := by decide +kernel
theorem d_M_word_16 : decode b_M_word 16 = .ok (.if_icmp .lt 9, 3) := by decide +kernel
theorem d_M_word_19 : decode b_M_word 19 = .ok (.ldc2_w 119, 3) := by decide +kernel
theorem d_M_word_22 : decode b_M_word 22 = .ok (.goto 10, 3) := by decide +kernel
theorem d_M_word_25 : decode b_M_word 25 = .ok (.aload_n 0, 1) := by decide +kernel
theorem d_M_word_26 : decode b_M_word 26 = .ok (.getfield 38, 3) := by decide +kernel
theorem d_M_word_29 : decode b_M_word 29 = .ok (.iload_n 1, 1) := by decide +kernel
theorem d_M_word_30 : decode b_M_word 30 = .ok (.iaload, 1) := by decide +kernel
theorem d_M_word_31 : decode b_M_word 31 = .ok (.i2l, 1) := by decide +kernel
theorem d_M_word_32 : decode b_M_word 32 = .ok (.lreturn, 1) := by decide +kernel
theorem d_M_sound_0 : decode b_M_sound 0 = .ok (.aload_n 0, 1) := by decide +kernel
theorem d_M_sound_1 : decode b_M_sound 1 = .ok (.iload_n 1, 1) := by decide +kernel
theorem d_M_sound_2 : decode b_M_sound 2 = .ok (.invokevirtual 69, 3) := by decide +kernel
theorem d_M_sound_5 : decode b_M_sound 5 = .ok (.istore_n 2, 1) := by decide +kernel
theorem d_M_sound_6 : decode b_M_sound 6 = .ok (.iload_n 2, 1) := by decide +kernel
theorem d_M_sound_7 : decode b_M_sound 7 = .ok (.ifCond .ge 5, 3) := by decide +kernel
theorem d_M_sound_10 : decode b_M_sound 10 = .ok (.iconst (-1), 1) := by decide +kernel
theorem d_M_sound_11 : decode b_M_sound 11 = .ok (.ireturn, 1) := by decide +kernel
theorem d_M_sound_12 : decode b_M_sound 12 = .ok (.iconst 0, 1) := by decide +kernel
theorem d_M_sound_13 : decode b_M_sound 13 = .ok (.istore_n 3, 1) := by decide +kernel
theorem d_M_sound_14 : decode b_M_sound 14 = .ok (.iconst 0, 1) := by decide +kernel
theorem d_M_sound_15 : decode b_M_sound 15 = .ok (.istore 4, 2) := by decide +kernel
theorem d_M_sound_17 : decode b_M_sound 17 = .ok (.iload 4, 2) := by decide +kernel
theorem d_M_sound_19 : decode b_M_sound 19 = .ok (.aload_n 0, 1) := by decide +kernel
theorem d_M_sound_20 : decode b_M_sound 20 = .ok (.getfield 54, 3) := by decide +kernel
theorem d_M_sound_23 : decode b_M_sound 23 = .ok (.if_icmp .ge 32, 3) := by decide +kernel
theorem d_M_sound_26 : decode b_M_sound 26 = .ok (.aload_n 0, 1) := by decide +kernel
theorem d_M_sound_27 : decode b_M_sound 27 = .ok (.getfield 7, 3) := by decide +kernel
theorem d_M_sound_30 : decode b_M_sound 30 = .ok (.iload 4, 2) := by decide +kernel
theorem d_M_sound_32 : decode b_M_sound 32 = .ok (.baload, 1) := by decide +kernel
theorem d_M_sound_33 : decode b_M_sound 33 = .ok (.ifCond .eq 16, 3) := by decide +kernel
theorem d_M_sound_36 : decode b_M_sound 36 = .ok (.aload_n 0, 1) := by decide +kernel
theorem d_M_sound_37 : decode b_M_sound 37 = .ok (.iload_n 2, 1) := by decide +kernel
theorem d_M_sound_38 : decode b_M_sound 38 = .ok (.iload 4, 2) := by decide +kernel
theorem d_M_sound_40 : decode b_M_sound 40 = .ok (.invokevirtual 96, 3) := by decide +kernel
theorem d_M_sound_43 : decode b_M_sound 43 = .ok (.ifCond .eq 6, 3) := by decide +kernel
theorem d_M_sound_46 : decode b_M_sound 46 = .ok (.iinc 3 1, 3) := by decide +kernel
theorem d_M_sound_49 : decode b_M_sound 49 = .ok (.iinc 4 1, 3) := by decide +kernel
theorem d_M_sound_52 : decode b_M_sound 52 = .ok (.goto (-35), 3) := by decide +kernel
theorem d_M_sound_55 : decode b_M_sound 55 = .ok (.iload_n 3, 1) := by decide +kernel
theorem d_M_sound_56 : decode b_M_sound 56 = .ok (.ireturn, 1) := by decide +kernel
theorem d_M_best_0 : decode b_M_best 0 = .ok (.aload_n 0, 1) := by decide +kernel
theorem d_M_best_1 : decode b_M_best 1 = .ok (.iload_n 1, 1) := by decide +kernel
theorem d_M_best_2 : decode b_M_best 2 = .ok (.invokevirtual 69, 3) := by decide +kernel
theorem d_M_best_5 : decode b_M_best 5 = .ok (.istore_n 2, 1) := by decide +kernel
theorem d_M_best_6 : decode b_M_best 6 = .ok (.iload_n 2, 1) := by decide +kernel
theorem d_M_best_7 : decode b_M_best 7 = .ok (.ifCond .ge 7, 3) := by decide +kernel
theorem d_M_best_10 : decode b_M_best 10 = .ok (.iconst (-1), 1) := by decide +kernel
theorem d_M_best_11 : decode b_M_best 11 = .ok (.goto 8, 3) := by decide +kernel
theorem d_M_best_14 : decode b_M_best 14 = .ok (.aload_n 0, 1) := by decide +kernel
theorem d_M_best_15 : decode b_M_best 15 = .ok (.iload_n 2, 1) := by decide +kernel
theorem d_M_best_16 : decode b_M_best 16 = .ok (.invokevirtual 108, 3) := by decide +kernel
theorem d_M_best_19 : decode b_M_best 19 = .ok (.ireturn, 1) := by decide +kernel
theorem d_M_repair_0 : decode b_M_repair 0 = .ok (.aload_n 0, 1) := by decide +kernel
theorem d_M_repair_1 : decode b_M_repair 1 = .ok (.iload_n 1, 1) := by decide +kernel
theorem d_M_repair_2 : decode b_M_repair 2 = .ok (.invokevirtual 69, 3) := by decide +kernel
theorem d_M_repair_5 : decode b_M_repair 5 = .ok (.istore_n 2, 1) := by decide +kernel
theorem d_M_repair_6 : decode b_M_repair 6 = .ok (.iload_n 2, 1) := by decide +kernel
theorem d_M_repair_7 : decode b_M_repair 7 = .ok (.ifCond .ge 5, 3) := by decide +kernel
theorem d_M_repair_10 : decode b_M_repair 10 = .ok (.iconst (-1), 1) := by decide +kernel
theorem d_M_repair_11 : decode b_M_repair 11 = .ok (.ireturn, 1) := by decide +kernel
theorem d_M_repair_12 : decode b_M_repair 12 = .ok (.aload_n 0, 1) := by decide +kernel
theorem d_M_repair_13 : decode b_M_repair 13 = .ok (.iload_n 2, 1) := by decide +kernel
theorem d_M_repair_14 : decode b_M_repair 14 = .ok (.invokevirtual 108, 3) := by decide +kernel
theorem d_M_repair_17 : decode b_M_repair 17 = .ok (.istore_n 3, 1) := by decide +kernel
theorem d_M_repair_18 : decode b_M_repair 18 = .ok (.iload_n 3, 1) := by decide +kernel
theorem d_M_repair_19 : decode b_M_repair 19 = .ok (.ifCond .ne 6, 3) := by decide +kernel
theorem d_M_repair_22 : decode b_M_repair 22 = .ok (.bipush (-3), 2) := by decide +kernel
theorem d_M_repair_24 : decode b_M_repair 24 = .ok (.ireturn, 1) := by decide +kernel
theorem d_M_repair_25 : decode b_M_repair 25 = .ok (.aload_n 0, 1) := by decide +kernel
theorem d_M_repair_26 : decode b_M_repair 26 = .ok (.iload_n 2, 1) := by decide +kernel
theorem d_M_repair_27 : decode b_M_repair 27 = .ok (.iload_n 3, 1) := by decide +kernel
theorem d_M_repair_28 : decode b_M_repair 28 = .ok (.invokevirtual 111, 3) := by decide +kernel
theorem d_M_repair_31 : decode b_M_repair 31 = .ok (.iconst 0, 1) := by decide +kernel
theorem d_M_repair_32 : decode b_M_repair 32 = .ok (.istore 4, 2) := by decide +kernel
theorem d_M_repair_34 : decode b_M_repair 34 = .ok (.aload_n 0, 1) := by decide +kernel
theorem d_M_repair_35 : decode b_M_repair 35 = .ok (.iload_n 2, 1) := by decide +kernel
theorem d_M_repair_36 : decode b_M_repair 36 = .ok (.iload 4, 2) := by decide +kernel
theorem d_M_repair_38 : decode b_M_repair 38 = .ok (.iload_n 3, 1) := by decide +kernel
theorem d_M_repair_39 : decode b_M_repair 39 = .ok (.invokevirtual 100, 3) := by decide +kernel
theorem d_M_repair_42 : decode b_M_repair 42 = .ok (.ifCond .ne 9, 3) := by decide +kernel
theorem d_M_repair_45 : decode b_M_repair 45 = .ok (.iinc 4 1, 3) := by decide +kernel
theorem d_M_repair_48 : decode b_M_repair 48 = .ok (.goto (-14), 3) := by decide +kernel
theorem d_M_repair_51 : decode b_M_repair 51 = .ok (.iconst 0, 1) := by decide +kernel
theorem d_M_repair_52 : decode b_M_repair 52 = .ok (.istore 5, 2) := by decide +kernel
theorem d_M_repair_54 : decode b_M_repair 54 = .ok (.iconst 0, 1) := by decide +kernel
theorem d_M_repair_55 : decode b_M_repair 55 = .ok (.istore 6, 2) := by decide +kernel
theorem d_M_repair_57 : decode b_M_repair 57 = .ok (.iload 6, 2) := by decide +kernel
theorem d_M_repair_59 : decode b_M_repair 59 = .ok (.aload_n 0, 1) := by decide +kernel
theorem d_M_repair_60 : decode b_M_repair 60 = .ok (.getfield 54, 3) := by decide +kernel
theorem d_M_repair_63 : decode b_M_repair 63 = .ok (.if_icmp .ge 82, 3) := by decide +kernel
theorem d_M_repair_66 : decode b_M_repair 66 = .ok (.aload_n 0, 1) := by decide +kernel
theorem d_M_repair_67 : decode b_M_repair 67 = .ok (.getfield 7, 3) := by decide +kernel
theorem d_M_repair_70 : decode b_M_repair 70 = .ok (.iload 6, 2) := by decide +kernel
theorem d_M_repair_72 : decode b_M_repair 72 = .ok (.baload, 1) := by decide +kernel
theorem d_M_repair_73 : decode b_M_repair 73 = .ok (.ifCond .eq 66, 3) := by decide +kernel
theorem d_M_repair_76 : decode b_M_repair 76 = .ok (.aload_n 0, 1) := by decide +kernel
theorem d_M_repair_77 : decode b_M_repair 77 = .ok (.getfield 13, 3) := by decide +kernel
theorem d_M_repair_80 : decode b_M_repair 80 = .ok (.iload 6, 2) := by decide +kernel
theorem d_M_repair_82 : decode b_M_repair 82 = .ok (.baload, 1) := by decide +kernel
theorem d_M_repair_83 : decode b_M_repair 83 = .ok (.ifCond .ne 56, 3) := by decide +kernel
theorem d_M_repair_86 : decode b_M_repair 86 = .ok (.aload_n 0, 1) := by decide +kernel
theorem d_M_repair_87 : decode b_M_repair 87 = .ok (.iload_n 2, 1) := by decide +kernel
theorem d_M_repair_88 : decode b_M_repair 88 = .ok (.iload 6, 2) := by decide +kernel
theorem d_M_repair_90 : decode b_M_repair 90 = .ok (.iload_n 3, 1) := by decide +kernel
theorem d_M_repair_91 : decode b_M_repair 91 = .ok (.invokevirtual 100, 3) := by decide +kernel
theorem d_M_repair_94 : decode b_M_repair 94 = .ok (.ifCond .ne 45, 3) := by decide +kernel
theorem d_M_repair_97 : decode b_M_repair 97 = .ok (.aload_n 0, 1) := by decide +kernel
theorem d_M_repair_98 : decode b_M_repair 98 = .ok (.iload_n 2, 1) := by decide +kernel
theorem d_M_repair_99 : decode b_M_repair 99 = .ok (.bipush 7, 2) := by decide +kernel
theorem d_M_repair_101 : decode b_M_repair 101 = .ok (.imul, 1) := by decide +kernel
theorem d_M_repair_102 : decode b_M_repair 102 = .ok (.iload 4, 2) := by decide +kernel
theorem d_M_repair_104 : decode b_M_repair 104 = .ok (.iadd, 1) := by decide +kernel
theorem d_M_repair_105 : decode b_M_repair 105 = .ok (.iload_n 2, 1) := by decide +kernel
theorem d_M_repair_106 : decode b_M_repair 106 = .ok (.bipush 7, 2) := by decide +kernel
theorem d_M_repair_108 : decode b_M_repair 108 = .ok (.imul, 1) := by decide +kernel
theorem d_M_repair_109 : decode b_M_repair 109 = .ok (.iload 6, 2) := by decide +kernel
theorem d_M_repair_111 : decode b_M_repair 111 = .ok (.iadd, 1) := by decide +kernel
theorem d_M_repair_112 : decode b_M_repair 112 = .ok (.invokevirtual 121, 3) := by decide +kernel
theorem d_M_repair_115 : decode b_M_repair 115 = .ok (.aload_n 0, 1) := by decide +kernel
theorem d_M_repair_116 : decode b_M_repair 116 = .ok (.getfield 29, 3) := by decide +kernel
theorem d_M_repair_119 : decode b_M_repair 119 = .ok (.iload_n 2, 1) := by decide +kernel
theorem d_M_repair_120 : decode b_M_repair 120 = .ok (.bipush 70, 2) := by decide +kernel
theorem d_M_repair_122 : decode b_M_repair 122 = .ok (.imul, 1) := by decide +kernel
theorem d_M_repair_123 : decode b_M_repair 123 = .ok (.iload 6, 2) := by decide +kernel
theorem d_M_repair_125 : decode b_M_repair 125 = .ok (.bipush 10, 2) := by decide +kernel
theorem d_M_repair_127 : decode b_M_repair 127 = .ok (.imul, 1) := by decide +kernel
theorem d_M_repair_128 : decode b_M_repair 128 = .ok (.iadd, 1) := by decide +kernel
theorem d_M_repair_129 : decode b_M_repair 129 = .ok (.aload_n 0, 1) := by decide +kernel
theorem d_M_repair_130 : decode b_M_repair 130 = .ok (.iload 6, 2) := by decide +kernel
theorem d_M_repair_132 : decode b_M_repair 132 = .ok (.invokevirtual 86, 3) := by decide +kernel
theorem d_M_repair_135 : decode b_M_repair 135 = .ok (.iastore, 1) := by decide +kernel
theorem d_M_repair_136 : decode b_M_repair 136 = .ok (.iinc 5 1, 3) := by decide +kernel
theorem d_M_repair_139 : decode b_M_repair 139 = .ok (.iinc 6 1, 3) := by decide +kernel
theorem d_M_repair_142 : decode b_M_repair 142 = .ok (.goto (-85), 3) := by decide +kernel
theorem d_M_repair_145 : decode b_M_repair 145 = .ok (.iload 5, 2) := by decide +kernel
theorem d_M_repair_147 : decode b_M_repair 147 = .ok (.ireturn, 1) := by decide +kernel
theorem d_M_bad_0 : decode b_M_bad 0 = .ok (.iload_n 1, 1) := by decide +kernel
theorem d_M_bad_1 : decode b_M_bad 1 = .ok (.ifCond .lt 23, 3) := by decide +kernel
theorem d_M_bad_4 : decode b_M_bad 4 = .ok (.iload_n 1, 1) := by decide +kernel
theorem d_M_bad_5 : decode b_M_bad 5 = .ok (.aload_n 0, 1) := by decide +kernel
theorem d_M_bad_6 : decode b_M_bad 6 = .ok (.getfield 63, 3) := by decide +kernel
theorem d_M_bad_9 : decode b_M_bad 9 = .ok (.if_icmp .ge 15, 3) := by decide +kernel
theorem d_M_bad_12 : decode b_M_bad 12 = .ok (.iload_n 2, 1) := by decide +kernel
theorem d_M_bad_13 : decode b_M_bad 13 = .ok (.ifCond .lt 11, 3) := by decide +kernel
theorem d_M_bad_16 : decode b_M_bad 16 = .ok (.iload_n 2, 1) := by decide +kernel
theorem d_M_bad_17 : decode b_M_bad 17 = .ok (.aload_n 0, 1) := by decide +kernel
theorem d_M_bad_18 : decode b_M_bad 18 = .ok (.getfield 54, 3) := by decide +kernel
theorem d_M_bad_21 : decode b_M_bad 21 = .ok (.if_icmp .lt 7, 3) := by decide +kernel
theorem d_M_bad_24 : decode b_M_bad 24 = .ok (.iconst 1, 1) := by decide +kernel
theorem d_M_bad_25 : decode b_M_bad 25 = .ok (.goto 4, 3) := by decide +kernel
theorem d_M_bad_28 : decode b_M_bad 28 = .ok (.iconst 0, 1) := by decide +kernel
theorem d_M_bad_29 : decode b_M_bad 29 = .ok (.ireturn, 1) := by decide +kernel
theorem d_M_server_0 : decode b_M_server 0 = .ok (.iload_n 1, 1) := by decide +kernel
theorem d_M_server_1 : decode b_M_server 1 = .ok (.ifCond .lt 11, 3) := by decide +kernel
theorem d_M_server_4 : decode b_M_server 4 = .ok (.iload_n 1, 1) := by decide +kernel
theorem d_M_server_5 : decode b_M_server 5 = .ok (.aload_n 0, 1) := by decide +kernel
theorem d_M_server_6 : decode b_M_server 6 = .ok (.getfield 54, 3) := by decide +kernel
theorem d_M_server_9 : decode b_M_server 9 = .ok (.if_icmp .lt 5, 3) := by decide +kernel
theorem d_M_server_12 : decode b_M_server 12 = .ok (.iconst (-1), 1) := by decide +kernel
theorem d_M_server_13 : decode b_M_server 13 = .ok (.ireturn, 1) := by decide +kernel
theorem d_M_server_14 : decode b_M_server 14 = .ok (.aload_n 0, 1) := by decide +kernel
theorem d_M_server_15 : decode b_M_server 15 = .ok (.getfield 7, 3) := by decide +kernel
theorem d_M_server_18 : decode b_M_server 18 = .ok (.iload_n 1, 1) := by decide +kernel
theorem d_M_server_19 : decode b_M_server 19 = .ok (.iload_n 2, 1) := by decide +kernel
theorem d_M_server_20 : decode b_M_server 20 = .ok (.bastore, 1) := by decide +kernel
theorem d_M_server_21 : decode b_M_server 21 = .ok (.aload_n 0, 1) := by decide +kernel
theorem d_M_server_22 : decode b_M_server 22 = .ok (.getfield 13, 3) := by decide +kernel
theorem d_M_server_25 : decode b_M_server 25 = .ok (.iload_n 1, 1) := by decide +kernel
theorem d_M_server_26 : decode b_M_server 26 = .ok (.iload_n 3, 1) := by decide +kernel
theorem d_M_server_27 : decode b_M_server 27 = .ok (.bastore, 1) := by decide +kernel
theorem d_M_server_28 : decode b_M_server 28 = .ok (.iconst 0, 1) := by decide +kernel
theorem d_M_server_29 : decode b_M_server 29 = .ok (.ireturn, 1) := by decide +kernel
theorem d_M_tamper_0 : decode b_M_tamper 0 = .ok (.aload_n 0, 1) := by decide +kernel
theorem d_M_tamper_1 : decode b_M_tamper 1 = .ok (.iload_n 1, 1) := by decide +kernel
theorem d_M_tamper_2 : decode b_M_tamper 2 = .ok (.iload_n 2, 1) := by decide +kernel
theorem d_M_tamper_3 : decode b_M_tamper 3 = .ok (.invokevirtual 124, 3) := by decide +kernel
theorem d_M_tamper_6 : decode b_M_tamper 6 = .ok (.ifCond .ne 31, 3) := by decide +kernel
theorem d_M_tamper_9 : decode b_M_tamper 9 = .ok (.iload_n 3, 1) := by decide +kernel
theorem d_M_tamper_10 : decode b_M_tamper 10 = .ok (.ifCond .lt 27, 3) := by decide +kernel
theorem d_M_tamper_13 : decode b_M_tamper 13 = .ok (.iload_n 3, 1) := by decide +kernel
theorem d_M_tamper_14 : decode b_M_tamper 14 = .ok (.iconst 2, 1) := by decide +kernel
theorem d_M_tamper_15 : decode b_M_tamper 15 = .ok (.aload_n 0, 1) := by decide +kernel
theorem d_M_tamper_16 : decode b_M_tamper 16 = .ok (.getfield 54, 3) := by decide +kernel
theorem d_M_tamper_19 : decode b_M_tamper 19 = .ok (.iadd, 1) := by decide +kernel
theorem d_M_tamper_20 : decode b_M_tamper 20 = .ok (.if_icmp .gt 17, 3) := by decide +kernel
theorem d_M_tamper_23 : decode b_M_tamper 23 = .ok (.aload_n 0, 1) := by decide +kernel
theorem d_M_tamper_24 : decode b_M_tamper 24 = .ok (.getfield 32, 3) := by decide +kernel
theorem d_M_tamper_27 : decode b_M_tamper 27 = .ok (.iload_n 1, 1) := by decide +kernel
theorem d_M_tamper_28 : decode b_M_tamper 28 = .ok (.bipush 7, 2) := by decide +kernel
theorem d_M_tamper_30 : decode b_M_tamper 30 = .ok (.imul, 1) := by decide +kernel
theorem d_M_tamper_31 : decode b_M_tamper 31 = .ok (.iload_n 2, 1) := by decide +kernel
theorem d_M_tamper_32 : decode b_M_tamper 32 = .ok (.iadd, 1) := by decide +kernel
theorem d_M_tamper_33 : decode b_M_tamper 33 = .ok (.baload, 1) := by decide +kernel
theorem d_M_tamper_34 : decode b_M_tamper 34 = .ok (.ifCond .ne 5, 3) := by decide +kernel
theorem d_M_tamper_37 : decode b_M_tamper 37 = .ok (.iconst (-1), 1) := by decide +kernel
theorem d_M_tamper_38 : decode b_M_tamper 38 = .ok (.ireturn, 1) := by decide +kernel
theorem d_M_tamper_39 : decode b_M_tamper 39 = .ok (.aload_n 0, 1) := by decide +kernel
theorem d_M_tamper_40 : decode b_M_tamper 40 = .ok (.getfield 29, 3) := by decide +kernel
theorem d_M_tamper_43 : decode b_M_tamper 43 = .ok (.iload_n 1, 1) := by decide +kernel
theorem d_M_tamper_44 : decode b_M_tamper 44 = .ok (.bipush 70, 2) := by decide +kernel
theorem d_M_tamper_46 : decode b_M_tamper 46 = .ok (.imul, 1) := by decide +kernel
theorem d_M_tamper_47 : decode b_M_tamper 47 = .ok (.iload_n 2, 1) := by decide +kernel
theorem d_M_tamper_48 : decode b_M_tamper 48 = .ok (.bipush 10, 2) := by decide +kernel
theorem d_M_tamper_50 : decode b_M_tamper 50 = .ok (.imul, 1) := by decide +kernel
theorem d_M_tamper_51 : decode b_M_tamper 51 = .ok (.iadd, 1) := by decide +kernel
theorem d_M_tamper_52 : decode b_M_tamper 52 = .ok (.iload_n 3, 1) := by decide +kernel
theorem d_M_tamper_53 : decode b_M_tamper 53 = .ok (.iadd, 1) := by decide +kernel
theorem d_M_tamper_54 : decode b_M_tamper 54 = .ok (.dup2, 1) := by decide +kernel
theorem d_M_tamper_55 : decode b_M_tamper 55 = .ok (.iaload, 1) := by decide +kernel
theorem d_M_tamper_56 : decode b_M_tamper 56 = .ok (.iload 4, 2) := by decide +kernel
theorem d_M_tamper_58 : decode b_M_tamper 58 = .ok (.ixor, 1) := by decide +kernel
theorem d_M_tamper_59 : decode b_M_tamper 59 = .ok (.iastore, 1) := by decide +kernel
theorem d_M_tamper_60 : decode b_M_tamper 60 = .ok (.iconst 0, 1) := by decide +kernel
theorem d_M_tamper_61 : decode b_M_tamper 61 = .ok (.ireturn, 1) := by decide +kernel
theorem d_M_picture_0 : decode b_M_picture 0 = .ok (.aload_n 0, 1) := by decide +kernel
theorem d_M_picture_1 : decode b_M_picture 1 = .ok (.iload_n 1, 1) := by decide +kernel
theorem d_M_picture_2 : decode b_M_picture 2 = .ok (.iload_n 2, 1) := by decide +kernel
theorem d_M_picture_3 : decode b_M_picture 3 = .ok (.invokevirtual 124, 3) := by decide +kernel
theorem d_M_picture_6 : decode b_M_picture 6 = .ok (.ifCond .ne 17, 3) := by decide +kernel
theorem d_M_picture_9 : decode b_M_picture 9 = .ok (.aload_n 0, 1) := by decide +kernel
theorem d_M_picture_10 : decode b_M_picture 10 = .ok (.getfield 32, 3) := by decide +kernel
theorem d_M_picture_13 : decode b_M_picture 13 = .ok (.iload_n 1, 1) := by decide +kernel
theorem d_M_picture_14 : decode b_M_picture 14 = .ok (.bipush 7, 2) := by decide +kernel
theorem d_M_picture_16 : decode b_M_picture 16 = .ok (.imul, 1) := by decide +kernel
theorem d_M_picture_17 : decode b_M_picture 17 = .ok (.iload_n 2, 1) := by decide +kernel
theorem d_M_picture_18 : decode b_M_picture 18 = .ok (.iadd, 1) := by decide +kernel
theorem d_M_picture_19 : decode b_M_picture 19 = .ok (.baload, 1) := by decide +kernel
theorem d_M_picture_20 : decode b_M_picture 20 = .ok (.ifCond .ne 5, 3) := by decide +kernel
theorem d_M_picture_23 : decode b_M_picture 23 = .ok (.iconst (-1), 1) := by decide +kernel
theorem d_M_picture_24 : decode b_M_picture 24 = .ok (.ireturn, 1) := by decide +kernel
theorem d_M_picture_25 : decode b_M_picture 25 = .ok (.aload_n 0, 1) := by decide +kernel
theorem d_M_picture_26 : decode b_M_picture 26 = .ok (.iload_n 1, 1) := by decide +kernel
theorem d_M_picture_27 : decode b_M_picture 27 = .ok (.bipush 7, 2) := by decide +kernel
theorem d_M_picture_29 : decode b_M_picture 29 = .ok (.imul, 1) := by decide +kernel
theorem d_M_picture_30 : decode b_M_picture 30 = .ok (.iload_n 2, 1) := by decide +kernel
theorem d_M_picture_31 : decode b_M_picture 31 = .ok (.iadd, 1) := by decide +kernel
theorem d_M_picture_32 : decode b_M_picture 32 = .ok (.bipush 42, 2) := by decide +kernel
theorem d_M_picture_34 : decode b_M_picture 34 = .ok (.iload_n 1, 1) := by decide +kernel
theorem d_M_picture_35 : decode b_M_picture 35 = .ok (.bipush 7, 2) := by decide +kernel
theorem d_M_picture_37 : decode b_M_picture 37 = .ok (.imul, 1) := by decide +kernel
theorem d_M_picture_38 : decode b_M_picture 38 = .ok (.iadd, 1) := by decide +kernel
theorem d_M_picture_39 : decode b_M_picture 39 = .ok (.iload_n 2, 1) := by decide +kernel
theorem d_M_picture_40 : decode b_M_picture 40 = .ok (.iadd, 1) := by decide +kernel
theorem d_M_picture_41 : decode b_M_picture 41 = .ok (.invokevirtual 121, 3) := by decide +kernel
theorem d_M_picture_44 : decode b_M_picture 44 = .ok (.iconst 0, 1) := by decide +kernel
theorem d_M_picture_45 : decode b_M_picture 45 = .ok (.ireturn, 1) := by decide +kernel
theorem d_M_fallBack_0 : decode b_M_fallBack 0 = .ok (.aload_n 0, 1) := by decide +kernel
theorem d_M_fallBack_1 : decode b_M_fallBack 1 = .ok (.iload_n 1, 1) := by decide +kernel
theorem d_M_fallBack_2 : decode b_M_fallBack 2 = .ok (.iload_n 2, 1) := by decide +kernel
theorem d_M_fallBack_3 : decode b_M_fallBack 3 = .ok (.invokevirtual 124, 3) := by decide +kernel
theorem d_M_fallBack_6 : decode b_M_fallBack 6 = .ok (.ifCond .ne 20, 3) := by decide +kernel
theorem d_M_fallBack_9 : decode b_M_fallBack 9 = .ok (.aload_n 0, 1) := by decide +kernel
theorem d_M_fallBack_10 : decode b_M_fallBack 10 = .ok (.getfield 32, 3) := by decide +kernel
theorem d_M_fallBack_13 : decode b_M_fallBack 13 = .ok (.bipush 42, 2) := by decide +kernel
theorem d_M_fallBack_15 : decode b_M_fallBack 15 = .ok (.iload_n 1, 1) := by decide +kernel
theorem d_M_fallBack_16 : decode b_M_fallBack 16 = .ok (.bipush 7, 2) := by decide +kernel
theorem d_M_fallBack_18 : decode b_M_fallBack 18 = .ok (.imul, 1) := by decide +kernel
theorem d_M_fallBack_19 : decode b_M_fallBack 19 = .ok (.iadd, 1) := by decide +kernel
theorem d_M_fallBack_20 : decode b_M_fallBack 20 = .ok (.iload_n 2, 1) := by decide +kernel
theorem d_M_fallBack_21 : decode b_M_fallBack 21 = .ok (.iadd, 1) := by decide +kernel
theorem d_M_fallBack_22 : decode b_M_fallBack 22 = .ok (.baload, 1) := by decide +kernel
theorem d_M_fallBack_23 : decode b_M_fallBack 23 = .ok (.ifCond .ne 5, 3) := by decide +kernel
theorem d_M_fallBack_26 : decode b_M_fallBack 26 = .ok (.iconst (-1), 1) := by decide +kernel
theorem d_M_fallBack_27 : decode b_M_fallBack 27 = .ok (.ireturn, 1) := by decide +kernel
theorem d_M_fallBack_28 : decode b_M_fallBack 28 = .ok (.aload_n 0, 1) := by decide +kernel
theorem d_M_fallBack_29 : decode b_M_fallBack 29 = .ok (.bipush 42, 2) := by decide +kernel
theorem d_M_fallBack_31 : decode b_M_fallBack 31 = .ok (.iload_n 1, 1) := by decide +kernel
theorem d_M_fallBack_32 : decode b_M_fallBack 32 = .ok (.bipush 7, 2) := by decide +kernel
theorem d_M_fallBack_34 : decode b_M_fallBack 34 = .ok (.imul, 1) := by decide +kernel
theorem d_M_fallBack_35 : decode b_M_fallBack 35 = .ok (.iadd, 1) := by decide +kernel
theorem d_M_fallBack_36 : decode b_M_fallBack 36 = .ok (.iload_n 2, 1) := by decide +kernel
theorem d_M_fallBack_37 : decode b_M_fallBack 37 = .ok (.iadd, 1) := by decide +kernel
theorem d_M_fallBack_38 : decode b_M_fallBack 38 = .ok (.iload_n 1, 1) := by decide +kernel
theorem d_M_fallBack_39 : decode b_M_fallBack 39 = .ok (.bipush 7, 2) := by decide +kernel
theorem d_M_fallBack_41 : decode b_M_fallBack 41 = .ok (.imul, 1) := by decide +kernel
theorem d_M_fallBack_42 : decode b_M_fallBack 42 = .ok (.iload_n 2, 1) := by decide +kernel
theorem d_M_fallBack_43 : decode b_M_fallBack 43 = .ok (.iadd, 1) := by decide +kernel
theorem d_M_fallBack_44 : decode b_M_fallBack 44 = .ok (.invokevirtual 121, 3) := by decide +kernel
theorem d_M_fallBack_47 : decode b_M_fallBack 47 = .ok (.iconst 0, 1) := by decide +kernel
theorem d_M_fallBack_48 : decode b_M_fallBack 48 = .ok (.ireturn, 1) := by decide +kernel
theorem d_M_wipe_0 : decode b_M_wipe 0 = .ok (.aload_n 0, 1) := by decide +kernel
theorem d_M_wipe_1 : decode b_M_wipe 1 = .ok (.iload_n 1, 1) := by decide +kernel
theorem d_M_wipe_2 : decode b_M_wipe 2 = .ok (.iload_n 2, 1) := by decide +kernel
theorem d_M_wipe_3 : decode b_M_wipe 3 = .ok (.invokevirtual 124, 3) := by decide +kernel
theorem d_M_wipe_6 : decode b_M_wipe 6 = .ok (.ifCond .eq 5, 3) := by decide +kernel
theorem d_M_wipe_9 : decode b_M_wipe 9 = .ok (.iconst (-1), 1) := by decide +kernel
theorem d_M_wipe_10 : decode b_M_wipe 10 = .ok (.ireturn, 1) := by decide +kernel
theorem d_M_wipe_11 : decode b_M_wipe 11 = .ok (.aload_n 0, 1) := by decide +kernel
theorem d_M_wipe_12 : decode b_M_wipe 12 = .ok (.getfield 32, 3) := by decide +kernel
theorem d_M_wipe_15 : decode b_M_wipe 15 = .ok (.iload_n 1, 1) := by decide +kernel
theorem d_M_wipe_16 : decode b_M_wipe 16 = .ok (.bipush 7, 2) := by decide +kernel
theorem d_M_wipe_18 : decode b_M_wipe 18 = .ok (.imul, 1) := by decide +kernel
theorem d_M_wipe_19 : decode b_M_wipe 19 = .ok (.iload_n 2, 1) := by decide +kernel
theorem d_M_wipe_20 : decode b_M_wipe 20 = .ok (.iadd, 1) := by decide +kernel
theorem d_M_wipe_21 : decode b_M_wipe 21 = .ok (.iconst 0, 1) := by decide +kernel
theorem d_M_wipe_22 : decode b_M_wipe 22 = .ok (.bastore, 1) := by decide +kernel
theorem d_M_wipe_23 : decode b_M_wipe 23 = .ok (.iconst 0, 1) := by decide +kernel
theorem d_M_wipe_24 : decode b_M_wipe 24 = .ok (.ireturn, 1) := by decide +kernel
theorem d_M_share_0 : decode b_M_share 0 = .ok (.aload_n 0, 1) := by decide +kernel
theorem d_M_share_1 : decode b_M_share 1 = .ok (.iload_n 1, 1) := by decide +kernel
theorem d_M_share_2 : decode b_M_share 2 = .ok (.iload_n 2, 1) := by decide +kernel
theorem d_M_share_3 : decode b_M_share 3 = .ok (.invokevirtual 124, 3) := by decide +kernel
theorem d_M_share_6 : decode b_M_share 6 = .ok (.ifCond .ne 26, 3) := by decide +kernel
theorem d_M_share_9 : decode b_M_share 9 = .ok (.aload_n 0, 1) := by decide +kernel
theorem d_M_share_10 : decode b_M_share 10 = .ok (.getfield 32, 3) := by decide +kernel
theorem d_M_share_13 : decode b_M_share 13 = .ok (.iload_n 1, 1) := by decide +kernel
theorem d_M_share_14 : decode b_M_share 14 = .ok (.bipush 7, 2) := by decide +kernel
theorem d_M_share_16 : decode b_M_share 16 = .ok (.imul, 1) := by decide +kernel
theorem d_M_share_17 : decode b_M_share 17 = .ok (.iload_n 2, 1) := by decide +kernel
theorem d_M_share_18 : decode b_M_share 18 = .ok (.iadd, 1) := by decide +kernel
theorem d_M_share_19 : decode b_M_share 19 = .ok (.baload, 1) := by decide +kernel
theorem d_M_share_20 : decode b_M_share 20 = .ok (.ifCond .eq 12, 3) := by decide +kernel
theorem d_M_share_23 : decode b_M_share 23 = .ok (.iload_n 3, 1) := by decide +kernel
theorem d_M_share_24 : decode b_M_share 24 = .ok (.ifCond .lt 8, 3) := by decide +kernel
theorem d_M_share_27 : decode b_M_share 27 = .ok (.iload_n 3, 1) := by decide +kernel
theorem d_M_share_28 : decode b_M_share 28 = .ok (.iconst 2, 1) := by decide +kernel
theorem d_M_share_29 : decode b_M_share 29 = .ok (.if_icmp .le 7, 3) := by decide +kernel
theorem d_M_share_32 : decode b_M_share 32 = .ok (.ldc2_w 119, 3) := by decide +kernel
theorem d_M_share_35 : decode b_M_share 35 = .ok (.lreturn, 1) := by decide +kernel
theorem d_M_share_36 : decode b_M_share 36 = .ok (.aload_n 0, 1) := by decide +kernel
theorem d_M_share_37 : decode b_M_share 37 = .ok (.getfield 29, 3) := by decide +kernel
theorem d_M_share_40 : decode b_M_share 40 = .ok (.iload_n 1, 1) := by decide +kernel
theorem d_M_share_41 : decode b_M_share 41 = .ok (.bipush 70, 2) := by decide +kernel
theorem d_M_share_43 : decode b_M_share 43 = .ok (.imul, 1) := by decide +kernel
theorem d_M_share_44 : decode b_M_share 44 = .ok (.iload_n 2, 1) := by decide +kernel
theorem d_M_share_45 : decode b_M_share 45 = .ok (.bipush 10, 2) := by decide +kernel
theorem d_M_share_47 : decode b_M_share 47 = .ok (.imul, 1) := by decide +kernel
theorem d_M_share_48 : decode b_M_share 48 = .ok (.iadd, 1) := by decide +kernel
theorem d_M_share_49 : decode b_M_share 49 = .ok (.iload_n 3, 1) := by decide +kernel
theorem d_M_share_50 : decode b_M_share 50 = .ok (.iadd, 1) := by decide +kernel
theorem d_M_share_51 : decode b_M_share 51 = .ok (.iaload, 1) := by decide +kernel
theorem d_M_share_52 : decode b_M_share 52 = .ok (.i2l, 1) := by decide +kernel
theorem d_M_share_53 : decode b_M_share 53 = .ok (.lreturn, 1) := by decide +kernel
theorem d_M_times_0 : decode b_M_times 0 = .ok (.iload_n 1, 1) := by decide +kernel
theorem d_M_times_1 : decode b_M_times 1 = .ok (.ifCond .lt 21, 3) := by decide +kernel
theorem d_M_times_4 : decode b_M_times 4 = .ok (.iload_n 1, 1) := by decide +kernel
theorem d_M_times_5 : decode b_M_times 5 = .ok (.sipush 255, 3) := by decide +kernel
theorem d_M_times_8 : decode b_M_times 8 = .ok (.if_icmp .gt 14, 3) := by decide +kernel
theorem d_M_times_11 : decode b_M_times 11 = .ok (.iload_n 2, 1) := by decide +kernel
theorem d_M_times_12 : decode b_M_times 12 = .ok (.ifCond .lt 10, 3) := by decide +kernel
theorem d_M_times_15 : decode b_M_times 15 = .ok (.iload_n 2, 1) := by decide +kernel
theorem d_M_times_16 : decode b_M_times 16 = .ok (.sipush 255, 3) := by decide +kernel
theorem d_M_times_19 : decode b_M_times 19 = .ok (.if_icmp .le 7, 3) := by decide +kernel
theorem d_M_times_22 : decode b_M_times 22 = .ok (.iconst (-1), 1) := by decide +kernel
theorem d_M_times_23 : decode b_M_times 23 = .ok (.goto 9, 3) := by decide +kernel
theorem d_M_times_26 : decode b_M_times 26 = .ok (.aload_n 0, 1) := by decide +kernel
theorem d_M_times_27 : decode b_M_times 27 = .ok (.iload_n 1, 1) := by decide +kernel
theorem d_M_times_28 : decode b_M_times 28 = .ok (.iload_n 2, 1) := by decide +kernel
theorem d_M_times_29 : decode b_M_times 29 = .ok (.invokevirtual 73, 3) := by decide +kernel
theorem d_M_times_32 : decode b_M_times 32 = .ok (.ireturn, 1) := by decide +kernel
theorem d_M_count_0 : decode b_M_count 0 = .ok (.iload_n 1, 1) := by decide +kernel
theorem d_M_count_1 : decode b_M_count 1 = .ok (.ifCond .ne 8, 3) := by decide +kernel
theorem d_M_count_4 : decode b_M_count 4 = .ok (.aload_n 0, 1) := by decide +kernel
theorem d_M_count_5 : decode b_M_count 5 = .ok (.getfield 63, 3) := by decide +kernel
theorem d_M_count_8 : decode b_M_count 8 = .ok (.ireturn, 1) := by decide +kernel
theorem d_M_count_9 : decode b_M_count 9 = .ok (.iload_n 1, 1) := by decide +kernel
theorem d_M_count_10 : decode b_M_count 10 = .ok (.iconst 1, 1) := by decide +kernel
theorem d_M_count_11 : decode b_M_count 11 = .ok (.if_icmp .ne 8, 3) := by decide +kernel
theorem d_M_count_14 : decode b_M_count 14 = .ok (.aload_n 0, 1) := by decide +kernel
theorem d_M_count_15 : decode b_M_count 15 = .ok (.invokevirtual 82, 3) := by decide +kernel
theorem d_M_count_18 : decode b_M_count 18 = .ok (.ireturn, 1) := by decide +kernel
theorem d_M_count_19 : decode b_M_count 19 = .ok (.iload_n 1, 1) := by decide +kernel
theorem d_M_count_20 : decode b_M_count 20 = .ok (.iconst 2, 1) := by decide +kernel
theorem d_M_count_21 : decode b_M_count 21 = .ok (.if_icmp .ne 8, 3) := by decide +kernel
theorem d_M_count_24 : decode b_M_count 24 = .ok (.aload_n 0, 1) := by decide +kernel
theorem d_M_count_25 : decode b_M_count 25 = .ok (.getfield 50, 3) := by decide +kernel
theorem d_M_count_28 : decode b_M_count 28 = .ok (.ireturn, 1) := by decide +kernel
theorem d_M_count_29 : decode b_M_count 29 = .ok (.iload_n 1, 1) := by decide +kernel
theorem d_M_count_30 : decode b_M_count 30 = .ok (.iconst 3, 1) := by decide +kernel
theorem d_M_count_31 : decode b_M_count 31 = .ok (.if_icmp .ne 8, 3) := by decide +kernel
theorem d_M_count_34 : decode b_M_count 34 = .ok (.aload_n 0, 1) := by decide +kernel
theorem d_M_count_35 : decode b_M_count 35 = .ok (.getfield 54, 3) := by decide +kernel
theorem d_M_count_38 : decode b_M_count 38 = .ok (.ireturn, 1) := by decide +kernel
theorem d_M_count_39 : decode b_M_count 39 = .ok (.iload_n 1, 1) := by decide +kernel
theorem d_M_count_40 : decode b_M_count 40 = .ok (.bipush 10, 2) := by decide +kernel
theorem d_M_count_42 : decode b_M_count 42 = .ok (.if_icmp .lt 26, 3) := by decide +kernel
theorem d_M_count_45 : decode b_M_count 45 = .ok (.iload_n 1, 1) := by decide +kernel
theorem d_M_count_46 : decode b_M_count 46 = .ok (.bipush 10, 2) := by decide +kernel
theorem d_M_count_48 : decode b_M_count 48 = .ok (.aload_n 0, 1) := by decide +kernel
theorem d_M_count_49 : decode b_M_count 49 = .ok (.getfield 63, 3) := by decide +kernel
theorem d_M_count_52 : decode b_M_count 52 = .ok (.iadd, 1) := by decide +kernel
theorem d_M_count_53 : decode b_M_count 53 = .ok (.if_icmp .ge 15, 3) := by decide +kernel
theorem d_M_count_56 : decode b_M_count 56 = .ok (.aload_n 0, 1) := by decide +kernel
theorem d_M_count_57 : decode b_M_count 57 = .ok (.getfield 20, 3) := by decide +kernel
theorem d_M_count_60 : decode b_M_count 60 = .ok (.iload_n 1, 1) := by decide +kernel
theorem d_M_count_61 : decode b_M_count 61 = .ok (.bipush 10, 2) := by decide +kernel
theorem d_M_count_63 : decode b_M_count 63 = .ok (.isub, 1) := by decide +kernel
theorem d_M_count_64 : decode b_M_count 64 = .ok (.iaload, 1) := by decide +kernel
theorem d_M_count_65 : decode b_M_count 65 = .ok (.goto 4, 3) := by decide +kernel
theorem d_M_count_68 : decode b_M_count 68 = .ok (.iconst (-1), 1) := by decide +kernel
theorem d_M_count_69 : decode b_M_count 69 = .ok (.ireturn, 1) := by decide +kernel
end
section
theorem d_L_cell_0 : decode b_L_cell 0 = .ok (.iload_n 1, 1) := by decide +kernel
theorem d_L_cell_1 : decode b_L_cell 1 = .ok (.aload_n 0, 1) := by decide +kernel
theorem d_L_cell_2 : decode b_L_cell 2 = .ok (.arraylength, 1) := by decide +kernel
theorem d_L_cell_3 : decode b_L_cell 3 = .ok (.if_icmp .ge 9, 3) := by decide +kernel
theorem d_L_cell_6 : decode b_L_cell 6 = .ok (.aload_n 0, 1) := by decide +kernel
theorem d_L_cell_7 : decode b_L_cell 7 = .ok (.iload_n 1, 1) := by decide +kernel
theorem d_L_cell_8 : decode b_L_cell 8 = .ok (.iaload, 1) := by decide +kernel
theorem d_L_cell_9 : decode b_L_cell 9 = .ok (.goto 4, 3) := by decide +kernel
theorem d_L_cell_12 : decode b_L_cell 12 = .ok (.iconst 0, 1) := by decide +kernel
theorem d_L_cell_13 : decode b_L_cell 13 = .ok (.ireturn, 1) := by decide +kernel
theorem d_L_law_0 : decode code 0 = .ok (.new 7, 3) := by decide +kernel
theorem d_L_law_3 : decode code 3 = .ok (.dup, 1) := by decide +kernel
theorem d_L_law_4 : decode code 4 = .ok (.aload_n 0, 1) := by decide +kernel
theorem d_L_law_5 : decode code 5 = .ok (.iconst 0, 1) := by decide +kernel
theorem d_L_law_6 : decode code 6 = .ok (.invokestatic 9, 3) := by decide +kernel
theorem d_L_law_9 : decode code 9 = .ok (.aload_n 0, 1) := by decide +kernel
theorem d_L_law_10 : decode code 10 = .ok (.iconst 1, 1) := by decide +kernel
theorem d_L_law_11 : decode code 11 = .ok (.invokestatic 9, 3) := by decide +kernel
theorem d_L_law_14 : decode code 14 = .ok (.invokespecial 15, 3) := by decide +kernel
theorem d_L_law_17 : decode code 17 = .ok (.astore_n 1, 1) := by decide +kernel
theorem d_L_law_18 : decode code 18 = .ok (.new 18, 3) := by decide +kernel
theorem d_L_law_21 : decode code 21 = .ok (.dup, 1) := by decide +kernel
theorem d_L_law_22 : decode code 22 = .ok (.aload_n 0, 1) := by decide +kernel
theorem d_L_law_23 : decode code 23 = .ok (.iconst 0, 1) := by decide +kernel
theorem d_L_law_24 : decode code 24 = .ok (.invokestatic 9, 3) := by decide +kernel
theorem d_L_law_27 : decode code 27 = .ok (.aload_n 0, 1) := by decide +kernel
theorem d_L_law_28 : decode code 28 = .ok (.iconst 1, 1) := by decide +kernel
theorem d_L_law_29 : decode code 29 = .ok (.invokestatic 9, 3) := by decide +kernel
theorem d_L_law_32 : decode code 32 = .ok (.invokespecial 20, 3) := by decide +kernel
theorem d_L_law_35 : decode code 35 = .ok (.astore_n 2, 1) := by decide +kernel
theorem d_L_law_36 : decode code 36 = .ok (.iconst 2, 1) := by decide +kernel
theorem d_L_law_37 : decode code 37 = .ok (.istore_n 3, 1) := by decide +kernel
theorem d_L_law_38 : decode code 38 = .ok (.iload_n 3, 1) := by decide +kernel
theorem d_L_law_39 : decode code 39 = .ok (.aload_n 0, 1) := by decide +kernel
theorem d_L_law_40 : decode code 40 = .ok (.arraylength, 1) := by decide +kernel
theorem d_L_law_41 : decode code 41 = .ok (.iconst 5, 1) := by decide +kernel
theorem d_L_law_42 : decode code 42 = .ok (.isub, 1) := by decide +kernel
theorem d_L_law_43 : decode code 43 = .ok (.if_icmp .gt 654, 3) := by decide +kernel
theorem d_L_law_46 : decode code 46 = .ok (.aload_n 0, 1) := by decide +kernel
theorem d_L_law_47 : decode code 47 = .ok (.iload_n 3, 1) := by decide +kernel
theorem d_L_law_48 : decode code 48 = .ok (.iaload, 1) := by decide +kernel
theorem d_L_law_49 : decode code 49 = .ok (.bipush 31, 2) := by decide +kernel
theorem d_L_law_51 : decode code 51 = .ok (.iand, 1) := by decide +kernel
theorem d_L_law_52 : decode code 52 = .ok (.tableswitch 639 0 16 #[84, 117, 140, 173, 196, 219, 243, 266, 289, 312, 387, 440, 473, 506, 539, 583, 616], 84) := by decide +kernel
theorem d_L_law_136 : decode code 136 = .ok (.aload_n 1, 1) := by decide +kernel
theorem d_L_law_137 : decode code 137 = .ok (.aload_n 0, 1) := by decide +kernel
theorem d_L_law_138 : decode code 138 = .ok (.iload_n 3, 1) := by decide +kernel
theorem d_L_law_139 : decode code 139 = .ok (.iconst 1, 1) := by decide +kernel
theorem d_L_law_140 : decode code 140 = .ok (.iadd, 1) := by decide +kernel
theorem d_L_law_141 : decode code 141 = .ok (.iaload, 1) := by decide +kernel
theorem d_L_law_142 : decode code 142 = .ok (.aload_n 0, 1) := by decide +kernel
theorem d_L_law_143 : decode code 143 = .ok (.iload_n 3, 1) := by decide +kernel
theorem d_L_law_144 : decode code 144 = .ok (.iconst 2, 1) := by decide +kernel
theorem d_L_law_145 : decode code 145 = .ok (.iadd, 1) := by decide +kernel
theorem d_L_law_146 : decode code 146 = .ok (.iaload, 1) := by decide +kernel
theorem d_L_law_147 : decode code 147 = .ok (.invokevirtual 21, 3) := by decide +kernel
theorem d_L_law_150 : decode code 150 = .ok (.aload_n 2, 1) := by decide +kernel
theorem d_L_law_151 : decode code 151 = .ok (.aload_n 0, 1) := by decide +kernel
theorem d_L_law_152 : decode code 152 = .ok (.iload_n 3, 1) := by decide +kernel
theorem d_L_law_153 : decode code 153 = .ok (.iconst 1, 1) := by decide +kernel
theorem d_L_law_154 : decode code 154 = .ok (.iadd, 1) := by decide +kernel
theorem d_L_law_155 : decode code 155 = .ok (.iaload, 1) := by decide +kernel
theorem d_L_law_156 : decode code 156 = .ok (.aload_n 0, 1) := by decide +kernel
theorem d_L_law_157 : decode code 157 = .ok (.iload_n 3, 1) := by decide +kernel
theorem d_L_law_158 : decode code 158 = .ok (.iconst 2, 1) := by decide +kernel
theorem d_L_law_159 : decode code 159 = .ok (.iadd, 1) := by decide +kernel
theorem d_L_law_160 : decode code 160 = .ok (.iaload, 1) := by decide +kernel
theorem d_L_law_161 : decode code 161 = .ok (.invokevirtual 25, 3) := by decide +kernel
theorem d_L_law_164 : decode code 164 = .ok (.if_icmp .eq 527, 3) := by decide +kernel
theorem d_L_law_167 : decode code 167 = .ok (.iconst 0, 1) := by decide +kernel
theorem d_L_law_168 : decode code 168 = .ok (.ireturn, 1) := by decide +kernel
theorem d_L_law_169 : decode code 169 = .ok (.aload_n 1, 1) := by decide +kernel
theorem d_L_law_170 : decode code 170 = .ok (.aload_n 0, 1) := by decide +kernel
theorem d_L_law_171 : decode code 171 = .ok (.iload_n 3, 1) := by decide +kernel
theorem d_L_law_172 : decode code 172 = .ok (.iconst 1, 1) := by decide +kernel
theorem d_L_law_173 : decode code 173 = .ok (.iadd, 1) := by decide +kernel
theorem d_L_law_174 : decode code 174 = .ok (.iaload, 1) := by decide +kernel
theorem d_L_law_175 : decode code 175 = .ok (.invokevirtual 26, 3) := by decide +kernel
theorem d_L_law_178 : decode code 178 = .ok (.aload_n 2, 1) := by decide +kernel
theorem d_L_law_179 : decode code 179 = .ok (.aload_n 0, 1) := by decide +kernel
theorem d_L_law_180 : decode code 180 = .ok (.iload_n 3, 1) := by decide +kernel
theorem d_L_law_181 : decode code 181 = .ok (.iconst 1, 1) := by decide +kernel
theorem d_L_law_182 : decode code 182 = .ok (.iadd, 1) := by decide +kernel
theorem d_L_law_183 : decode code 183 = .ok (.iaload, 1) := by decide +kernel
theorem d_L_law_184 : decode code 184 = .ok (.invokevirtual 30, 3) := by decide +kernel
theorem d_L_law_187 : decode code 187 = .ok (.if_icmp .eq 504, 3) := by decide +kernel
theorem d_L_law_190 : decode code 190 = .ok (.iconst 0, 1) := by decide +kernel
theorem d_L_law_191 : decode code 191 = .ok (.ireturn, 1) := by decide +kernel
theorem d_L_law_192 : decode code 192 = .ok (.aload_n 1, 1) := by decide +kernel
theorem d_L_law_193 : decode code 193 = .ok (.aload_n 0, 1) := by decide +kernel
theorem d_L_law_194 : decode code 194 = .ok (.iload_n 3, 1) := by decide +kernel
theorem d_L_law_195 : decode code 195 = .ok (.iconst 1, 1) := by decide +kernel
theorem d_L_law_196 : decode code 196 = .ok (.iadd, 1) := by decide +kernel
theorem d_L_law_197 : decode code 197 = .ok (.iaload, 1) := by decide +kernel
theorem d_L_law_198 : decode code 198 = .ok (.aload_n 0, 1) := by decide +kernel
theorem d_L_law_199 : decode code 199 = .ok (.iload_n 3, 1) := by decide +kernel
theorem d_L_law_200 : decode code 200 = .ok (.iconst 2, 1) := by decide +kernel
theorem d_L_law_201 : decode code 201 = .ok (.iadd, 1) := by decide +kernel
theorem d_L_law_202 : decode code 202 = .ok (.iaload, 1) := by decide +kernel
theorem d_L_law_203 : decode code 203 = .ok (.invokevirtual 31, 3) := by decide +kernel
theorem d_L_law_206 : decode code 206 = .ok (.aload_n 2, 1) := by decide +kernel
theorem d_L_law_207 : decode code 207 = .ok (.aload_n 0, 1) := by decide +kernel
theorem d_L_law_208 : decode code 208 = .ok (.iload_n 3, 1) := by decide +kernel
theorem d_L_law_209 : decode code 209 = .ok (.iconst 1, 1) := by decide +kernel
theorem d_L_law_210 : decode code 210 = .ok (.iadd, 1) := by decide +kernel
theorem d_L_law_211 : decode code 211 = .ok (.iaload, 1) := by decide +kernel
theorem d_L_law_212 : decode code 212 = .ok (.aload_n 0, 1) := by decide +kernel
theorem d_L_law_213 : decode code 213 = .ok (.iload_n 3, 1) := by decide +kernel
theorem d_L_law_214 : decode code 214 = .ok (.iconst 2, 1) := by decide +kernel
theorem d_L_law_215 : decode code 215 = .ok (.iadd, 1) := by decide +kernel
theorem d_L_law_216 : decode code 216 = .ok (.iaload, 1) := by decide +kernel
theorem d_L_law_217 : decode code 217 = .ok (.invokevirtual 34, 3) := by decide +kernel
theorem d_L_law_220 : decode code 220 = .ok (.if_icmp .eq 471, 3) := by decide +kernel
theorem d_L_law_223 : decode code 223 = .ok (.iconst 0, 1) := by decide +kernel
theorem d_L_law_224 : decode code 224 = .ok (.ireturn, 1) := by decide +kernel
theorem d_L_law_225 : decode code 225 = .ok (.aload_n 1, 1) := by decide +kernel
theorem d_L_law_226 : decode code 226 = .ok (.aload_n 0, 1) := by decide +kernel
theorem d_L_law_227 : decode code 227 = .ok (.iload_n 3, 1) := by decide +kernel
theorem d_L_law_228 : decode code 228 = .ok (.iconst 1, 1) := by decide +kernel
theorem d_L_law_229 : decode code 229 = .ok (.iadd, 1) := by decide +kernel
theorem d_L_law_230 : decode code 230 = .ok (.iaload, 1) := by decide +kernel
theorem d_L_law_231 : decode code 231 = .ok (.invokevirtual 35, 3) := by decide +kernel
theorem d_L_law_234 : decode code 234 = .ok (.aload_n 2, 1) := by decide +kernel
theorem d_L_law_235 : decode code 235 = .ok (.aload_n 0, 1) := by decide +kernel
theorem d_L_law_236 : decode code 236 = .ok (.iload_n 3, 1) := by decide +kernel
theorem d_L_law_237 : decode code 237 = .ok (.iconst 1, 1) := by decide +kernel
theorem d_L_law_238 : decode code 238 = .ok (.iadd, 1) := by decide +kernel
theorem d_L_law_239 : decode code 239 = .ok (.iaload, 1) := by decide +kernel
theorem d_L_law_240 : decode code 240 = .ok (.invokevirtual 38, 3) := by decide +kernel
theorem d_L_law_243 : decode code 243 = .ok (.if_icmp .eq 448, 3) := by decide +kernel
theorem d_L_law_246 : decode code 246 = .ok (.iconst 0, 1) := by decide +kernel
theorem d_L_law_247 : decode code 247 = .ok (.ireturn, 1) := by decide +kernel
theorem d_L_law_248 : decode code 248 = .ok (.aload_n 1, 1) := by decide +kernel
theorem d_L_law_249 : decode code 249 = .ok (.aload_n 0, 1) := by decide +kernel
theorem d_L_law_250 : decode code 250 = .ok (.iload_n 3, 1) := by decide +kernel
theorem d_L_law_251 : decode code 251 = .ok (.iconst 1, 1) := by decide +kernel
theorem d_L_law_252 : decode code 252 = .ok (.iadd, 1) := by decide +kernel
theorem d_L_law_253 : decode code 253 = .ok (.iaload, 1) := by decide +kernel
theorem d_L_law_254 : decode code 254 = .ok (.invokevirtual 39, 3) := by decide +kernel
theorem d_L_law_257 : decode code 257 = .ok (.aload_n 2, 1) := by decide +kernel
theorem d_L_law_258 : decode code 258 = .ok (.aload_n 0, 1) := by decide +kernel
theorem d_L_law_259 : decode code 259 = .ok (.iload_n 3, 1) := by decide +kernel
theorem d_L_law_260 : decode code 260 = .ok (.iconst 1, 1) := by decide +kernel
theorem d_L_law_261 : decode code 261 = .ok (.iadd, 1) := by decide +kernel
theorem d_L_law_262 : decode code 262 = .ok (.iaload, 1) := by decide +kernel
theorem d_L_law_263 : decode code 263 = .ok (.invokevirtual 42, 3) := by decide +kernel
theorem d_L_law_266 : decode code 266 = .ok (.if_icmp .eq 425, 3) := by decide +kernel
theorem d_L_law_269 : decode code 269 = .ok (.iconst 0, 1) := by decide +kernel
theorem d_L_law_270 : decode code 270 = .ok (.ireturn, 1) := by decide +kernel
theorem d_L_law_271 : decode code 271 = .ok (.aload_n 1, 1) := by decide +kernel
theorem d_L_law_272 : decode code 272 = .ok (.aload_n 0, 1) := by decide +kernel
theorem d_L_law_273 : decode code 273 = .ok (.iload_n 3, 1) := by decide +kernel
theorem d_L_law_274 : decode code 274 = .ok (.iconst 1, 1) := by decide +kernel
theorem d_L_law_275 : decode code 275 = .ok (.iadd, 1) := by decide +kernel
theorem d_L_law_276 : decode code 276 = .ok (.iaload, 1) := by decide +kernel
theorem d_L_law_277 : decode code 277 = .ok (.invokevirtual 43, 3) := by decide +kernel
theorem d_L_law_280 : decode code 280 = .ok (.aload_n 2, 1) := by decide +kernel
theorem d_L_law_281 : decode code 281 = .ok (.aload_n 0, 1) := by decide +kernel
theorem d_L_law_282 : decode code 282 = .ok (.iload_n 3, 1) := by decide +kernel
theorem d_L_law_283 : decode code 283 = .ok (.iconst 1, 1) := by decide +kernel
theorem d_L_law_284 : decode code 284 = .ok (.iadd, 1) := by decide +kernel
theorem d_L_law_285 : decode code 285 = .ok (.iaload, 1) := by decide +kernel
theorem d_L_law_286 : decode code 286 = .ok (.invokevirtual 47, 3) := by decide +kernel
theorem d_L_law_289 : decode code 289 = .ok (.lcmp, 1) := by decide +kernel
theorem d_L_law_290 : decode code 290 = .ok (.ifCond .eq 401, 3) := by decide +kernel
theorem d_L_law_293 : decode code 293 = .ok (.iconst 0, 1) := by decide +kernel
theorem d_L_law_294 : decode code 294 = .ok (.ireturn, 1) := by decide +kernel
theorem d_L_law_295 : decode code 295 = .ok (.aload_n 1, 1) := by decide +kernel
theorem d_L_law_296 : decode code 296 = .ok (.aload_n 0, 1) := by decide +kernel
theorem d_L_law_297 : decode code 297 = .ok (.iload_n 3, 1) := by decide +kernel
theorem d_L_law_298 : decode code 298 = .ok (.iconst 1, 1) := by decide +kernel
theorem d_L_law_299 : decode code 299 = .ok (.iadd, 1) := by decide +kernel
theorem d_L_law_300 : decode code 300 = .ok (.iaload, 1) := by decide +kernel
theorem d_L_law_301 : decode code 301 = .ok (.invokevirtual 48, 3) := by decide +kernel
theorem d_L_law_304 : decode code 304 = .ok (.aload_n 2, 1) := by decide +kernel
theorem d_L_law_305 : decode code 305 = .ok (.aload_n 0, 1) := by decide +kernel
theorem d_L_law_306 : decode code 306 = .ok (.iload_n 3, 1) := by decide +kernel
theorem d_L_law_307 : decode code 307 = .ok (.iconst 1, 1) := by decide +kernel
theorem d_L_law_308 : decode code 308 = .ok (.iadd, 1) := by decide +kernel
theorem d_L_law_309 : decode code 309 = .ok (.iaload, 1) := by decide +kernel
theorem d_L_law_310 : decode code 310 = .ok (.invokevirtual 51, 3) := by decide +kernel
theorem d_L_law_313 : decode code 313 = .ok (.if_icmp .eq 378, 3) := by decide +kernel
theorem d_L_law_316 : decode code 316 = .ok (.iconst 0, 1) := by decide +kernel
theorem d_L_law_317 : decode code 317 = .ok (.ireturn, 1) := by decide +kernel
theorem d_L_law_318 : decode code 318 = .ok (.aload_n 1, 1) := by decide +kernel
theorem d_L_law_319 : decode code 319 = .ok (.aload_n 0, 1) := by decide +kernel
theorem d_L_law_320 : decode code 320 = .ok (.iload_n 3, 1) := by decide +kernel
theorem d_L_law_321 : decode code 321 = .ok (.iconst 1, 1) := by decide +kernel
theorem d_L_law_322 : decode code 322 = .ok (.iadd, 1) := by decide +kernel
theorem d_L_law_323 : decode code 323 = .ok (.iaload, 1) := by decide +kernel
theorem d_L_law_324 : decode code 324 = .ok (.invokevirtual 52, 3) := by decide +kernel
theorem d_L_law_327 : decode code 327 = .ok (.aload_n 2, 1) := by decide +kernel
theorem d_L_law_328 : decode code 328 = .ok (.aload_n 0, 1) := by decide +kernel
theorem d_L_law_329 : decode code 329 = .ok (.iload_n 3, 1) := by decide +kernel
theorem d_L_law_330 : decode code 330 = .ok (.iconst 1, 1) := by decide +kernel
theorem d_L_law_331 : decode code 331 = .ok (.iadd, 1) := by decide +kernel
theorem d_L_law_332 : decode code 332 = .ok (.iaload, 1) := by decide +kernel
theorem d_L_law_333 : decode code 333 = .ok (.invokevirtual 55, 3) := by decide +kernel
theorem d_L_law_336 : decode code 336 = .ok (.if_icmp .eq 355, 3) := by decide +kernel
theorem d_L_law_339 : decode code 339 = .ok (.iconst 0, 1) := by decide +kernel
theorem d_L_law_340 : decode code 340 = .ok (.ireturn, 1) := by decide +kernel
theorem d_L_law_341 : decode code 341 = .ok (.aload_n 1, 1) := by decide +kernel
theorem d_L_law_342 : decode code 342 = .ok (.aload_n 0, 1) := by decide +kernel
theorem d_L_law_343 : decode code 343 = .ok (.iload_n 3, 1) := by decide +kernel
theorem d_L_law_344 : decode code 344 = .ok (.iconst 1, 1) := by decide +kernel
theorem d_L_law_345 : decode code 345 = .ok (.iadd, 1) := by decide +kernel
theorem d_L_law_346 : decode code 346 = .ok (.iaload, 1) := by decide +kernel
theorem d_L_law_347 : decode code 347 = .ok (.invokevirtual 56, 3) := by decide +kernel
theorem d_L_law_350 : decode code 350 = .ok (.aload_n 2, 1) := by decide +kernel
theorem d_L_law_351 : decode code 351 = .ok (.aload_n 0, 1) := by decide +kernel
theorem d_L_law_352 : decode code 352 = .ok (.iload_n 3, 1) := by decide +kernel
theorem d_L_law_353 : decode code 353 = .ok (.iconst 1, 1) := by decide +kernel
theorem d_L_law_354 : decode code 354 = .ok (.iadd, 1) := by decide +kernel
theorem d_L_law_355 : decode code 355 = .ok (.iaload, 1) := by decide +kernel
theorem d_L_law_356 : decode code 356 = .ok (.invokevirtual 59, 3) := by decide +kernel
theorem d_L_law_359 : decode code 359 = .ok (.if_icmp .eq 332, 3) := by decide +kernel
theorem d_L_law_362 : decode code 362 = .ok (.iconst 0, 1) := by decide +kernel
theorem d_L_law_363 : decode code 363 = .ok (.ireturn, 1) := by decide +kernel
theorem d_L_law_364 : decode code 364 = .ok (.aload_n 1, 1) := by decide +kernel
theorem d_L_law_365 : decode code 365 = .ok (.aload_n 0, 1) := by decide +kernel
theorem d_L_law_366 : decode code 366 = .ok (.iload_n 3, 1) := by decide +kernel
theorem d_L_law_367 : decode code 367 = .ok (.iconst 1, 1) := by decide +kernel
theorem d_L_law_368 : decode code 368 = .ok (.iadd, 1) := by decide +kernel
theorem d_L_law_369 : decode code 369 = .ok (.iaload, 1) := by decide +kernel
theorem d_L_law_370 : decode code 370 = .ok (.aload_n 0, 1) := by decide +kernel
theorem d_L_law_371 : decode code 371 = .ok (.iload_n 3, 1) := by decide +kernel
theorem d_L_law_372 : decode code 372 = .ok (.iconst 2, 1) := by decide +kernel
theorem d_L_law_373 : decode code 373 = .ok (.iadd, 1) := by decide +kernel
theorem d_L_law_374 : decode code 374 = .ok (.iaload, 1) := by decide +kernel
theorem d_L_law_375 : decode code 375 = .ok (.ifCond .eq 7, 3) := by decide +kernel
theorem d_L_law_378 : decode code 378 = .ok (.iconst 1, 1) := by decide +kernel
theorem d_L_law_379 : decode code 379 = .ok (.goto 4, 3) := by decide +kernel
theorem d_L_law_382 : decode code 382 = .ok (.iconst 0, 1) := by decide +kernel
theorem d_L_law_383 : decode code 383 = .ok (.aload_n 0, 1) := by decide +kernel
theorem d_L_law_384 : decode code 384 = .ok (.iload_n 3, 1) := by decide +kernel
theorem d_L_law_385 : decode code 385 = .ok (.iconst 3, 1) := by decide +kernel
theorem d_L_law_386 : decode code 386 = .ok (.iadd, 1) := by decide +kernel
theorem d_L_law_387 : decode code 387 = .ok (.iaload, 1) := by decide +kernel
theorem d_L_law_388 : decode code 388 = .ok (.ifCond .eq 7, 3) := by decide +kernel
theorem d_L_law_391 : decode code 391 = .ok (.iconst 1, 1) := by decide +kernel
theorem d_L_law_392 : decode code 392 = .ok (.goto 4, 3) := by decide +kernel
theorem d_L_law_395 : decode code 395 = .ok (.iconst 0, 1) := by decide +kernel
theorem d_L_law_396 : decode code 396 = .ok (.invokevirtual 60, 3) := by decide +kernel
theorem d_L_law_399 : decode code 399 = .ok (.aload_n 2, 1) := by decide +kernel
theorem d_L_law_400 : decode code 400 = .ok (.aload_n 0, 1) := by decide +kernel
theorem d_L_law_401 : decode code 401 = .ok (.iload_n 3, 1) := by decide +kernel
theorem d_L_law_402 : decode code 402 = .ok (.iconst 1, 1) := by decide +kernel
theorem d_L_law_403 : decode code 403 = .ok (.iadd, 1) := by decide +kernel
theorem d_L_law_404 : decode code 404 = .ok (.iaload, 1) := by decide +kernel
theorem d_L_law_405 : decode code 405 = .ok (.aload_n 0, 1) := by decide +kernel
theorem d_L_law_406 : decode code 406 = .ok (.iload_n 3, 1) := by decide +kernel
theorem d_L_law_407 : decode code 407 = .ok (.iconst 2, 1) := by decide +kernel
theorem d_L_law_408 : decode code 408 = .ok (.iadd, 1) := by decide +kernel
theorem d_L_law_409 : decode code 409 = .ok (.iaload, 1) := by decide +kernel
theorem d_L_law_410 : decode code 410 = .ok (.ifCond .eq 7, 3) := by decide +kernel
theorem d_L_law_413 : decode code 413 = .ok (.iconst 1, 1) := by decide +kernel
theorem d_L_law_414 : decode code 414 = .ok (.goto 4, 3) := by decide +kernel
theorem d_L_law_417 : decode code 417 = .ok (.iconst 0, 1) := by decide +kernel
theorem d_L_law_418 : decode code 418 = .ok (.aload_n 0, 1) := by decide +kernel
theorem d_L_law_419 : decode code 419 = .ok (.iload_n 3, 1) := by decide +kernel
theorem d_L_law_420 : decode code 420 = .ok (.iconst 3, 1) := by decide +kernel
theorem d_L_law_421 : decode code 421 = .ok (.iadd, 1) := by decide +kernel
theorem d_L_law_422 : decode code 422 = .ok (.iaload, 1) := by decide +kernel
theorem d_L_law_423 : decode code 423 = .ok (.ifCond .eq 7, 3) := by decide +kernel
theorem d_L_law_426 : decode code 426 = .ok (.iconst 1, 1) := by decide +kernel
theorem d_L_law_427 : decode code 427 = .ok (.goto 4, 3) := by decide +kernel
theorem d_L_law_430 : decode code 430 = .ok (.iconst 0, 1) := by decide +kernel
theorem d_L_law_431 : decode code 431 = .ok (.invokevirtual 64, 3) := by decide +kernel
theorem d_L_law_434 : decode code 434 = .ok (.if_icmp .eq 257, 3) := by decide +kernel
theorem d_L_law_437 : decode code 437 = .ok (.iconst 0, 1) := by decide +kernel
theorem d_L_law_438 : decode code 438 = .ok (.ireturn, 1) := by decide +kernel
theorem d_L_law_439 : decode code 439 = .ok (.aload_n 1, 1) := by decide +kernel
theorem d_L_law_440 : decode code 440 = .ok (.aload_n 0, 1) := by decide +kernel
theorem d_L_law_441 : decode code 441 = .ok (.iload_n 3, 1) := by decide +kernel
theorem d_L_law_442 : decode code 442 = .ok (.iconst 1, 1) := by decide +kernel
theorem d_L_law_443 : decode code 443 = .ok (.iadd, 1) := by decide +kernel
theorem d_L_law_444 : decode code 444 = .ok (.iaload, 1) := by decide +kernel
theorem d_L_law_445 : decode code 445 = .ok (.aload_n 0, 1) := by decide +kernel
theorem d_L_law_446 : decode code 446 = .ok (.iload_n 3, 1) := by decide +kernel
theorem d_L_law_447 : decode code 447 = .ok (.iconst 2, 1) := by decide +kernel
theorem d_L_law_448 : decode code 448 = .ok (.iadd, 1) := by decide +kernel
theorem d_L_law_449 : decode code 449 = .ok (.iaload, 1) := by decide +kernel
theorem d_L_law_450 : decode code 450 = .ok (.aload_n 0, 1) := by decide +kernel
theorem d_L_law_451 : decode code 451 = .ok (.iload_n 3, 1) := by decide +kernel
theorem d_L_law_452 : decode code 452 = .ok (.iconst 3, 1) := by decide +kernel
theorem d_L_law_453 : decode code 453 = .ok (.iadd, 1) := by decide +kernel
theorem d_L_law_454 : decode code 454 = .ok (.iaload, 1) := by decide +kernel
theorem d_L_law_455 : decode code 455 = .ok (.aload_n 0, 1) := by decide +kernel
theorem d_L_law_456 : decode code 456 = .ok (.iload_n 3, 1) := by decide +kernel
theorem d_L_law_457 : decode code 457 = .ok (.iconst 4, 1) := by decide +kernel
theorem d_L_law_458 : decode code 458 = .ok (.iadd, 1) := by decide +kernel
theorem d_L_law_459 : decode code 459 = .ok (.iaload, 1) := by decide +kernel
theorem d_L_law_460 : decode code 460 = .ok (.invokevirtual 65, 3) := by decide +kernel
theorem d_L_law_463 : decode code 463 = .ok (.aload_n 2, 1) := by decide +kernel
theorem d_L_law_464 : decode code 464 = .ok (.aload_n 0, 1) := by decide +kernel
theorem d_L_law_465 : decode code 465 = .ok (.iload_n 3, 1) := by decide +kernel
theorem d_L_law_466 : decode code 466 = .ok (.iconst 1, 1) := by decide +kernel
theorem d_L_law_467 : decode code 467 = .ok (.iadd, 1) := by decide +kernel
theorem d_L_law_468 : decode code 468 = .ok (.iaload, 1) := by decide +kernel
theorem d_L_law_469 : decode code 469 = .ok (.aload_n 0, 1) := by decide +kernel
theorem d_L_law_470 : decode code 470 = .ok (.iload_n 3, 1) := by decide +kernel
theorem d_L_law_471 : decode code 471 = .ok (.iconst 2, 1) := by decide +kernel
theorem d_L_law_472 : decode code 472 = .ok (.iadd, 1) := by decide +kernel
theorem d_L_law_473 : decode code 473 = .ok (.iaload, 1) := by decide +kernel
theorem d_L_law_474 : decode code 474 = .ok (.aload_n 0, 1) := by decide +kernel
theorem d_L_law_475 : decode code 475 = .ok (.iload_n 3, 1) := by decide +kernel
theorem d_L_law_476 : decode code 476 = .ok (.iconst 3, 1) := by decide +kernel
theorem d_L_law_477 : decode code 477 = .ok (.iadd, 1) := by decide +kernel
theorem d_L_law_478 : decode code 478 = .ok (.iaload, 1) := by decide +kernel
theorem d_L_law_479 : decode code 479 = .ok (.aload_n 0, 1) := by decide +kernel
theorem d_L_law_480 : decode code 480 = .ok (.iload_n 3, 1) := by decide +kernel
theorem d_L_law_481 : decode code 481 = .ok (.iconst 4, 1) := by decide +kernel
theorem d_L_law_482 : decode code 482 = .ok (.iadd, 1) := by decide +kernel
theorem d_L_law_483 : decode code 483 = .ok (.iaload, 1) := by decide +kernel
theorem d_L_law_484 : decode code 484 = .ok (.invokevirtual 69, 3) := by decide +kernel
theorem d_L_law_487 : decode code 487 = .ok (.if_icmp .eq 204, 3) := by decide +kernel
theorem d_L_law_490 : decode code 490 = .ok (.iconst 0, 1) := by decide +kernel
theorem d_L_law_491 : decode code 491 = .ok (.ireturn, 1) := by decide +kernel
theorem d_L_law_492 : decode code 492 = .ok (.aload_n 1, 1) := by decide +kernel
theorem d_L_law_493 : decode code 493 = .ok (.aload_n 0, 1) := by decide +kernel
theorem d_L_law_494 : decode code 494 = .ok (.iload_n 3, 1) := by decide +kernel
theorem d_L_law_495 : decode code 495 = .ok (.iconst 1, 1) := by decide +kernel
theorem d_L_law_496 : decode code 496 = .ok (.iadd, 1) := by decide +kernel
theorem d_L_law_497 : decode code 497 = .ok (.iaload, 1) := by decide +kernel
theorem d_L_law_498 : decode code 498 = .ok (.aload_n 0, 1) := by decide +kernel
theorem d_L_law_499 : decode code 499 = .ok (.iload_n 3, 1) := by decide +kernel
theorem d_L_law_500 : decode code 500 = .ok (.iconst 2, 1) := by decide +kernel
theorem d_L_law_501 : decode code 501 = .ok (.iadd, 1) := by decide +kernel
theorem d_L_law_502 : decode code 502 = .ok (.iaload, 1) := by decide +kernel
theorem d_L_law_503 : decode code 503 = .ok (.invokevirtual 70, 3) := by decide +kernel
theorem d_L_law_506 : decode code 506 = .ok (.aload_n 2, 1) := by decide +kernel
theorem d_L_law_507 : decode code 507 = .ok (.aload_n 0, 1) := by decide +kernel
theorem d_L_law_508 : decode code 508 = .ok (.iload_n 3, 1) := by decide +kernel
theorem d_L_law_509 : decode code 509 = .ok (.iconst 1, 1) := by decide +kernel
theorem d_L_law_510 : decode code 510 = .ok (.iadd, 1) := by decide +kernel
theorem d_L_law_511 : decode code 511 = .ok (.iaload, 1) := by decide +kernel
theorem d_L_law_512 : decode code 512 = .ok (.aload_n 0, 1) := by decide +kernel
theorem d_L_law_513 : decode code 513 = .ok (.iload_n 3, 1) := by decide +kernel
theorem d_L_law_514 : decode code 514 = .ok (.iconst 2, 1) := by decide +kernel
theorem d_L_law_515 : decode code 515 = .ok (.iadd, 1) := by decide +kernel
theorem d_L_law_516 : decode code 516 = .ok (.iaload, 1) := by decide +kernel
theorem d_L_law_517 : decode code 517 = .ok (.invokevirtual 73, 3) := by decide +kernel
theorem d_L_law_520 : decode code 520 = .ok (.if_icmp .eq 171, 3) := by decide +kernel
theorem d_L_law_523 : decode code 523 = .ok (.iconst 0, 1) := by decide +kernel
theorem d_L_law_524 : decode code 524 = .ok (.ireturn, 1) := by decide +kernel
theorem d_L_law_525 : decode code 525 = .ok (.aload_n 1, 1) := by decide +kernel
theorem d_L_law_526 : decode code 526 = .ok (.aload_n 0, 1) := by decide +kernel
theorem d_L_law_527 : decode code 527 = .ok (.iload_n 3, 1) := by decide +kernel
theorem d_L_law_528 : decode code 528 = .ok (.iconst 1, 1) := by decide +kernel
theorem d_L_law_529 : decode code 529 = .ok (.iadd, 1) := by decide +kernel
theorem d_L_law_530 : decode code 530 = .ok (.iaload, 1) := by decide +kernel
theorem d_L_law_531 : decode code 531 = .ok (.aload_n 0, 1) := by decide +kernel
theorem d_L_law_532 : decode code 532 = .ok (.iload_n 3, 1) := by decide +kernel
theorem d_L_law_533 : decode code 533 = .ok (.iconst 2, 1) := by decide +kernel
theorem d_L_law_534 : decode code 534 = .ok (.iadd, 1) := by decide +kernel
theorem d_L_law_535 : decode code 535 = .ok (.iaload, 1) := by decide +kernel
theorem d_L_law_536 : decode code 536 = .ok (.invokevirtual 74, 3) := by decide +kernel
theorem d_L_law_539 : decode code 539 = .ok (.aload_n 2, 1) := by decide +kernel
theorem d_L_law_540 : decode code 540 = .ok (.aload_n 0, 1) := by decide +kernel
theorem d_L_law_541 : decode code 541 = .ok (.iload_n 3, 1) := by decide +kernel
theorem d_L_law_542 : decode code 542 = .ok (.iconst 1, 1) := by decide +kernel
theorem d_L_law_543 : decode code 543 = .ok (.iadd, 1) := by decide +kernel
theorem d_L_law_544 : decode code 544 = .ok (.iaload, 1) := by decide +kernel
theorem d_L_law_545 : decode code 545 = .ok (.aload_n 0, 1) := by decide +kernel
theorem d_L_law_546 : decode code 546 = .ok (.iload_n 3, 1) := by decide +kernel
theorem d_L_law_547 : decode code 547 = .ok (.iconst 2, 1) := by decide +kernel
theorem d_L_law_548 : decode code 548 = .ok (.iadd, 1) := by decide +kernel
theorem d_L_law_549 : decode code 549 = .ok (.iaload, 1) := by decide +kernel
theorem d_L_law_550 : decode code 550 = .ok (.invokevirtual 77, 3) := by decide +kernel
theorem d_L_law_553 : decode code 553 = .ok (.if_icmp .eq 138, 3) := by decide +kernel
theorem d_L_law_556 : decode code 556 = .ok (.iconst 0, 1) := by decide +kernel
theorem d_L_law_557 : decode code 557 = .ok (.ireturn, 1) := by decide +kernel
theorem d_L_law_558 : decode code 558 = .ok (.aload_n 1, 1) := by decide +kernel
theorem d_L_law_559 : decode code 559 = .ok (.aload_n 0, 1) := by decide +kernel
theorem d_L_law_560 : decode code 560 = .ok (.iload_n 3, 1) := by decide +kernel
theorem d_L_law_561 : decode code 561 = .ok (.iconst 1, 1) := by decide +kernel
theorem d_L_law_562 : decode code 562 = .ok (.iadd, 1) := by decide +kernel
theorem d_L_law_563 : decode code 563 = .ok (.iaload, 1) := by decide +kernel
theorem d_L_law_564 : decode code 564 = .ok (.aload_n 0, 1) := by decide +kernel
theorem d_L_law_565 : decode code 565 = .ok (.iload_n 3, 1) := by decide +kernel
theorem d_L_law_566 : decode code 566 = .ok (.iconst 2, 1) := by decide +kernel
theorem d_L_law_567 : decode code 567 = .ok (.iadd, 1) := by decide +kernel
theorem d_L_law_568 : decode code 568 = .ok (.iaload, 1) := by decide +kernel
theorem d_L_law_569 : decode code 569 = .ok (.invokevirtual 78, 3) := by decide +kernel
theorem d_L_law_572 : decode code 572 = .ok (.aload_n 2, 1) := by decide +kernel
theorem d_L_law_573 : decode code 573 = .ok (.aload_n 0, 1) := by decide +kernel
theorem d_L_law_574 : decode code 574 = .ok (.iload_n 3, 1) := by decide +kernel
theorem d_L_law_575 : decode code 575 = .ok (.iconst 1, 1) := by decide +kernel
theorem d_L_law_576 : decode code 576 = .ok (.iadd, 1) := by decide +kernel
theorem d_L_law_577 : decode code 577 = .ok (.iaload, 1) := by decide +kernel
theorem d_L_law_578 : decode code 578 = .ok (.aload_n 0, 1) := by decide +kernel
theorem d_L_law_579 : decode code 579 = .ok (.iload_n 3, 1) := by decide +kernel
theorem d_L_law_580 : decode code 580 = .ok (.iconst 2, 1) := by decide +kernel
theorem d_L_law_581 : decode code 581 = .ok (.iadd, 1) := by decide +kernel
theorem d_L_law_582 : decode code 582 = .ok (.iaload, 1) := by decide +kernel
theorem d_L_law_583 : decode code 583 = .ok (.invokevirtual 81, 3) := by decide +kernel
theorem d_L_law_586 : decode code 586 = .ok (.if_icmp .eq 105, 3) := by decide +kernel
theorem d_L_law_589 : decode code 589 = .ok (.iconst 0, 1) := by decide +kernel
theorem d_L_law_590 : decode code 590 = .ok (.ireturn, 1) := by decide +kernel
theorem d_L_law_591 : decode code 591 = .ok (.aload_n 1, 1) := by decide +kernel
theorem d_L_law_592 : decode code 592 = .ok (.aload_n 0, 1) := by decide +kernel
theorem d_L_law_593 : decode code 593 = .ok (.iload_n 3, 1) := by decide +kernel
theorem d_L_law_594 : decode code 594 = .ok (.iconst 1, 1) := by decide +kernel
theorem d_L_law_595 : decode code 595 = .ok (.iadd, 1) := by decide +kernel
theorem d_L_law_596 : decode code 596 = .ok (.iaload, 1) := by decide +kernel
theorem d_L_law_597 : decode code 597 = .ok (.aload_n 0, 1) := by decide +kernel
theorem d_L_law_598 : decode code 598 = .ok (.iload_n 3, 1) := by decide +kernel
theorem d_L_law_599 : decode code 599 = .ok (.iconst 2, 1) := by decide +kernel
theorem d_L_law_600 : decode code 600 = .ok (.iadd, 1) := by decide +kernel
theorem d_L_law_601 : decode code 601 = .ok (.iaload, 1) := by decide +kernel
theorem d_L_law_602 : decode code 602 = .ok (.aload_n 0, 1) := by decide +kernel
theorem d_L_law_603 : decode code 603 = .ok (.iload_n 3, 1) := by decide +kernel
theorem d_L_law_604 : decode code 604 = .ok (.iconst 3, 1) := by decide +kernel
theorem d_L_law_605 : decode code 605 = .ok (.iadd, 1) := by decide +kernel
theorem d_L_law_606 : decode code 606 = .ok (.iaload, 1) := by decide +kernel
theorem d_L_law_607 : decode code 607 = .ok (.invokevirtual 82, 3) := by decide +kernel
theorem d_L_law_610 : decode code 610 = .ok (.aload_n 2, 1) := by decide +kernel
theorem d_L_law_611 : decode code 611 = .ok (.aload_n 0, 1) := by decide +kernel
theorem d_L_law_612 : decode code 612 = .ok (.iload_n 3, 1) := by decide +kernel
theorem d_L_law_613 : decode code 613 = .ok (.iconst 1, 1) := by decide +kernel
theorem d_L_law_614 : decode code 614 = .ok (.iadd, 1) := by decide +kernel
theorem d_L_law_615 : decode code 615 = .ok (.iaload, 1) := by decide +kernel
theorem d_L_law_616 : decode code 616 = .ok (.aload_n 0, 1) := by decide +kernel
theorem d_L_law_617 : decode code 617 = .ok (.iload_n 3, 1) := by decide +kernel
theorem d_L_law_618 : decode code 618 = .ok (.iconst 2, 1) := by decide +kernel
theorem d_L_law_619 : decode code 619 = .ok (.iadd, 1) := by decide +kernel
theorem d_L_law_620 : decode code 620 = .ok (.iaload, 1) := by decide +kernel
theorem d_L_law_621 : decode code 621 = .ok (.aload_n 0, 1) := by decide +kernel
theorem d_L_law_622 : decode code 622 = .ok (.iload_n 3, 1) := by decide +kernel
theorem d_L_law_623 : decode code 623 = .ok (.iconst 3, 1) := by decide +kernel
theorem d_L_law_624 : decode code 624 = .ok (.iadd, 1) := by decide +kernel
theorem d_L_law_625 : decode code 625 = .ok (.iaload, 1) := by decide +kernel
theorem d_L_law_626 : decode code 626 = .ok (.invokevirtual 86, 3) := by decide +kernel
theorem d_L_law_629 : decode code 629 = .ok (.lcmp, 1) := by decide +kernel
theorem d_L_law_630 : decode code 630 = .ok (.ifCond .eq 61, 3) := by decide +kernel
theorem d_L_law_633 : decode code 633 = .ok (.iconst 0, 1) := by decide +kernel
theorem d_L_law_634 : decode code 634 = .ok (.ireturn, 1) := by decide +kernel
theorem d_L_law_635 : decode code 635 = .ok (.aload_n 1, 1) := by decide +kernel
theorem d_L_law_636 : decode code 636 = .ok (.aload_n 0, 1) := by decide +kernel
theorem d_L_law_637 : decode code 637 = .ok (.iload_n 3, 1) := by decide +kernel
theorem d_L_law_638 : decode code 638 = .ok (.iconst 1, 1) := by decide +kernel
theorem d_L_law_639 : decode code 639 = .ok (.iadd, 1) := by decide +kernel
theorem d_L_law_640 : decode code 640 = .ok (.iaload, 1) := by decide +kernel
theorem d_L_law_641 : decode code 641 = .ok (.aload_n 0, 1) := by decide +kernel
theorem d_L_law_642 : decode code 642 = .ok (.iload_n 3, 1) := by decide +kernel
theorem d_L_law_643 : decode code 643 = .ok (.iconst 2, 1) := by decide +kernel
theorem d_L_law_644 : decode code 644 = .ok (.iadd, 1) := by decide +kernel
theorem d_L_law_645 : decode code 645 = .ok (.iaload, 1) := by decide +kernel
theorem d_L_law_646 : decode code 646 = .ok (.invokevirtual 87, 3) := by decide +kernel
theorem d_L_law_649 : decode code 649 = .ok (.aload_n 2, 1) := by decide +kernel
theorem d_L_law_650 : decode code 650 = .ok (.aload_n 0, 1) := by decide +kernel
theorem d_L_law_651 : decode code 651 = .ok (.iload_n 3, 1) := by decide +kernel
theorem d_L_law_652 : decode code 652 = .ok (.iconst 1, 1) := by decide +kernel
theorem d_L_law_653 : decode code 653 = .ok (.iadd, 1) := by decide +kernel
theorem d_L_law_654 : decode code 654 = .ok (.iaload, 1) := by decide +kernel
theorem d_L_law_655 : decode code 655 = .ok (.aload_n 0, 1) := by decide +kernel
theorem d_L_law_656 : decode code 656 = .ok (.iload_n 3, 1) := by decide +kernel
theorem d_L_law_657 : decode code 657 = .ok (.iconst 2, 1) := by decide +kernel
theorem d_L_law_658 : decode code 658 = .ok (.iadd, 1) := by decide +kernel
theorem d_L_law_659 : decode code 659 = .ok (.iaload, 1) := by decide +kernel
theorem d_L_law_660 : decode code 660 = .ok (.invokevirtual 90, 3) := by decide +kernel
theorem d_L_law_663 : decode code 663 = .ok (.if_icmp .eq 28, 3) := by decide +kernel
theorem d_L_law_666 : decode code 666 = .ok (.iconst 0, 1) := by decide +kernel
theorem d_L_law_667 : decode code 667 = .ok (.ireturn, 1) := by decide +kernel
theorem d_L_law_668 : decode code 668 = .ok (.aload_n 1, 1) := by decide +kernel
theorem d_L_law_669 : decode code 669 = .ok (.aload_n 0, 1) := by decide +kernel
theorem d_L_law_670 : decode code 670 = .ok (.iload_n 3, 1) := by decide +kernel
theorem d_L_law_671 : decode code 671 = .ok (.iconst 1, 1) := by decide +kernel
theorem d_L_law_672 : decode code 672 = .ok (.iadd, 1) := by decide +kernel
theorem d_L_law_673 : decode code 673 = .ok (.iaload, 1) := by decide +kernel
theorem d_L_law_674 : decode code 674 = .ok (.invokevirtual 91, 3) := by decide +kernel
theorem d_L_law_677 : decode code 677 = .ok (.aload_n 2, 1) := by decide +kernel
theorem d_L_law_678 : decode code 678 = .ok (.aload_n 0, 1) := by decide +kernel
theorem d_L_law_679 : decode code 679 = .ok (.iload_n 3, 1) := by decide +kernel
theorem d_L_law_680 : decode code 680 = .ok (.iconst 1, 1) := by decide +kernel
theorem d_L_law_681 : decode code 681 = .ok (.iadd, 1) := by decide +kernel
theorem d_L_law_682 : decode code 682 = .ok (.iaload, 1) := by decide +kernel
theorem d_L_law_683 : decode code 683 = .ok (.invokevirtual 94, 3) := by decide +kernel
theorem d_L_law_686 : decode code 686 = .ok (.if_icmp .eq 5, 3) := by decide +kernel
theorem d_L_law_689 : decode code 689 = .ok (.iconst 0, 1) := by decide +kernel
theorem d_L_law_690 : decode code 690 = .ok (.ireturn, 1) := by decide +kernel
theorem d_L_law_691 : decode code 691 = .ok (.iinc 3 5, 3) := by decide +kernel
theorem d_L_law_694 : decode code 694 = .ok (.goto (-656), 3) := by decide +kernel
theorem d_L_law_697 : decode code 697 = .ok (.iconst 1, 1) := by decide +kernel
theorem d_L_law_698 : decode code 698 = .ok (.ireturn, 1) := by decide +kernel
end
section
def gw : List Cond := lw_tbl.filter goodWord
theorem gw_good : ∀ w ∈ gw, (w.onTables && w.keeps) = true ∨ ∃ ty, w = .arrayClass ty := fun w h => good_of_word (List.mem_filter.mp h).2
theorem gi {c : Cond} (h : c ∈ gw) : GoodIn gw (c :: gw) := fun w hw => by
  rcases List.mem_cons.mp hw with rfl | hw
  · exact ⟨h, gw_good _ h⟩
  · exact ⟨hw, gw_good _ hw⟩
theorem s_0 : Cond.selects "ShareGrid" ⟨"ShareGrid", "fileUnder", "(I)I"⟩ ⟨"ShareGrid", "fileUnder", "(I)I"⟩ ∈ gw := List.mem_filter.mpr ⟨List.mem_of_getElem? (i := 0) (by decide +kernel), by decide +kernel⟩
theorem s_1 : Cond.selects "ShareGrid" ⟨"ShareGrid", "isWordPlace", "(I)Z"⟩ ⟨"ShareGrid", "isWordPlace", "(I)Z"⟩ ∈ gw := List.mem_filter.mpr ⟨List.mem_of_getElem? (i := 1) (by decide +kernel), by decide +kernel⟩
theorem s_2 : Cond.selects "ShareGrid" ⟨"ShareGrid", "serversUp", "()I"⟩ ⟨"ShareGrid", "serversUp", "()I"⟩ ∈ gw := List.mem_filter.mpr ⟨List.mem_of_getElem? (i := 2) (by decide +kernel), by decide +kernel⟩
theorem s_3 : Cond.selects "ShareGrid" ⟨"ShareGrid", "makeFreshRecord", "(II)I"⟩ ⟨"ShareGrid", "makeFreshRecord", "(II)I"⟩ ∈ gw := List.mem_filter.mpr ⟨List.mem_of_getElem? (i := 3) (by decide +kernel), by decide +kernel⟩
theorem s_4 : Cond.selects "ShareGrid$Coder" ⟨"ShareGrid$Coder", "shareAt", "(I)I"⟩ ⟨"ShareGrid$Coder", "shareAt", "(I)I"⟩ ∈ gw := List.mem_filter.mpr ⟨List.mem_of_getElem? (i := 4) (by decide +kernel), by decide +kernel⟩
theorem s_5 : Cond.selects "ShareGrid$ServerRecord" ⟨"ShareGrid$ServerRecord", "rootOfFingerprints", "()I"⟩ ⟨"ShareGrid$ServerRecord", "rootOfFingerprints", "()I"⟩ ∈ gw := List.mem_filter.mpr ⟨List.mem_of_getElem? (i := 5) (by decide +kernel), by decide +kernel⟩
theorem s_6 : Cond.selects "ShareGrid$StoredFile" ⟨"ShareGrid$StoredFile", "noteNext", "(II)V"⟩ ⟨"ShareGrid$StoredFile", "noteNext", "(II)V"⟩ ∈ gw := List.mem_filter.mpr ⟨List.mem_of_getElem? (i := 6) (by decide +kernel), by decide +kernel⟩
theorem s_7 : Cond.selects "ShareGrid" ⟨"ShareGrid", "takesRecords", "(I)Z"⟩ ⟨"ShareGrid", "takesRecords", "(I)Z"⟩ ∈ gw := List.mem_filter.mpr ⟨List.mem_of_getElem? (i := 7) (by decide +kernel), by decide +kernel⟩
theorem s_8 : Cond.selects "ShareGrid" ⟨"ShareGrid", "giveFreshRecord", "(LShareGrid$StoredFile;I)V"⟩ ⟨"ShareGrid", "giveFreshRecord", "(LShareGrid$StoredFile;I)V"⟩ ∈ gw := List.mem_filter.mpr ⟨List.mem_of_getElem? (i := 8) (by decide +kernel), by decide +kernel⟩
theorem s_9 : Cond.selects "ShareGrid$ServerRecord" ⟨"ShareGrid$ServerRecord", "copyFrom", "(LShareGrid$ServerRecord;)V"⟩ ⟨"ShareGrid$ServerRecord", "copyFrom", "(LShareGrid$ServerRecord;)V"⟩ ∈ gw := List.mem_filter.mpr ⟨List.mem_of_getElem? (i := 9) (by decide +kernel), by decide +kernel⟩
theorem s_10 : Cond.selects "ShareGrid" ⟨"ShareGrid", "bestNumber", "(LShareGrid$StoredFile;)I"⟩ ⟨"ShareGrid", "bestNumber", "(LShareGrid$StoredFile;)I"⟩ ∈ gw := List.mem_filter.mpr ⟨List.mem_of_getElem? (i := 10) (by decide +kernel), by decide +kernel⟩
theorem s_11 : Cond.selects "ShareGrid$StoredFile" ⟨"ShareGrid$StoredFile", "isSoundAt", "(I)Z"⟩ ⟨"ShareGrid$StoredFile", "isSoundAt", "(I)Z"⟩ ∈ gw := List.mem_filter.mpr ⟨List.mem_of_getElem? (i := 11) (by decide +kernel), by decide +kernel⟩
theorem s_12 : Cond.selects "ShareGrid" ⟨"ShareGrid", "decodeVersion", "(LShareGrid$StoredFile;I)I"⟩ ⟨"ShareGrid", "decodeVersion", "(LShareGrid$StoredFile;I)I"⟩ ∈ gw := List.mem_filter.mpr ⟨List.mem_of_getElem? (i := 12) (by decide +kernel), by decide +kernel⟩
theorem s_13 : Cond.selects "ShareGrid$StoredFile" ⟨"ShareGrid$StoredFile", "isSoundWith", "(II)Z"⟩ ⟨"ShareGrid$StoredFile", "isSoundWith", "(II)Z"⟩ ∈ gw := List.mem_filter.mpr ⟨List.mem_of_getElem? (i := 13) (by decide +kernel), by decide +kernel⟩
theorem s_14 : Cond.selects "ShareGrid$Coder" ⟨"ShareGrid$Coder", "decodeShares", "()V"⟩ ⟨"ShareGrid$Coder", "decodeShares", "()V"⟩ ∈ gw := List.mem_filter.mpr ⟨List.mem_of_getElem? (i := 14) (by decide +kernel), by decide +kernel⟩
theorem s_15 : Cond.selects "ShareGrid$Coder" ⟨"ShareGrid$Coder", "sharesToDifferences", "()V"⟩ ⟨"ShareGrid$Coder", "sharesToDifferences", "()V"⟩ ∈ gw := List.mem_filter.mpr ⟨List.mem_of_getElem? (i := 15) (by decide +kernel), by decide +kernel⟩
theorem s_16 : Cond.selects "ShareGrid$Coder" ⟨"ShareGrid$Coder", "differencesToCipherWords", "()V"⟩ ⟨"ShareGrid$Coder", "differencesToCipherWords", "()V"⟩ ∈ gw := List.mem_filter.mpr ⟨List.mem_of_getElem? (i := 16) (by decide +kernel), by decide +kernel⟩
theorem s_17 : Cond.selects "ShareGrid" ⟨"ShareGrid", "isPlace", "(I)Z"⟩ ⟨"ShareGrid", "isPlace", "(I)Z"⟩ ∈ gw := List.mem_filter.mpr ⟨List.mem_of_getElem? (i := 17) (by decide +kernel), by decide +kernel⟩
theorem s_18 : Cond.selects "ShareGrid" ⟨"ShareGrid", "isFile", "(I)Z"⟩ ⟨"ShareGrid", "isFile", "(I)Z"⟩ ∈ gw := List.mem_filter.mpr ⟨List.mem_of_getElem? (i := 18) (by decide +kernel), by decide +kernel⟩
theorem s_19 : Cond.selects "ShareGrid" ⟨"ShareGrid", "greatestNumber", "(I)I"⟩ ⟨"ShareGrid", "greatestNumber", "(I)I"⟩ ∈ gw := List.mem_filter.mpr ⟨List.mem_of_getElem? (i := 19) (by decide +kernel), by decide +kernel⟩
theorem s_20 : Cond.selects "ShareGridModel" ⟨"ShareGridModel", "mix", "(II)I"⟩ ⟨"ShareGridModel", "mix", "(II)I"⟩ ∈ gw := List.mem_filter.mpr ⟨List.mem_of_getElem? (i := 20) (by decide +kernel), by decide +kernel⟩
theorem s_21 : Cond.selects "ShareGridModel" ⟨"ShareGridModel", "fileOf", "(I)I"⟩ ⟨"ShareGridModel", "fileOf", "(I)I"⟩ ∈ gw := List.mem_filter.mpr ⟨List.mem_of_getElem? (i := 21) (by decide +kernel), by decide +kernel⟩
theorem s_22 : Cond.selects "ShareGridModel" ⟨"ShareGridModel", "upCount", "()I"⟩ ⟨"ShareGridModel", "upCount", "()I"⟩ ∈ gw := List.mem_filter.mpr ⟨List.mem_of_getElem? (i := 22) (by decide +kernel), by decide +kernel⟩
theorem s_23 : Cond.selects "ShareGridModel" ⟨"ShareGridModel", "shareAt", "(I)I"⟩ ⟨"ShareGridModel", "shareAt", "(I)I"⟩ ∈ gw := List.mem_filter.mpr ⟨List.mem_of_getElem? (i := 23) (by decide +kernel), by decide +kernel⟩
theorem s_24 : Cond.selects "ShareGridModel" ⟨"ShareGridModel", "power", "(II)I"⟩ ⟨"ShareGridModel", "power", "(II)I"⟩ ∈ gw := List.mem_filter.mpr ⟨List.mem_of_getElem? (i := 24) (by decide +kernel), by decide +kernel⟩
theorem s_25 : Cond.selects "ShareGridModel" ⟨"ShareGridModel", "product", "(II)I"⟩ ⟨"ShareGridModel", "product", "(II)I"⟩ ∈ gw := List.mem_filter.mpr ⟨List.mem_of_getElem? (i := 25) (by decide +kernel), by decide +kernel⟩
theorem s_26 : Cond.selects "ShareGridModel" ⟨"ShareGridModel", "scaled", "(II)I"⟩ ⟨"ShareGridModel", "scaled", "(II)I"⟩ ∈ gw := List.mem_filter.mpr ⟨List.mem_of_getElem? (i := 26) (by decide +kernel), by decide +kernel⟩
theorem s_27 : Cond.selects "ShareGridModel" ⟨"ShareGridModel", "keep", "(IIII)V"⟩ ⟨"ShareGridModel", "keep", "(IIII)V"⟩ ∈ gw := List.mem_filter.mpr ⟨List.mem_of_getElem? (i := 27) (by decide +kernel), by decide +kernel⟩
theorem s_28 : Cond.selects "ShareGridModel" ⟨"ShareGridModel", "bestOf", "(I)I"⟩ ⟨"ShareGridModel", "bestOf", "(I)I"⟩ ∈ gw := List.mem_filter.mpr ⟨List.mem_of_getElem? (i := 28) (by decide +kernel), by decide +kernel⟩
theorem s_29 : Cond.selects "ShareGridModel" ⟨"ShareGridModel", "serves", "(III)Z"⟩ ⟨"ShareGridModel", "serves", "(III)Z"⟩ ∈ gw := List.mem_filter.mpr ⟨List.mem_of_getElem? (i := 29) (by decide +kernel), by decide +kernel⟩
theorem s_30 : Cond.selects "ShareGridModel" ⟨"ShareGridModel", "isSound", "(II)Z"⟩ ⟨"ShareGridModel", "isSound", "(II)Z"⟩ ∈ gw := List.mem_filter.mpr ⟨List.mem_of_getElem? (i := 30) (by decide +kernel), by decide +kernel⟩
theorem s_31 : Cond.selects "ShareGridModel" ⟨"ShareGridModel", "rootOf", "(II)I"⟩ ⟨"ShareGridModel", "rootOf", "(II)I"⟩ ∈ gw := List.mem_filter.mpr ⟨List.mem_of_getElem? (i := 31) (by decide +kernel), by decide +kernel⟩
theorem s_32 : Cond.selects "ShareGridModel" ⟨"ShareGridModel", "decode", "(II)V"⟩ ⟨"ShareGridModel", "decode", "(II)V"⟩ ∈ gw := List.mem_filter.mpr ⟨List.mem_of_getElem? (i := 32) (by decide +kernel), by decide +kernel⟩
theorem s_33 : Cond.selects "ShareGridModel" ⟨"ShareGridModel", "subtract", "(III)V"⟩ ⟨"ShareGridModel", "subtract", "(III)V"⟩ ∈ gw := List.mem_filter.mpr ⟨List.mem_of_getElem? (i := 33) (by decide +kernel), by decide +kernel⟩
theorem s_34 : Cond.selects "ShareGridModel" ⟨"ShareGridModel", "copyRow", "(II)V"⟩ ⟨"ShareGridModel", "copyRow", "(II)V"⟩ ∈ gw := List.mem_filter.mpr ⟨List.mem_of_getElem? (i := 34) (by decide +kernel), by decide +kernel⟩
theorem s_35 : Cond.selects "ShareGridModel" ⟨"ShareGridModel", "bad", "(II)Z"⟩ ⟨"ShareGridModel", "bad", "(II)Z"⟩ ∈ gw := List.mem_filter.mpr ⟨List.mem_of_getElem? (i := 35) (by decide +kernel), by decide +kernel⟩
theorem w_0 : Cond.initialized "ShareGridLaw" ∈ gw := List.mem_filter.mpr ⟨List.mem_of_getElem? (i := 36) (by decide +kernel), by decide +kernel⟩
theorem w_1 : Cond.initialized "ShareGrid" ∈ gw := List.mem_filter.mpr ⟨List.mem_of_getElem? (i := 37) (by decide +kernel), by decide +kernel⟩
theorem w_2 : Cond.initialized "java/lang/Math" ∈ gw := List.mem_filter.mpr ⟨List.mem_of_getElem? (i := 38) (by decide +kernel), by decide +kernel⟩
theorem w_3 : Cond.initialized "ShareGrid$StoredFile" ∈ gw := List.mem_filter.mpr ⟨List.mem_of_getElem? (i := 39) (by decide +kernel), by decide +kernel⟩
theorem w_4 : Cond.initialized "ShareGrid$ServerRecord" ∈ gw := List.mem_filter.mpr ⟨List.mem_of_getElem? (i := 40) (by decide +kernel), by decide +kernel⟩
theorem w_5 : Cond.initialized "ShareGrid$Coder" ∈ gw := List.mem_filter.mpr ⟨List.mem_of_getElem? (i := 41) (by decide +kernel), by decide +kernel⟩
theorem w_6 : Cond.initialized "ShareGridModel" ∈ gw := List.mem_filter.mpr ⟨List.mem_of_getElem? (i := 42) (by decide +kernel), by decide +kernel⟩
theorem w_7 : Cond.initialized "java/lang/System" ∈ gw := List.mem_filter.mpr ⟨List.mem_of_getElem? (i := 43) (by decide +kernel), by decide +kernel⟩
theorem w_8 : Cond.initialized "java/util/Arrays" ∈ gw := List.mem_filter.mpr ⟨List.mem_of_getElem? (i := 44) (by decide +kernel), by decide +kernel⟩
theorem w_9 : Cond.classLink "ShareGridLaw" 7 "ShareGrid" ∈ gw := List.mem_filter.mpr ⟨List.mem_of_getElem? (i := 45) (by decide +kernel), by decide +kernel⟩
theorem w_10 : Cond.instantiable "ShareGrid" 12 ∈ gw := List.mem_filter.mpr ⟨List.mem_of_getElem? (i := 46) (by decide +kernel), by decide +kernel⟩
theorem w_11 : Cond.methodLink "ShareGridLaw" 15 ⟨"ShareGrid", "<init>", "(II)V"⟩ ∈ gw := List.mem_filter.mpr ⟨List.mem_of_getElem? (i := 47) (by decide +kernel), by decide +kernel⟩
theorem w_12 : Cond.instanceMethod ⟨"ShareGrid", "<init>", "(II)V"⟩ ∈ gw := List.mem_filter.mpr ⟨List.mem_of_getElem? (i := 48) (by decide +kernel), by decide +kernel⟩
theorem w_13 : Cond.code ⟨"ShareGrid", "<init>", "(II)V"⟩ prog_1_method_1_code 4 none ∈ gw := List.mem_filter.mpr ⟨List.mem_of_getElem? (i := 49) (by decide +kernel), by decide +kernel⟩
theorem w_14 : Cond.methodLink "ShareGrid" 1 ⟨"java/lang/Object", "<init>", "()V"⟩ ∈ gw := List.mem_filter.mpr ⟨List.mem_of_getElem? (i := 50) (by decide +kernel), by decide +kernel⟩
theorem w_15 : Cond.instanceMethod ⟨"java/lang/Object", "<init>", "()V"⟩ ∈ gw := List.mem_filter.mpr ⟨List.mem_of_getElem? (i := 51) (by decide +kernel), by decide +kernel⟩
theorem w_16 : Cond.code ⟨"java/lang/Object", "<init>", "()V"⟩ object_method_1_code 1 none ∈ gw := List.mem_filter.mpr ⟨List.mem_of_getElem? (i := 52) (by decide +kernel), by decide +kernel⟩
theorem w_17 : Cond.methodLink "ShareGrid" 9 ⟨"ShareGrid", "clamped", "(III)I"⟩ ∈ gw := List.mem_filter.mpr ⟨List.mem_of_getElem? (i := 53) (by decide +kernel), by decide +kernel⟩
theorem w_18 : Cond.static ⟨"ShareGrid", "clamped", "(III)I"⟩ ∈ gw := List.mem_filter.mpr ⟨List.mem_of_getElem? (i := 54) (by decide +kernel), by decide +kernel⟩
theorem w_19 : Cond.code ⟨"ShareGrid", "clamped", "(III)I"⟩ prog_1_method_20_code 3 (some FieldType.int) ∈ gw := List.mem_filter.mpr ⟨List.mem_of_getElem? (i := 55) (by decide +kernel), by decide +kernel⟩
theorem w_20 : Cond.methodLink "ShareGrid" 170 ⟨"java/lang/Math", "min", "(II)I"⟩ ∈ gw := List.mem_filter.mpr ⟨List.mem_of_getElem? (i := 56) (by decide +kernel), by decide +kernel⟩
theorem w_21 : Cond.static ⟨"java/lang/Math", "min", "(II)I"⟩ ∈ gw := List.mem_filter.mpr ⟨List.mem_of_getElem? (i := 57) (by decide +kernel), by decide +kernel⟩
theorem w_22 : Cond.code ⟨"java/lang/Math", "min", "(II)I"⟩ prog_7_method_69_code 2 (some FieldType.int) ∈ gw := List.mem_filter.mpr ⟨List.mem_of_getElem? (i := 58) (by decide +kernel), by decide +kernel⟩
theorem w_23 : Cond.methodLink "ShareGrid" 175 ⟨"java/lang/Math", "max", "(II)I"⟩ ∈ gw := List.mem_filter.mpr ⟨List.mem_of_getElem? (i := 59) (by decide +kernel), by decide +kernel⟩
theorem w_24 : Cond.static ⟨"java/lang/Math", "max", "(II)I"⟩ ∈ gw := List.mem_filter.mpr ⟨List.mem_of_getElem? (i := 60) (by decide +kernel), by decide +kernel⟩
theorem w_25 : Cond.code ⟨"java/lang/Math", "max", "(II)I"⟩ prog_7_method_65_code 2 (some FieldType.int) ∈ gw := List.mem_filter.mpr ⟨List.mem_of_getElem? (i := 61) (by decide +kernel), by decide +kernel⟩
theorem w_26 : Cond.classLink "ShareGrid" 27 "ShareGrid$StoredFile" ∈ gw := List.mem_filter.mpr ⟨List.mem_of_getElem? (i := 62) (by decide +kernel), by decide +kernel⟩
theorem w_28 : Cond.instantiable "ShareGrid$StoredFile" 6 ∈ gw := List.mem_filter.mpr ⟨List.mem_of_getElem? (i := 64) (by decide +kernel), by decide +kernel⟩
theorem w_30 : Cond.instanceMethod ⟨"ShareGrid$StoredFile", "<init>", "(I)V"⟩ ∈ gw := List.mem_filter.mpr ⟨List.mem_of_getElem? (i := 66) (by decide +kernel), by decide +kernel⟩
theorem w_31 : Cond.code ⟨"ShareGrid$StoredFile", "<init>", "(I)V"⟩ prog_4_method_1_code 3 none ∈ gw := List.mem_filter.mpr ⟨List.mem_of_getElem? (i := 67) (by decide +kernel), by decide +kernel⟩
theorem w_32 : Cond.methodLink "ShareGrid$StoredFile" 3 ⟨"java/lang/Object", "<init>", "()V"⟩ ∈ gw := List.mem_filter.mpr ⟨List.mem_of_getElem? (i := 68) (by decide +kernel), by decide +kernel⟩
theorem w_33 : Cond.classLink "ShareGrid$StoredFile" 9 "ShareGrid$ServerRecord" ∈ gw := List.mem_filter.mpr ⟨List.mem_of_getElem? (i := 69) (by decide +kernel), by decide +kernel⟩
theorem w_35 : Cond.instantiable "ShareGrid$ServerRecord" 5 ∈ gw := List.mem_filter.mpr ⟨List.mem_of_getElem? (i := 71) (by decide +kernel), by decide +kernel⟩
theorem w_37 : Cond.instanceMethod ⟨"ShareGrid$ServerRecord", "<init>", "(I)V"⟩ ∈ gw := List.mem_filter.mpr ⟨List.mem_of_getElem? (i := 73) (by decide +kernel), by decide +kernel⟩
theorem w_38 : Cond.code ⟨"ShareGrid$ServerRecord", "<init>", "(I)V"⟩ prog_3_method_1_code 2 none ∈ gw := List.mem_filter.mpr ⟨List.mem_of_getElem? (i := 74) (by decide +kernel), by decide +kernel⟩
theorem w_39 : Cond.methodLink "ShareGrid$ServerRecord" 1 ⟨"java/lang/Object", "<init>", "()V"⟩ ∈ gw := List.mem_filter.mpr ⟨List.mem_of_getElem? (i := 75) (by decide +kernel), by decide +kernel⟩
theorem w_40 : Cond.fieldLink "ShareGrid$ServerRecord" 7 "ShareGrid$ServerRecord" "fingerprints" "[I" ∈ gw := List.mem_filter.mpr ⟨List.mem_of_getElem? (i := 76) (by decide +kernel), by decide +kernel⟩
theorem w_43 : Cond.fieldLink "ShareGrid$ServerRecord" 13 "ShareGrid$ServerRecord" "held" "Z" ∈ gw := List.mem_filter.mpr ⟨List.mem_of_getElem? (i := 79) (by decide +kernel), by decide +kernel⟩
theorem w_46 : Cond.fieldLink "ShareGrid$ServerRecord" 17 "ShareGrid$ServerRecord" "share" "I" ∈ gw := List.mem_filter.mpr ⟨List.mem_of_getElem? (i := 82) (by decide +kernel), by decide +kernel⟩
theorem w_49 : Cond.fieldLink "ShareGrid$ServerRecord" 21 "ShareGrid$ServerRecord" "number" "I" ∈ gw := List.mem_filter.mpr ⟨List.mem_of_getElem? (i := 85) (by decide +kernel), by decide +kernel⟩
theorem w_52 : Cond.fieldLink "ShareGrid$ServerRecord" 24 "ShareGrid$ServerRecord" "seal" "I" ∈ gw := List.mem_filter.mpr ⟨List.mem_of_getElem? (i := 88) (by decide +kernel), by decide +kernel⟩
theorem w_66 : Cond.arrayClass FieldType.boolean ∈ gw := List.mem_filter.mpr ⟨List.mem_of_getElem? (i := 102) (by decide +kernel), by decide +kernel⟩
theorem w_67 : Cond.arrayClass FieldType.int ∈ gw := List.mem_filter.mpr ⟨List.mem_of_getElem? (i := 103) (by decide +kernel), by decide +kernel⟩
theorem w_68 : Cond.fieldLink "ShareGrid$StoredFile" 11 "ShareGrid$StoredFile" "records" "[LShareGrid$ServerRecord;" ∈ gw := List.mem_filter.mpr ⟨List.mem_of_getElem? (i := 104) (by decide +kernel), by decide +kernel⟩
theorem w_70 : Cond.fieldLink "ShareGrid$StoredFile" 17 "ShareGrid$StoredFile" "pictures" "[LShareGrid$ServerRecord;" ∈ gw := List.mem_filter.mpr ⟨List.mem_of_getElem? (i := 106) (by decide +kernel), by decide +kernel⟩
theorem w_72 : Cond.fieldLink "ShareGrid$StoredFile" 23 "ShareGrid$StoredFile" "notedRoots" "[I" ∈ gw := List.mem_filter.mpr ⟨List.mem_of_getElem? (i := 108) (by decide +kernel), by decide +kernel⟩
theorem w_73 : Cond.fieldLink "ShareGrid$StoredFile" 27 "ShareGrid$StoredFile" "notedSeals" "[I" ∈ gw := List.mem_filter.mpr ⟨List.mem_of_getElem? (i := 109) (by decide +kernel), by decide +kernel⟩
theorem w_75 : Cond.fieldLink "ShareGrid$StoredFile" 30 "ShareGrid$StoredFile" "written" "I" ∈ gw := List.mem_filter.mpr ⟨List.mem_of_getElem? (i := 111) (by decide +kernel), by decide +kernel⟩
theorem w_90 : Cond.classLink "ShareGrid" 43 "ShareGrid$Coder" ∈ gw := List.mem_filter.mpr ⟨List.mem_of_getElem? (i := 126) (by decide +kernel), by decide +kernel⟩
theorem w_91 : Cond.instantiable "ShareGrid$Coder" 3 ∈ gw := List.mem_filter.mpr ⟨List.mem_of_getElem? (i := 127) (by decide +kernel), by decide +kernel⟩
theorem w_93 : Cond.instanceMethod ⟨"ShareGrid$Coder", "<init>", "(I)V"⟩ ∈ gw := List.mem_filter.mpr ⟨List.mem_of_getElem? (i := 129) (by decide +kernel), by decide +kernel⟩
theorem w_94 : Cond.code ⟨"ShareGrid$Coder", "<init>", "(I)V"⟩ prog_2_method_1_code 2 none ∈ gw := List.mem_filter.mpr ⟨List.mem_of_getElem? (i := 130) (by decide +kernel), by decide +kernel⟩
theorem w_95 : Cond.methodLink "ShareGrid$Coder" 1 ⟨"java/lang/Object", "<init>", "()V"⟩ ∈ gw := List.mem_filter.mpr ⟨List.mem_of_getElem? (i := 131) (by decide +kernel), by decide +kernel⟩
theorem w_96 : Cond.fieldLink "ShareGrid$Coder" 7 "ShareGrid$Coder" "needed" "I" ∈ gw := List.mem_filter.mpr ⟨List.mem_of_getElem? (i := 132) (by decide +kernel), by decide +kernel⟩
theorem w_97 : Cond.fieldLink "ShareGrid$Coder" 13 "ShareGrid$Coder" "cipherWords" "[I" ∈ gw := List.mem_filter.mpr ⟨List.mem_of_getElem? (i := 133) (by decide +kernel), by decide +kernel⟩
theorem w_99 : Cond.fieldLink "ShareGrid$Coder" 17 "ShareGrid$Coder" "points" "[I" ∈ gw := List.mem_filter.mpr ⟨List.mem_of_getElem? (i := 135) (by decide +kernel), by decide +kernel⟩
theorem w_108 : Cond.classLink "ShareGrid" 50 "ShareGrid$ServerRecord" ∈ gw := List.mem_filter.mpr ⟨List.mem_of_getElem? (i := 144) (by decide +kernel), by decide +kernel⟩
theorem w_110 : Cond.fieldLink "ShareGrid" 13 "ShareGrid" "needed" "I" ∈ gw := List.mem_filter.mpr ⟨List.mem_of_getElem? (i := 146) (by decide +kernel), by decide +kernel⟩
theorem w_111 : Cond.fieldLink "ShareGrid" 17 "ShareGrid" "servers" "I" ∈ gw := List.mem_filter.mpr ⟨List.mem_of_getElem? (i := 147) (by decide +kernel), by decide +kernel⟩
theorem w_112 : Cond.fieldLink "ShareGrid" 20 "ShareGrid" "up" "[Z" ∈ gw := List.mem_filter.mpr ⟨List.mem_of_getElem? (i := 148) (by decide +kernel), by decide +kernel⟩
theorem w_113 : Cond.fieldLink "ShareGrid" 24 "ShareGrid" "stuck" "[Z" ∈ gw := List.mem_filter.mpr ⟨List.mem_of_getElem? (i := 149) (by decide +kernel), by decide +kernel⟩
theorem w_114 : Cond.fieldLink "ShareGrid" 29 "ShareGrid" "files" "[LShareGrid$StoredFile;" ∈ gw := List.mem_filter.mpr ⟨List.mem_of_getElem? (i := 150) (by decide +kernel), by decide +kernel⟩
theorem w_115 : Cond.fieldLink "ShareGrid" 36 "ShareGrid" "draftWords" "[I" ∈ gw := List.mem_filter.mpr ⟨List.mem_of_getElem? (i := 151) (by decide +kernel), by decide +kernel⟩
theorem w_116 : Cond.fieldLink "ShareGrid" 40 "ShareGrid" "readWords" "[I" ∈ gw := List.mem_filter.mpr ⟨List.mem_of_getElem? (i := 152) (by decide +kernel), by decide +kernel⟩
theorem w_117 : Cond.fieldLink "ShareGrid" 46 "ShareGrid" "coder" "LShareGrid$Coder;" ∈ gw := List.mem_filter.mpr ⟨List.mem_of_getElem? (i := 153) (by decide +kernel), by decide +kernel⟩
theorem w_118 : Cond.fieldLink "ShareGrid" 53 "ShareGrid" "fresh" "LShareGrid$ServerRecord;" ∈ gw := List.mem_filter.mpr ⟨List.mem_of_getElem? (i := 154) (by decide +kernel), by decide +kernel⟩
theorem w_119 : Cond.fieldLink "ShareGrid" 57 "ShareGrid" "seenOfNumber" "[I" ∈ gw := List.mem_filter.mpr ⟨List.mem_of_getElem? (i := 155) (by decide +kernel), by decide +kernel⟩
theorem w_120 : Cond.fieldLink "ShareGrid" 60 "ShareGrid" "fileCount" "I" ∈ gw := List.mem_filter.mpr ⟨List.mem_of_getElem? (i := 156) (by decide +kernel), by decide +kernel⟩
theorem w_121 : Cond.fieldLink "ShareGrid" 63 "ShareGrid" "hasRead" "Z" ∈ gw := List.mem_filter.mpr ⟨List.mem_of_getElem? (i := 157) (by decide +kernel), by decide +kernel⟩
theorem w_147 : Cond.methodLink "ShareGridLaw" 21 ⟨"ShareGrid", "key", "(II)I"⟩ ∈ gw := List.mem_filter.mpr ⟨List.mem_of_getElem? (i := 183) (by decide +kernel), by decide +kernel⟩
theorem w_148 : Cond.instanceMethod ⟨"ShareGrid", "key", "(II)I"⟩ ∈ gw := List.mem_filter.mpr ⟨List.mem_of_getElem? (i := 184) (by decide +kernel), by decide +kernel⟩
theorem w_149 : Cond.selects "ShareGrid" ⟨"ShareGrid", "key", "(II)I"⟩ ⟨"ShareGrid", "key", "(II)I"⟩ ∈ gw := List.mem_filter.mpr ⟨List.mem_of_getElem? (i := 185) (by decide +kernel), by decide +kernel⟩
theorem w_150 : Cond.code ⟨"ShareGrid", "key", "(II)I"⟩ prog_1_method_2_code 3 (some FieldType.int) ∈ gw := List.mem_filter.mpr ⟨List.mem_of_getElem? (i := 186) (by decide +kernel), by decide +kernel⟩
theorem w_151 : Cond.methodLink "ShareGrid" 67 ⟨"ShareGrid", "readKeyOf", "(I)I"⟩ ∈ gw := List.mem_filter.mpr ⟨List.mem_of_getElem? (i := 187) (by decide +kernel), by decide +kernel⟩
theorem w_152 : Cond.static ⟨"ShareGrid", "readKeyOf", "(I)I"⟩ ∈ gw := List.mem_filter.mpr ⟨List.mem_of_getElem? (i := 188) (by decide +kernel), by decide +kernel⟩
theorem w_153 : Cond.code ⟨"ShareGrid", "readKeyOf", "(I)I"⟩ prog_1_method_33_code 1 (some FieldType.int) ∈ gw := List.mem_filter.mpr ⟨List.mem_of_getElem? (i := 189) (by decide +kernel), by decide +kernel⟩
theorem w_154 : Cond.methodLink "ShareGrid" 205 ⟨"ShareGrid", "mix", "(II)I"⟩ ∈ gw := List.mem_filter.mpr ⟨List.mem_of_getElem? (i := 190) (by decide +kernel), by decide +kernel⟩
theorem w_155 : Cond.static ⟨"ShareGrid", "mix", "(II)I"⟩ ∈ gw := List.mem_filter.mpr ⟨List.mem_of_getElem? (i := 191) (by decide +kernel), by decide +kernel⟩
theorem w_156 : Cond.code ⟨"ShareGrid", "mix", "(II)I"⟩ prog_1_method_32_code 3 (some FieldType.int) ∈ gw := List.mem_filter.mpr ⟨List.mem_of_getElem? (i := 192) (by decide +kernel), by decide +kernel⟩
theorem w_157 : Cond.constant "ShareGrid" 208 40503 ∈ gw := List.mem_filter.mpr ⟨List.mem_of_getElem? (i := 193) (by decide +kernel), by decide +kernel⟩
theorem w_158 : Cond.constant "ShareGrid" 209 1640531527 ∈ gw := List.mem_filter.mpr ⟨List.mem_of_getElem? (i := 194) (by decide +kernel), by decide +kernel⟩
theorem w_159 : Cond.methodLink "ShareGrid" 71 ⟨"ShareGrid", "verifyKeyOf", "(I)I"⟩ ∈ gw := List.mem_filter.mpr ⟨List.mem_of_getElem? (i := 195) (by decide +kernel), by decide +kernel⟩
theorem w_160 : Cond.static ⟨"ShareGrid", "verifyKeyOf", "(I)I"⟩ ∈ gw := List.mem_filter.mpr ⟨List.mem_of_getElem? (i := 196) (by decide +kernel), by decide +kernel⟩
theorem w_161 : Cond.code ⟨"ShareGrid", "verifyKeyOf", "(I)I"⟩ prog_1_method_34_code 1 (some FieldType.int) ∈ gw := List.mem_filter.mpr ⟨List.mem_of_getElem? (i := 197) (by decide +kernel), by decide +kernel⟩
theorem w_162 : Cond.methodLink "ShareGridLaw" 26 ⟨"ShareGrid", "create", "(I)I"⟩ ∈ gw := List.mem_filter.mpr ⟨List.mem_of_getElem? (i := 198) (by decide +kernel), by decide +kernel⟩
theorem w_163 : Cond.instanceMethod ⟨"ShareGrid", "create", "(I)I"⟩ ∈ gw := List.mem_filter.mpr ⟨List.mem_of_getElem? (i := 199) (by decide +kernel), by decide +kernel⟩
theorem w_164 : Cond.selects "ShareGrid" ⟨"ShareGrid", "create", "(I)I"⟩ ⟨"ShareGrid", "create", "(I)I"⟩ ∈ gw := List.mem_filter.mpr ⟨List.mem_of_getElem? (i := 200) (by decide +kernel), by decide +kernel⟩
theorem w_165 : Cond.code ⟨"ShareGrid", "create", "(I)I"⟩ prog_1_method_3_code 3 (some FieldType.int) ∈ gw := List.mem_filter.mpr ⟨List.mem_of_getElem? (i := 201) (by decide +kernel), by decide +kernel⟩
theorem w_166 : Cond.methodLink "ShareGrid" 74 ⟨"ShareGrid", "fileUnder", "(I)I"⟩ ∈ gw := List.mem_filter.mpr ⟨List.mem_of_getElem? (i := 202) (by decide +kernel), by decide +kernel⟩
theorem w_168 : Cond.instanceMethod ⟨"ShareGrid", "fileUnder", "(I)I"⟩ ∈ gw := List.mem_filter.mpr ⟨List.mem_of_getElem? (i := 204) (by decide +kernel), by decide +kernel⟩
theorem w_169 : Cond.code ⟨"ShareGrid", "fileUnder", "(I)I"⟩ prog_1_method_25_code 3 (some FieldType.int) ∈ gw := List.mem_filter.mpr ⟨List.mem_of_getElem? (i := 205) (by decide +kernel), by decide +kernel⟩
theorem w_170 : Cond.methodLink "ShareGridLaw" 31 ⟨"ShareGrid", "draft", "(II)I"⟩ ∈ gw := List.mem_filter.mpr ⟨List.mem_of_getElem? (i := 206) (by decide +kernel), by decide +kernel⟩
theorem w_171 : Cond.instanceMethod ⟨"ShareGrid", "draft", "(II)I"⟩ ∈ gw := List.mem_filter.mpr ⟨List.mem_of_getElem? (i := 207) (by decide +kernel), by decide +kernel⟩
theorem w_172 : Cond.selects "ShareGrid" ⟨"ShareGrid", "draft", "(II)I"⟩ ⟨"ShareGrid", "draft", "(II)I"⟩ ∈ gw := List.mem_filter.mpr ⟨List.mem_of_getElem? (i := 208) (by decide +kernel), by decide +kernel⟩
theorem w_173 : Cond.code ⟨"ShareGrid", "draft", "(II)I"⟩ prog_1_method_4_code 3 (some FieldType.int) ∈ gw := List.mem_filter.mpr ⟨List.mem_of_getElem? (i := 209) (by decide +kernel), by decide +kernel⟩
theorem w_174 : Cond.methodLink "ShareGrid" 80 ⟨"ShareGrid", "isWordPlace", "(I)Z"⟩ ∈ gw := List.mem_filter.mpr ⟨List.mem_of_getElem? (i := 210) (by decide +kernel), by decide +kernel⟩
theorem w_176 : Cond.instanceMethod ⟨"ShareGrid", "isWordPlace", "(I)Z"⟩ ∈ gw := List.mem_filter.mpr ⟨List.mem_of_getElem? (i := 212) (by decide +kernel), by decide +kernel⟩
theorem w_177 : Cond.code ⟨"ShareGrid", "isWordPlace", "(I)Z"⟩ prog_1_method_21_code 2 (some FieldType.boolean) ∈ gw := List.mem_filter.mpr ⟨List.mem_of_getElem? (i := 213) (by decide +kernel), by decide +kernel⟩
theorem w_178 : Cond.methodLink "ShareGridLaw" 35 ⟨"ShareGrid", "write", "(I)I"⟩ ∈ gw := List.mem_filter.mpr ⟨List.mem_of_getElem? (i := 214) (by decide +kernel), by decide +kernel⟩
theorem w_179 : Cond.instanceMethod ⟨"ShareGrid", "write", "(I)I"⟩ ∈ gw := List.mem_filter.mpr ⟨List.mem_of_getElem? (i := 215) (by decide +kernel), by decide +kernel⟩
theorem w_180 : Cond.selects "ShareGrid" ⟨"ShareGrid", "write", "(I)I"⟩ ⟨"ShareGrid", "write", "(I)I"⟩ ∈ gw := List.mem_filter.mpr ⟨List.mem_of_getElem? (i := 216) (by decide +kernel), by decide +kernel⟩
theorem w_181 : Cond.code ⟨"ShareGrid", "write", "(I)I"⟩ prog_1_method_5_code 9 (some FieldType.int) ∈ gw := List.mem_filter.mpr ⟨List.mem_of_getElem? (i := 217) (by decide +kernel), by decide +kernel⟩
theorem w_182 : Cond.methodLink "ShareGrid" 84 ⟨"ShareGrid", "serversUp", "()I"⟩ ∈ gw := List.mem_filter.mpr ⟨List.mem_of_getElem? (i := 218) (by decide +kernel), by decide +kernel⟩
theorem w_184 : Cond.instanceMethod ⟨"ShareGrid", "serversUp", "()I"⟩ ∈ gw := List.mem_filter.mpr ⟨List.mem_of_getElem? (i := 220) (by decide +kernel), by decide +kernel⟩
theorem w_185 : Cond.code ⟨"ShareGrid", "serversUp", "()I"⟩ prog_1_method_27_code 3 (some FieldType.int) ∈ gw := List.mem_filter.mpr ⟨List.mem_of_getElem? (i := 221) (by decide +kernel), by decide +kernel⟩
theorem w_186 : Cond.methodLink "ShareGrid" 94 ⟨"ShareGrid", "cipherMask", "(III)I"⟩ ∈ gw := List.mem_filter.mpr ⟨List.mem_of_getElem? (i := 222) (by decide +kernel), by decide +kernel⟩
theorem w_187 : Cond.static ⟨"ShareGrid", "cipherMask", "(III)I"⟩ ∈ gw := List.mem_filter.mpr ⟨List.mem_of_getElem? (i := 223) (by decide +kernel), by decide +kernel⟩
theorem w_188 : Cond.code ⟨"ShareGrid", "cipherMask", "(III)I"⟩ prog_1_method_35_code 3 (some FieldType.int) ∈ gw := List.mem_filter.mpr ⟨List.mem_of_getElem? (i := 224) (by decide +kernel), by decide +kernel⟩
theorem w_189 : Cond.methodLink "ShareGrid" 97 ⟨"ShareGrid", "makeFreshRecord", "(II)I"⟩ ∈ gw := List.mem_filter.mpr ⟨List.mem_of_getElem? (i := 225) (by decide +kernel), by decide +kernel⟩
theorem w_191 : Cond.instanceMethod ⟨"ShareGrid", "makeFreshRecord", "(II)I"⟩ ∈ gw := List.mem_filter.mpr ⟨List.mem_of_getElem? (i := 227) (by decide +kernel), by decide +kernel⟩
theorem w_192 : Cond.code ⟨"ShareGrid", "makeFreshRecord", "(II)I"⟩ prog_1_method_30_code 4 (some FieldType.int) ∈ gw := List.mem_filter.mpr ⟨List.mem_of_getElem? (i := 228) (by decide +kernel), by decide +kernel⟩
theorem w_195 : Cond.instanceMethod ⟨"ShareGrid$Coder", "shareAt", "(I)I"⟩ ∈ gw := List.mem_filter.mpr ⟨List.mem_of_getElem? (i := 231) (by decide +kernel), by decide +kernel⟩
theorem w_196 : Cond.code ⟨"ShareGrid$Coder", "shareAt", "(I)I"⟩ prog_2_method_2_code 4 (some FieldType.int) ∈ gw := List.mem_filter.mpr ⟨List.mem_of_getElem? (i := 232) (by decide +kernel), by decide +kernel⟩
theorem w_198 : Cond.static ⟨"ShareGrid", "pointOf", "(I)I"⟩ ∈ gw := List.mem_filter.mpr ⟨List.mem_of_getElem? (i := 234) (by decide +kernel), by decide +kernel⟩
theorem w_199 : Cond.code ⟨"ShareGrid", "pointOf", "(I)I"⟩ prog_1_method_37_code 1 (some FieldType.int) ∈ gw := List.mem_filter.mpr ⟨List.mem_of_getElem? (i := 235) (by decide +kernel), by decide +kernel⟩
theorem w_201 : Cond.static ⟨"ShareGrid", "scaled", "(II)I"⟩ ∈ gw := List.mem_filter.mpr ⟨List.mem_of_getElem? (i := 237) (by decide +kernel), by decide +kernel⟩
theorem w_202 : Cond.code ⟨"ShareGrid", "scaled", "(II)I"⟩ prog_1_method_39_code 5 (some FieldType.int) ∈ gw := List.mem_filter.mpr ⟨List.mem_of_getElem? (i := 238) (by decide +kernel), by decide +kernel⟩
theorem w_203 : Cond.methodLink "ShareGrid" 210 ⟨"ShareGrid", "timesX", "(I)I"⟩ ∈ gw := List.mem_filter.mpr ⟨List.mem_of_getElem? (i := 239) (by decide +kernel), by decide +kernel⟩
theorem w_204 : Cond.static ⟨"ShareGrid", "timesX", "(I)I"⟩ ∈ gw := List.mem_filter.mpr ⟨List.mem_of_getElem? (i := 240) (by decide +kernel), by decide +kernel⟩
theorem w_205 : Cond.code ⟨"ShareGrid", "timesX", "(I)I"⟩ prog_1_method_40_code 2 (some FieldType.int) ∈ gw := List.mem_filter.mpr ⟨List.mem_of_getElem? (i := 241) (by decide +kernel), by decide +kernel⟩
theorem w_206 : Cond.constant "ShareGrid" 213 16843009 ∈ gw := List.mem_filter.mpr ⟨List.mem_of_getElem? (i := 242) (by decide +kernel), by decide +kernel⟩
theorem w_207 : Cond.constant "ShareGrid" 214 2139062143 ∈ gw := List.mem_filter.mpr ⟨List.mem_of_getElem? (i := 243) (by decide +kernel), by decide +kernel⟩
theorem w_208 : Cond.methodLink "ShareGrid" 199 ⟨"ShareGrid", "fingerprint", "(II)I"⟩ ∈ gw := List.mem_filter.mpr ⟨List.mem_of_getElem? (i := 244) (by decide +kernel), by decide +kernel⟩
theorem w_209 : Cond.static ⟨"ShareGrid", "fingerprint", "(II)I"⟩ ∈ gw := List.mem_filter.mpr ⟨List.mem_of_getElem? (i := 245) (by decide +kernel), by decide +kernel⟩
theorem w_210 : Cond.code ⟨"ShareGrid", "fingerprint", "(II)I"⟩ prog_1_method_36_code 2 (some FieldType.int) ∈ gw := List.mem_filter.mpr ⟨List.mem_of_getElem? (i := 246) (by decide +kernel), by decide +kernel⟩
theorem w_213 : Cond.instanceMethod ⟨"ShareGrid$ServerRecord", "rootOfFingerprints", "()I"⟩ ∈ gw := List.mem_filter.mpr ⟨List.mem_of_getElem? (i := 249) (by decide +kernel), by decide +kernel⟩
theorem w_214 : Cond.code ⟨"ShareGrid$ServerRecord", "rootOfFingerprints", "()I"⟩ prog_3_method_3_code 3 (some FieldType.int) ∈ gw := List.mem_filter.mpr ⟨List.mem_of_getElem? (i := 250) (by decide +kernel), by decide +kernel⟩
theorem w_218 : Cond.instanceMethod ⟨"ShareGrid$StoredFile", "noteNext", "(II)V"⟩ ∈ gw := List.mem_filter.mpr ⟨List.mem_of_getElem? (i := 254) (by decide +kernel), by decide +kernel⟩
theorem w_219 : Cond.code ⟨"ShareGrid$StoredFile", "noteNext", "(II)V"⟩ prog_4_method_2_code 3 none ∈ gw := List.mem_filter.mpr ⟨List.mem_of_getElem? (i := 255) (by decide +kernel), by decide +kernel⟩
theorem w_220 : Cond.methodLink "ShareGrid" 108 ⟨"ShareGrid", "takesRecords", "(I)Z"⟩ ∈ gw := List.mem_filter.mpr ⟨List.mem_of_getElem? (i := 256) (by decide +kernel), by decide +kernel⟩
theorem w_222 : Cond.instanceMethod ⟨"ShareGrid", "takesRecords", "(I)Z"⟩ ∈ gw := List.mem_filter.mpr ⟨List.mem_of_getElem? (i := 258) (by decide +kernel), by decide +kernel⟩
theorem w_223 : Cond.code ⟨"ShareGrid", "takesRecords", "(I)Z"⟩ prog_1_method_26_code 2 (some FieldType.boolean) ∈ gw := List.mem_filter.mpr ⟨List.mem_of_getElem? (i := 259) (by decide +kernel), by decide +kernel⟩
theorem w_224 : Cond.methodLink "ShareGrid" 111 ⟨"ShareGrid", "giveFreshRecord", "(LShareGrid$StoredFile;I)V"⟩ ∈ gw := List.mem_filter.mpr ⟨List.mem_of_getElem? (i := 260) (by decide +kernel), by decide +kernel⟩
theorem w_226 : Cond.instanceMethod ⟨"ShareGrid", "giveFreshRecord", "(LShareGrid$StoredFile;I)V"⟩ ∈ gw := List.mem_filter.mpr ⟨List.mem_of_getElem? (i := 262) (by decide +kernel), by decide +kernel⟩
theorem w_227 : Cond.code ⟨"ShareGrid", "giveFreshRecord", "(LShareGrid$StoredFile;I)V"⟩ prog_1_method_31_code 3 none ∈ gw := List.mem_filter.mpr ⟨List.mem_of_getElem? (i := 263) (by decide +kernel), by decide +kernel⟩
theorem w_230 : Cond.instanceMethod ⟨"ShareGrid$ServerRecord", "copyFrom", "(LShareGrid$ServerRecord;)V"⟩ ∈ gw := List.mem_filter.mpr ⟨List.mem_of_getElem? (i := 266) (by decide +kernel), by decide +kernel⟩
theorem w_231 : Cond.code ⟨"ShareGrid$ServerRecord", "copyFrom", "(LShareGrid$ServerRecord;)V"⟩ prog_3_method_2_code 2 none ∈ gw := List.mem_filter.mpr ⟨List.mem_of_getElem? (i := 267) (by decide +kernel), by decide +kernel⟩
theorem w_232 : Cond.methodLink "ShareGrid$ServerRecord" 27 ⟨"java/lang/System", "arraycopy", "(Ljava/lang/Object;ILjava/lang/Object;II)V"⟩ ∈ gw := List.mem_filter.mpr ⟨List.mem_of_getElem? (i := 268) (by decide +kernel), by decide +kernel⟩
theorem w_233 : Cond.static ⟨"java/lang/System", "arraycopy", "(Ljava/lang/Object;ILjava/lang/Object;II)V"⟩ ∈ gw := List.mem_filter.mpr ⟨List.mem_of_getElem? (i := 269) (by decide +kernel), by decide +kernel⟩
theorem w_234 : Cond.native ⟨"java/lang/System", "arraycopy", "(Ljava/lang/Object;ILjava/lang/Object;II)V"⟩ ∈ gw := List.mem_filter.mpr ⟨List.mem_of_getElem? (i := 270) (by decide +kernel), by decide +kernel⟩
theorem w_235 : Cond.methodLink "ShareGridLaw" 39 ⟨"ShareGrid", "read", "(I)I"⟩ ∈ gw := List.mem_filter.mpr ⟨List.mem_of_getElem? (i := 271) (by decide +kernel), by decide +kernel⟩
theorem w_236 : Cond.instanceMethod ⟨"ShareGrid", "read", "(I)I"⟩ ∈ gw := List.mem_filter.mpr ⟨List.mem_of_getElem? (i := 272) (by decide +kernel), by decide +kernel⟩
theorem w_237 : Cond.selects "ShareGrid" ⟨"ShareGrid", "read", "(I)I"⟩ ⟨"ShareGrid", "read", "(I)I"⟩ ∈ gw := List.mem_filter.mpr ⟨List.mem_of_getElem? (i := 273) (by decide +kernel), by decide +kernel⟩
theorem w_238 : Cond.code ⟨"ShareGrid", "read", "(I)I"⟩ prog_1_method_6_code 5 (some FieldType.int) ∈ gw := List.mem_filter.mpr ⟨List.mem_of_getElem? (i := 274) (by decide +kernel), by decide +kernel⟩
theorem w_239 : Cond.methodLink "ShareGrid" 115 ⟨"ShareGrid", "bestNumber", "(LShareGrid$StoredFile;)I"⟩ ∈ gw := List.mem_filter.mpr ⟨List.mem_of_getElem? (i := 275) (by decide +kernel), by decide +kernel⟩
theorem w_241 : Cond.instanceMethod ⟨"ShareGrid", "bestNumber", "(LShareGrid$StoredFile;)I"⟩ ∈ gw := List.mem_filter.mpr ⟨List.mem_of_getElem? (i := 277) (by decide +kernel), by decide +kernel⟩
theorem w_242 : Cond.code ⟨"ShareGrid", "bestNumber", "(LShareGrid$StoredFile;)I"⟩ prog_1_method_28_code 3 (some FieldType.int) ∈ gw := List.mem_filter.mpr ⟨List.mem_of_getElem? (i := 278) (by decide +kernel), by decide +kernel⟩
theorem w_243 : Cond.methodLink "ShareGrid" 178 ⟨"java/util/Arrays", "fill", "([II)V"⟩ ∈ gw := List.mem_filter.mpr ⟨List.mem_of_getElem? (i := 279) (by decide +kernel), by decide +kernel⟩
theorem w_244 : Cond.static ⟨"java/util/Arrays", "fill", "([II)V"⟩ ∈ gw := List.mem_filter.mpr ⟨List.mem_of_getElem? (i := 280) (by decide +kernel), by decide +kernel⟩
theorem w_245 : Cond.code ⟨"java/util/Arrays", "fill", "([II)V"⟩ prog_9_method_103_code 4 none ∈ gw := List.mem_filter.mpr ⟨List.mem_of_getElem? (i := 281) (by decide +kernel), by decide +kernel⟩
theorem w_248 : Cond.instanceMethod ⟨"ShareGrid$StoredFile", "isSoundAt", "(I)Z"⟩ ∈ gw := List.mem_filter.mpr ⟨List.mem_of_getElem? (i := 284) (by decide +kernel), by decide +kernel⟩
theorem w_249 : Cond.code ⟨"ShareGrid$StoredFile", "isSoundAt", "(I)Z"⟩ prog_4_method_3_code 4 (some FieldType.boolean) ∈ gw := List.mem_filter.mpr ⟨List.mem_of_getElem? (i := 285) (by decide +kernel), by decide +kernel⟩
theorem w_252 : Cond.methodLink "ShareGrid" 119 ⟨"ShareGrid", "decodeVersion", "(LShareGrid$StoredFile;I)I"⟩ ∈ gw := List.mem_filter.mpr ⟨List.mem_of_getElem? (i := 288) (by decide +kernel), by decide +kernel⟩
theorem w_254 : Cond.instanceMethod ⟨"ShareGrid", "decodeVersion", "(LShareGrid$StoredFile;I)I"⟩ ∈ gw := List.mem_filter.mpr ⟨List.mem_of_getElem? (i := 290) (by decide +kernel), by decide +kernel⟩
theorem w_255 : Cond.code ⟨"ShareGrid", "decodeVersion", "(LShareGrid$StoredFile;I)I"⟩ prog_1_method_29_code 5 (some FieldType.int) ∈ gw := List.mem_filter.mpr ⟨List.mem_of_getElem? (i := 291) (by decide +kernel), by decide +kernel⟩
theorem w_258 : Cond.instanceMethod ⟨"ShareGrid$StoredFile", "isSoundWith", "(II)Z"⟩ ∈ gw := List.mem_filter.mpr ⟨List.mem_of_getElem? (i := 294) (by decide +kernel), by decide +kernel⟩
theorem w_259 : Cond.code ⟨"ShareGrid$StoredFile", "isSoundWith", "(II)Z"⟩ prog_4_method_4_code 3 (some FieldType.boolean) ∈ gw := List.mem_filter.mpr ⟨List.mem_of_getElem? (i := 295) (by decide +kernel), by decide +kernel⟩
theorem w_260 : Cond.methodLink "ShareGrid$StoredFile" 58 ⟨"ShareGrid$StoredFile", "isSoundAt", "(I)Z"⟩ ∈ gw := List.mem_filter.mpr ⟨List.mem_of_getElem? (i := 296) (by decide +kernel), by decide +kernel⟩
theorem w_261 : Cond.methodLink "ShareGrid" 187 ⟨"ShareGrid", "pointOf", "(I)I"⟩ ∈ gw := List.mem_filter.mpr ⟨List.mem_of_getElem? (i := 297) (by decide +kernel), by decide +kernel⟩
theorem w_264 : Cond.instanceMethod ⟨"ShareGrid$Coder", "decodeShares", "()V"⟩ ∈ gw := List.mem_filter.mpr ⟨List.mem_of_getElem? (i := 300) (by decide +kernel), by decide +kernel⟩
theorem w_265 : Cond.code ⟨"ShareGrid$Coder", "decodeShares", "()V"⟩ prog_2_method_3_code 1 none ∈ gw := List.mem_filter.mpr ⟨List.mem_of_getElem? (i := 301) (by decide +kernel), by decide +kernel⟩
theorem w_266 : Cond.methodLink "ShareGrid$Coder" 30 ⟨"ShareGrid$Coder", "sharesToDifferences", "()V"⟩ ∈ gw := List.mem_filter.mpr ⟨List.mem_of_getElem? (i := 302) (by decide +kernel), by decide +kernel⟩
theorem w_268 : Cond.instanceMethod ⟨"ShareGrid$Coder", "sharesToDifferences", "()V"⟩ ∈ gw := List.mem_filter.mpr ⟨List.mem_of_getElem? (i := 304) (by decide +kernel), by decide +kernel⟩
theorem w_269 : Cond.code ⟨"ShareGrid$Coder", "sharesToDifferences", "()V"⟩ prog_2_method_4_code 4 none ∈ gw := List.mem_filter.mpr ⟨List.mem_of_getElem? (i := 305) (by decide +kernel), by decide +kernel⟩
theorem w_271 : Cond.static ⟨"ShareGrid", "inverse", "(I)I"⟩ ∈ gw := List.mem_filter.mpr ⟨List.mem_of_getElem? (i := 307) (by decide +kernel), by decide +kernel⟩
theorem w_272 : Cond.code ⟨"ShareGrid", "inverse", "(I)I"⟩ prog_1_method_41_code 4 (some FieldType.int) ∈ gw := List.mem_filter.mpr ⟨List.mem_of_getElem? (i := 308) (by decide +kernel), by decide +kernel⟩
theorem w_273 : Cond.methodLink "ShareGrid" 164 ⟨"ShareGrid", "scaled", "(II)I"⟩ ∈ gw := List.mem_filter.mpr ⟨List.mem_of_getElem? (i := 309) (by decide +kernel), by decide +kernel⟩
theorem w_274 : Cond.methodLink "ShareGrid$Coder" 33 ⟨"ShareGrid$Coder", "differencesToCipherWords", "()V"⟩ ∈ gw := List.mem_filter.mpr ⟨List.mem_of_getElem? (i := 310) (by decide +kernel), by decide +kernel⟩
theorem w_276 : Cond.instanceMethod ⟨"ShareGrid$Coder", "differencesToCipherWords", "()V"⟩ ∈ gw := List.mem_filter.mpr ⟨List.mem_of_getElem? (i := 312) (by decide +kernel), by decide +kernel⟩
theorem w_277 : Cond.code ⟨"ShareGrid$Coder", "differencesToCipherWords", "()V"⟩ prog_2_method_5_code 3 none ∈ gw := List.mem_filter.mpr ⟨List.mem_of_getElem? (i := 313) (by decide +kernel), by decide +kernel⟩
theorem w_278 : Cond.methodLink "ShareGrid" 193 ⟨"ShareGrid", "placeOf", "(I)I"⟩ ∈ gw := List.mem_filter.mpr ⟨List.mem_of_getElem? (i := 314) (by decide +kernel), by decide +kernel⟩
theorem w_279 : Cond.static ⟨"ShareGrid", "placeOf", "(I)I"⟩ ∈ gw := List.mem_filter.mpr ⟨List.mem_of_getElem? (i := 315) (by decide +kernel), by decide +kernel⟩
theorem w_280 : Cond.code ⟨"ShareGrid", "placeOf", "(I)I"⟩ prog_1_method_38_code 1 (some FieldType.int) ∈ gw := List.mem_filter.mpr ⟨List.mem_of_getElem? (i := 316) (by decide +kernel), by decide +kernel⟩
theorem w_281 : Cond.methodLink "ShareGridLaw" 43 ⟨"ShareGrid", "word", "(I)J"⟩ ∈ gw := List.mem_filter.mpr ⟨List.mem_of_getElem? (i := 317) (by decide +kernel), by decide +kernel⟩
theorem w_282 : Cond.instanceMethod ⟨"ShareGrid", "word", "(I)J"⟩ ∈ gw := List.mem_filter.mpr ⟨List.mem_of_getElem? (i := 318) (by decide +kernel), by decide +kernel⟩
theorem w_283 : Cond.selects "ShareGrid" ⟨"ShareGrid", "word", "(I)J"⟩ ⟨"ShareGrid", "word", "(I)J"⟩ ∈ gw := List.mem_filter.mpr ⟨List.mem_of_getElem? (i := 319) (by decide +kernel), by decide +kernel⟩
theorem w_284 : Cond.code ⟨"ShareGrid", "word", "(I)J"⟩ prog_1_method_7_code 2 (some FieldType.long) ∈ gw := List.mem_filter.mpr ⟨List.mem_of_getElem? (i := 320) (by decide +kernel), by decide +kernel⟩
theorem w_285 : Cond.constantLong "ShareGrid" 123 (-1000000000000) ∈ gw := List.mem_filter.mpr ⟨List.mem_of_getElem? (i := 321) (by decide +kernel), by decide +kernel⟩
theorem w_286 : Cond.methodLink "ShareGridLaw" 48 ⟨"ShareGrid", "sound", "(I)I"⟩ ∈ gw := List.mem_filter.mpr ⟨List.mem_of_getElem? (i := 322) (by decide +kernel), by decide +kernel⟩
theorem w_287 : Cond.instanceMethod ⟨"ShareGrid", "sound", "(I)I"⟩ ∈ gw := List.mem_filter.mpr ⟨List.mem_of_getElem? (i := 323) (by decide +kernel), by decide +kernel⟩
theorem w_288 : Cond.selects "ShareGrid" ⟨"ShareGrid", "sound", "(I)I"⟩ ⟨"ShareGrid", "sound", "(I)I"⟩ ∈ gw := List.mem_filter.mpr ⟨List.mem_of_getElem? (i := 324) (by decide +kernel), by decide +kernel⟩
theorem w_289 : Cond.code ⟨"ShareGrid", "sound", "(I)I"⟩ prog_1_method_8_code 5 (some FieldType.int) ∈ gw := List.mem_filter.mpr ⟨List.mem_of_getElem? (i := 325) (by decide +kernel), by decide +kernel⟩
theorem w_290 : Cond.methodLink "ShareGridLaw" 52 ⟨"ShareGrid", "best", "(I)I"⟩ ∈ gw := List.mem_filter.mpr ⟨List.mem_of_getElem? (i := 326) (by decide +kernel), by decide +kernel⟩
theorem w_291 : Cond.instanceMethod ⟨"ShareGrid", "best", "(I)I"⟩ ∈ gw := List.mem_filter.mpr ⟨List.mem_of_getElem? (i := 327) (by decide +kernel), by decide +kernel⟩
theorem w_292 : Cond.selects "ShareGrid" ⟨"ShareGrid", "best", "(I)I"⟩ ⟨"ShareGrid", "best", "(I)I"⟩ ∈ gw := List.mem_filter.mpr ⟨List.mem_of_getElem? (i := 328) (by decide +kernel), by decide +kernel⟩
theorem w_293 : Cond.code ⟨"ShareGrid", "best", "(I)I"⟩ prog_1_method_9_code 3 (some FieldType.int) ∈ gw := List.mem_filter.mpr ⟨List.mem_of_getElem? (i := 329) (by decide +kernel), by decide +kernel⟩
theorem w_294 : Cond.methodLink "ShareGridLaw" 56 ⟨"ShareGrid", "repair", "(I)I"⟩ ∈ gw := List.mem_filter.mpr ⟨List.mem_of_getElem? (i := 330) (by decide +kernel), by decide +kernel⟩
theorem w_295 : Cond.instanceMethod ⟨"ShareGrid", "repair", "(I)I"⟩ ∈ gw := List.mem_filter.mpr ⟨List.mem_of_getElem? (i := 331) (by decide +kernel), by decide +kernel⟩
theorem w_296 : Cond.selects "ShareGrid" ⟨"ShareGrid", "repair", "(I)I"⟩ ⟨"ShareGrid", "repair", "(I)I"⟩ ∈ gw := List.mem_filter.mpr ⟨List.mem_of_getElem? (i := 332) (by decide +kernel), by decide +kernel⟩
theorem w_297 : Cond.code ⟨"ShareGrid", "repair", "(I)I"⟩ prog_1_method_10_code 8 (some FieldType.int) ∈ gw := List.mem_filter.mpr ⟨List.mem_of_getElem? (i := 333) (by decide +kernel), by decide +kernel⟩
theorem w_298 : Cond.methodLink "ShareGridLaw" 60 ⟨"ShareGrid", "server", "(IZZ)I"⟩ ∈ gw := List.mem_filter.mpr ⟨List.mem_of_getElem? (i := 334) (by decide +kernel), by decide +kernel⟩
theorem w_299 : Cond.instanceMethod ⟨"ShareGrid", "server", "(IZZ)I"⟩ ∈ gw := List.mem_filter.mpr ⟨List.mem_of_getElem? (i := 335) (by decide +kernel), by decide +kernel⟩
theorem w_300 : Cond.selects "ShareGrid" ⟨"ShareGrid", "server", "(IZZ)I"⟩ ⟨"ShareGrid", "server", "(IZZ)I"⟩ ∈ gw := List.mem_filter.mpr ⟨List.mem_of_getElem? (i := 336) (by decide +kernel), by decide +kernel⟩
theorem w_301 : Cond.code ⟨"ShareGrid", "server", "(IZZ)I"⟩ prog_1_method_11_code 4 (some FieldType.int) ∈ gw := List.mem_filter.mpr ⟨List.mem_of_getElem? (i := 337) (by decide +kernel), by decide +kernel⟩
theorem w_302 : Cond.methodLink "ShareGrid" 140 ⟨"ShareGrid", "isPlace", "(I)Z"⟩ ∈ gw := List.mem_filter.mpr ⟨List.mem_of_getElem? (i := 338) (by decide +kernel), by decide +kernel⟩
theorem w_304 : Cond.instanceMethod ⟨"ShareGrid", "isPlace", "(I)Z"⟩ ∈ gw := List.mem_filter.mpr ⟨List.mem_of_getElem? (i := 340) (by decide +kernel), by decide +kernel⟩
theorem w_305 : Cond.code ⟨"ShareGrid", "isPlace", "(I)Z"⟩ prog_1_method_22_code 2 (some FieldType.boolean) ∈ gw := List.mem_filter.mpr ⟨List.mem_of_getElem? (i := 341) (by decide +kernel), by decide +kernel⟩
theorem w_306 : Cond.methodLink "ShareGridLaw" 65 ⟨"ShareGrid", "tamper", "(IIII)I"⟩ ∈ gw := List.mem_filter.mpr ⟨List.mem_of_getElem? (i := 342) (by decide +kernel), by decide +kernel⟩
theorem w_307 : Cond.instanceMethod ⟨"ShareGrid", "tamper", "(IIII)I"⟩ ∈ gw := List.mem_filter.mpr ⟨List.mem_of_getElem? (i := 343) (by decide +kernel), by decide +kernel⟩
theorem w_308 : Cond.selects "ShareGrid" ⟨"ShareGrid", "tamper", "(IIII)I"⟩ ⟨"ShareGrid", "tamper", "(IIII)I"⟩ ∈ gw := List.mem_filter.mpr ⟨List.mem_of_getElem? (i := 344) (by decide +kernel), by decide +kernel⟩
theorem w_309 : Cond.code ⟨"ShareGrid", "tamper", "(IIII)I"⟩ prog_1_method_12_code 6 (some FieldType.int) ∈ gw := List.mem_filter.mpr ⟨List.mem_of_getElem? (i := 345) (by decide +kernel), by decide +kernel⟩
theorem w_310 : Cond.methodLink "ShareGrid" 143 ⟨"ShareGrid", "isFile", "(I)Z"⟩ ∈ gw := List.mem_filter.mpr ⟨List.mem_of_getElem? (i := 346) (by decide +kernel), by decide +kernel⟩
theorem w_312 : Cond.instanceMethod ⟨"ShareGrid", "isFile", "(I)Z"⟩ ∈ gw := List.mem_filter.mpr ⟨List.mem_of_getElem? (i := 348) (by decide +kernel), by decide +kernel⟩
theorem w_313 : Cond.code ⟨"ShareGrid", "isFile", "(I)Z"⟩ prog_1_method_23_code 2 (some FieldType.boolean) ∈ gw := List.mem_filter.mpr ⟨List.mem_of_getElem? (i := 349) (by decide +kernel), by decide +kernel⟩
theorem w_314 : Cond.methodLink "ShareGridLaw" 70 ⟨"ShareGrid", "picture", "(II)I"⟩ ∈ gw := List.mem_filter.mpr ⟨List.mem_of_getElem? (i := 350) (by decide +kernel), by decide +kernel⟩
theorem w_315 : Cond.instanceMethod ⟨"ShareGrid", "picture", "(II)I"⟩ ∈ gw := List.mem_filter.mpr ⟨List.mem_of_getElem? (i := 351) (by decide +kernel), by decide +kernel⟩
theorem w_316 : Cond.selects "ShareGrid" ⟨"ShareGrid", "picture", "(II)I"⟩ ⟨"ShareGrid", "picture", "(II)I"⟩ ∈ gw := List.mem_filter.mpr ⟨List.mem_of_getElem? (i := 352) (by decide +kernel), by decide +kernel⟩
theorem w_317 : Cond.code ⟨"ShareGrid", "picture", "(II)I"⟩ prog_1_method_13_code 3 (some FieldType.int) ∈ gw := List.mem_filter.mpr ⟨List.mem_of_getElem? (i := 353) (by decide +kernel), by decide +kernel⟩
theorem w_318 : Cond.methodLink "ShareGridLaw" 74 ⟨"ShareGrid", "fallBack", "(II)I"⟩ ∈ gw := List.mem_filter.mpr ⟨List.mem_of_getElem? (i := 354) (by decide +kernel), by decide +kernel⟩
theorem w_319 : Cond.instanceMethod ⟨"ShareGrid", "fallBack", "(II)I"⟩ ∈ gw := List.mem_filter.mpr ⟨List.mem_of_getElem? (i := 355) (by decide +kernel), by decide +kernel⟩
theorem w_320 : Cond.selects "ShareGrid" ⟨"ShareGrid", "fallBack", "(II)I"⟩ ⟨"ShareGrid", "fallBack", "(II)I"⟩ ∈ gw := List.mem_filter.mpr ⟨List.mem_of_getElem? (i := 356) (by decide +kernel), by decide +kernel⟩
theorem w_321 : Cond.code ⟨"ShareGrid", "fallBack", "(II)I"⟩ prog_1_method_14_code 3 (some FieldType.int) ∈ gw := List.mem_filter.mpr ⟨List.mem_of_getElem? (i := 357) (by decide +kernel), by decide +kernel⟩
theorem w_322 : Cond.methodLink "ShareGridLaw" 78 ⟨"ShareGrid", "wipe", "(II)I"⟩ ∈ gw := List.mem_filter.mpr ⟨List.mem_of_getElem? (i := 358) (by decide +kernel), by decide +kernel⟩
theorem w_323 : Cond.instanceMethod ⟨"ShareGrid", "wipe", "(II)I"⟩ ∈ gw := List.mem_filter.mpr ⟨List.mem_of_getElem? (i := 359) (by decide +kernel), by decide +kernel⟩
theorem w_324 : Cond.selects "ShareGrid" ⟨"ShareGrid", "wipe", "(II)I"⟩ ⟨"ShareGrid", "wipe", "(II)I"⟩ ∈ gw := List.mem_filter.mpr ⟨List.mem_of_getElem? (i := 360) (by decide +kernel), by decide +kernel⟩
theorem w_325 : Cond.code ⟨"ShareGrid", "wipe", "(II)I"⟩ prog_1_method_15_code 3 (some FieldType.int) ∈ gw := List.mem_filter.mpr ⟨List.mem_of_getElem? (i := 361) (by decide +kernel), by decide +kernel⟩
theorem w_326 : Cond.methodLink "ShareGridLaw" 82 ⟨"ShareGrid", "share", "(III)J"⟩ ∈ gw := List.mem_filter.mpr ⟨List.mem_of_getElem? (i := 362) (by decide +kernel), by decide +kernel⟩
theorem w_327 : Cond.instanceMethod ⟨"ShareGrid", "share", "(III)J"⟩ ∈ gw := List.mem_filter.mpr ⟨List.mem_of_getElem? (i := 363) (by decide +kernel), by decide +kernel⟩
theorem w_328 : Cond.selects "ShareGrid" ⟨"ShareGrid", "share", "(III)J"⟩ ⟨"ShareGrid", "share", "(III)J"⟩ ∈ gw := List.mem_filter.mpr ⟨List.mem_of_getElem? (i := 364) (by decide +kernel), by decide +kernel⟩
theorem w_329 : Cond.code ⟨"ShareGrid", "share", "(III)J"⟩ prog_1_method_16_code 5 (some FieldType.long) ∈ gw := List.mem_filter.mpr ⟨List.mem_of_getElem? (i := 365) (by decide +kernel), by decide +kernel⟩
theorem w_330 : Cond.methodLink "ShareGridLaw" 87 ⟨"ShareGrid", "times", "(II)I"⟩ ∈ gw := List.mem_filter.mpr ⟨List.mem_of_getElem? (i := 366) (by decide +kernel), by decide +kernel⟩
theorem w_331 : Cond.instanceMethod ⟨"ShareGrid", "times", "(II)I"⟩ ∈ gw := List.mem_filter.mpr ⟨List.mem_of_getElem? (i := 367) (by decide +kernel), by decide +kernel⟩
theorem w_332 : Cond.selects "ShareGrid" ⟨"ShareGrid", "times", "(II)I"⟩ ⟨"ShareGrid", "times", "(II)I"⟩ ∈ gw := List.mem_filter.mpr ⟨List.mem_of_getElem? (i := 368) (by decide +kernel), by decide +kernel⟩
theorem w_333 : Cond.code ⟨"ShareGrid", "times", "(II)I"⟩ prog_1_method_17_code 3 (some FieldType.int) ∈ gw := List.mem_filter.mpr ⟨List.mem_of_getElem? (i := 369) (by decide +kernel), by decide +kernel⟩
theorem w_334 : Cond.methodLink "ShareGrid" 161 ⟨"ShareGrid", "isByte", "(I)Z"⟩ ∈ gw := List.mem_filter.mpr ⟨List.mem_of_getElem? (i := 370) (by decide +kernel), by decide +kernel⟩
theorem w_335 : Cond.static ⟨"ShareGrid", "isByte", "(I)Z"⟩ ∈ gw := List.mem_filter.mpr ⟨List.mem_of_getElem? (i := 371) (by decide +kernel), by decide +kernel⟩
theorem w_336 : Cond.code ⟨"ShareGrid", "isByte", "(I)Z"⟩ prog_1_method_24_code 1 (some FieldType.boolean) ∈ gw := List.mem_filter.mpr ⟨List.mem_of_getElem? (i := 372) (by decide +kernel), by decide +kernel⟩
theorem w_337 : Cond.methodLink "ShareGridLaw" 91 ⟨"ShareGrid", "count", "(I)I"⟩ ∈ gw := List.mem_filter.mpr ⟨List.mem_of_getElem? (i := 373) (by decide +kernel), by decide +kernel⟩
theorem w_338 : Cond.instanceMethod ⟨"ShareGrid", "count", "(I)I"⟩ ∈ gw := List.mem_filter.mpr ⟨List.mem_of_getElem? (i := 374) (by decide +kernel), by decide +kernel⟩
theorem w_339 : Cond.selects "ShareGrid" ⟨"ShareGrid", "count", "(I)I"⟩ ⟨"ShareGrid", "count", "(I)I"⟩ ∈ gw := List.mem_filter.mpr ⟨List.mem_of_getElem? (i := 375) (by decide +kernel), by decide +kernel⟩
theorem w_340 : Cond.code ⟨"ShareGrid", "count", "(I)I"⟩ prog_1_method_18_code 2 (some FieldType.int) ∈ gw := List.mem_filter.mpr ⟨List.mem_of_getElem? (i := 376) (by decide +kernel), by decide +kernel⟩
theorem w_341 : Cond.methodLink "ShareGrid" 167 ⟨"ShareGrid", "greatestNumber", "(I)I"⟩ ∈ gw := List.mem_filter.mpr ⟨List.mem_of_getElem? (i := 377) (by decide +kernel), by decide +kernel⟩
theorem w_343 : Cond.instanceMethod ⟨"ShareGrid", "greatestNumber", "(I)I"⟩ ∈ gw := List.mem_filter.mpr ⟨List.mem_of_getElem? (i := 379) (by decide +kernel), by decide +kernel⟩
theorem w_344 : Cond.code ⟨"ShareGrid", "greatestNumber", "(I)I"⟩ prog_1_method_19_code 2 (some FieldType.int) ∈ gw := List.mem_filter.mpr ⟨List.mem_of_getElem? (i := 380) (by decide +kernel), by decide +kernel⟩
theorem w_345 : Cond.methodLink "ShareGridLaw" 9 ⟨"ShareGridLaw", "cell", "([II)I"⟩ ∈ gw := List.mem_filter.mpr ⟨List.mem_of_getElem? (i := 381) (by decide +kernel), by decide +kernel⟩
theorem w_346 : Cond.static ⟨"ShareGridLaw", "cell", "([II)I"⟩ ∈ gw := List.mem_filter.mpr ⟨List.mem_of_getElem? (i := 382) (by decide +kernel), by decide +kernel⟩
theorem w_347 : Cond.code ⟨"ShareGridLaw", "cell", "([II)I"⟩ method_2_code 2 (some FieldType.int) ∈ gw := List.mem_filter.mpr ⟨List.mem_of_getElem? (i := 383) (by decide +kernel), by decide +kernel⟩
theorem w_348 : Cond.classLink "ShareGridLaw" 18 "ShareGridModel" ∈ gw := List.mem_filter.mpr ⟨List.mem_of_getElem? (i := 384) (by decide +kernel), by decide +kernel⟩
theorem w_349 : Cond.instantiable "ShareGridModel" 17 ∈ gw := List.mem_filter.mpr ⟨List.mem_of_getElem? (i := 385) (by decide +kernel), by decide +kernel⟩
theorem w_350 : Cond.methodLink "ShareGridLaw" 20 ⟨"ShareGridModel", "<init>", "(II)V"⟩ ∈ gw := List.mem_filter.mpr ⟨List.mem_of_getElem? (i := 386) (by decide +kernel), by decide +kernel⟩
theorem w_351 : Cond.instanceMethod ⟨"ShareGridModel", "<init>", "(II)V"⟩ ∈ gw := List.mem_filter.mpr ⟨List.mem_of_getElem? (i := 387) (by decide +kernel), by decide +kernel⟩
theorem w_352 : Cond.code ⟨"ShareGridModel", "<init>", "(II)V"⟩ prog_6_method_1_code 4 none ∈ gw := List.mem_filter.mpr ⟨List.mem_of_getElem? (i := 388) (by decide +kernel), by decide +kernel⟩
theorem w_353 : Cond.methodLink "ShareGridModel" 1 ⟨"java/lang/Object", "<init>", "()V"⟩ ∈ gw := List.mem_filter.mpr ⟨List.mem_of_getElem? (i := 389) (by decide +kernel), by decide +kernel⟩
theorem w_354 : Cond.fieldLink "ShareGridModel" 50 "ShareGridModel" "needed" "I" ∈ gw := List.mem_filter.mpr ⟨List.mem_of_getElem? (i := 390) (by decide +kernel), by decide +kernel⟩
theorem w_355 : Cond.fieldLink "ShareGridModel" 54 "ShareGridModel" "servers" "I" ∈ gw := List.mem_filter.mpr ⟨List.mem_of_getElem? (i := 391) (by decide +kernel), by decide +kernel⟩
theorem w_356 : Cond.fieldLink "ShareGridModel" 7 "ShareGridModel" "up" "[Z" ∈ gw := List.mem_filter.mpr ⟨List.mem_of_getElem? (i := 392) (by decide +kernel), by decide +kernel⟩
theorem w_357 : Cond.fieldLink "ShareGridModel" 13 "ShareGridModel" "stuck" "[Z" ∈ gw := List.mem_filter.mpr ⟨List.mem_of_getElem? (i := 393) (by decide +kernel), by decide +kernel⟩
theorem w_358 : Cond.fieldLink "ShareGridModel" 16 "ShareGridModel" "verify" "[I" ∈ gw := List.mem_filter.mpr ⟨List.mem_of_getElem? (i := 394) (by decide +kernel), by decide +kernel⟩
theorem w_359 : Cond.fieldLink "ShareGridModel" 20 "ShareGridModel" "written" "[I" ∈ gw := List.mem_filter.mpr ⟨List.mem_of_getElem? (i := 395) (by decide +kernel), by decide +kernel⟩
theorem w_360 : Cond.fieldLink "ShareGridModel" 63 "ShareGridModel" "files" "I" ∈ gw := List.mem_filter.mpr ⟨List.mem_of_getElem? (i := 396) (by decide +kernel), by decide +kernel⟩
theorem w_361 : Cond.fieldLink "ShareGridModel" 23 "ShareGridModel" "roots" "[I" ∈ gw := List.mem_filter.mpr ⟨List.mem_of_getElem? (i := 397) (by decide +kernel), by decide +kernel⟩
theorem w_362 : Cond.fieldLink "ShareGridModel" 26 "ShareGridModel" "seals" "[I" ∈ gw := List.mem_filter.mpr ⟨List.mem_of_getElem? (i := 398) (by decide +kernel), by decide +kernel⟩
theorem w_363 : Cond.fieldLink "ShareGridModel" 29 "ShareGridModel" "row" "[I" ∈ gw := List.mem_filter.mpr ⟨List.mem_of_getElem? (i := 399) (by decide +kernel), by decide +kernel⟩
theorem w_364 : Cond.fieldLink "ShareGridModel" 32 "ShareGridModel" "there" "[Z" ∈ gw := List.mem_filter.mpr ⟨List.mem_of_getElem? (i := 400) (by decide +kernel), by decide +kernel⟩
theorem w_365 : Cond.fieldLink "ShareGridModel" 35 "ShareGridModel" "draft" "[I" ∈ gw := List.mem_filter.mpr ⟨List.mem_of_getElem? (i := 401) (by decide +kernel), by decide +kernel⟩
theorem w_366 : Cond.fieldLink "ShareGridModel" 38 "ShareGridModel" "words" "[I" ∈ gw := List.mem_filter.mpr ⟨List.mem_of_getElem? (i := 402) (by decide +kernel), by decide +kernel⟩
theorem w_367 : Cond.fieldLink "ShareGridModel" 115 "ShareGridModel" "hasRead" "Z" ∈ gw := List.mem_filter.mpr ⟨List.mem_of_getElem? (i := 403) (by decide +kernel), by decide +kernel⟩
theorem w_368 : Cond.fieldLink "ShareGridModel" 41 "ShareGridModel" "cipher" "[I" ∈ gw := List.mem_filter.mpr ⟨List.mem_of_getElem? (i := 404) (by decide +kernel), by decide +kernel⟩
theorem w_369 : Cond.fieldLink "ShareGridModel" 44 "ShareGridModel" "factor" "[I" ∈ gw := List.mem_filter.mpr ⟨List.mem_of_getElem? (i := 405) (by decide +kernel), by decide +kernel⟩
theorem w_370 : Cond.fieldLink "ShareGridModel" 47 "ShareGridModel" "right" "[I" ∈ gw := List.mem_filter.mpr ⟨List.mem_of_getElem? (i := 406) (by decide +kernel), by decide +kernel⟩
theorem w_406 : Cond.methodLink "ShareGridLaw" 25 ⟨"ShareGridModel", "key", "(II)I"⟩ ∈ gw := List.mem_filter.mpr ⟨List.mem_of_getElem? (i := 442) (by decide +kernel), by decide +kernel⟩
theorem w_407 : Cond.instanceMethod ⟨"ShareGridModel", "key", "(II)I"⟩ ∈ gw := List.mem_filter.mpr ⟨List.mem_of_getElem? (i := 443) (by decide +kernel), by decide +kernel⟩
theorem w_408 : Cond.selects "ShareGridModel" ⟨"ShareGridModel", "key", "(II)I"⟩ ⟨"ShareGridModel", "key", "(II)I"⟩ ∈ gw := List.mem_filter.mpr ⟨List.mem_of_getElem? (i := 444) (by decide +kernel), by decide +kernel⟩
theorem w_409 : Cond.code ⟨"ShareGridModel", "key", "(II)I"⟩ prog_6_method_3_code 3 (some FieldType.int) ∈ gw := List.mem_filter.mpr ⟨List.mem_of_getElem? (i := 445) (by decide +kernel), by decide +kernel⟩
theorem w_410 : Cond.methodLink "ShareGridModel" 59 ⟨"ShareGridModel", "mix", "(II)I"⟩ ∈ gw := List.mem_filter.mpr ⟨List.mem_of_getElem? (i := 446) (by decide +kernel), by decide +kernel⟩
theorem w_412 : Cond.instanceMethod ⟨"ShareGridModel", "mix", "(II)I"⟩ ∈ gw := List.mem_filter.mpr ⟨List.mem_of_getElem? (i := 448) (by decide +kernel), by decide +kernel⟩
theorem w_413 : Cond.code ⟨"ShareGridModel", "mix", "(II)I"⟩ prog_6_method_2_code 4 (some FieldType.int) ∈ gw := List.mem_filter.mpr ⟨List.mem_of_getElem? (i := 449) (by decide +kernel), by decide +kernel⟩
theorem w_414 : Cond.constant "ShareGridModel" 57 40503 ∈ gw := List.mem_filter.mpr ⟨List.mem_of_getElem? (i := 450) (by decide +kernel), by decide +kernel⟩
theorem w_415 : Cond.constant "ShareGridModel" 58 1640531527 ∈ gw := List.mem_filter.mpr ⟨List.mem_of_getElem? (i := 451) (by decide +kernel), by decide +kernel⟩
theorem w_416 : Cond.methodLink "ShareGridLaw" 30 ⟨"ShareGridModel", "create", "(I)I"⟩ ∈ gw := List.mem_filter.mpr ⟨List.mem_of_getElem? (i := 452) (by decide +kernel), by decide +kernel⟩
theorem w_417 : Cond.instanceMethod ⟨"ShareGridModel", "create", "(I)I"⟩ ∈ gw := List.mem_filter.mpr ⟨List.mem_of_getElem? (i := 453) (by decide +kernel), by decide +kernel⟩
theorem w_418 : Cond.selects "ShareGridModel" ⟨"ShareGridModel", "create", "(I)I"⟩ ⟨"ShareGridModel", "create", "(I)I"⟩ ∈ gw := List.mem_filter.mpr ⟨List.mem_of_getElem? (i := 454) (by decide +kernel), by decide +kernel⟩
theorem w_419 : Cond.code ⟨"ShareGridModel", "create", "(I)I"⟩ prog_6_method_5_code 3 (some FieldType.int) ∈ gw := List.mem_filter.mpr ⟨List.mem_of_getElem? (i := 455) (by decide +kernel), by decide +kernel⟩
theorem w_420 : Cond.methodLink "ShareGridModel" 66 ⟨"ShareGridModel", "key", "(II)I"⟩ ∈ gw := List.mem_filter.mpr ⟨List.mem_of_getElem? (i := 456) (by decide +kernel), by decide +kernel⟩
theorem w_421 : Cond.methodLink "ShareGridModel" 69 ⟨"ShareGridModel", "fileOf", "(I)I"⟩ ∈ gw := List.mem_filter.mpr ⟨List.mem_of_getElem? (i := 457) (by decide +kernel), by decide +kernel⟩
theorem w_423 : Cond.instanceMethod ⟨"ShareGridModel", "fileOf", "(I)I"⟩ ∈ gw := List.mem_filter.mpr ⟨List.mem_of_getElem? (i := 459) (by decide +kernel), by decide +kernel⟩
theorem w_424 : Cond.code ⟨"ShareGridModel", "fileOf", "(I)I"⟩ prog_6_method_4_code 3 (some FieldType.int) ∈ gw := List.mem_filter.mpr ⟨List.mem_of_getElem? (i := 460) (by decide +kernel), by decide +kernel⟩
theorem w_425 : Cond.methodLink "ShareGridLaw" 34 ⟨"ShareGridModel", "draft", "(II)I"⟩ ∈ gw := List.mem_filter.mpr ⟨List.mem_of_getElem? (i := 461) (by decide +kernel), by decide +kernel⟩
theorem w_426 : Cond.instanceMethod ⟨"ShareGridModel", "draft", "(II)I"⟩ ∈ gw := List.mem_filter.mpr ⟨List.mem_of_getElem? (i := 462) (by decide +kernel), by decide +kernel⟩
theorem w_427 : Cond.selects "ShareGridModel" ⟨"ShareGridModel", "draft", "(II)I"⟩ ⟨"ShareGridModel", "draft", "(II)I"⟩ ∈ gw := List.mem_filter.mpr ⟨List.mem_of_getElem? (i := 463) (by decide +kernel), by decide +kernel⟩
theorem w_428 : Cond.code ⟨"ShareGridModel", "draft", "(II)I"⟩ prog_6_method_6_code 3 (some FieldType.int) ∈ gw := List.mem_filter.mpr ⟨List.mem_of_getElem? (i := 464) (by decide +kernel), by decide +kernel⟩
theorem w_429 : Cond.methodLink "ShareGridLaw" 38 ⟨"ShareGridModel", "write", "(I)I"⟩ ∈ gw := List.mem_filter.mpr ⟨List.mem_of_getElem? (i := 465) (by decide +kernel), by decide +kernel⟩
theorem w_430 : Cond.instanceMethod ⟨"ShareGridModel", "write", "(I)I"⟩ ∈ gw := List.mem_filter.mpr ⟨List.mem_of_getElem? (i := 466) (by decide +kernel), by decide +kernel⟩
theorem w_431 : Cond.selects "ShareGridModel" ⟨"ShareGridModel", "write", "(I)I"⟩ ⟨"ShareGridModel", "write", "(I)I"⟩ ∈ gw := List.mem_filter.mpr ⟨List.mem_of_getElem? (i := 467) (by decide +kernel), by decide +kernel⟩
theorem w_432 : Cond.code ⟨"ShareGridModel", "write", "(I)I"⟩ prog_6_method_14_code 8 (some FieldType.int) ∈ gw := List.mem_filter.mpr ⟨List.mem_of_getElem? (i := 468) (by decide +kernel), by decide +kernel⟩
theorem w_433 : Cond.methodLink "ShareGridModel" 82 ⟨"ShareGridModel", "upCount", "()I"⟩ ∈ gw := List.mem_filter.mpr ⟨List.mem_of_getElem? (i := 469) (by decide +kernel), by decide +kernel⟩
theorem w_435 : Cond.instanceMethod ⟨"ShareGridModel", "upCount", "()I"⟩ ∈ gw := List.mem_filter.mpr ⟨List.mem_of_getElem? (i := 471) (by decide +kernel), by decide +kernel⟩
theorem w_436 : Cond.code ⟨"ShareGridModel", "upCount", "()I"⟩ prog_6_method_12_code 3 (some FieldType.int) ∈ gw := List.mem_filter.mpr ⟨List.mem_of_getElem? (i := 472) (by decide +kernel), by decide +kernel⟩
theorem w_437 : Cond.methodLink "ShareGridModel" 86 ⟨"ShareGridModel", "shareAt", "(I)I"⟩ ∈ gw := List.mem_filter.mpr ⟨List.mem_of_getElem? (i := 473) (by decide +kernel), by decide +kernel⟩
theorem w_439 : Cond.instanceMethod ⟨"ShareGridModel", "shareAt", "(I)I"⟩ ∈ gw := List.mem_filter.mpr ⟨List.mem_of_getElem? (i := 475) (by decide +kernel), by decide +kernel⟩
theorem w_440 : Cond.code ⟨"ShareGridModel", "shareAt", "(I)I"⟩ prog_6_method_10_code 4 (some FieldType.int) ∈ gw := List.mem_filter.mpr ⟨List.mem_of_getElem? (i := 476) (by decide +kernel), by decide +kernel⟩
theorem w_441 : Cond.methodLink "ShareGridModel" 76 ⟨"ShareGridModel", "power", "(II)I"⟩ ∈ gw := List.mem_filter.mpr ⟨List.mem_of_getElem? (i := 477) (by decide +kernel), by decide +kernel⟩
theorem w_443 : Cond.instanceMethod ⟨"ShareGridModel", "power", "(II)I"⟩ ∈ gw := List.mem_filter.mpr ⟨List.mem_of_getElem? (i := 479) (by decide +kernel), by decide +kernel⟩
theorem w_444 : Cond.code ⟨"ShareGridModel", "power", "(II)I"⟩ prog_6_method_9_code 5 (some FieldType.int) ∈ gw := List.mem_filter.mpr ⟨List.mem_of_getElem? (i := 480) (by decide +kernel), by decide +kernel⟩
theorem w_445 : Cond.methodLink "ShareGridModel" 73 ⟨"ShareGridModel", "product", "(II)I"⟩ ∈ gw := List.mem_filter.mpr ⟨List.mem_of_getElem? (i := 481) (by decide +kernel), by decide +kernel⟩
theorem w_447 : Cond.instanceMethod ⟨"ShareGridModel", "product", "(II)I"⟩ ∈ gw := List.mem_filter.mpr ⟨List.mem_of_getElem? (i := 483) (by decide +kernel), by decide +kernel⟩
theorem w_448 : Cond.code ⟨"ShareGridModel", "product", "(II)I"⟩ prog_6_method_7_code 5 (some FieldType.int) ∈ gw := List.mem_filter.mpr ⟨List.mem_of_getElem? (i := 484) (by decide +kernel), by decide +kernel⟩
theorem w_449 : Cond.methodLink "ShareGridModel" 79 ⟨"ShareGridModel", "scaled", "(II)I"⟩ ∈ gw := List.mem_filter.mpr ⟨List.mem_of_getElem? (i := 485) (by decide +kernel), by decide +kernel⟩
theorem w_451 : Cond.instanceMethod ⟨"ShareGridModel", "scaled", "(II)I"⟩ ∈ gw := List.mem_filter.mpr ⟨List.mem_of_getElem? (i := 487) (by decide +kernel), by decide +kernel⟩
theorem w_452 : Cond.code ⟨"ShareGridModel", "scaled", "(II)I"⟩ prog_6_method_8_code 5 (some FieldType.int) ∈ gw := List.mem_filter.mpr ⟨List.mem_of_getElem? (i := 488) (by decide +kernel), by decide +kernel⟩
theorem w_453 : Cond.methodLink "ShareGridModel" 89 ⟨"ShareGridModel", "keep", "(IIII)V"⟩ ∈ gw := List.mem_filter.mpr ⟨List.mem_of_getElem? (i := 489) (by decide +kernel), by decide +kernel⟩
theorem w_455 : Cond.instanceMethod ⟨"ShareGridModel", "keep", "(IIII)V"⟩ ∈ gw := List.mem_filter.mpr ⟨List.mem_of_getElem? (i := 491) (by decide +kernel), by decide +kernel⟩
theorem w_456 : Cond.code ⟨"ShareGridModel", "keep", "(IIII)V"⟩ prog_6_method_15_code 6 none ∈ gw := List.mem_filter.mpr ⟨List.mem_of_getElem? (i := 492) (by decide +kernel), by decide +kernel⟩
theorem w_457 : Cond.methodLink "ShareGridLaw" 42 ⟨"ShareGridModel", "read", "(I)I"⟩ ∈ gw := List.mem_filter.mpr ⟨List.mem_of_getElem? (i := 493) (by decide +kernel), by decide +kernel⟩
theorem w_458 : Cond.instanceMethod ⟨"ShareGridModel", "read", "(I)I"⟩ ∈ gw := List.mem_filter.mpr ⟨List.mem_of_getElem? (i := 494) (by decide +kernel), by decide +kernel⟩
theorem w_459 : Cond.selects "ShareGridModel" ⟨"ShareGridModel", "read", "(I)I"⟩ ⟨"ShareGridModel", "read", "(I)I"⟩ ∈ gw := List.mem_filter.mpr ⟨List.mem_of_getElem? (i := 495) (by decide +kernel), by decide +kernel⟩
theorem w_460 : Cond.code ⟨"ShareGridModel", "read", "(I)I"⟩ prog_6_method_21_code 5 (some FieldType.int) ∈ gw := List.mem_filter.mpr ⟨List.mem_of_getElem? (i := 496) (by decide +kernel), by decide +kernel⟩
theorem w_461 : Cond.methodLink "ShareGridModel" 108 ⟨"ShareGridModel", "bestOf", "(I)I"⟩ ∈ gw := List.mem_filter.mpr ⟨List.mem_of_getElem? (i := 497) (by decide +kernel), by decide +kernel⟩
theorem w_463 : Cond.instanceMethod ⟨"ShareGridModel", "bestOf", "(I)I"⟩ ∈ gw := List.mem_filter.mpr ⟨List.mem_of_getElem? (i := 499) (by decide +kernel), by decide +kernel⟩
theorem w_464 : Cond.code ⟨"ShareGridModel", "bestOf", "(I)I"⟩ prog_6_method_18_code 5 (some FieldType.int) ∈ gw := List.mem_filter.mpr ⟨List.mem_of_getElem? (i := 500) (by decide +kernel), by decide +kernel⟩
theorem w_465 : Cond.methodLink "ShareGridModel" 100 ⟨"ShareGridModel", "serves", "(III)Z"⟩ ∈ gw := List.mem_filter.mpr ⟨List.mem_of_getElem? (i := 501) (by decide +kernel), by decide +kernel⟩
theorem w_467 : Cond.instanceMethod ⟨"ShareGridModel", "serves", "(III)Z"⟩ ∈ gw := List.mem_filter.mpr ⟨List.mem_of_getElem? (i := 503) (by decide +kernel), by decide +kernel⟩
theorem w_468 : Cond.code ⟨"ShareGridModel", "serves", "(III)Z"⟩ prog_6_method_17_code 4 (some FieldType.boolean) ∈ gw := List.mem_filter.mpr ⟨List.mem_of_getElem? (i := 504) (by decide +kernel), by decide +kernel⟩
theorem w_469 : Cond.methodLink "ShareGridModel" 96 ⟨"ShareGridModel", "isSound", "(II)Z"⟩ ∈ gw := List.mem_filter.mpr ⟨List.mem_of_getElem? (i := 505) (by decide +kernel), by decide +kernel⟩
theorem w_471 : Cond.instanceMethod ⟨"ShareGridModel", "isSound", "(II)Z"⟩ ∈ gw := List.mem_filter.mpr ⟨List.mem_of_getElem? (i := 507) (by decide +kernel), by decide +kernel⟩
theorem w_472 : Cond.code ⟨"ShareGridModel", "isSound", "(II)Z"⟩ prog_6_method_16_code 5 (some FieldType.boolean) ∈ gw := List.mem_filter.mpr ⟨List.mem_of_getElem? (i := 508) (by decide +kernel), by decide +kernel⟩
theorem w_473 : Cond.methodLink "ShareGridModel" 93 ⟨"ShareGridModel", "rootOf", "(II)I"⟩ ∈ gw := List.mem_filter.mpr ⟨List.mem_of_getElem? (i := 509) (by decide +kernel), by decide +kernel⟩
theorem w_475 : Cond.instanceMethod ⟨"ShareGridModel", "rootOf", "(II)I"⟩ ∈ gw := List.mem_filter.mpr ⟨List.mem_of_getElem? (i := 511) (by decide +kernel), by decide +kernel⟩
theorem w_476 : Cond.code ⟨"ShareGridModel", "rootOf", "(II)I"⟩ prog_6_method_11_code 5 (some FieldType.int) ∈ gw := List.mem_filter.mpr ⟨List.mem_of_getElem? (i := 512) (by decide +kernel), by decide +kernel⟩
theorem w_477 : Cond.methodLink "ShareGridModel" 111 ⟨"ShareGridModel", "decode", "(II)V"⟩ ∈ gw := List.mem_filter.mpr ⟨List.mem_of_getElem? (i := 513) (by decide +kernel), by decide +kernel⟩
theorem w_479 : Cond.instanceMethod ⟨"ShareGridModel", "decode", "(II)V"⟩ ∈ gw := List.mem_filter.mpr ⟨List.mem_of_getElem? (i := 515) (by decide +kernel), by decide +kernel⟩
theorem w_480 : Cond.code ⟨"ShareGridModel", "decode", "(II)V"⟩ prog_6_method_20_code 8 none ∈ gw := List.mem_filter.mpr ⟨List.mem_of_getElem? (i := 516) (by decide +kernel), by decide +kernel⟩
theorem w_481 : Cond.methodLink "ShareGridModel" 104 ⟨"ShareGridModel", "subtract", "(III)V"⟩ ∈ gw := List.mem_filter.mpr ⟨List.mem_of_getElem? (i := 517) (by decide +kernel), by decide +kernel⟩
theorem w_483 : Cond.instanceMethod ⟨"ShareGridModel", "subtract", "(III)V"⟩ ∈ gw := List.mem_filter.mpr ⟨List.mem_of_getElem? (i := 519) (by decide +kernel), by decide +kernel⟩
theorem w_484 : Cond.code ⟨"ShareGridModel", "subtract", "(III)V"⟩ prog_6_method_19_code 5 none ∈ gw := List.mem_filter.mpr ⟨List.mem_of_getElem? (i := 520) (by decide +kernel), by decide +kernel⟩
theorem w_485 : Cond.methodLink "ShareGridLaw" 47 ⟨"ShareGridModel", "word", "(I)J"⟩ ∈ gw := List.mem_filter.mpr ⟨List.mem_of_getElem? (i := 521) (by decide +kernel), by decide +kernel⟩
theorem w_486 : Cond.instanceMethod ⟨"ShareGridModel", "word", "(I)J"⟩ ∈ gw := List.mem_filter.mpr ⟨List.mem_of_getElem? (i := 522) (by decide +kernel), by decide +kernel⟩
theorem w_487 : Cond.selects "ShareGridModel" ⟨"ShareGridModel", "word", "(I)J"⟩ ⟨"ShareGridModel", "word", "(I)J"⟩ ∈ gw := List.mem_filter.mpr ⟨List.mem_of_getElem? (i := 523) (by decide +kernel), by decide +kernel⟩
theorem w_488 : Cond.code ⟨"ShareGridModel", "word", "(I)J"⟩ prog_6_method_22_code 2 (some FieldType.long) ∈ gw := List.mem_filter.mpr ⟨List.mem_of_getElem? (i := 524) (by decide +kernel), by decide +kernel⟩
theorem w_489 : Cond.constantLong "ShareGridModel" 119 (-1000000000000) ∈ gw := List.mem_filter.mpr ⟨List.mem_of_getElem? (i := 525) (by decide +kernel), by decide +kernel⟩
theorem w_490 : Cond.methodLink "ShareGridLaw" 51 ⟨"ShareGridModel", "sound", "(I)I"⟩ ∈ gw := List.mem_filter.mpr ⟨List.mem_of_getElem? (i := 526) (by decide +kernel), by decide +kernel⟩
theorem w_491 : Cond.instanceMethod ⟨"ShareGridModel", "sound", "(I)I"⟩ ∈ gw := List.mem_filter.mpr ⟨List.mem_of_getElem? (i := 527) (by decide +kernel), by decide +kernel⟩
theorem w_492 : Cond.selects "ShareGridModel" ⟨"ShareGridModel", "sound", "(I)I"⟩ ⟨"ShareGridModel", "sound", "(I)I"⟩ ∈ gw := List.mem_filter.mpr ⟨List.mem_of_getElem? (i := 528) (by decide +kernel), by decide +kernel⟩
theorem w_493 : Cond.code ⟨"ShareGridModel", "sound", "(I)I"⟩ prog_6_method_23_code 5 (some FieldType.int) ∈ gw := List.mem_filter.mpr ⟨List.mem_of_getElem? (i := 529) (by decide +kernel), by decide +kernel⟩
theorem w_494 : Cond.methodLink "ShareGridLaw" 55 ⟨"ShareGridModel", "best", "(I)I"⟩ ∈ gw := List.mem_filter.mpr ⟨List.mem_of_getElem? (i := 530) (by decide +kernel), by decide +kernel⟩
theorem w_495 : Cond.instanceMethod ⟨"ShareGridModel", "best", "(I)I"⟩ ∈ gw := List.mem_filter.mpr ⟨List.mem_of_getElem? (i := 531) (by decide +kernel), by decide +kernel⟩
theorem w_496 : Cond.selects "ShareGridModel" ⟨"ShareGridModel", "best", "(I)I"⟩ ⟨"ShareGridModel", "best", "(I)I"⟩ ∈ gw := List.mem_filter.mpr ⟨List.mem_of_getElem? (i := 532) (by decide +kernel), by decide +kernel⟩
theorem w_497 : Cond.code ⟨"ShareGridModel", "best", "(I)I"⟩ prog_6_method_24_code 3 (some FieldType.int) ∈ gw := List.mem_filter.mpr ⟨List.mem_of_getElem? (i := 533) (by decide +kernel), by decide +kernel⟩
theorem w_498 : Cond.methodLink "ShareGridLaw" 59 ⟨"ShareGridModel", "repair", "(I)I"⟩ ∈ gw := List.mem_filter.mpr ⟨List.mem_of_getElem? (i := 534) (by decide +kernel), by decide +kernel⟩
theorem w_499 : Cond.instanceMethod ⟨"ShareGridModel", "repair", "(I)I"⟩ ∈ gw := List.mem_filter.mpr ⟨List.mem_of_getElem? (i := 535) (by decide +kernel), by decide +kernel⟩
theorem w_500 : Cond.selects "ShareGridModel" ⟨"ShareGridModel", "repair", "(I)I"⟩ ⟨"ShareGridModel", "repair", "(I)I"⟩ ∈ gw := List.mem_filter.mpr ⟨List.mem_of_getElem? (i := 536) (by decide +kernel), by decide +kernel⟩
theorem w_501 : Cond.code ⟨"ShareGridModel", "repair", "(I)I"⟩ prog_6_method_25_code 7 (some FieldType.int) ∈ gw := List.mem_filter.mpr ⟨List.mem_of_getElem? (i := 537) (by decide +kernel), by decide +kernel⟩
theorem w_502 : Cond.methodLink "ShareGridModel" 121 ⟨"ShareGridModel", "copyRow", "(II)V"⟩ ∈ gw := List.mem_filter.mpr ⟨List.mem_of_getElem? (i := 538) (by decide +kernel), by decide +kernel⟩
theorem w_504 : Cond.instanceMethod ⟨"ShareGridModel", "copyRow", "(II)V"⟩ ∈ gw := List.mem_filter.mpr ⟨List.mem_of_getElem? (i := 540) (by decide +kernel), by decide +kernel⟩
theorem w_505 : Cond.code ⟨"ShareGridModel", "copyRow", "(II)V"⟩ prog_6_method_13_code 4 none ∈ gw := List.mem_filter.mpr ⟨List.mem_of_getElem? (i := 541) (by decide +kernel), by decide +kernel⟩
theorem w_506 : Cond.methodLink "ShareGridLaw" 64 ⟨"ShareGridModel", "server", "(IZZ)I"⟩ ∈ gw := List.mem_filter.mpr ⟨List.mem_of_getElem? (i := 542) (by decide +kernel), by decide +kernel⟩
theorem w_507 : Cond.instanceMethod ⟨"ShareGridModel", "server", "(IZZ)I"⟩ ∈ gw := List.mem_filter.mpr ⟨List.mem_of_getElem? (i := 543) (by decide +kernel), by decide +kernel⟩
theorem w_508 : Cond.selects "ShareGridModel" ⟨"ShareGridModel", "server", "(IZZ)I"⟩ ⟨"ShareGridModel", "server", "(IZZ)I"⟩ ∈ gw := List.mem_filter.mpr ⟨List.mem_of_getElem? (i := 544) (by decide +kernel), by decide +kernel⟩
theorem w_509 : Cond.code ⟨"ShareGridModel", "server", "(IZZ)I"⟩ prog_6_method_27_code 4 (some FieldType.int) ∈ gw := List.mem_filter.mpr ⟨List.mem_of_getElem? (i := 545) (by decide +kernel), by decide +kernel⟩
theorem w_510 : Cond.methodLink "ShareGridLaw" 69 ⟨"ShareGridModel", "tamper", "(IIII)I"⟩ ∈ gw := List.mem_filter.mpr ⟨List.mem_of_getElem? (i := 546) (by decide +kernel), by decide +kernel⟩
theorem w_511 : Cond.instanceMethod ⟨"ShareGridModel", "tamper", "(IIII)I"⟩ ∈ gw := List.mem_filter.mpr ⟨List.mem_of_getElem? (i := 547) (by decide +kernel), by decide +kernel⟩
theorem w_512 : Cond.selects "ShareGridModel" ⟨"ShareGridModel", "tamper", "(IIII)I"⟩ ⟨"ShareGridModel", "tamper", "(IIII)I"⟩ ∈ gw := List.mem_filter.mpr ⟨List.mem_of_getElem? (i := 548) (by decide +kernel), by decide +kernel⟩
theorem w_513 : Cond.code ⟨"ShareGridModel", "tamper", "(IIII)I"⟩ prog_6_method_28_code 5 (some FieldType.int) ∈ gw := List.mem_filter.mpr ⟨List.mem_of_getElem? (i := 549) (by decide +kernel), by decide +kernel⟩
theorem w_514 : Cond.methodLink "ShareGridModel" 124 ⟨"ShareGridModel", "bad", "(II)Z"⟩ ∈ gw := List.mem_filter.mpr ⟨List.mem_of_getElem? (i := 550) (by decide +kernel), by decide +kernel⟩
theorem w_516 : Cond.instanceMethod ⟨"ShareGridModel", "bad", "(II)Z"⟩ ∈ gw := List.mem_filter.mpr ⟨List.mem_of_getElem? (i := 552) (by decide +kernel), by decide +kernel⟩
theorem w_517 : Cond.code ⟨"ShareGridModel", "bad", "(II)Z"⟩ prog_6_method_26_code 3 (some FieldType.boolean) ∈ gw := List.mem_filter.mpr ⟨List.mem_of_getElem? (i := 553) (by decide +kernel), by decide +kernel⟩
theorem w_518 : Cond.methodLink "ShareGridLaw" 73 ⟨"ShareGridModel", "picture", "(II)I"⟩ ∈ gw := List.mem_filter.mpr ⟨List.mem_of_getElem? (i := 554) (by decide +kernel), by decide +kernel⟩
theorem w_519 : Cond.instanceMethod ⟨"ShareGridModel", "picture", "(II)I"⟩ ∈ gw := List.mem_filter.mpr ⟨List.mem_of_getElem? (i := 555) (by decide +kernel), by decide +kernel⟩
theorem w_520 : Cond.selects "ShareGridModel" ⟨"ShareGridModel", "picture", "(II)I"⟩ ⟨"ShareGridModel", "picture", "(II)I"⟩ ∈ gw := List.mem_filter.mpr ⟨List.mem_of_getElem? (i := 556) (by decide +kernel), by decide +kernel⟩
theorem w_521 : Cond.code ⟨"ShareGridModel", "picture", "(II)I"⟩ prog_6_method_29_code 3 (some FieldType.int) ∈ gw := List.mem_filter.mpr ⟨List.mem_of_getElem? (i := 557) (by decide +kernel), by decide +kernel⟩
theorem w_522 : Cond.methodLink "ShareGridLaw" 77 ⟨"ShareGridModel", "fallBack", "(II)I"⟩ ∈ gw := List.mem_filter.mpr ⟨List.mem_of_getElem? (i := 558) (by decide +kernel), by decide +kernel⟩
theorem w_523 : Cond.instanceMethod ⟨"ShareGridModel", "fallBack", "(II)I"⟩ ∈ gw := List.mem_filter.mpr ⟨List.mem_of_getElem? (i := 559) (by decide +kernel), by decide +kernel⟩
theorem w_524 : Cond.selects "ShareGridModel" ⟨"ShareGridModel", "fallBack", "(II)I"⟩ ⟨"ShareGridModel", "fallBack", "(II)I"⟩ ∈ gw := List.mem_filter.mpr ⟨List.mem_of_getElem? (i := 560) (by decide +kernel), by decide +kernel⟩
theorem w_525 : Cond.code ⟨"ShareGridModel", "fallBack", "(II)I"⟩ prog_6_method_30_code 3 (some FieldType.int) ∈ gw := List.mem_filter.mpr ⟨List.mem_of_getElem? (i := 561) (by decide +kernel), by decide +kernel⟩
theorem w_526 : Cond.methodLink "ShareGridLaw" 81 ⟨"ShareGridModel", "wipe", "(II)I"⟩ ∈ gw := List.mem_filter.mpr ⟨List.mem_of_getElem? (i := 562) (by decide +kernel), by decide +kernel⟩
theorem w_527 : Cond.instanceMethod ⟨"ShareGridModel", "wipe", "(II)I"⟩ ∈ gw := List.mem_filter.mpr ⟨List.mem_of_getElem? (i := 563) (by decide +kernel), by decide +kernel⟩
theorem w_528 : Cond.selects "ShareGridModel" ⟨"ShareGridModel", "wipe", "(II)I"⟩ ⟨"ShareGridModel", "wipe", "(II)I"⟩ ∈ gw := List.mem_filter.mpr ⟨List.mem_of_getElem? (i := 564) (by decide +kernel), by decide +kernel⟩
theorem w_529 : Cond.code ⟨"ShareGridModel", "wipe", "(II)I"⟩ prog_6_method_31_code 3 (some FieldType.int) ∈ gw := List.mem_filter.mpr ⟨List.mem_of_getElem? (i := 565) (by decide +kernel), by decide +kernel⟩
theorem w_530 : Cond.methodLink "ShareGridLaw" 86 ⟨"ShareGridModel", "share", "(III)J"⟩ ∈ gw := List.mem_filter.mpr ⟨List.mem_of_getElem? (i := 566) (by decide +kernel), by decide +kernel⟩
theorem w_531 : Cond.instanceMethod ⟨"ShareGridModel", "share", "(III)J"⟩ ∈ gw := List.mem_filter.mpr ⟨List.mem_of_getElem? (i := 567) (by decide +kernel), by decide +kernel⟩
theorem w_532 : Cond.selects "ShareGridModel" ⟨"ShareGridModel", "share", "(III)J"⟩ ⟨"ShareGridModel", "share", "(III)J"⟩ ∈ gw := List.mem_filter.mpr ⟨List.mem_of_getElem? (i := 568) (by decide +kernel), by decide +kernel⟩
theorem w_533 : Cond.code ⟨"ShareGridModel", "share", "(III)J"⟩ prog_6_method_32_code 4 (some FieldType.long) ∈ gw := List.mem_filter.mpr ⟨List.mem_of_getElem? (i := 569) (by decide +kernel), by decide +kernel⟩
theorem w_534 : Cond.methodLink "ShareGridLaw" 90 ⟨"ShareGridModel", "times", "(II)I"⟩ ∈ gw := List.mem_filter.mpr ⟨List.mem_of_getElem? (i := 570) (by decide +kernel), by decide +kernel⟩
theorem w_535 : Cond.instanceMethod ⟨"ShareGridModel", "times", "(II)I"⟩ ∈ gw := List.mem_filter.mpr ⟨List.mem_of_getElem? (i := 571) (by decide +kernel), by decide +kernel⟩
theorem w_536 : Cond.selects "ShareGridModel" ⟨"ShareGridModel", "times", "(II)I"⟩ ⟨"ShareGridModel", "times", "(II)I"⟩ ∈ gw := List.mem_filter.mpr ⟨List.mem_of_getElem? (i := 572) (by decide +kernel), by decide +kernel⟩
theorem w_537 : Cond.code ⟨"ShareGridModel", "times", "(II)I"⟩ prog_6_method_33_code 3 (some FieldType.int) ∈ gw := List.mem_filter.mpr ⟨List.mem_of_getElem? (i := 573) (by decide +kernel), by decide +kernel⟩
theorem w_538 : Cond.methodLink "ShareGridLaw" 94 ⟨"ShareGridModel", "count", "(I)I"⟩ ∈ gw := List.mem_filter.mpr ⟨List.mem_of_getElem? (i := 574) (by decide +kernel), by decide +kernel⟩
theorem w_539 : Cond.instanceMethod ⟨"ShareGridModel", "count", "(I)I"⟩ ∈ gw := List.mem_filter.mpr ⟨List.mem_of_getElem? (i := 575) (by decide +kernel), by decide +kernel⟩
theorem w_540 : Cond.selects "ShareGridModel" ⟨"ShareGridModel", "count", "(I)I"⟩ ⟨"ShareGridModel", "count", "(I)I"⟩ ∈ gw := List.mem_filter.mpr ⟨List.mem_of_getElem? (i := 576) (by decide +kernel), by decide +kernel⟩
theorem w_541 : Cond.code ⟨"ShareGridModel", "count", "(I)I"⟩ prog_6_method_34_code 2 (some FieldType.int) ∈ gw := List.mem_filter.mpr ⟨List.mem_of_getElem? (i := 577) (by decide +kernel), by decide +kernel⟩
theorem i_C : ∀ w ∈ u_ws R_C F_C 3, w ∈ gw := by decide +kernel
theorem i_R : ∀ w ∈ u_ws R_R F_R 5, w ∈ gw := by decide +kernel
theorem i_F : ∀ w ∈ u_ws R_F F_F 6, w ∈ gw := by decide +kernel
theorem i_G : ∀ w ∈ u_ws R_G F_G 12, w ∈ gw := by decide +kernel
theorem i_M : ∀ w ∈ u_ws R_M F_M 17, w ∈ gw := by decide +kernel
def xN : List Cond := [Cond.methodLinkNest "ShareGrid" 33 ⟨"ShareGrid$StoredFile", "<init>", "(I)V"⟩ "ShareGrid", Cond.methodLinkNest "ShareGrid$StoredFile" 20 ⟨"ShareGrid$ServerRecord", "<init>", "(I)V"⟩ "ShareGrid", Cond.fieldLinkNest "ShareGrid$StoredFile" 48 "ShareGrid$ServerRecord" "fingerprints" "[I" "ShareGrid", Cond.fieldLinkNest "ShareGrid" 155 "ShareGrid$ServerRecord" "fingerprints" "[I" "ShareGrid", Cond.fieldLinkNest "ShareGrid$StoredFile" 37 "ShareGrid$ServerRecord" "held" "Z" "ShareGrid", Cond.fieldLinkNest "ShareGrid" 146 "ShareGrid$ServerRecord" "held" "Z" "ShareGrid", Cond.fieldLinkNest "ShareGrid$StoredFile" 41 "ShareGrid$ServerRecord" "share" "I" "ShareGrid", Cond.fieldLinkNest "ShareGrid" 149 "ShareGrid$ServerRecord" "share" "I" "ShareGrid", Cond.fieldLinkNest "ShareGrid$StoredFile" 34 "ShareGrid$ServerRecord" "number" "I" "ShareGrid", Cond.fieldLinkNest "ShareGrid" 152 "ShareGrid$ServerRecord" "number" "I" "ShareGrid", Cond.fieldLinkNest "ShareGrid$StoredFile" 55 "ShareGrid$ServerRecord" "seal" "I" "ShareGrid", Cond.fieldLinkNest "ShareGrid" 101 "ShareGrid$ServerRecord" "seal" "I" "ShareGrid", Cond.fieldLinkNest "ShareGrid" 128 "ShareGrid$StoredFile" "records" "[LShareGrid$ServerRecord;" "ShareGrid", Cond.fieldLinkNest "ShareGrid" 158 "ShareGrid$StoredFile" "pictures" "[LShareGrid$ServerRecord;" "ShareGrid", Cond.fieldLinkNest "ShareGrid" 77 "ShareGrid$StoredFile" "verifyKey" "I" "ShareGrid", Cond.fieldLinkNest "ShareGrid" 88 "ShareGrid$StoredFile" "written" "I" "ShareGrid", Cond.methodLinkNest "ShareGrid" 45 ⟨"ShareGrid$Coder", "<init>", "(I)V"⟩ "ShareGrid", Cond.fieldLinkNest "ShareGrid" 91 "ShareGrid$Coder" "cipherWords" "[I" "ShareGrid", Cond.fieldLinkNest "ShareGrid" 184 "ShareGrid$Coder" "points" "[I" "ShareGrid", Cond.methodLinkNest "ShareGrid" 52 ⟨"ShareGrid$ServerRecord", "<init>", "(I)V"⟩ "ShareGrid", Cond.methodLinkNest "ShareGrid" 196 ⟨"ShareGrid$Coder", "shareAt", "(I)I"⟩ "ShareGrid", Cond.methodLinkNest "ShareGrid$Coder" 20 ⟨"ShareGrid", "pointOf", "(I)I"⟩ "ShareGrid", Cond.methodLinkNest "ShareGrid$Coder" 26 ⟨"ShareGrid", "scaled", "(II)I"⟩ "ShareGrid", Cond.methodLinkNest "ShareGrid" 202 ⟨"ShareGrid$ServerRecord", "rootOfFingerprints", "()I"⟩ "ShareGrid", Cond.methodLinkNest "ShareGrid$ServerRecord" 33 ⟨"ShareGrid", "mix", "(II)I"⟩ "ShareGrid", Cond.methodLinkNest "ShareGrid" 104 ⟨"ShareGrid$StoredFile", "noteNext", "(II)V"⟩ "ShareGrid", Cond.methodLinkNest "ShareGrid" 132 ⟨"ShareGrid$ServerRecord", "copyFrom", "(LShareGrid$ServerRecord;)V"⟩ "ShareGrid", Cond.methodLinkNest "ShareGrid" 125 ⟨"ShareGrid$StoredFile", "isSoundAt", "(I)Z"⟩ "ShareGrid", Cond.methodLinkNest "ShareGrid$StoredFile" 44 ⟨"ShareGrid", "fingerprint", "(II)I"⟩ "ShareGrid", Cond.methodLinkNest "ShareGrid$StoredFile" 51 ⟨"ShareGrid$ServerRecord", "rootOfFingerprints", "()I"⟩ "ShareGrid", Cond.methodLinkNest "ShareGrid" 136 ⟨"ShareGrid$StoredFile", "isSoundWith", "(II)Z"⟩ "ShareGrid", Cond.methodLinkNest "ShareGrid" 190 ⟨"ShareGrid$Coder", "decodeShares", "()V"⟩ "ShareGrid", Cond.methodLinkNest "ShareGrid$Coder" 36 ⟨"ShareGrid", "inverse", "(I)I"⟩ "ShareGrid"]
theorem e_29 : Cond.methodLinkNest "ShareGrid" 33 ⟨"ShareGrid$StoredFile", "<init>", "(I)V"⟩ "ShareGrid" ∈ xN := List.mem_of_getElem? (i := 0) rfl
theorem e_36 : Cond.methodLinkNest "ShareGrid$StoredFile" 20 ⟨"ShareGrid$ServerRecord", "<init>", "(I)V"⟩ "ShareGrid" ∈ xN := List.mem_of_getElem? (i := 1) rfl
theorem e_41 : Cond.fieldLinkNest "ShareGrid$StoredFile" 48 "ShareGrid$ServerRecord" "fingerprints" "[I" "ShareGrid" ∈ xN := List.mem_of_getElem? (i := 2) rfl
theorem e_42 : Cond.fieldLinkNest "ShareGrid" 155 "ShareGrid$ServerRecord" "fingerprints" "[I" "ShareGrid" ∈ xN := List.mem_of_getElem? (i := 3) rfl
theorem e_44 : Cond.fieldLinkNest "ShareGrid$StoredFile" 37 "ShareGrid$ServerRecord" "held" "Z" "ShareGrid" ∈ xN := List.mem_of_getElem? (i := 4) rfl
theorem e_45 : Cond.fieldLinkNest "ShareGrid" 146 "ShareGrid$ServerRecord" "held" "Z" "ShareGrid" ∈ xN := List.mem_of_getElem? (i := 5) rfl
theorem e_47 : Cond.fieldLinkNest "ShareGrid$StoredFile" 41 "ShareGrid$ServerRecord" "share" "I" "ShareGrid" ∈ xN := List.mem_of_getElem? (i := 6) rfl
theorem e_48 : Cond.fieldLinkNest "ShareGrid" 149 "ShareGrid$ServerRecord" "share" "I" "ShareGrid" ∈ xN := List.mem_of_getElem? (i := 7) rfl
theorem e_50 : Cond.fieldLinkNest "ShareGrid$StoredFile" 34 "ShareGrid$ServerRecord" "number" "I" "ShareGrid" ∈ xN := List.mem_of_getElem? (i := 8) rfl
theorem e_51 : Cond.fieldLinkNest "ShareGrid" 152 "ShareGrid$ServerRecord" "number" "I" "ShareGrid" ∈ xN := List.mem_of_getElem? (i := 9) rfl
theorem e_53 : Cond.fieldLinkNest "ShareGrid$StoredFile" 55 "ShareGrid$ServerRecord" "seal" "I" "ShareGrid" ∈ xN := List.mem_of_getElem? (i := 10) rfl
theorem e_54 : Cond.fieldLinkNest "ShareGrid" 101 "ShareGrid$ServerRecord" "seal" "I" "ShareGrid" ∈ xN := List.mem_of_getElem? (i := 11) rfl
theorem e_69 : Cond.fieldLinkNest "ShareGrid" 128 "ShareGrid$StoredFile" "records" "[LShareGrid$ServerRecord;" "ShareGrid" ∈ xN := List.mem_of_getElem? (i := 12) rfl
theorem e_71 : Cond.fieldLinkNest "ShareGrid" 158 "ShareGrid$StoredFile" "pictures" "[LShareGrid$ServerRecord;" "ShareGrid" ∈ xN := List.mem_of_getElem? (i := 13) rfl
theorem e_74 : Cond.fieldLinkNest "ShareGrid" 77 "ShareGrid$StoredFile" "verifyKey" "I" "ShareGrid" ∈ xN := List.mem_of_getElem? (i := 14) rfl
theorem e_76 : Cond.fieldLinkNest "ShareGrid" 88 "ShareGrid$StoredFile" "written" "I" "ShareGrid" ∈ xN := List.mem_of_getElem? (i := 15) rfl
theorem e_92 : Cond.methodLinkNest "ShareGrid" 45 ⟨"ShareGrid$Coder", "<init>", "(I)V"⟩ "ShareGrid" ∈ xN := List.mem_of_getElem? (i := 16) rfl
theorem e_98 : Cond.fieldLinkNest "ShareGrid" 91 "ShareGrid$Coder" "cipherWords" "[I" "ShareGrid" ∈ xN := List.mem_of_getElem? (i := 17) rfl
theorem e_100 : Cond.fieldLinkNest "ShareGrid" 184 "ShareGrid$Coder" "points" "[I" "ShareGrid" ∈ xN := List.mem_of_getElem? (i := 18) rfl
theorem e_109 : Cond.methodLinkNest "ShareGrid" 52 ⟨"ShareGrid$ServerRecord", "<init>", "(I)V"⟩ "ShareGrid" ∈ xN := List.mem_of_getElem? (i := 19) rfl
theorem e_193 : Cond.methodLinkNest "ShareGrid" 196 ⟨"ShareGrid$Coder", "shareAt", "(I)I"⟩ "ShareGrid" ∈ xN := List.mem_of_getElem? (i := 20) rfl
theorem e_197 : Cond.methodLinkNest "ShareGrid$Coder" 20 ⟨"ShareGrid", "pointOf", "(I)I"⟩ "ShareGrid" ∈ xN := List.mem_of_getElem? (i := 21) rfl
theorem e_200 : Cond.methodLinkNest "ShareGrid$Coder" 26 ⟨"ShareGrid", "scaled", "(II)I"⟩ "ShareGrid" ∈ xN := List.mem_of_getElem? (i := 22) rfl
theorem e_211 : Cond.methodLinkNest "ShareGrid" 202 ⟨"ShareGrid$ServerRecord", "rootOfFingerprints", "()I"⟩ "ShareGrid" ∈ xN := List.mem_of_getElem? (i := 23) rfl
theorem e_215 : Cond.methodLinkNest "ShareGrid$ServerRecord" 33 ⟨"ShareGrid", "mix", "(II)I"⟩ "ShareGrid" ∈ xN := List.mem_of_getElem? (i := 24) rfl
theorem e_216 : Cond.methodLinkNest "ShareGrid" 104 ⟨"ShareGrid$StoredFile", "noteNext", "(II)V"⟩ "ShareGrid" ∈ xN := List.mem_of_getElem? (i := 25) rfl
theorem e_228 : Cond.methodLinkNest "ShareGrid" 132 ⟨"ShareGrid$ServerRecord", "copyFrom", "(LShareGrid$ServerRecord;)V"⟩ "ShareGrid" ∈ xN := List.mem_of_getElem? (i := 26) rfl
theorem e_246 : Cond.methodLinkNest "ShareGrid" 125 ⟨"ShareGrid$StoredFile", "isSoundAt", "(I)Z"⟩ "ShareGrid" ∈ xN := List.mem_of_getElem? (i := 27) rfl
theorem e_250 : Cond.methodLinkNest "ShareGrid$StoredFile" 44 ⟨"ShareGrid", "fingerprint", "(II)I"⟩ "ShareGrid" ∈ xN := List.mem_of_getElem? (i := 28) rfl
theorem e_251 : Cond.methodLinkNest "ShareGrid$StoredFile" 51 ⟨"ShareGrid$ServerRecord", "rootOfFingerprints", "()I"⟩ "ShareGrid" ∈ xN := List.mem_of_getElem? (i := 29) rfl
theorem e_256 : Cond.methodLinkNest "ShareGrid" 136 ⟨"ShareGrid$StoredFile", "isSoundWith", "(II)Z"⟩ "ShareGrid" ∈ xN := List.mem_of_getElem? (i := 30) rfl
theorem e_262 : Cond.methodLinkNest "ShareGrid" 190 ⟨"ShareGrid$Coder", "decodeShares", "()V"⟩ "ShareGrid" ∈ xN := List.mem_of_getElem? (i := 31) rfl
theorem e_270 : Cond.methodLinkNest "ShareGrid$Coder" 36 ⟨"ShareGrid", "inverse", "(I)I"⟩ "ShareGrid" ∈ xN := List.mem_of_getElem? (i := 32) rfl
def xO : List String := ["ShareGrid$ServerRecord", "ShareGrid$StoredFile"]
end
section
/-! A world as a partial map from addresses to entries; behind it stands a list of cells as the kit's rows have it. Contracts over such maps: 'xR' (a method that writes nothing), 'xQ' (one that writes). -/
abbrev xM : Type := Nat → Option va_E
def xU (M : xM) (a : Nat) (e : va_E) : xM := fun x => if x = a then some e else M x
theorem xU_s {M : xM} {a : Nat} {e : va_E} : xU M a e a = some e := by simp [xU]
theorem xU_n {M : xM} {a b : Nat} {e : va_E} (h : b ≠ a) : xU M a e b = M b := by simp [xU, h]
theorem xU_k {M : xM} {a b : Nat} {e e' : va_E} (h : b ≠ a) (hb : M b = some e') : xU M a e b = some e' := by rw [xU_n h]; exact hb
def xE (M : xM) (ws : va_W) : Prop := ∀ (a : Nat) (e : va_E), M a = some e ↔ ∃ k : Nat, ws[k]? = some (a, e)
def xW (D : va_G) (cl : List vw_C) (A : Nat → Prop) (M : xM) (H : Heap) : Prop := ∃ ws : va_W, va_P D cl ws H ∧ va_D A ws ∧ xE M ws
theorem xE.set {M : xM} {ws : va_W} {A : Nat → Prop} {q0 a : Nat} {e0 e : va_E} (h : xE M ws) (hD : va_D A ws) (h0 : ws[q0]? = some (a, e0)) : xE (xU M a e) (ws.set q0 (a, e)) := by
  have hl := (List.getElem?_eq_some_iff.mp h0).1
  intro b e'
  by_cases hb : b = a
  · subst hb
    rw [xU_s]
    constructor
    · intro q
      cases q
      exact ⟨q0, List.getElem?_set_self hl⟩
    · rintro ⟨k, hk⟩
      by_cases hkq : k = q0
      · subst hkq
        rw [List.getElem?_set_self hl] at hk
        cases hk
        rfl
      · rw [List.getElem?_set_ne (Ne.symm hkq)] at hk
        exact absurd (hD.1 k q0 _ _ hk h0 rfl) hkq
  · rw [xU_n hb, h b e']
    constructor
    · rintro ⟨k, hk⟩
      refine ⟨k, ?_⟩
      have hkq : k ≠ q0 := fun q => by
        subst q
        rw [h0] at hk
        cases hk
        exact hb rfl
      rw [List.getElem?_set_ne (Ne.symm hkq)]
      exact hk
    · rintro ⟨k, hk⟩
      by_cases hkq : k = q0
      · subst hkq
        rw [List.getElem?_set_self hl] at hk
        cases hk
        exact absurd rfl hb
      · rw [List.getElem?_set_ne (Ne.symm hkq)] at hk
        exact ⟨k, hk⟩
theorem xE.push {M : xM} {ws : va_W} {A : Nat → Prop} {a : Nat} {e : va_E} (h : xE M ws) (hD : va_D A (ws ++ [(a, e)])) : xE (xU M a e) (ws ++ [(a, e)]) ∧ M a = none := by
  have hlast : (ws ++ [(a, e)])[ws.length]? = some (a, e) := by simp
  have hnone : ∀ (k : Nat) (e' : va_E), ws[k]? = some (a, e') → False := by
    intro k e' hk
    have hkl := (List.getElem?_eq_some_iff.mp hk).1
    have h1 : (ws ++ [(a, e)])[k]? = some (a, e') := by rw [List.getElem?_append_left hkl]; exact hk
    have := hD.1 k ws.length _ _ h1 hlast rfl
    omega
  refine ⟨fun b e' => ?_, ?_⟩
  · by_cases hb : b = a
    · subst hb
      rw [xU_s]
      constructor
      · intro q
        cases q
        exact ⟨_, hlast⟩
      · rintro ⟨k, hk⟩
        have hkk := hD.1 k ws.length _ _ hk hlast rfl
        subst hkk
        rw [hlast] at hk
        cases hk
        rfl
    · rw [xU_n hb, h b e']
      constructor
      · rintro ⟨k, hk⟩
        exact ⟨k, by rw [List.getElem?_append_left (List.getElem?_eq_some_iff.mp hk).1]; exact hk⟩
      · rintro ⟨k, hk⟩
        by_cases hkl : k < ws.length
        · rw [List.getElem?_append_left hkl] at hk
          exact ⟨k, hk⟩
        · rw [List.getElem?_append_right (by omega)] at hk
          have hz : k - ws.length < 1 := (List.getElem?_eq_some_iff.mp hk).1
          rw [show k - ws.length = 0 by omega] at hk
          cases hk
          exact absurd rfl hb
  · cases hm : M a with
    | none => rfl
    | some e' =>
      obtain ⟨k, hk⟩ := (h a e').mp hm
      exact (hnone k e' hk).elim
theorem xW.inA {D : va_G} {cl : List vw_C} {A : Nat → Prop} {M : xM} {H : Heap} (h : xW D cl A M H) {a : Nat} {e : va_E} (ha : M a = some e) : A a := by
  obtain ⟨ws, -, hD, hE⟩ := h
  obtain ⟨k, hk⟩ := (hE a e).mp ha
  exact hD.2 k _ hk
theorem xW.wk {D : va_G} {cl : List vw_C} {A A' : Nat → Prop} {M : xM} {H : Heap} (h : xW D cl A M H) (hA : ∀ a e, M a = some e → A' a) : xW D cl A' M H := by
  obtain ⟨ws, hP, hD, hE⟩ := h
  exact ⟨ws, hP, ⟨hD.1, fun k q hk => hA q.1 q.2 ((hE q.1 q.2).mpr ⟨k, hk⟩)⟩, hE⟩
abbrev xT : Nat → Prop := fun _ => True
theorem xW.all {D : va_G} {cl : List vw_C} {A : Nat → Prop} {M : xM} {H : Heap} (h : xW D cl A M H) : xW D cl xT M H := h.wk (fun _ _ _ => trivial)
abbrev tyT (T : Nat → ClassId) : List (ClassId × FieldType) := [(T 0, .int), (T 1, .boolean), (T 2, .object "ShareGrid$ServerRecord"), (T 3, .object "ShareGrid$StoredFile")]
/-- the tables: fields and arrays, the words on nest mates, the arrays of objects -/
def xK (D : va_G) (T : Nat → ClassId) (U : State) : Prop := va_K D classes (tyT T) U ∧ (∀ w ∈ xN, va_Nw w U) ∧ (∀ C ∈ xO, va_AO C U)
def xIsN : Cond → Bool
  | .fieldLinkNest .. => true
  | .methodLinkNest .. => true
  | _ => false
theorem xN_ok : ∀ w ∈ xN, xIsN w = true := by decide +kernel
theorem xIsN_tab {w : Cond} (h : xIsN w = true) : w.onTables = true := by cases w <;> first | rfl | (simp [xIsN] at h)
theorem xIsN_warm {w : Cond} (h : xIsN w = true) {s U : State} (hW : s.WarmedH U.vm) (hz : va_Nw w s) : va_Nw w U := by
  cases w <;> first | exact va_Nw.warmF hW hz | exact va_Nw.warmM hW hz | (simp [xIsN] at h)
theorem xK.warm {D : va_G} {T : Nat → ClassId} {s U : State} (hW : s.WarmedH U.vm) (h : xK D T s) : xK D T U := ⟨va_K.moved hW.alike h.1, fun w hw => xIsN_warm (xN_ok w hw) hW (h.2.1 w hw), fun C hC => va_AO.moved hW.alike (h.2.2 C hC)⟩
theorem xK.calling {D : va_G} {T : Nat → ClassId} {U : State} {g : JFrame} {mk : MethodId} {a : Array Value} (h : xK D T U) : xK D T (U.calling g mk a) := ⟨va_K.moved (u := U) (U := U.calling g mk a) (Vm.Alike.refl U.vm) h.1, fun w hw => va_Nw.same (u := U) (U := U.calling g mk a) (xIsN_tab (xN_ok w hw)) rfl (h.2.1 w hw), fun C hC => va_AO.moved (u := U) (U := U.calling g mk a) (Vm.Alike.refl U.vm) (h.2.2 C hC)⟩
def xPc (D : va_G) (T : Nat → ClassId) (A : Nat → Prop) (M : xM) (av : List Value) : Array Value → State → Prop := fun v U => v = av.toArray ∧ xW D classes A M U.heap ∧ xK D T U
def xPn (D : va_G) (T : Nat → ClassId) (A : Nat → Prop) (M : xM) (sz : Nat) (av : List Value) : Array Value → State → Prop := fun v U => v = av.toArray ∧ xW D classes A M U.heap ∧ xK D T U ∧ U.heap.size = sz
def xR (post : Option Value → Prop) : Array Value → State → Outcome → State → Prop := fun _ st oc t => ∃ r : Option Value, oc = .returned r ∧ post r ∧ t.heap = st.heap
def xQ (D : va_G) (A : Nat → Prop) (post : Option Value → xM → Prop) : Array Value → State → Outcome → State → Prop := fun _ st oc t => ∃ (r : Option Value) (M1 : xM), oc = .returned r ∧ post r M1 ∧ xW D classes A M1 t.heap ∧ va_F A st t
theorem xPc_blind {D : va_G} {T : Nat → ClassId} {A : Nat → Prop} {M : xM} {av : List Value} : FrameBlind (xPc D T A M av) := fun _ _ _ _ q => ⟨q.1, q.2.1, q.2.2.calling⟩
theorem xPn_blind {D : va_G} {T : Nat → ClassId} {A : Nat → Prop} {M : xM} {sz : Nat} {av : List Value} : FrameBlind (xPn D T A M sz av) := fun _ _ _ _ q => ⟨q.1, q.2.1, q.2.2.1.calling, q.2.2.2⟩
section XPRE
variable {s : State} {H : Heap} {D : va_G} {T : Nat → ClassId} {A : Nat → Prop} {M : xM} {As : List Value}
theorem xPre_S (hK : xK D T s) (hP : xW D classes A M H) : PreS s H (xPc D T A M As) As := ⟨xPc_blind, fun U hU hW => ⟨rfl, by rw [hU]; exact hP, hK.warm hW⟩⟩
theorem xRecv {b ci : Nat} {q : vw_C} {fs : List Value} (hK : xK D T s) (hP : xW D classes A M H) (hc : classes[ci]? = some q) (he : M b = some (.inr (ci, fs))) : ∃ cell : Cell, H[b]? = some cell ∧ cell.vm.isStatics = false ∧ s.vm.findClass q.1 = some cell.cls := by
  obtain ⟨ws, hP, -, hE⟩ := hP
  obtain ⟨k, hk⟩ := (hE _ _).mp he
  exact va_recv hK.1 hP hc hk
theorem xPre_V {b ci : Nat} {q : vw_C} {C : String} {fs : List Value} (hK : xK D T s) (hP : xW D classes A M H) (he : M b = some (.inr (ci, fs))) (hc : classes[ci]? = some q) (hC : q.1 = C) : PreV s H C b (xPc D T A M (.ref b :: As)) As := ⟨xPc_blind, by rw [← hC]; exact xRecv hK hP hc he, fun U hU hW => ⟨rfl, by rw [hU]; exact hP, hK.warm hW⟩⟩
theorem xPre_N (hK : xK D T s) (hP : xW D classes A M H) : PreS s H (xPn D T A M H.size As) As := ⟨xPn_blind, fun U hU hW => ⟨rfl, by rw [hU]; exact hP, hK.warm hW, by rw [hU]⟩⟩
end XPRE
section XC
variable {p : Program} {l : Launch} {e : Env} {R : Room} {s : State} {m : MethodId} {args : Array Value} {below : List Frame} {meth : Method} {c : Code} {H : Heap} {locs : List Loc} {cells slots : Nat} {Q : State → Prop}
variable {cc : ByteArray} {pc : Nat} {ls : Array Slot} {rest st0 : List Value} {D : va_G} {cl : List vw_C} {A : Nat → Prop} {a : Nat} {tys : List (ClassId × FieldType)} {M : xM} {H0 : Heap}
theorem x_callR {post : Option Value → Prop} {av : Array Value} (hr : va_Run p l e R s m args below meth c H locs cells slots 0 0 (F0 m pc ls st0) rest (xR post av) (fun _ => False))
    (kk : ∀ r : Option Value, post r → W p l e R s m args below meth c H locs cells slots Q (F0 m (pc + 3) ls (r.toList ++ rest))) : W p l e R s m args below meth c H locs cells slots Q (F0 m pc ls st0) := by
  intro T hT X
  obtain ⟨v, st₀, t, T', L, h0, X', hL, e1, e2, ⟨r, hv, hp, hh⟩, st⟩ := hr T hT X
  cases hv
  obtain ⟨t2, a1, b1⟩ := kk v hp T' (by rw [e1, hh, h0]) (Stand.forget X' (fun q h => (hL q h).elim))
  exact ⟨t2, st t2 a1, b1⟩
theorem x_callQ {post : Option Value → xM → Prop} {av : Array Value} {mc ms : Nat} (hr : va_Run p l e R s m args below meth c H locs cells slots mc ms (F0 m pc ls st0) rest (xQ D A post av) A) (hS : va_S A H0 H locs)
    (kk : ∀ (r : Option Value) (M1 : xM) (H1 : Heap) (locs1 : List Loc), post r M1 → xW D classes A M1 H1 → va_S A H0 H1 locs1 → W p l e R s m args below meth c H1 locs1 (cells + mc) (slots + ms) Q (F0 m (pc + 3) ls (r.toList ++ rest))) : W p l e R s m args below meth c H locs cells slots Q (F0 m pc ls st0) := by
  intro T hT X
  obtain ⟨v, st₀, t, T', L, h0, X', hL, e1, e2, ⟨r, M1, hv, hp, hP1, hz, hk⟩, st⟩ := hr T hT X
  cases hv
  rw [h0] at hz hk
  have hS1 : va_S A H0 T'.heap (locs ++ L) := by
    refine ⟨Nat.le_trans hS.1 (by rw [e1]; exact hz), fun q h1 h2 => ?_, fun q hq => ?_⟩
    · rw [e1, hk q (Nat.lt_of_lt_of_le h1 hS.1) h2]
      exact hS.2.1 q h1 h2
    · rcases List.mem_append.mp hq with h | h
      · exact hS.2.2 q h
      · exact hL q h
  obtain ⟨t2, a1, b1⟩ := kk v M1 T'.heap (locs ++ L) hp (by rw [e1]; exact hP1) hS1 T' rfl X'
  exact ⟨t2, st t2 a1, b1⟩
theorem x_get (hexec : p.tables.exec = Jvm.exec) (hb : c.code = cc) {own ref C : String} {T : u_T} {N ci index : Nat} {Ts : List Cond} (hts : ∀ w ∈ Ts, w.before args s = true) (hin : ∀ w ∈ u_ws C T N, w ∈ Ts) (hown : s.vm.findClass own = some m.cls) (hK : va_K D cl tys s) (hP : xW D cl A M H) {fs : List Value} (he : M a = some (.inr (ci, fs))) (hc : cl[ci]? = some (C, T, N)) (k : Nat) (hk : k < N) (hlink : (Cond.fieldLink own index ref (T k).2.1 (T k).2.2.1).before args s = true) (hsame : ∀ x, s.fieldFound? (T k).1 (T k).2.1 (T k).2.2.1 = some x → s.fieldFound? ref (T k).2.1 (T k).2.2.1 = some x) {v : Value} (hv : fs[k]? = some v) (hdg : decode cc pc = .ok (.getfield index, 3))
    (kk : W p l e R s m args below meth c H locs cells slots Q (F0 m (pc + 3) ls (v :: rest))) : W p l e R s m args below meth c H locs cells slots Q (F0 m pc ls (.ref a :: rest)) := by
  obtain ⟨ws, hP, -, hE⟩ := hP
  obtain ⟨q0, h0⟩ := (hE _ _).mp he
  exact va_get hexec hb hts hin hown hK hP q0 h0 hc k hk hlink hsame hv hdg kk
theorem x_getN (hexec : p.tables.exec = Jvm.exec) (hb : c.code = cc) {own ref C host : String} {T : u_T} {N ci index : Nat} {Ts : List Cond} (hts : ∀ w ∈ Ts, w.before args s = true) (hin : ∀ w ∈ u_ws C T N, w ∈ Ts) (hown : s.vm.findClass own = some m.cls) (hK : va_K D cl tys s) (hP : xW D cl A M H) {fs : List Value} (he : M a = some (.inr (ci, fs))) (hc : cl[ci]? = some (C, T, N)) (k : Nat) (hk : k < N) (hlink : (Cond.fieldLinkNest own index ref (T k).2.1 (T k).2.2.1 host).before args s = true) (hsame : ∀ x, s.fieldFound? (T k).1 (T k).2.1 (T k).2.2.1 = some x → s.fieldFound? ref (T k).2.1 (T k).2.2.1 = some x) {v : Value} (hv : fs[k]? = some v) (hdg : decode cc pc = .ok (.getfield index, 3))
    (kk : W p l e R s m args below meth c H locs cells slots Q (F0 m (pc + 3) ls (v :: rest))) : W p l e R s m args below meth c H locs cells slots Q (F0 m pc ls (.ref a :: rest)) := by
  obtain ⟨ws, hP, -, hE⟩ := hP
  obtain ⟨q0, h0⟩ := (hE _ _).mp he
  exact va_getN hexec hb hts hin hown hK hP q0 h0 hc k hk hlink hsame hv hdg kk
theorem x_put (hexec : p.tables.exec = Jvm.exec) (hb : c.code = cc) {own ref C : String} {T : u_T} {N ci index : Nat} {Ts : List Cond} (hts : ∀ w ∈ Ts, w.before args s = true) (hin : ∀ w ∈ u_ws C T N, w ∈ Ts) (ty0 : Nat → FieldType) (hty : ∀ k, k < N → parseFieldDescriptor (T k).2.2.1 = some (ty0 k)) (hnm : ∀ a, a < N → ∀ b, b < N → a ≠ b → (T a).2.1 ≠ (T b).2.1) (hown : s.vm.findClass own = some m.cls) (hK : va_K D cl tys s) (hP : xW D cl A M H) (hS0 : va_S A H0 H locs) {fs : List Value} (he : M a = some (.inr (ci, fs))) (hc : cl[ci]? = some (C, T, N)) (k : Nat) (hk : k < N) (hlink : (Cond.fieldLink own index ref (T k).2.1 (T k).2.2.1).before args s = true) (hsame : ∀ x, s.fieldFound? (T k).1 (T k).2.1 (T k).2.2.1 = some x → s.fieldFound? ref (T k).2.1 (T k).2.2.1 = some x) (hfin : (T k).2.2.2 = false) {ty : FieldType} {v : Value} (hd : parseFieldDescriptor (T k).2.2.1 = some ty) (hn : narrow ty v = v) (hfit : fits ty v = true) (hl : k < fs.length)
    (hdg : decode cc pc = .ok (.putfield index, 3)) (kk : ∀ (H1 : Heap) (locs1 : List Loc), xW D cl A (xU M a (.inr (ci, fs.set k v))) H1 → va_S A H0 H1 locs1 → W p l e R s m args below meth c H1 locs1 cells slots Q (F0 m (pc + 3) ls rest)) : W p l e R s m args below meth c H locs cells slots Q (F0 m pc ls (v :: .ref a :: rest)) := by
  obtain ⟨ws, hP, hD, hE⟩ := hP
  obtain ⟨q0, h0⟩ := (hE _ _).mp he
  exact va_put hexec hb hts hin ty0 hty hnm hown hK hP hD hS0 q0 h0 hc k hk hlink hsame hfin hd hn hfit hl hdg (fun H1 locs1 g1 g2 g3 => kk H1 locs1 ⟨_, g1, g2, hE.set hD h0⟩ g3)
theorem x_putN (hexec : p.tables.exec = Jvm.exec) (hb : c.code = cc) {own ref C host : String} {T : u_T} {N ci index : Nat} {Ts : List Cond} (hts : ∀ w ∈ Ts, w.before args s = true) (hin : ∀ w ∈ u_ws C T N, w ∈ Ts) (ty0 : Nat → FieldType) (hty : ∀ k, k < N → parseFieldDescriptor (T k).2.2.1 = some (ty0 k)) (hnm : ∀ a, a < N → ∀ b, b < N → a ≠ b → (T a).2.1 ≠ (T b).2.1) (hown : s.vm.findClass own = some m.cls) (hK : va_K D cl tys s) (hP : xW D cl A M H) (hS0 : va_S A H0 H locs) {fs : List Value} (he : M a = some (.inr (ci, fs))) (hc : cl[ci]? = some (C, T, N)) (k : Nat) (hk : k < N) (hlink : (Cond.fieldLinkNest own index ref (T k).2.1 (T k).2.2.1 host).before args s = true) (hsame : ∀ x, s.fieldFound? (T k).1 (T k).2.1 (T k).2.2.1 = some x → s.fieldFound? ref (T k).2.1 (T k).2.2.1 = some x) (hfin : (T k).2.2.2 = false) {ty : FieldType} {v : Value} (hd : parseFieldDescriptor (T k).2.2.1 = some ty) (hn : narrow ty v = v) (hfit : fits ty v = true) (hl : k < fs.length)
    (hdg : decode cc pc = .ok (.putfield index, 3)) (kk : ∀ (H1 : Heap) (locs1 : List Loc), xW D cl A (xU M a (.inr (ci, fs.set k v))) H1 → va_S A H0 H1 locs1 → W p l e R s m args below meth c H1 locs1 cells slots Q (F0 m (pc + 3) ls rest)) : W p l e R s m args below meth c H locs cells slots Q (F0 m pc ls (v :: .ref a :: rest)) := by
  obtain ⟨ws, hP, hD, hE⟩ := hP
  obtain ⟨q0, h0⟩ := (hE _ _).mp he
  exact va_putN hexec hb hts hin ty0 hty hnm hown hK hP hD hS0 q0 h0 hc k hk hlink hsame hfin hd hn hfit hl hdg (fun H1 locs1 g1 g2 g3 => kk H1 locs1 ⟨_, g1, g2, hE.set hD h0⟩ g3)
theorem x_putF (hexec : p.tables.exec = Jvm.exec) (hb : c.code = cc) {own ref C : String} {T : u_T} {N ci index : Nat} {Ts : List Cond} (hts : ∀ w ∈ Ts, w.before args s = true) (hin : ∀ w ∈ u_ws C T N, w ∈ Ts) (ty0 : Nat → FieldType) (hty : ∀ k, k < N → parseFieldDescriptor (T k).2.2.1 = some (ty0 k)) (hnm : ∀ a, a < N → ∀ b, b < N → a ≠ b → (T a).2.1 ≠ (T b).2.1) (hown : s.vm.findClass own = some m.cls) (hK : va_K D cl tys s) (hP : xW D cl A M H) (hS0 : va_S A H0 H locs) {fs : List Value} (he : M a = some (.inr (ci, fs))) (hc : cl[ci]? = some (C, T, N)) (k : Nat) (hk : k < N) (hlink : (Cond.fieldLink own index ref (T k).2.1 (T k).2.2.1).before args s = true) (hsame : ∀ x, s.fieldFound? (T k).1 (T k).2.1 (T k).2.2.1 = some x → s.fieldFound? ref (T k).2.1 (T k).2.2.1 = some x) (hfin : (T k).2.2.2 = true) (hin2 : meth.name = "<init>") (hdecl : (T k).1 = own) {ty : FieldType} {v : Value} (hd : parseFieldDescriptor (T k).2.2.1 = some ty) (hn : narrow ty v = v) (hfit : fits ty v = true) (hl : k < fs.length)
    (hdg : decode cc pc = .ok (.putfield index, 3)) (kk : ∀ (H1 : Heap) (locs1 : List Loc), xW D cl A (xU M a (.inr (ci, fs.set k v))) H1 → va_S A H0 H1 locs1 → W p l e R s m args below meth c H1 locs1 cells slots Q (F0 m (pc + 3) ls rest)) : W p l e R s m args below meth c H locs cells slots Q (F0 m pc ls (v :: .ref a :: rest)) := by
  obtain ⟨ws, hP, hD, hE⟩ := hP
  obtain ⟨q0, h0⟩ := (hE _ _).mp he
  exact va_putF hexec hb hts hin ty0 hty hnm hown hK hP hD hS0 q0 h0 hc k hk hlink hsame hfin hin2 hdecl hd hn hfit hl hdg (fun H1 locs1 g1 g2 g3 => kk H1 locs1 ⟨_, g1, g2, hE.set hD h0⟩ g3)
theorem x_iald (hexec : p.tables.exec = Jvm.exec) (hb : c.code = cc) (hK : va_K D cl tys s) (hP : xW D cl A M H) (t0 : Nat) {cA : ClassId} {n : Nat} {f : Nat → Int32} (ha : M a = some (.inl (cA, n, .inl f))) (ht : tys[t0]? = some (cA, .int)) {i : Int32} (hin : vp_in i n) {v : Int32} (hv : f i.toNatClampNeg = v) (hdg : decode cc pc = .ok (.iaload, 1))
    (kk : W p l e R s m args below meth c H locs cells slots Q (F0 m (pc + 1) ls (.int v :: rest))) : W p l e R s m args below meth c H locs cells slots Q (F0 m pc ls (.int i :: .ref a :: rest)) := by
  obtain ⟨ws, hP, -, hE⟩ := hP
  obtain ⟨q0, h0⟩ := (hE _ _).mp ha
  exact va_iald hexec hb hK hP q0 t0 h0 ht hin hdg (by rw [hv]; exact kk)
theorem x_zald (hexec : p.tables.exec = Jvm.exec) (hb : c.code = cc) (hK : va_K D cl tys s) (hP : xW D cl A M H) (t0 : Nat) {cA : ClassId} {n : Nat} {f : Nat → Int32} (ha : M a = some (.inl (cA, n, .inl f))) (ht : tys[t0]? = some (cA, .boolean)) {i : Int32} (hin : vp_in i n) {v : Int32} (hv : f i.toNatClampNeg = v) (hdg : decode cc pc = .ok (.baload, 1))
    (kk : W p l e R s m args below meth c H locs cells slots Q (F0 m (pc + 1) ls (.int v :: rest))) : W p l e R s m args below meth c H locs cells slots Q (F0 m pc ls (.int i :: .ref a :: rest)) := by
  obtain ⟨ws, hP, -, hE⟩ := hP
  obtain ⟨q0, h0⟩ := (hE _ _).mp ha
  exact va_zald hexec hb hK hP q0 t0 h0 ht hin hdg (by rw [hv]; exact kk)
theorem x_aldq (hexec : p.tables.exec = Jvm.exec) (hb : c.code = cc) (hK : va_K D cl tys s) (hP : xW D cl A M H) (t0 : Nat) {cA : ClassId} {C : String} {n : Nat} {f : Nat → Option Nat} (ha : M a = some (.inl (cA, n, .inr (.inr (.inr (.inr f)))))) (ht : tys[t0]? = some (cA, .object C)) {i : Int32} (hin : vp_in i n) {v : Value} (hv : va_rf (f i.toNatClampNeg) = v) (hdg : decode cc pc = .ok (.aaload, 1))
    (kk : W p l e R s m args below meth c H locs cells slots Q (F0 m (pc + 1) ls (v :: rest))) : W p l e R s m args below meth c H locs cells slots Q (F0 m pc ls (.int i :: .ref a :: rest)) := by
  obtain ⟨ws, hP, -, hE⟩ := hP
  obtain ⟨q0, h0⟩ := (hE _ _).mp ha
  exact va_aldq hexec hb hK hP q0 t0 h0 ht hin hdg (by rw [hv]; exact kk)
theorem x_alen (hexec : p.tables.exec = Jvm.exec) (hb : c.code = cc) (hK : va_K D cl tys s) (hP : xW D cl A M H) (t0 : Nat) {cA : ClassId} {x : vp_A} (ha : M a = some (.inl (cA, x))) {ty : FieldType} (ht : tys[t0]? = some (cA, ty)) {v : Int32} (hv : Int32.ofNat x.1 = v) (hdg : decode cc pc = .ok (.arraylength, 1))
    (kk : W p l e R s m args below meth c H locs cells slots Q (F0 m (pc + 1) ls (.int v :: rest))) : W p l e R s m args below meth c H locs cells slots Q (F0 m pc ls (.ref a :: rest)) := by
  obtain ⟨ws, hP, -, hE⟩ := hP
  obtain ⟨q0, h0⟩ := (hE _ _).mp ha
  exact va_alen hexec hb hK hP q0 t0 h0 ht hv hdg kk
theorem x_iast (hexec : p.tables.exec = Jvm.exec) (hb : c.code = cc) (hK : va_K D cl tys s) (hP : xW D cl A M H) (hS : va_S A H0 H locs) (t0 : Nat) {cA : ClassId} {n : Nat} {f : Nat → Int32} (ha : M a = some (.inl (cA, n, .inl f))) (ht : tys[t0]? = some (cA, .int)) {i : Int32} {x : Int32} (hin : vp_in i n) (hdg : decode cc pc = .ok (.iastore, 1))
    (kk : ∀ (H1 : Heap) (locs1 : List Loc), xW D cl A (xU M a (.inl (cA, n, .inl (upd f i.toNatClampNeg x)))) H1 → va_S A H0 H1 locs1 → W p l e R s m args below meth c H1 locs1 cells slots Q (F0 m (pc + 1) ls rest)) : W p l e R s m args below meth c H locs cells slots Q (F0 m pc ls (.int x :: .int i :: .ref a :: rest)) := by
  obtain ⟨ws, hP, hD, hE⟩ := hP
  obtain ⟨q0, h0⟩ := (hE _ _).mp ha
  exact va_iast hexec hb hK hP hD hS q0 t0 h0 ht hin hdg (fun H1 locs1 g1 g2 g3 => kk H1 locs1 ⟨_, g1, g2, hE.set hD h0⟩ g3)
theorem x_zast (hexec : p.tables.exec = Jvm.exec) (hb : c.code = cc) (hK : va_K D cl tys s) (hP : xW D cl A M H) (hS : va_S A H0 H locs) (t0 : Nat) {cA : ClassId} {n : Nat} {f : Nat → Int32} (ha : M a = some (.inl (cA, n, .inl f))) (ht : tys[t0]? = some (cA, .boolean)) {i : Int32} {x : Int32} (hin : vp_in i n) (hdg : decode cc pc = .ok (.bastore, 1))
    (kk : ∀ (H1 : Heap) (locs1 : List Loc), xW D cl A (xU M a (.inl (cA, n, .inl (upd f i.toNatClampNeg (vp_nar .boolean x))))) H1 → va_S A H0 H1 locs1 → W p l e R s m args below meth c H1 locs1 cells slots Q (F0 m (pc + 1) ls rest)) : W p l e R s m args below meth c H locs cells slots Q (F0 m pc ls (.int x :: .int i :: .ref a :: rest)) := by
  obtain ⟨ws, hP, hD, hE⟩ := hP
  obtain ⟨q0, h0⟩ := (hE _ _).mp ha
  exact va_zast hexec hb hK hP hD hS q0 t0 h0 ht hin hdg (fun H1 locs1 g1 g2 g3 => kk H1 locs1 ⟨_, g1, g2, hE.set hD h0⟩ g3)
theorem x_astq (hexec : p.tables.exec = Jvm.exec) (hb : c.code = cc) (hK : va_K D cl tys s) (hP : xW D cl A M H) (hS : va_S A H0 H locs) (t0 ci : Nat) {cA : ClassId} {r : vw_C} {n v : Nat} {vs : List Value} {f : Nat → Option Nat} (ha : M a = some (.inl (cA, n, .inr (.inr (.inr (.inr f)))))) (ht : tys[t0]? = some (cA, .object r.1)) (hv : M v = some (.inr (ci, vs))) (hc : cl[ci]? = some r) {i : Int32} (hin : vp_in i n) (hdg : decode cc pc = .ok (.aastore, 1))
    (kk : ∀ (H1 : Heap) (locs1 : List Loc), xW D cl A (xU M a (.inl (cA, n, .inr (.inr (.inr (.inr (va_up f i.toNatClampNeg (some v)))))))) H1 → va_S A H0 H1 locs1 → W p l e R s m args below meth c H1 locs1 cells slots Q (F0 m (pc + 1) ls rest)) : W p l e R s m args below meth c H locs cells slots Q (F0 m pc ls (.ref v :: .int i :: .ref a :: rest)) := by
  obtain ⟨ws, hP, hD, hE⟩ := hP
  obtain ⟨q0, h0⟩ := (hE _ _).mp ha
  obtain ⟨qk, h1⟩ := (hE _ _).mp hv
  exact va_astq hexec hb hK hP hD hS q0 t0 qk ci h0 ht h1 hc hin hdg (fun H1 locs1 g1 g2 g3 => kk H1 locs1 ⟨_, g1, g2, hE.set hD h0⟩ g3)
theorem x_astqN (hexec : p.tables.exec = Jvm.exec) (hb : c.code = cc) (hK : va_K D cl tys s) (hP : xW D cl A M H) (hS : va_S A H0 H locs) (t0 : Nat) {cA : ClassId} {C : String} {n : Nat} {f : Nat → Option Nat} (ha : M a = some (.inl (cA, n, .inr (.inr (.inr (.inr f)))))) (ht : tys[t0]? = some (cA, .object C)) {i : Int32} (hin : vp_in i n) (hdg : decode cc pc = .ok (.aastore, 1))
    (kk : ∀ (H1 : Heap) (locs1 : List Loc), xW D cl A (xU M a (.inl (cA, n, .inr (.inr (.inr (.inr (va_up f i.toNatClampNeg none))))))) H1 → va_S A H0 H1 locs1 → W p l e R s m args below meth c H1 locs1 cells slots Q (F0 m (pc + 1) ls rest)) : W p l e R s m args below meth c H locs cells slots Q (F0 m pc ls (.null :: .int i :: .ref a :: rest)) := by
  obtain ⟨ws, hP, hD, hE⟩ := hP
  obtain ⟨q0, h0⟩ := (hE _ _).mp ha
  exact va_astqN hexec hb hK hP hD hS q0 t0 h0 ht hin hdg (fun H1 locs1 g1 g2 g3 => kk H1 locs1 ⟨_, g1, g2, hE.set hD h0⟩ g3)
/-- two array classes of one name are one -/
theorem xRA_i {cA cB : ClassId} (h1 : va_RA s cA .int) (h2 : va_RA s cB .int) : cA = cB := Option.some.inj (Eq.trans (Eq.symm h1) h2)
theorem xRA_z {cA cB : ClassId} (h1 : va_RA s cA .boolean) (h2 : va_RA s cB .boolean) : cA = cB := Option.some.inj (Eq.trans (Eq.symm h1) h2)
theorem xRA_q {C : String} {cA cB : ClassId} (h1 : va_RA s cA (.object C)) (h2 : va_RA s cB (.object C)) : cA = cB := by
  obtain ⟨_, _, -, -, -, a1⟩ := h1
  obtain ⟨_, _, -, -, -, a2⟩ := h2
  exact Option.some.inj (a1.symm.trans a2)
theorem xK_last {cA : ClassId} {ty : FieldType} (h : va_K D cl (tys ++ [(cA, ty)]) s) : va_RA s cA ty := (h.2 tys.length (cA, ty) (by simp)).2
theorem x_newi (hexec : p.tables.exec = Jvm.exec) (hb : c.code = cc) {atype : ArrayType} (harr : (Cond.arrayClass (newarray.typeOf atype)).before args s = true) (hty : newarray.typeOf atype = .int) (hK : va_K D cl tys s) (hP : xW D cl A M H) (hS : va_S A H0 H locs) (hA : ∀ q, H0.size ≤ q → A q) (t0 : Nat) {cA : ClassId} (ht : tys[t0]? = some (cA, .int))
    {n : Int32} {N' : Nat} (hn : ¬ n < 0) (hN : n.toNatClampNeg = N') (hbytes : N' * 4 ≤ 536870912) (hcells : cells + 1 ≤ R.cells) (hslots : slots + N' ≤ R.slots) (hdg : decode cc pc = .ok (.newarray atype, 2))
    (kk : ∀ (q : Nat) (H1 : Heap), M q = none → xW D cl A (xU M q (.inl (cA, N', .inl (fun _ => 0)))) H1 → va_S A H0 H1 locs →
      W p l e R s m args below meth c H1 locs (cells + 1) (slots + N') Q (F0 m (pc + 2) ls (.ref q :: rest))) : W p l e R s m args below meth c H locs cells slots Q (F0 m pc ls (.int n :: rest)) := by
  obtain ⟨ws, hP, hD, hE⟩ := hP
  refine va_newa (a0 := (N', .inl (fun _ => 0))) hexec hb harr hty hK hP hD hS hA (fun _ => rfl) hn hN hbytes hcells hslots hdg (fun q cB H1 g0 g1 g2 g3 => ?_)
  have hcc : cB = cA := xRA_i (xK_last g0) (hK.2 t0 _ ht).2
  subst hcc
  obtain ⟨h1, h2⟩ := hE.push g2
  exact kk q H1 h2 ⟨_, g1, g2, h1⟩ g3
theorem x_newz (hexec : p.tables.exec = Jvm.exec) (hb : c.code = cc) {atype : ArrayType} (harr : (Cond.arrayClass (newarray.typeOf atype)).before args s = true) (hty : newarray.typeOf atype = .boolean) (hK : va_K D cl tys s) (hP : xW D cl A M H) (hS : va_S A H0 H locs) (hA : ∀ q, H0.size ≤ q → A q) (t0 : Nat) {cA : ClassId} (ht : tys[t0]? = some (cA, .boolean))
    {n : Int32} {N' : Nat} (hn : ¬ n < 0) (hN : n.toNatClampNeg = N') (hbytes : N' * 1 ≤ 536870912) (hcells : cells + 1 ≤ R.cells) (hslots : slots + N' ≤ R.slots) (hdg : decode cc pc = .ok (.newarray atype, 2))
    (kk : ∀ (q : Nat) (H1 : Heap), M q = none → xW D cl A (xU M q (.inl (cA, N', .inl (fun _ => 0)))) H1 → va_S A H0 H1 locs →
      W p l e R s m args below meth c H1 locs (cells + 1) (slots + N') Q (F0 m (pc + 2) ls (.ref q :: rest))) : W p l e R s m args below meth c H locs cells slots Q (F0 m pc ls (.int n :: rest)) := by
  obtain ⟨ws, hP, hD, hE⟩ := hP
  refine va_newa (a0 := (N', .inl (fun _ => 0))) hexec hb harr hty hK hP hD hS hA (fun _ => rfl) hn hN hbytes hcells hslots hdg (fun q cB H1 g0 g1 g2 g3 => ?_)
  have hcc : cB = cA := xRA_z (xK_last g0) (hK.2 t0 _ ht).2
  subst hcc
  obtain ⟨h1, h2⟩ := hE.push g2
  exact kk q H1 h2 ⟨_, g1, g2, h1⟩ g3
theorem x_newq (hexec : p.tables.exec = Jvm.exec) (hb : c.code = cc) {own C : String} {index : Nat} (hown : s.vm.findClass own = some m.cls) (hclink : (Cond.classLink own index C).before args s = true) (hover : va_AO C s) (hK : va_K D cl tys s) (hP : xW D cl A M H) (hS : va_S A H0 H locs) (hA : ∀ q, H0.size ≤ q → A q) (t0 : Nat) {cA : ClassId} (ht : tys[t0]? = some (cA, .object C))
    {n : Int32} {N' : Nat} (hn : ¬ n < 0) (hN : n.toNatClampNeg = N') (hbytes : N' * 4 ≤ 536870912) (hcells : cells + 1 ≤ R.cells) (hslots : slots + N' ≤ R.slots) (hdg : decode cc pc = .ok (.anewarray index, 3))
    (kk : ∀ (q : Nat) (H1 : Heap), M q = none → xW D cl A (xU M q (.inl (cA, N', .inr (.inr (.inr (.inr (fun _ => none))))))) H1 → va_S A H0 H1 locs →
      W p l e R s m args below meth c H1 locs (cells + 1) (slots + N') Q (F0 m (pc + 3) ls (.ref q :: rest))) : W p l e R s m args below meth c H locs cells slots Q (F0 m pc ls (.int n :: rest)) := by
  obtain ⟨ws, hP, hD, hE⟩ := hP
  refine va_newq hexec hb hown hclink hover hK hP hD hS hA hn hN hbytes hcells hslots hdg (fun q cB H1 g0 g1 g2 g3 => ?_)
  have hcc : cB = cA := xRA_q (xK_last g0) (hK.2 t0 _ ht).2
  subst hcc
  obtain ⟨h1, h2⟩ := hE.push g2
  exact kk q H1 h2 ⟨_, g1, g2, h1⟩ g3
theorem x_new {c0 : Code} (hexec : p.tables.exec = Jvm.exec) (hb : c0.code = cc) {own C : String} {T : u_T} {N ci index : Nat} {Ts : List Cond} (hts : ∀ w ∈ Ts, w.before args s = true) (hin : ∀ w ∈ u_ws C T N, w ∈ Ts) (ty : Nat → FieldType) (hty : ∀ k, k < N → parseFieldDescriptor (T k).2.2.1 = some (ty k)) (hown : s.vm.findClass own = some m.cls) (hcl : (Cond.classLink own index C).before args s = true) (hinst : (Cond.instantiable C N).before args s = true) (hini : (Cond.initialized C).before args s = true)
    (hK : va_K D cl tys s) (hP : xW D cl A M H) (hS : va_S A H0 H locs) (hA : ∀ q, H0.size ≤ q → A q) (hc : cl[ci]? = some (C, T, N)) {fs : List Value} (hfs : ∀ j, j < N → defaultValue (ty j) = vp_V fs j) (hcells : cells + 1 ≤ R.cells) (hslots : slots + N ≤ R.slots) (hdg : decode cc pc = .ok (.new index, 3))
    (kk : ∀ (q : Nat) (H1 : Heap), M q = none → xW D cl A (xU M q (.inr (ci, fs))) H1 → va_S A H0 H1 locs →
      W p l e R s m args below meth c0 H1 locs (cells + 1) (slots + N) Q (F0 m (pc + 3) ls (.ref q :: rest))) : W p l e R s m args below meth c0 H locs cells slots Q (F0 m pc ls rest) := by
  obtain ⟨ws, hP, hD, hE⟩ := hP
  refine va_new hexec hb hts hin ty hty hown hcl hinst hini hK hP hD hS hA hc hfs hcells hslots hdg (fun q H1 g1 g2 g3 => ?_)
  obtain ⟨h1, h2⟩ := hE.push g2
  exact kk q H1 h2 ⟨_, g1, g2, h1⟩ g3
theorem x_copyi (hexec : p.tables.exec = Jvm.exec) (hb : c.code = cc) (hml : c.maxLocals = ls.size) {own : String} {index : Nat} (hown : s.vm.findClass own = some m.cls) (hlink : (Cond.methodLink own index arraycopyName).before args s = true) (hnat : (Cond.native arraycopyName).before args s = true) (hstat : (Cond.static arraycopyName).before args s = true) (hini : (Cond.initialized "java/lang/System").before args s = true)
    (hK : va_K D cl tys s) (hP : xW D cl A M H) (hS : va_S A H0 H locs) (t0 : Nat) {a0 : Nat} {c0 : ClassId} {n0 n1 : Nat} {f g : Nat → Int32} (ha0 : M a0 = some (.inl (c0, n0, .inl f))) (ha1 : M a = some (.inl (c0, n1, .inl g))) (ht0 : tys[t0]? = some (c0, .int))
    {sp dp n : Int32} (h1 : ¬ sp < 0) (h2 : ¬ dp < 0) (h3 : ¬ n < 0) (h4 : sp.toNatClampNeg + n.toNatClampNeg ≤ n0) (h5 : dp.toNatClampNeg + n.toNatClampNeg ≤ n1)
    (hframes : 1 ≤ R.frames) (hlocals : (rest.map fun v => v.category).sum + (nativeFrameWords "java/lang/System" "arraycopy" 5 + 11) ≤ R.locals) (hdg : decode cc pc = .ok (.invokestatic index, 3))
    (kk : ∀ (H1 : Heap) (locs1 : List Loc), xW D cl A (xU M a (.inl (c0, n1, .inl (va_cpy f g sp.toNatClampNeg dp.toNatClampNeg n.toNatClampNeg)))) H1 → va_S A H0 H1 locs1 → W p l e R s m args below meth c H1 locs1 cells slots Q (F0 m (pc + 3) ls rest)) : W p l e R s m args below meth c H locs cells slots Q (F0 m pc ls (.int n :: .int dp :: .ref a :: .int sp :: .ref a0 :: rest)) := by
  obtain ⟨ws, hP, hD, hE⟩ := hP
  obtain ⟨q0, g0⟩ := (hE _ _).mp ha0
  obtain ⟨q1, g1⟩ := (hE _ _).mp ha1
  exact va_copyi hexec hb hml hown hlink hnat hstat hini hK hP hD hS q0 q1 t0 t0 g0 g1 ht0 ht0 rfl h1 h2 h3 h4 h5 (fun _ _ => rfl) hframes hlocals hdg (fun H1 locs1 k1 k2 k3 => kk H1 locs1 ⟨_, k1, k2, hE.set hD g1⟩ k3)
end XC
/-! words of a call -/
section XCW
variable {R : Room} {s : State} {args : Array Value} {own host : String} {index maxL mc ms : Nat} {y : MethodName} {bytes : ByteArray} {ret : Option FieldType} {rm : Room}
theorem gB (n : Nat) (hg : ∀ w ∈ gw, w.before args s = true) (m1 : Cond.code y bytes maxL ret ∈ gw) (m2 : Cond.initialized y.cls ∈ gw) (m3 : Cond.methodLink own index y ∈ gw) (hrc : rm.cells = mc) (hrs : rm.slots = ms) (hd : y.cls ≠ "java/lang/invoke/MethodHandle" ∧ y.cls ≠ "java/lang/invoke/VarHandle" ∧ (parseMethodDescriptor y.desc).map (fun d => d.parameters.length) = some n) (hR : rm.frames + 1 ≤ R.frames ∧ 8 + (maxL + 11) + rm.locals ≤ R.locals) : CallB R s args own index y bytes maxL ret (Cond.code y bytes maxL ret :: gw) rm mc ms n := callB_of n hg (gi m1) rfl hrc hrs (hg _ m2) (hg _ m3) hd hR
theorem gV (n : Nat) (hg : ∀ w ∈ gw, w.before args s = true) (m1 : Cond.code y bytes maxL ret ∈ gw) (m2 : Cond.initialized y.cls ∈ gw) (m3 : Cond.methodLink own index y ∈ gw) (m4 : Cond.instanceMethod y ∈ gw) (m5 : Cond.selects y.cls y y ∈ gw) (hrc : rm.cells = mc) (hrs : rm.slots = ms) (hd : y.cls ≠ "java/lang/invoke/MethodHandle" ∧ y.cls ≠ "java/lang/invoke/VarHandle" ∧ (parseMethodDescriptor y.desc).map (fun d => d.parameters.length) = some n) (hR : rm.frames + 1 ≤ R.frames ∧ 8 + (maxL + 11) + rm.locals ≤ R.locals) : CallW R s args own y.cls index y bytes maxL ret (Cond.code y bytes maxL ret :: gw) rm mc ms n := ⟨gB n hg m1 m2 m3 hrc hrs hd hR, hg _ m4, hg _ m5⟩
theorem gS (n : Nat) (hg : ∀ w ∈ gw, w.before args s = true) (m1 : Cond.code y bytes maxL ret ∈ gw) (m2 : Cond.initialized y.cls ∈ gw) (m3 : Cond.methodLink own index y ∈ gw) (m4 : Cond.static y ∈ gw) (hrc : rm.cells = mc) (hrs : rm.slots = ms) (hd : y.cls ≠ "java/lang/invoke/MethodHandle" ∧ y.cls ≠ "java/lang/invoke/VarHandle" ∧ (parseMethodDescriptor y.desc).map (fun d => d.parameters.length) = some n) (hR : rm.frames + 1 ≤ R.frames ∧ 8 + (maxL + 11) + rm.locals ≤ R.locals) : CallB R s args own index y bytes maxL ret (Cond.code y bytes maxL ret :: gw) rm mc ms n ∧ (Cond.static y).before args s = true := ⟨gB n hg m1 m2 m3 hrc hrs hd hR, hg _ m4⟩
theorem gI (n : Nat) (hg : ∀ w ∈ gw, w.before args s = true) (m1 : Cond.code y bytes maxL none ∈ gw) (m2 : Cond.initialized y.cls ∈ gw) (m3 : Cond.methodLink own index y ∈ gw) (m4 : Cond.instanceMethod y ∈ gw) (hi : y.name = "<init>") (hrc : rm.cells = mc) (hrs : rm.slots = ms) (hd : y.cls ≠ "java/lang/invoke/MethodHandle" ∧ y.cls ≠ "java/lang/invoke/VarHandle" ∧ (parseMethodDescriptor y.desc).map (fun d => d.parameters.length) = some n) (hR : rm.frames + 1 ≤ R.frames ∧ 8 + (maxL + 11) + rm.locals ≤ R.locals) : CallB R s args own index y bytes maxL none (Cond.code y bytes maxL none :: gw) rm mc ms n ∧ y.name = "<init>" ∧ (Cond.instanceMethod y).before args s = true := ⟨gB n hg m1 m2 m3 hrc hrs hd hR, hi, hg _ m4⟩
theorem gNB (n : Nat) (hg : ∀ w ∈ gw, w.before args s = true) (hN : ∀ w ∈ xN, va_Nw w s) (m1 : Cond.code y bytes maxL ret ∈ gw) (m2 : Cond.initialized y.cls ∈ gw) (m3 : Cond.methodLinkNest own index y host ∈ xN) (hrc : rm.cells = mc) (hrs : rm.slots = ms) (hd : y.cls ≠ "java/lang/invoke/MethodHandle" ∧ y.cls ≠ "java/lang/invoke/VarHandle" ∧ (parseMethodDescriptor y.desc).map (fun d => d.parameters.length) = some n) (hR : rm.frames + 1 ≤ R.frames ∧ 8 + (maxL + 11) + rm.locals ≤ R.locals) : va_CN R s args own index y host bytes maxL ret (Cond.code y bytes maxL ret :: gw) rm mc ms n := va_cnB n hg (gi m1) rfl hrc hrs (hN _ m3) (hg _ m2) hd hR
theorem gNV (n : Nat) (hg : ∀ w ∈ gw, w.before args s = true) (hN : ∀ w ∈ xN, va_Nw w s) (m1 : Cond.code y bytes maxL ret ∈ gw) (m2 : Cond.initialized y.cls ∈ gw) (m3 : Cond.methodLinkNest own index y host ∈ xN) (m4 : Cond.instanceMethod y ∈ gw) (m5 : Cond.selects y.cls y y ∈ gw) (hrc : rm.cells = mc) (hrs : rm.slots = ms) (hd : y.cls ≠ "java/lang/invoke/MethodHandle" ∧ y.cls ≠ "java/lang/invoke/VarHandle" ∧ (parseMethodDescriptor y.desc).map (fun d => d.parameters.length) = some n) (hR : rm.frames + 1 ≤ R.frames ∧ 8 + (maxL + 11) + rm.locals ≤ R.locals) : va_CN R s args own index y host bytes maxL ret (Cond.code y bytes maxL ret :: gw) rm mc ms n ∧ (Cond.instanceMethod y).before args s = true ∧ (Cond.selects y.cls y y).before args s = true := ⟨gNB n hg hN m1 m2 m3 hrc hrs hd hR, hg _ m4, hg _ m5⟩
theorem gNS (n : Nat) (hg : ∀ w ∈ gw, w.before args s = true) (hN : ∀ w ∈ xN, va_Nw w s) (m1 : Cond.code y bytes maxL ret ∈ gw) (m2 : Cond.initialized y.cls ∈ gw) (m3 : Cond.methodLinkNest own index y host ∈ xN) (m4 : Cond.static y ∈ gw) (hrc : rm.cells = mc) (hrs : rm.slots = ms) (hd : y.cls ≠ "java/lang/invoke/MethodHandle" ∧ y.cls ≠ "java/lang/invoke/VarHandle" ∧ (parseMethodDescriptor y.desc).map (fun d => d.parameters.length) = some n) (hR : rm.frames + 1 ≤ R.frames ∧ 8 + (maxL + 11) + rm.locals ≤ R.locals) : va_CN R s args own index y host bytes maxL ret (Cond.code y bytes maxL ret :: gw) rm mc ms n ∧ (Cond.static y).before args s = true ∧ True := ⟨gNB n hg hN m1 m2 m3 hrc hrs hd hR, hg _ m4, trivial⟩
theorem gNI (n : Nat) (hg : ∀ w ∈ gw, w.before args s = true) (hN : ∀ w ∈ xN, va_Nw w s) (m1 : Cond.code y bytes maxL none ∈ gw) (m2 : Cond.initialized y.cls ∈ gw) (m3 : Cond.methodLinkNest own index y host ∈ xN) (m4 : Cond.instanceMethod y ∈ gw) (hi : y.name = "<init>") (hrc : rm.cells = mc) (hrs : rm.slots = ms) (hd : y.cls ≠ "java/lang/invoke/MethodHandle" ∧ y.cls ≠ "java/lang/invoke/VarHandle" ∧ (parseMethodDescriptor y.desc).map (fun d => d.parameters.length) = some n) (hR : rm.frames + 1 ≤ R.frames ∧ 8 + (maxL + 11) + rm.locals ≤ R.locals) : va_CN R s args own index y host bytes maxL none (Cond.code y bytes maxL none :: gw) rm mc ms n ∧ y.name = "<init>" ∧ (Cond.instanceMethod y).before args s = true := ⟨gNB n hg hN m1 m2 m3 hrc hrs hd hR, hi, hg _ m4⟩
end XCW
/-! bodies: a contract out of a walk from the first instruction; the end is given by rows for the return -/
section XB
variable {l : Launch} {y : MethodName} {rm : Room} {D : va_G} {T : Nat → ClassId} {A : Nat → Prop} {M : xM} {av : List Value} {cc : ByteArray} {maxL mc ms : Nat}
/-- what a body may use -/
def xB (p : Program) (s : State) (m : MethodId) (meth : Method) (c : Code) (y : MethodName) (cc : ByteArray) (maxL : Nat) (D : va_G) (T : Nat → ClassId) (av : List Value) : Prop :=
  p.tables.exec = Jvm.exec ∧ c.code = cc ∧ c.maxLocals = maxL ∧ s.vm.findClass y.cls = some m.cls ∧ (∀ w ∈ gw, w.before av.toArray s = true) ∧ xK D T s ∧ meth.name = y.name
theorem xMetRi {post : Option Value → Prop} (hy : plainName y.cls = true) (hlen : (lg_sl av).length ≤ maxL)
    (body : ∀ (p : Program) (e : Env) (s : State) (m : MethodId) (below : List Frame) (meth : Method) (c : Code) (Q : State → Prop) (ls : Array Slot), xB p s m meth c y cc maxL D T av → xW D classes A M s.heap → lv_has ls maxL (lv_args 0 av) →
      (∀ (pc : Nat) (ls : Array Slot) (v : Int32), decode cc pc = .ok (.ireturn, 1) → post (some (.int v)) → W p l e rm s m av.toArray below meth c s.heap [] 0 0 Q (F0 m pc ls [.int v])) →
      W p l e rm s m av.toArray below meth c s.heap [] 0 0 Q (F0 m 0 ls [])) : Met l y (Cond.code y cc maxL (some .int) :: gw) rm (xPc D T A M av) (xR post) 0 0 (fun _ => False) := by
  refine Met.ofW (cc := cc) (maxL := maxL) (ret := (some .int)) hy rfl ?_
  intro p e s m args below meth c s₁ B hml hv
  obtain ⟨rfl, hP, hK⟩ := hv
  have hlocks := B.notSynchronized
  have hts := atoms_spec (ws := Cond.code y cc maxL (some .int) :: gw) B.pre
  rw [lg_entry_eq]
  exact body p e s m below meth c _ _ ⟨B.exec, B.bytes, hml, findClass_of_methodNamed B.named, fun w hw => hts w (List.mem_cons_of_mem _ hw), hK, (name_of_methodNamed B.named B.method).1⟩ hP (lv_entry av hlen)
    (fun pc ls v hd hp => W.iret (v := v) B.exec B.bytes B.returns (fun t ht _ => ⟨_, rfl, hp, ht⟩) (fun _ h => by cases h) hd)
theorem xMetRz {post : Option Value → Prop} (hy : plainName y.cls = true) (hlen : (lg_sl av).length ≤ maxL)
    (body : ∀ (p : Program) (e : Env) (s : State) (m : MethodId) (below : List Frame) (meth : Method) (c : Code) (Q : State → Prop) (ls : Array Slot), xB p s m meth c y cc maxL D T av → xW D classes A M s.heap → lv_has ls maxL (lv_args 0 av) →
      (∀ (pc : Nat) (ls : Array Slot) (v : Int32), decode cc pc = .ok (.ireturn, 1) → (v = 0 ∨ v = 1) → post (some (.int v)) → W p l e rm s m av.toArray below meth c s.heap [] 0 0 Q (F0 m pc ls [.int v])) →
      W p l e rm s m av.toArray below meth c s.heap [] 0 0 Q (F0 m 0 ls [])) : Met l y (Cond.code y cc maxL (some .boolean) :: gw) rm (xPc D T A M av) (xR post) 0 0 (fun _ => False) := by
  refine Met.ofW (cc := cc) (maxL := maxL) (ret := (some .boolean)) hy rfl ?_
  intro p e s m args below meth c s₁ B hml hv
  obtain ⟨rfl, hP, hK⟩ := hv
  have hlocks := B.notSynchronized
  have hts := atoms_spec (ws := Cond.code y cc maxL (some .boolean) :: gw) B.pre
  rw [lg_entry_eq]
  exact body p e s m below meth c _ _ ⟨B.exec, B.bytes, hml, findClass_of_methodNamed B.named, fun w hw => hts w (List.mem_cons_of_mem _ hw), hK, (name_of_methodNamed B.named B.method).1⟩ hP (lv_entry av hlen)
    (fun pc ls v hd hz hp => W.zret (v := v) B.exec B.bytes B.returns (by rcases hz with rfl | rfl <;> rfl) (fun t ht _ => ⟨_, rfl, hp, ht⟩) (fun _ h => by cases h) hd)
theorem xMetRl {post : Option Value → Prop} (hy : plainName y.cls = true) (hlen : (lg_sl av).length ≤ maxL)
    (body : ∀ (p : Program) (e : Env) (s : State) (m : MethodId) (below : List Frame) (meth : Method) (c : Code) (Q : State → Prop) (ls : Array Slot), xB p s m meth c y cc maxL D T av → xW D classes A M s.heap → lv_has ls maxL (lv_args 0 av) →
      (∀ (pc : Nat) (ls : Array Slot) (v : Int64), decode cc pc = .ok (.lreturn, 1) → post (some (.long v)) → W p l e rm s m av.toArray below meth c s.heap [] 0 0 Q (F0 m pc ls [.long v])) →
      W p l e rm s m av.toArray below meth c s.heap [] 0 0 Q (F0 m 0 ls [])) : Met l y (Cond.code y cc maxL (some .long) :: gw) rm (xPc D T A M av) (xR post) 0 0 (fun _ => False) := by
  refine Met.ofW (cc := cc) (maxL := maxL) (ret := (some .long)) hy rfl ?_
  intro p e s m args below meth c s₁ B hml hv
  obtain ⟨rfl, hP, hK⟩ := hv
  have hlocks := B.notSynchronized
  have hts := atoms_spec (ws := Cond.code y cc maxL (some .long) :: gw) B.pre
  rw [lg_entry_eq]
  exact body p e s m below meth c _ _ ⟨B.exec, B.bytes, hml, findClass_of_methodNamed B.named, fun w hw => hts w (List.mem_cons_of_mem _ hw), hK, (name_of_methodNamed B.named B.method).1⟩ hP (lv_entry av hlen)
    (fun pc ls v hd hp => W.lret (v := v) B.exec B.bytes B.returns (fun t ht _ => ⟨_, rfl, hp, ht⟩) (fun _ h => by cases h) hd)
theorem xMetQi {post : Option Value → xM → Prop} (hy : plainName y.cls = true) (hlen : (lg_sl av).length ≤ maxL)
    (body : ∀ (p : Program) (e : Env) (s : State) (m : MethodId) (below : List Frame) (meth : Method) (c : Code) (Q : State → Prop) (ls : Array Slot), xB p s m meth c y cc maxL D T av → xW D classes A M s.heap → va_S A s.heap s.heap [] → lv_has ls maxL (lv_args 0 av) →
      (∀ (pc : Nat) (ls : Array Slot) (v : Int32) (M1 : xM) (H1 : Heap) (locs1 : List Loc), decode cc pc = .ok (.ireturn, 1) → xW D classes A M1 H1 → va_S A s.heap H1 locs1 → post (some (.int v)) M1 → W p l e rm s m av.toArray below meth c H1 locs1 mc ms Q (F0 m pc ls [.int v])) →
      W p l e rm s m av.toArray below meth c s.heap [] 0 0 Q (F0 m 0 ls [])) : Met l y (Cond.code y cc maxL (some .int) :: gw) rm (xPc D T A M av) (xQ D A post) mc ms A := by
  refine Met.ofW (cc := cc) (maxL := maxL) (ret := (some .int)) hy rfl ?_
  intro p e s m args below meth c s₁ B hml hv
  obtain ⟨rfl, hP, hK⟩ := hv
  have hlocks := B.notSynchronized
  have hts := atoms_spec (ws := Cond.code y cc maxL (some .int) :: gw) B.pre
  rw [lg_entry_eq]
  exact body p e s m below meth c _ _ ⟨B.exec, B.bytes, hml, findClass_of_methodNamed B.named, fun w hw => hts w (List.mem_cons_of_mem _ hw), hK, (name_of_methodNamed B.named B.method).1⟩ hP va_S.rf (lv_entry av hlen)
    (fun pc ls v M1 H1 locs1 hd hP1 hS1 hp => W.iret (v := v) B.exec B.bytes B.returns (fun t ht _ => ⟨_, M1, rfl, hp, by rw [ht]; exact hP1, hS1.F ht⟩) hS1.2.2 hd)
theorem xMetQv {post : Option Value → xM → Prop} (hy : plainName y.cls = true) (hlen : (lg_sl av).length ≤ maxL)
    (body : ∀ (p : Program) (e : Env) (s : State) (m : MethodId) (below : List Frame) (meth : Method) (c : Code) (Q : State → Prop) (ls : Array Slot), xB p s m meth c y cc maxL D T av → xW D classes A M s.heap → va_S A s.heap s.heap [] → lv_has ls maxL (lv_args 0 av) →
      (∀ (pc : Nat) (ls : Array Slot) (M1 : xM) (H1 : Heap) (locs1 : List Loc), decode cc pc = .ok (.return_, 1) → xW D classes A M1 H1 → va_S A s.heap H1 locs1 → post none M1 → W p l e rm s m av.toArray below meth c H1 locs1 mc ms Q (F0 m pc ls [])) →
      W p l e rm s m av.toArray below meth c s.heap [] 0 0 Q (F0 m 0 ls [])) : Met l y (Cond.code y cc maxL none :: gw) rm (xPc D T A M av) (xQ D A post) mc ms A := by
  refine Met.ofW (cc := cc) (maxL := maxL) (ret := none) hy rfl ?_
  intro p e s m args below meth c s₁ B hml hv
  obtain ⟨rfl, hP, hK⟩ := hv
  have hlocks := B.notSynchronized
  have hts := atoms_spec (ws := Cond.code y cc maxL none :: gw) B.pre
  rw [lg_entry_eq]
  exact body p e s m below meth c _ _ ⟨B.exec, B.bytes, hml, findClass_of_methodNamed B.named, fun w hw => hts w (List.mem_cons_of_mem _ hw), hK, (name_of_methodNamed B.named B.method).1⟩ hP va_S.rf (lv_entry av hlen)
    (fun pc ls M1 H1 locs1 hd hP1 hS1 hp => W.vret B.exec B.bytes B.returns (fun t ht _ => ⟨_, M1, rfl, hp, by rw [ht]; exact hP1, hS1.F ht⟩) hS1.2.2 hd)
theorem xMetNv {post : Option Value → xM → Prop} {sz : Nat} (hA : ∀ q, sz ≤ q → A q) (hy : plainName y.cls = true) (hlen : (lg_sl av).length ≤ maxL)
    (body : ∀ (p : Program) (e : Env) (s : State) (m : MethodId) (below : List Frame) (meth : Method) (c : Code) (Q : State → Prop) (ls : Array Slot), xB p s m meth c y cc maxL D T av → xW D classes A M s.heap → va_S A s.heap s.heap [] → (∀ q, s.heap.size ≤ q → A q) → lv_has ls maxL (lv_args 0 av) →
      (∀ (pc : Nat) (ls : Array Slot) (M1 : xM) (H1 : Heap) (locs1 : List Loc), decode cc pc = .ok (.return_, 1) → xW D classes A M1 H1 → va_S A s.heap H1 locs1 → post none M1 → W p l e rm s m av.toArray below meth c H1 locs1 mc ms Q (F0 m pc ls [])) →
      W p l e rm s m av.toArray below meth c s.heap [] 0 0 Q (F0 m 0 ls [])) : Met l y (Cond.code y cc maxL none :: gw) rm (xPn D T A M sz av) (xQ D A post) mc ms A := by
  refine Met.ofW (cc := cc) (maxL := maxL) (ret := none) hy rfl ?_
  intro p e s m args below meth c s₁ B hml hv
  obtain ⟨rfl, hP, hK, rfl⟩ := hv
  have hlocks := B.notSynchronized
  have hts := atoms_spec (ws := Cond.code y cc maxL none :: gw) B.pre
  rw [lg_entry_eq]
  exact body p e s m below meth c _ _ ⟨B.exec, B.bytes, hml, findClass_of_methodNamed B.named, fun w hw => hts w (List.mem_cons_of_mem _ hw), hK, (name_of_methodNamed B.named B.method).1⟩ hP va_S.rf hA (lv_entry av hlen)
    (fun pc ls M1 H1 locs1 hd hP1 hS1 hp => W.vret B.exec B.bytes B.returns (fun t ht _ => ⟨_, M1, rfl, hp, by rw [ht]; exact hP1, hS1.F ht⟩) hS1.2.2 hd)
end XB
end
section
/-! rows of the walker: rooms by height, numbers, calls in one step -/
def ushF (x y : Int32) : Int32 := (x.toUInt32 >>> (y.toUInt32 &&& Int32.toUInt32 31)).toInt32
def rmH (h : Nat) : Room := { frames := h, cells := 0, slots := 0, locals := 36 * h }
def rmC (h k n : Nat) : Room := { frames := h, cells := k, slots := n, locals := 36 * h }
section XR
variable {p : Program} {l : Launch} {e : Env} {R : Room} {s : State} {m : MethodId} {args : Array Value} {below : List Frame} {meth : Method} {c : Code} {H : Heap} {locs : List Loc} {cells slots : Nat} {Q : State → Prop}
variable {cc : ByteArray} {pc : Nat} {ls : Array Slot} {rest : List Value} {D : va_G} {T : Nat → ClassId} {A : Nat → Prop} {M : xM} {H0 : Heap}
theorem x_top {x y : Int32} (h : x = y) (k : W p l e R s m args below meth c H locs cells slots Q (F0 m pc ls (.int y :: rest))) : W p l e R s m args below meth c H locs cells slots Q (F0 m pc ls (.int x :: rest)) := by rw [h]; exact k
theorem x_fr {st0 : List Value} {pc1 : Nat} (st : List Value) (h : st0 = st) (hp : pc1 = pc) (k : W p l e R s m args below meth c H locs cells slots Q (F0 m pc ls st)) : W p l e R s m args below meth c H locs cells slots Q (F0 m pc1 ls st0) := by rw [h, hp]; exact k
theorem x_nc_eq (hexec : p.tables.exec = Jvm.exec) (hb : c.code = cc) {a b : Nat} {off : Int} {tgt : Nat} (hdg : decode cc pc = .ok (.if_icmp .eq off, 3)) (ht : (pc : Int) + off = (tgt : Int)) (ha : a < 2 ^ 31) (hb2 : b < 2 ^ 31)
    (kt : a = b → W p l e R s m args below meth c H locs cells slots Q (F0 m tgt ls rest)) (kf : a ≠ b → W p l e R s m args below meth c H locs cells slots Q (F0 m (pc + 3) ls rest)) : W p l e R s m args below meth c H locs cells slots Q (F0 m pc ls (.int (nI b) :: .int (nI a) :: rest)) :=
  lv_icmp_eq hexec hb hdg ht (fun h => kt (by exact (nI_eq ha hb2).mp h)) (fun h => kf (by exact fun q => h ((nI_eq ha hb2).mpr q)))
theorem x_nc_ne (hexec : p.tables.exec = Jvm.exec) (hb : c.code = cc) {a b : Nat} {off : Int} {tgt : Nat} (hdg : decode cc pc = .ok (.if_icmp .ne off, 3)) (ht : (pc : Int) + off = (tgt : Int)) (ha : a < 2 ^ 31) (hb2 : b < 2 ^ 31)
    (kt : a ≠ b → W p l e R s m args below meth c H locs cells slots Q (F0 m tgt ls rest)) (kf : a = b → W p l e R s m args below meth c H locs cells slots Q (F0 m (pc + 3) ls rest)) : W p l e R s m args below meth c H locs cells slots Q (F0 m pc ls (.int (nI b) :: .int (nI a) :: rest)) :=
  lv_icmp_ne hexec hb hdg ht (fun h => kt (by exact fun q => h ((nI_eq ha hb2).mpr q))) (fun h => kf (by exact (nI_eq ha hb2).mp h))
theorem x_nc_lt (hexec : p.tables.exec = Jvm.exec) (hb : c.code = cc) {a b : Nat} {off : Int} {tgt : Nat} (hdg : decode cc pc = .ok (.if_icmp .lt off, 3)) (ht : (pc : Int) + off = (tgt : Int)) (ha : a < 2 ^ 31) (hb2 : b < 2 ^ 31)
    (kt : a < b → W p l e R s m args below meth c H locs cells slots Q (F0 m tgt ls rest)) (kf : b ≤ a → W p l e R s m args below meth c H locs cells slots Q (F0 m (pc + 3) ls rest)) : W p l e R s m args below meth c H locs cells slots Q (F0 m pc ls (.int (nI b) :: .int (nI a) :: rest)) :=
  lv_icmp_lt hexec hb hdg ht (fun h => kt (by exact (nI_ltI ha hb2).mp h)) (fun h => kf (by exact Nat.not_lt.mp fun q => h ((nI_ltI ha hb2).mpr q)))
theorem x_nc_ge (hexec : p.tables.exec = Jvm.exec) (hb : c.code = cc) {a b : Nat} {off : Int} {tgt : Nat} (hdg : decode cc pc = .ok (.if_icmp .ge off, 3)) (ht : (pc : Int) + off = (tgt : Int)) (ha : a < 2 ^ 31) (hb2 : b < 2 ^ 31)
    (kt : b ≤ a → W p l e R s m args below meth c H locs cells slots Q (F0 m tgt ls rest)) (kf : a < b → W p l e R s m args below meth c H locs cells slots Q (F0 m (pc + 3) ls rest)) : W p l e R s m args below meth c H locs cells slots Q (F0 m pc ls (.int (nI b) :: .int (nI a) :: rest)) :=
  lv_icmp_ge hexec hb hdg ht (fun h => kt (by exact (nI_leI hb2 ha).mp h)) (fun h => kf (by exact Nat.not_le.mp fun q => h ((nI_leI hb2 ha).mpr q)))
theorem x_nc_gt (hexec : p.tables.exec = Jvm.exec) (hb : c.code = cc) {a b : Nat} {off : Int} {tgt : Nat} (hdg : decode cc pc = .ok (.if_icmp .gt off, 3)) (ht : (pc : Int) + off = (tgt : Int)) (ha : a < 2 ^ 31) (hb2 : b < 2 ^ 31)
    (kt : b < a → W p l e R s m args below meth c H locs cells slots Q (F0 m tgt ls rest)) (kf : a ≤ b → W p l e R s m args below meth c H locs cells slots Q (F0 m (pc + 3) ls rest)) : W p l e R s m args below meth c H locs cells slots Q (F0 m pc ls (.int (nI b) :: .int (nI a) :: rest)) :=
  lv_icmp_gt hexec hb hdg ht (fun h => kt (by exact (nI_ltI hb2 ha).mp h)) (fun h => kf (by exact Nat.not_lt.mp fun q => h ((nI_ltI hb2 ha).mpr q)))
theorem x_nc_le (hexec : p.tables.exec = Jvm.exec) (hb : c.code = cc) {a b : Nat} {off : Int} {tgt : Nat} (hdg : decode cc pc = .ok (.if_icmp .le off, 3)) (ht : (pc : Int) + off = (tgt : Int)) (ha : a < 2 ^ 31) (hb2 : b < 2 ^ 31)
    (kt : a ≤ b → W p l e R s m args below meth c H locs cells slots Q (F0 m tgt ls rest)) (kf : b < a → W p l e R s m args below meth c H locs cells slots Q (F0 m (pc + 3) ls rest)) : W p l e R s m args below meth c H locs cells slots Q (F0 m pc ls (.int (nI b) :: .int (nI a) :: rest)) :=
  lv_icmp_le hexec hb hdg ht (fun h => kt (by exact (nI_leI ha hb2).mp h)) (fun h => kf (by exact Nat.not_le.mp fun q => h ((nI_leI ha hb2).mpr q)))
theorem xs_R {y : MethodName} {bytes : ByteArray} {maxL nL index n : Nat} {own : String} {ret : Option FieldType} {rm : Room} {As st0 : List Value} {post : Option Value → Prop} (hexec : p.tables.exec = Jvm.exec) (hb : c.code = cc) (hml : c.maxLocals = nL) (hown : s.vm.findClass own = some m.cls) (hg : ∀ w ∈ gw, w.before args s = true) (hK : xK D T s) (hP : xW D classes A M H) (hM : Met l y (Cond.code y bytes maxL ret :: gw) rm (xPc D T A M As) (xR post) 0 0 (fun _ => False)) (m1 : Cond.code y bytes maxL ret ∈ gw) (m2 : Cond.initialized y.cls ∈ gw) (m3 : Cond.methodLink own index y ∈ gw) (m4 : Cond.static y ∈ gw)  (hd : y.cls ≠ "java/lang/invoke/MethodHandle" ∧ y.cls ≠ "java/lang/invoke/VarHandle" ∧ (parseMethodDescriptor y.desc).map (fun d => d.parameters.length) = some n) (hR : rm.frames + 1 ≤ R.frames ∧ 8 + (maxL + 11) + rm.locals ≤ R.locals) (hn : As.length = n) (hsize : ls.size = nL) (hstack : st0 = As.reverse ++ rest) (hW : (rest.map fun v => v.category).sum ≤ 8) (hf : cells ≤ R.cells ∧ slots ≤ R.slots) (hrc : rm.cells = 0) (hrs : rm.slots = 0)  (hdg : decode cc pc = .ok (.invokestatic index, 3))
    (kk : ∀ r : Option Value, post r → W p l e R s m args below meth c H locs cells slots Q (F0 m (pc + 3) ls (r.toList ++ rest))) : W p l e R s m args below meth c H locs cells slots Q (F0 m pc ls st0) := by
  subst hstack
  exact x_callR (va_runS (As := As) (rest := rest) ⟨hexec, hb, hml, hown, hg⟩ hM (gS n hg m1 m2 m3 m4 hrc hrs hd hR) (xPre_S hK hP) rfl hn hsize rfl (lv_room hW) hdg ⟨hf.1, hf.2⟩) kk
theorem xs_Q {y : MethodName} {bytes : ByteArray} {maxL nL index n : Nat} {own : String} {ret : Option FieldType} {rm : Room} {As st0 : List Value} {post : Option Value → xM → Prop} (hexec : p.tables.exec = Jvm.exec) (hb : c.code = cc) (hml : c.maxLocals = nL) (hown : s.vm.findClass own = some m.cls) (hg : ∀ w ∈ gw, w.before args s = true) (hK : xK D T s) (hP : xW D classes A M H) (hM : Met l y (Cond.code y bytes maxL ret :: gw) rm (xPc D T A M As) (xQ D A post) 0 0 A) (m1 : Cond.code y bytes maxL ret ∈ gw) (m2 : Cond.initialized y.cls ∈ gw) (m3 : Cond.methodLink own index y ∈ gw) (m4 : Cond.static y ∈ gw)  (hd : y.cls ≠ "java/lang/invoke/MethodHandle" ∧ y.cls ≠ "java/lang/invoke/VarHandle" ∧ (parseMethodDescriptor y.desc).map (fun d => d.parameters.length) = some n) (hR : rm.frames + 1 ≤ R.frames ∧ 8 + (maxL + 11) + rm.locals ≤ R.locals) (hn : As.length = n) (hsize : ls.size = nL) (hstack : st0 = As.reverse ++ rest) (hW : (rest.map fun v => v.category).sum ≤ 8) (hS : va_S A H0 H locs) (hf : cells ≤ R.cells ∧ slots ≤ R.slots) (hrc : rm.cells = 0) (hrs : rm.slots = 0)  (hdg : decode cc pc = .ok (.invokestatic index, 3))
    (kk : ∀ (r : Option Value) (M1 : xM) (H1 : Heap) (locs1 : List Loc), post r M1 → xW D classes A M1 H1 → va_S A H0 H1 locs1 → W p l e R s m args below meth c H1 locs1 cells slots Q (F0 m (pc + 3) ls (r.toList ++ rest))) : W p l e R s m args below meth c H locs cells slots Q (F0 m pc ls st0) := by
  subst hstack
  exact x_callQ (va_runS (As := As) (rest := rest) ⟨hexec, hb, hml, hown, hg⟩ hM (gS n hg m1 m2 m3 m4 hrc hrs hd hR) (xPre_S hK hP) rfl hn hsize rfl (lv_room hW) hdg ⟨hf.1, hf.2⟩) hS kk
theorem xsn_R {y : MethodName} {bytes : ByteArray} {maxL nL index n : Nat} {own host : String} {ret : Option FieldType} {rm : Room} {As st0 : List Value} {post : Option Value → Prop} (hexec : p.tables.exec = Jvm.exec) (hb : c.code = cc) (hml : c.maxLocals = nL) (hown : s.vm.findClass own = some m.cls) (hg : ∀ w ∈ gw, w.before args s = true) (hK : xK D T s) (hP : xW D classes A M H) (hN : ∀ w ∈ xN, va_Nw w s) (hM : Met l y (Cond.code y bytes maxL ret :: gw) rm (xPc D T A M As) (xR post) 0 0 (fun _ => False)) (m1 : Cond.code y bytes maxL ret ∈ gw) (m2 : Cond.initialized y.cls ∈ gw) (m3 : Cond.methodLinkNest own index y host ∈ xN) (m4 : Cond.static y ∈ gw)  (hd : y.cls ≠ "java/lang/invoke/MethodHandle" ∧ y.cls ≠ "java/lang/invoke/VarHandle" ∧ (parseMethodDescriptor y.desc).map (fun d => d.parameters.length) = some n) (hR : rm.frames + 1 ≤ R.frames ∧ 8 + (maxL + 11) + rm.locals ≤ R.locals) (hn : As.length = n) (hsize : ls.size = nL) (hstack : st0 = As.reverse ++ rest) (hW : (rest.map fun v => v.category).sum ≤ 8) (hf : cells ≤ R.cells ∧ slots ≤ R.slots) (hrc : rm.cells = 0) (hrs : rm.slots = 0)  (hdg : decode cc pc = .ok (.invokestatic index, 3))
    (kk : ∀ r : Option Value, post r → W p l e R s m args below meth c H locs cells slots Q (F0 m (pc + 3) ls (r.toList ++ rest))) : W p l e R s m args below meth c H locs cells slots Q (F0 m pc ls st0) := by
  subst hstack
  exact x_callR (va_runSN (As := As) (rest := rest) ⟨hexec, hb, hml, hown, hg⟩ hM (gNS n hg hN m1 m2 m3 m4 hrc hrs hd hR) (xPre_S hK hP) rfl hn hsize rfl (lv_room hW) hdg ⟨hf.1, hf.2⟩) kk
theorem xsn_Q {y : MethodName} {bytes : ByteArray} {maxL nL index n : Nat} {own host : String} {ret : Option FieldType} {rm : Room} {As st0 : List Value} {post : Option Value → xM → Prop} (hexec : p.tables.exec = Jvm.exec) (hb : c.code = cc) (hml : c.maxLocals = nL) (hown : s.vm.findClass own = some m.cls) (hg : ∀ w ∈ gw, w.before args s = true) (hK : xK D T s) (hP : xW D classes A M H) (hN : ∀ w ∈ xN, va_Nw w s) (hM : Met l y (Cond.code y bytes maxL ret :: gw) rm (xPc D T A M As) (xQ D A post) 0 0 A) (m1 : Cond.code y bytes maxL ret ∈ gw) (m2 : Cond.initialized y.cls ∈ gw) (m3 : Cond.methodLinkNest own index y host ∈ xN) (m4 : Cond.static y ∈ gw)  (hd : y.cls ≠ "java/lang/invoke/MethodHandle" ∧ y.cls ≠ "java/lang/invoke/VarHandle" ∧ (parseMethodDescriptor y.desc).map (fun d => d.parameters.length) = some n) (hR : rm.frames + 1 ≤ R.frames ∧ 8 + (maxL + 11) + rm.locals ≤ R.locals) (hn : As.length = n) (hsize : ls.size = nL) (hstack : st0 = As.reverse ++ rest) (hW : (rest.map fun v => v.category).sum ≤ 8) (hS : va_S A H0 H locs) (hf : cells ≤ R.cells ∧ slots ≤ R.slots) (hrc : rm.cells = 0) (hrs : rm.slots = 0)  (hdg : decode cc pc = .ok (.invokestatic index, 3))
    (kk : ∀ (r : Option Value) (M1 : xM) (H1 : Heap) (locs1 : List Loc), post r M1 → xW D classes A M1 H1 → va_S A H0 H1 locs1 → W p l e R s m args below meth c H1 locs1 cells slots Q (F0 m (pc + 3) ls (r.toList ++ rest))) : W p l e R s m args below meth c H locs cells slots Q (F0 m pc ls st0) := by
  subst hstack
  exact x_callQ (va_runSN (As := As) (rest := rest) ⟨hexec, hb, hml, hown, hg⟩ hM (gNS n hg hN m1 m2 m3 m4 hrc hrs hd hR) (xPre_S hK hP) rfl hn hsize rfl (lv_room hW) hdg ⟨hf.1, hf.2⟩) hS kk
theorem xv_R {y : MethodName} {bytes : ByteArray} {maxL nL index n : Nat} {own : String} {ret : Option FieldType} {rm : Room} {As st0 : List Value} {b : Nat} {post : Option Value → Prop} (hexec : p.tables.exec = Jvm.exec) (hb : c.code = cc) (hml : c.maxLocals = nL) (hown : s.vm.findClass own = some m.cls) (hg : ∀ w ∈ gw, w.before args s = true) (hK : xK D T s) (hP : xW D classes A M H) (hM : Met l y (Cond.code y bytes maxL ret :: gw) rm (xPc D T A M (.ref b :: As)) (xR post) 0 0 (fun _ => False)) (m1 : Cond.code y bytes maxL ret ∈ gw) (m2 : Cond.initialized y.cls ∈ gw) (m3 : Cond.methodLink own index y ∈ gw) (m4 : Cond.instanceMethod y ∈ gw) (m5 : Cond.selects y.cls y y ∈ gw) {ci : Nat} {q : vw_C} {fs : List Value} (he : M b = some (.inr (ci, fs))) (hc : classes[ci]? = some q) (hC : q.1 = y.cls) (hd : y.cls ≠ "java/lang/invoke/MethodHandle" ∧ y.cls ≠ "java/lang/invoke/VarHandle" ∧ (parseMethodDescriptor y.desc).map (fun d => d.parameters.length) = some n) (hR : rm.frames + 1 ≤ R.frames ∧ 8 + (maxL + 11) + rm.locals ≤ R.locals) (hn : As.length = n) (hsize : ls.size = nL) (hstack : st0 = As.reverse ++ .ref b :: rest) (hW : (rest.map fun v => v.category).sum ≤ 8) (hf : cells ≤ R.cells ∧ slots ≤ R.slots) (hrc : rm.cells = 0) (hrs : rm.slots = 0)  (hdg : decode cc pc = .ok (.invokevirtual index, 3))
    (kk : ∀ r : Option Value, post r → W p l e R s m args below meth c H locs cells slots Q (F0 m (pc + 3) ls (r.toList ++ rest))) : W p l e R s m args below meth c H locs cells slots Q (F0 m pc ls st0) := by
  subst hstack
  exact x_callR (va_runV (As := As) (rest := rest) ⟨hexec, hb, hml, hown, hg⟩ hM (gV n hg m1 m2 m3 m4 m5 hrc hrs hd hR) (xPre_V hK hP he hc hC) rfl hn hsize rfl (lv_room hW) hdg ⟨hf.1, hf.2⟩) kk
theorem xv_Q {y : MethodName} {bytes : ByteArray} {maxL nL index n : Nat} {own : String} {ret : Option FieldType} {rm : Room} {As st0 : List Value} {b : Nat} {post : Option Value → xM → Prop} (hexec : p.tables.exec = Jvm.exec) (hb : c.code = cc) (hml : c.maxLocals = nL) (hown : s.vm.findClass own = some m.cls) (hg : ∀ w ∈ gw, w.before args s = true) (hK : xK D T s) (hP : xW D classes A M H) (hM : Met l y (Cond.code y bytes maxL ret :: gw) rm (xPc D T A M (.ref b :: As)) (xQ D A post) 0 0 A) (m1 : Cond.code y bytes maxL ret ∈ gw) (m2 : Cond.initialized y.cls ∈ gw) (m3 : Cond.methodLink own index y ∈ gw) (m4 : Cond.instanceMethod y ∈ gw) (m5 : Cond.selects y.cls y y ∈ gw) {ci : Nat} {q : vw_C} {fs : List Value} (he : M b = some (.inr (ci, fs))) (hc : classes[ci]? = some q) (hC : q.1 = y.cls) (hd : y.cls ≠ "java/lang/invoke/MethodHandle" ∧ y.cls ≠ "java/lang/invoke/VarHandle" ∧ (parseMethodDescriptor y.desc).map (fun d => d.parameters.length) = some n) (hR : rm.frames + 1 ≤ R.frames ∧ 8 + (maxL + 11) + rm.locals ≤ R.locals) (hn : As.length = n) (hsize : ls.size = nL) (hstack : st0 = As.reverse ++ .ref b :: rest) (hW : (rest.map fun v => v.category).sum ≤ 8) (hS : va_S A H0 H locs) (hf : cells ≤ R.cells ∧ slots ≤ R.slots) (hrc : rm.cells = 0) (hrs : rm.slots = 0)  (hdg : decode cc pc = .ok (.invokevirtual index, 3))
    (kk : ∀ (r : Option Value) (M1 : xM) (H1 : Heap) (locs1 : List Loc), post r M1 → xW D classes A M1 H1 → va_S A H0 H1 locs1 → W p l e R s m args below meth c H1 locs1 cells slots Q (F0 m (pc + 3) ls (r.toList ++ rest))) : W p l e R s m args below meth c H locs cells slots Q (F0 m pc ls st0) := by
  subst hstack
  exact x_callQ (va_runV (As := As) (rest := rest) ⟨hexec, hb, hml, hown, hg⟩ hM (gV n hg m1 m2 m3 m4 m5 hrc hrs hd hR) (xPre_V hK hP he hc hC) rfl hn hsize rfl (lv_room hW) hdg ⟨hf.1, hf.2⟩) hS kk
theorem xvn_R {y : MethodName} {bytes : ByteArray} {maxL nL index n : Nat} {own host : String} {ret : Option FieldType} {rm : Room} {As st0 : List Value} {b : Nat} {post : Option Value → Prop} (hexec : p.tables.exec = Jvm.exec) (hb : c.code = cc) (hml : c.maxLocals = nL) (hown : s.vm.findClass own = some m.cls) (hg : ∀ w ∈ gw, w.before args s = true) (hK : xK D T s) (hP : xW D classes A M H) (hN : ∀ w ∈ xN, va_Nw w s) (hM : Met l y (Cond.code y bytes maxL ret :: gw) rm (xPc D T A M (.ref b :: As)) (xR post) 0 0 (fun _ => False)) (m1 : Cond.code y bytes maxL ret ∈ gw) (m2 : Cond.initialized y.cls ∈ gw) (m3 : Cond.methodLinkNest own index y host ∈ xN) (m4 : Cond.instanceMethod y ∈ gw) (m5 : Cond.selects y.cls y y ∈ gw) {ci : Nat} {q : vw_C} {fs : List Value} (he : M b = some (.inr (ci, fs))) (hc : classes[ci]? = some q) (hC : q.1 = y.cls) (hd : y.cls ≠ "java/lang/invoke/MethodHandle" ∧ y.cls ≠ "java/lang/invoke/VarHandle" ∧ (parseMethodDescriptor y.desc).map (fun d => d.parameters.length) = some n) (hR : rm.frames + 1 ≤ R.frames ∧ 8 + (maxL + 11) + rm.locals ≤ R.locals) (hn : As.length = n) (hsize : ls.size = nL) (hstack : st0 = As.reverse ++ .ref b :: rest) (hW : (rest.map fun v => v.category).sum ≤ 8) (hf : cells ≤ R.cells ∧ slots ≤ R.slots) (hrc : rm.cells = 0) (hrs : rm.slots = 0)  (hdg : decode cc pc = .ok (.invokevirtual index, 3))
    (kk : ∀ r : Option Value, post r → W p l e R s m args below meth c H locs cells slots Q (F0 m (pc + 3) ls (r.toList ++ rest))) : W p l e R s m args below meth c H locs cells slots Q (F0 m pc ls st0) := by
  subst hstack
  exact x_callR (va_runVN (As := As) (rest := rest) ⟨hexec, hb, hml, hown, hg⟩ hM (gNV n hg hN m1 m2 m3 m4 m5 hrc hrs hd hR) (xPre_V hK hP he hc hC) rfl hn hsize rfl (lv_room hW) hdg ⟨hf.1, hf.2⟩) kk
theorem xvn_Q {y : MethodName} {bytes : ByteArray} {maxL nL index n : Nat} {own host : String} {ret : Option FieldType} {rm : Room} {As st0 : List Value} {b : Nat} {post : Option Value → xM → Prop} (hexec : p.tables.exec = Jvm.exec) (hb : c.code = cc) (hml : c.maxLocals = nL) (hown : s.vm.findClass own = some m.cls) (hg : ∀ w ∈ gw, w.before args s = true) (hK : xK D T s) (hP : xW D classes A M H) (hN : ∀ w ∈ xN, va_Nw w s) (hM : Met l y (Cond.code y bytes maxL ret :: gw) rm (xPc D T A M (.ref b :: As)) (xQ D A post) 0 0 A) (m1 : Cond.code y bytes maxL ret ∈ gw) (m2 : Cond.initialized y.cls ∈ gw) (m3 : Cond.methodLinkNest own index y host ∈ xN) (m4 : Cond.instanceMethod y ∈ gw) (m5 : Cond.selects y.cls y y ∈ gw) {ci : Nat} {q : vw_C} {fs : List Value} (he : M b = some (.inr (ci, fs))) (hc : classes[ci]? = some q) (hC : q.1 = y.cls) (hd : y.cls ≠ "java/lang/invoke/MethodHandle" ∧ y.cls ≠ "java/lang/invoke/VarHandle" ∧ (parseMethodDescriptor y.desc).map (fun d => d.parameters.length) = some n) (hR : rm.frames + 1 ≤ R.frames ∧ 8 + (maxL + 11) + rm.locals ≤ R.locals) (hn : As.length = n) (hsize : ls.size = nL) (hstack : st0 = As.reverse ++ .ref b :: rest) (hW : (rest.map fun v => v.category).sum ≤ 8) (hS : va_S A H0 H locs) (hf : cells ≤ R.cells ∧ slots ≤ R.slots) (hrc : rm.cells = 0) (hrs : rm.slots = 0)  (hdg : decode cc pc = .ok (.invokevirtual index, 3))
    (kk : ∀ (r : Option Value) (M1 : xM) (H1 : Heap) (locs1 : List Loc), post r M1 → xW D classes A M1 H1 → va_S A H0 H1 locs1 → W p l e R s m args below meth c H1 locs1 cells slots Q (F0 m (pc + 3) ls (r.toList ++ rest))) : W p l e R s m args below meth c H locs cells slots Q (F0 m pc ls st0) := by
  subst hstack
  exact x_callQ (va_runVN (As := As) (rest := rest) ⟨hexec, hb, hml, hown, hg⟩ hM (gNV n hg hN m1 m2 m3 m4 m5 hrc hrs hd hR) (xPre_V hK hP he hc hC) rfl hn hsize rfl (lv_room hW) hdg ⟨hf.1, hf.2⟩) hS kk
theorem xi_N {y : MethodName} {bytes : ByteArray} {maxL nL index n : Nat} {own : String} {rm : Room} {As st0 : List Value} {b : Nat} {mc ms : Nat} {post : Option Value → xM → Prop} (hexec : p.tables.exec = Jvm.exec) (hb : c.code = cc) (hml : c.maxLocals = nL) (hown : s.vm.findClass own = some m.cls) (hg : ∀ w ∈ gw, w.before args s = true) (hK : xK D T s) (hP : xW D classes A M H) (hM : Met l y (Cond.code y bytes maxL none :: gw) rm (xPn D T A M H.size (.ref b :: As)) (xQ D A post) mc ms A) (m1 : Cond.code y bytes maxL none ∈ gw) (m2 : Cond.initialized y.cls ∈ gw) (m3 : Cond.methodLink own index y ∈ gw) (m4 : Cond.instanceMethod y ∈ gw) (hi : y.name = "<init>")  (hd : y.cls ≠ "java/lang/invoke/MethodHandle" ∧ y.cls ≠ "java/lang/invoke/VarHandle" ∧ (parseMethodDescriptor y.desc).map (fun d => d.parameters.length) = some n) (hR : rm.frames + 1 ≤ R.frames ∧ 8 + (maxL + 11) + rm.locals ≤ R.locals) (hn : As.length = n) (hsize : ls.size = nL) (hstack : st0 = As.reverse ++ .ref b :: rest) (hW : (rest.map fun v => v.category).sum ≤ 8) (hS : va_S A H0 H locs) (hf : cells + mc ≤ R.cells ∧ slots + ms ≤ R.slots) (hrc : rm.cells = mc) (hrs : rm.slots = ms)  (hdg : decode cc pc = .ok (.invokespecial index, 3))
    (kk : ∀ (r : Option Value) (M1 : xM) (H1 : Heap) (locs1 : List Loc), post r M1 → xW D classes A M1 H1 → va_S A H0 H1 locs1 → W p l e R s m args below meth c H1 locs1 (cells + mc) (slots + ms) Q (F0 m (pc + 3) ls (r.toList ++ rest))) : W p l e R s m args below meth c H locs cells slots Q (F0 m pc ls st0) := by
  subst hstack
  exact x_callQ (va_runI (As := As) (rest := rest) ⟨hexec, hb, hml, hown, hg⟩ hM (gI n hg m1 m2 m3 m4 hi hrc hrs hd hR) (xPre_N hK hP) rfl hn hsize rfl (lv_room hW) hdg hf) hS kk
theorem xin_N {y : MethodName} {bytes : ByteArray} {maxL nL index n : Nat} {own host : String} {rm : Room} {As st0 : List Value} {b : Nat} {mc ms : Nat} {post : Option Value → xM → Prop} (hexec : p.tables.exec = Jvm.exec) (hb : c.code = cc) (hml : c.maxLocals = nL) (hown : s.vm.findClass own = some m.cls) (hg : ∀ w ∈ gw, w.before args s = true) (hK : xK D T s) (hP : xW D classes A M H) (hN : ∀ w ∈ xN, va_Nw w s) (hM : Met l y (Cond.code y bytes maxL none :: gw) rm (xPn D T A M H.size (.ref b :: As)) (xQ D A post) mc ms A) (m1 : Cond.code y bytes maxL none ∈ gw) (m2 : Cond.initialized y.cls ∈ gw) (m3 : Cond.methodLinkNest own index y host ∈ xN) (m4 : Cond.instanceMethod y ∈ gw) (hi : y.name = "<init>")  (hd : y.cls ≠ "java/lang/invoke/MethodHandle" ∧ y.cls ≠ "java/lang/invoke/VarHandle" ∧ (parseMethodDescriptor y.desc).map (fun d => d.parameters.length) = some n) (hR : rm.frames + 1 ≤ R.frames ∧ 8 + (maxL + 11) + rm.locals ≤ R.locals) (hn : As.length = n) (hsize : ls.size = nL) (hstack : st0 = As.reverse ++ .ref b :: rest) (hW : (rest.map fun v => v.category).sum ≤ 8) (hS : va_S A H0 H locs) (hf : cells + mc ≤ R.cells ∧ slots + ms ≤ R.slots) (hrc : rm.cells = mc) (hrs : rm.slots = ms)  (hdg : decode cc pc = .ok (.invokespecial index, 3))
    (kk : ∀ (r : Option Value) (M1 : xM) (H1 : Heap) (locs1 : List Loc), post r M1 → xW D classes A M1 H1 → va_S A H0 H1 locs1 → W p l e R s m args below meth c H1 locs1 (cells + mc) (slots + ms) Q (F0 m (pc + 3) ls (r.toList ++ rest))) : W p l e R s m args below meth c H locs cells slots Q (F0 m pc ls st0) := by
  subst hstack
  exact x_callQ (va_runIN (As := As) (rest := rest) ⟨hexec, hb, hml, hown, hg⟩ hM (gNI n hg hN m1 m2 m3 m4 hi hrc hrs hd hR) (xPre_N hK hP) rfl hn hsize rfl (lv_room hW) hdg hf) hS kk
end XR
end
section
/-! the numbers of the class: what its pure methods answer -/
def mixF (a b : Int32) : Int32 := ((a ^^^ (b * 40503 + 12345)) * 1640531527) ^^^ ushF ((a ^^^ (b * 40503 + 12345)) * 1640531527) 15
def txF (w : Int32) : Int32 := ((w &&& 2139062143) <<< ((1 : Int32) &&& 31)) ^^^ ((ushF w 7 &&& 16843009) * 29)
def bitF (k : Int32) (i : Nat) : Int32 := ushF k (nI i) &&& 1
def scP (w : Int32) : Nat → Int32
  | 0 => w
  | n + 1 => txF (scP w n)
def scS (w k : Int32) : Nat → Int32
  | 0 => 0
  | n + 1 => if bitF k n = 0 then scS w k n else scS w k n ^^^ scP w n
def scF (w k : Int32) : Int32 := scS w k 8
def ivS (x : Int32) : Nat → Int32
  | 0 => x
  | n + 1 => scF (ivS x n) (ivS x n)
def ivP (x : Int32) : Nat → Int32
  | 0 => 1
  | n + 1 => scF (ivP x n) (ivS x (n + 1))
def ivF (x : Int32) : Int32 := ivP x 7
def byF (a : Int32) : Int32 := if a < 0 then 0 else if 255 < a then 0 else 1
def clF (x a b : Int32) : Int32 := if a < (if b < x then b else x) then (if b < x then b else x) else a

set_option maxHeartbeats 4000000 in
set_option maxRecDepth 100000 in
theorem c_G_mix (l : Launch) (D : va_G) (T : Nat → ClassId) (A : Nat → Prop) (M : xM) (a b : Int32) : Met l y_G_mix (Cond.code y_G_mix b_G_mix 3 (some .int) :: gw) (rmH 0) (xPc D T A M [.int a, .int b]) (xR (fun r => r = some (.int (mixF a b)))) 0 0 (fun _ => False) := by
  refine xMetRi (by decide) (Nat.le_of_ble_eq_true rfl) ?_
  intro p e s m below meth c Q ls hB hP hl hret
  obtain ⟨hx, hb, hml, hown, hg, hK0, hnm⟩ := hB
  have hown : s.vm.findClass "ShareGrid" = some m.cls := hown
  have hK := hK0.1
  have hN := hK0.2.1
  have hl : lv_has ls 3 [(0, .int a), (1, .int b)] := hl
  refine lv_iload_n hx hb d_G_mix_0 rfl (lv_at hl 0 rfl) ?_
  refine lv_iload_n hx hb d_G_mix_1 rfl (lv_at hl 1 rfl) ?_
  refine lv_ldc (v := 40503) hx hb hown (hg _ w_157) d_G_mix_2 ?_
  refine lv_imul hx hb d_G_mix_4 ?_
  refine lv_sipush (v := 12345) hx hb d_G_mix_5 (by decide) ?_
  refine lv_iadd hx hb d_G_mix_8 ?_
  refine lv_ixor hx hb d_G_mix_9 ?_
  refine lv_ldc (v := 1640531527) hx hb hown (hg _ w_158) d_G_mix_10 ?_
  refine lv_imul hx hb d_G_mix_12 ?_
  refine lv_istore_n (lv' := [(2, .int ((a ^^^ ((b * 40503) + 12345)) * 1640531527)), (0, .int a), (1, .int b)]) hx hb d_G_mix_13 rfl hl (by decide) rfl (fun ls hl => ?_)
  refine lv_iload_n hx hb d_G_mix_14 rfl (lv_at hl 0 rfl) ?_
  refine lv_iload_n hx hb d_G_mix_15 rfl (lv_at hl 0 rfl) ?_
  refine lv_bipush (v := 15) hx hb d_G_mix_16 (by decide) ?_
  refine lv_iushr (v := ushF ((a ^^^ ((b * 40503) + 12345)) * 1640531527) 15) hx hb d_G_mix_18 rfl ?_
  refine lv_ixor hx hb d_G_mix_19 ?_
  exact hret _ _ _ d_G_mix_20 rfl
set_option maxHeartbeats 4000000 in
set_option maxRecDepth 100000 in
theorem c_G_readKeyOf (l : Launch) (D : va_G) (T : Nat → ClassId) (A : Nat → Prop) (M : xM) (a : Int32) : Met l y_G_readKeyOf (Cond.code y_G_readKeyOf b_G_readKeyOf 1 (some .int) :: gw) (rmH 1) (xPc D T A M [.int a]) (xR (fun r => r = some (.int (mixF a 1)))) 0 0 (fun _ => False) := by
  refine xMetRi (by decide) (Nat.le_of_ble_eq_true rfl) ?_
  intro p e s m below meth c Q ls hB hP hl hret
  obtain ⟨hx, hb, hml, hown, hg, hK0, hnm⟩ := hB
  have hown : s.vm.findClass "ShareGrid" = some m.cls := hown
  have hK := hK0.1
  have hN := hK0.2.1
  have hl : lv_has ls 1 [(0, .int a)] := hl
  refine lv_iload_n hx hb d_G_readKeyOf_0 rfl (lv_at hl 0 rfl) ?_
  refine lv_iconst (v := 1) hx hb d_G_readKeyOf_1 (by decide) ?_
  refine xs_R (n := 2) (As := [.int a, .int 1]) (rest := []) hx hb hml hown hg hK0 hP (c_G_mix l D T A M a 1) w_156 w_1 w_154 w_155 (by decide +kernel) ⟨Nat.le_of_ble_eq_true rfl, Nat.le_of_ble_eq_true rfl⟩ rfl hl.1 rfl (Nat.le_of_ble_eq_true rfl) ⟨Nat.zero_le _, Nat.zero_le _⟩ rfl rfl d_G_readKeyOf_2 (fun r hr => ?_)
  subst hr
  refine x_fr (pc := 5) [.int (mixF a 1)] rfl rfl ?_
  exact hret _ _ _ d_G_readKeyOf_5 rfl
set_option maxHeartbeats 4000000 in
set_option maxRecDepth 100000 in
theorem c_G_verifyKeyOf (l : Launch) (D : va_G) (T : Nat → ClassId) (A : Nat → Prop) (M : xM) (a : Int32) : Met l y_G_verifyKeyOf (Cond.code y_G_verifyKeyOf b_G_verifyKeyOf 1 (some .int) :: gw) (rmH 1) (xPc D T A M [.int a]) (xR (fun r => r = some (.int (mixF a 2)))) 0 0 (fun _ => False) := by
  refine xMetRi (by decide) (Nat.le_of_ble_eq_true rfl) ?_
  intro p e s m below meth c Q ls hB hP hl hret
  obtain ⟨hx, hb, hml, hown, hg, hK0, hnm⟩ := hB
  have hown : s.vm.findClass "ShareGrid" = some m.cls := hown
  have hK := hK0.1
  have hN := hK0.2.1
  have hl : lv_has ls 1 [(0, .int a)] := hl
  refine lv_iload_n hx hb d_G_verifyKeyOf_0 rfl (lv_at hl 0 rfl) ?_
  refine lv_iconst (v := 2) hx hb d_G_verifyKeyOf_1 (by decide) ?_
  refine xs_R (n := 2) (As := [.int a, .int 2]) (rest := []) hx hb hml hown hg hK0 hP (c_G_mix l D T A M a 2) w_156 w_1 w_154 w_155 (by decide +kernel) ⟨Nat.le_of_ble_eq_true rfl, Nat.le_of_ble_eq_true rfl⟩ rfl hl.1 rfl (Nat.le_of_ble_eq_true rfl) ⟨Nat.zero_le _, Nat.zero_le _⟩ rfl rfl d_G_verifyKeyOf_2 (fun r hr => ?_)
  subst hr
  refine x_fr (pc := 5) [.int (mixF a 2)] rfl rfl ?_
  exact hret _ _ _ d_G_verifyKeyOf_5 rfl
set_option maxHeartbeats 4000000 in
set_option maxRecDepth 100000 in
theorem c_G_cipherMask (l : Launch) (D : va_G) (T : Nat → ClassId) (A : Nat → Prop) (M : xM) (a b d : Int32) : Met l y_G_cipherMask (Cond.code y_G_cipherMask b_G_cipherMask 3 (some .int) :: gw) (rmH 1) (xPc D T A M [.int a, .int b, .int d]) (xR (fun r => r = some (.int (mixF a (b * 8 + d))))) 0 0 (fun _ => False) := by
  refine xMetRi (by decide) (Nat.le_of_ble_eq_true rfl) ?_
  intro p e s m below meth c Q ls hB hP hl hret
  obtain ⟨hx, hb, hml, hown, hg, hK0, hnm⟩ := hB
  have hown : s.vm.findClass "ShareGrid" = some m.cls := hown
  have hK := hK0.1
  have hN := hK0.2.1
  have hl : lv_has ls 3 [(0, .int a), (1, .int b), (2, .int d)] := hl
  refine lv_iload_n hx hb d_G_cipherMask_0 rfl (lv_at hl 0 rfl) ?_
  refine lv_iload_n hx hb d_G_cipherMask_1 rfl (lv_at hl 1 rfl) ?_
  refine lv_bipush (v := 8) hx hb d_G_cipherMask_2 (by decide) ?_
  refine lv_imul hx hb d_G_cipherMask_4 ?_
  refine lv_iload_n hx hb d_G_cipherMask_5 rfl (lv_at hl 2 rfl) ?_
  refine lv_iadd hx hb d_G_cipherMask_6 ?_
  refine xs_R (n := 2) (As := [.int a, .int ((b * 8) + d)]) (rest := []) hx hb hml hown hg hK0 hP (c_G_mix l D T A M a ((b * 8) + d)) w_156 w_1 w_154 w_155 (by decide +kernel) ⟨Nat.le_of_ble_eq_true rfl, Nat.le_of_ble_eq_true rfl⟩ rfl hl.1 rfl (Nat.le_of_ble_eq_true rfl) ⟨Nat.zero_le _, Nat.zero_le _⟩ rfl rfl d_G_cipherMask_7 (fun r hr => ?_)
  subst hr
  refine x_fr (pc := 10) [.int (mixF a ((b * 8) + d))] rfl rfl ?_
  exact hret _ _ _ d_G_cipherMask_10 rfl
set_option maxHeartbeats 4000000 in
set_option maxRecDepth 100000 in
theorem c_G_fingerprint (l : Launch) (D : va_G) (T : Nat → ClassId) (A : Nat → Prop) (M : xM) (a b : Int32) : Met l y_G_fingerprint (Cond.code y_G_fingerprint b_G_fingerprint 2 (some .int) :: gw) (rmH 1) (xPc D T A M [.int a, .int b]) (xR (fun r => r = some (.int (mixF a (b + 100))))) 0 0 (fun _ => False) := by
  refine xMetRi (by decide) (Nat.le_of_ble_eq_true rfl) ?_
  intro p e s m below meth c Q ls hB hP hl hret
  obtain ⟨hx, hb, hml, hown, hg, hK0, hnm⟩ := hB
  have hown : s.vm.findClass "ShareGrid" = some m.cls := hown
  have hK := hK0.1
  have hN := hK0.2.1
  have hl : lv_has ls 2 [(0, .int a), (1, .int b)] := hl
  refine lv_iload_n hx hb d_G_fingerprint_0 rfl (lv_at hl 0 rfl) ?_
  refine lv_iload_n hx hb d_G_fingerprint_1 rfl (lv_at hl 1 rfl) ?_
  refine lv_bipush (v := 100) hx hb d_G_fingerprint_2 (by decide) ?_
  refine lv_iadd hx hb d_G_fingerprint_4 ?_
  refine xs_R (n := 2) (As := [.int a, .int (b + 100)]) (rest := []) hx hb hml hown hg hK0 hP (c_G_mix l D T A M a (b + 100)) w_156 w_1 w_154 w_155 (by decide +kernel) ⟨Nat.le_of_ble_eq_true rfl, Nat.le_of_ble_eq_true rfl⟩ rfl hl.1 rfl (Nat.le_of_ble_eq_true rfl) ⟨Nat.zero_le _, Nat.zero_le _⟩ rfl rfl d_G_fingerprint_5 (fun r hr => ?_)
  subst hr
  refine x_fr (pc := 8) [.int (mixF a (b + 100))] rfl rfl ?_
  exact hret _ _ _ d_G_fingerprint_8 rfl
set_option maxHeartbeats 4000000 in
set_option maxRecDepth 100000 in
theorem c_G_pointOf (l : Launch) (D : va_G) (T : Nat → ClassId) (A : Nat → Prop) (M : xM) (a : Int32) : Met l y_G_pointOf (Cond.code y_G_pointOf b_G_pointOf 1 (some .int) :: gw) (rmH 0) (xPc D T A M [.int a]) (xR (fun r => r = some (.int (a + 1)))) 0 0 (fun _ => False) := by
  refine xMetRi (by decide) (Nat.le_of_ble_eq_true rfl) ?_
  intro p e s m below meth c Q ls hB hP hl hret
  obtain ⟨hx, hb, hml, hown, hg, hK0, hnm⟩ := hB
  have hown : s.vm.findClass "ShareGrid" = some m.cls := hown
  have hK := hK0.1
  have hN := hK0.2.1
  have hl : lv_has ls 1 [(0, .int a)] := hl
  refine lv_iload_n hx hb d_G_pointOf_0 rfl (lv_at hl 0 rfl) ?_
  refine lv_iconst (v := 1) hx hb d_G_pointOf_1 (by decide) ?_
  refine lv_iadd hx hb d_G_pointOf_2 ?_
  exact hret _ _ _ d_G_pointOf_3 rfl
set_option maxHeartbeats 4000000 in
set_option maxRecDepth 100000 in
theorem c_G_placeOf (l : Launch) (D : va_G) (T : Nat → ClassId) (A : Nat → Prop) (M : xM) (a : Int32) : Met l y_G_placeOf (Cond.code y_G_placeOf b_G_placeOf 1 (some .int) :: gw) (rmH 0) (xPc D T A M [.int a]) (xR (fun r => r = some (.int (a - 1)))) 0 0 (fun _ => False) := by
  refine xMetRi (by decide) (Nat.le_of_ble_eq_true rfl) ?_
  intro p e s m below meth c Q ls hB hP hl hret
  obtain ⟨hx, hb, hml, hown, hg, hK0, hnm⟩ := hB
  have hown : s.vm.findClass "ShareGrid" = some m.cls := hown
  have hK := hK0.1
  have hN := hK0.2.1
  have hl : lv_has ls 1 [(0, .int a)] := hl
  refine lv_iload_n hx hb d_G_placeOf_0 rfl (lv_at hl 0 rfl) ?_
  refine lv_iconst (v := 1) hx hb d_G_placeOf_1 (by decide) ?_
  refine lv_isub hx hb d_G_placeOf_2 ?_
  exact hret _ _ _ d_G_placeOf_3 rfl
set_option maxHeartbeats 4000000 in
set_option maxRecDepth 100000 in
theorem c_G_timesX (l : Launch) (D : va_G) (T : Nat → ClassId) (A : Nat → Prop) (M : xM) (a : Int32) : Met l y_G_timesX (Cond.code y_G_timesX b_G_timesX 2 (some .int) :: gw) (rmH 0) (xPc D T A M [.int a]) (xR (fun r => r = some (.int (txF a)))) 0 0 (fun _ => False) := by
  refine xMetRi (by decide) (Nat.le_of_ble_eq_true rfl) ?_
  intro p e s m below meth c Q ls hB hP hl hret
  obtain ⟨hx, hb, hml, hown, hg, hK0, hnm⟩ := hB
  have hown : s.vm.findClass "ShareGrid" = some m.cls := hown
  have hK := hK0.1
  have hN := hK0.2.1
  have hl : lv_has ls 2 [(0, .int a)] := hl
  refine lv_iload_n hx hb d_G_timesX_0 rfl (lv_at hl 0 rfl) ?_
  refine lv_bipush (v := 7) hx hb d_G_timesX_1 (by decide) ?_
  refine lv_iushr (v := ushF a 7) hx hb d_G_timesX_3 rfl ?_
  refine lv_ldc (v := 16843009) hx hb hown (hg _ w_206) d_G_timesX_4 ?_
  refine lv_iand hx hb d_G_timesX_6 ?_
  refine lv_istore_n (lv' := [(1, .int ((ushF a 7) &&& 16843009)), (0, .int a)]) hx hb d_G_timesX_7 rfl hl (by decide) rfl (fun ls hl => ?_)
  refine lv_iload_n hx hb d_G_timesX_8 rfl (lv_at hl 1 rfl) ?_
  refine lv_ldc (v := 2139062143) hx hb hown (hg _ w_207) d_G_timesX_9 ?_
  refine lv_iand hx hb d_G_timesX_11 ?_
  refine lv_iconst (v := 1) hx hb d_G_timesX_12 (by decide) ?_
  refine lv_ishl hx hb d_G_timesX_13 ?_
  refine lv_iload_n hx hb d_G_timesX_14 rfl (lv_at hl 0 rfl) ?_
  refine lv_bipush (v := 29) hx hb d_G_timesX_15 (by decide) ?_
  refine lv_imul hx hb d_G_timesX_17 ?_
  refine lv_ixor hx hb d_G_timesX_18 ?_
  exact hret _ _ _ d_G_timesX_19 rfl
set_option maxHeartbeats 4000000 in
set_option maxRecDepth 100000 in
theorem c_G_clamped (l : Launch) (D : va_G) (T : Nat → ClassId) (A : Nat → Prop) (M : xM) (a b d : Int32) : Met l y_G_clamped (Cond.code y_G_clamped b_G_clamped 3 (some .int) :: gw) (rmH 1) (xPc D T A M [.int a, .int b, .int d]) (xR (fun r => r = some (.int (clF a b d)))) 0 0 (fun _ => False) := by
  refine xMetRi (by decide) (Nat.le_of_ble_eq_true rfl) ?_
  intro p e s m below meth c Q ls hB hP hl hret
  obtain ⟨hx, hb, hml, hown, hg, hK0, hnm⟩ := hB
  have hown : s.vm.findClass "ShareGrid" = some m.cls := hown
  have hK := hK0.1
  have hN := hK0.2.1
  have hl : lv_has ls 3 [(0, .int a), (1, .int b), (2, .int d)] := hl
  refine lv_iload_n hx hb d_G_clamped_0 rfl (lv_at hl 1 rfl) ?_
  refine lv_iload_n hx hb d_G_clamped_1 rfl (lv_at hl 0 rfl) ?_
  refine lv_iload_n hx hb d_G_clamped_2 rfl (lv_at hl 2 rfl) ?_
  refine va_mmin hx hb (hml.trans hl.1.symm) hown (hg _ w_20) (hg _ w_21) (hg _ w_2) (hg _ w_22) (Nat.le_of_ble_eq_true rfl) (Nat.le_of_ble_eq_true rfl) (Nat.zero_le _) (Nat.zero_le _) d_G_clamped_3 ?_
  refine va_mmax hx hb (hml.trans hl.1.symm) hown (hg _ w_23) (hg _ w_24) (hg _ w_2) (hg _ w_25) (Nat.le_of_ble_eq_true rfl) (Nat.le_of_ble_eq_true rfl) (Nat.zero_le _) (Nat.zero_le _) d_G_clamped_6 ?_
  exact hret _ _ _ d_G_clamped_9 rfl
set_option maxHeartbeats 4000000 in
set_option maxRecDepth 100000 in
theorem c_G_isByte (l : Launch) (D : va_G) (T : Nat → ClassId) (A : Nat → Prop) (M : xM) (a : Int32) : Met l y_G_isByte (Cond.code y_G_isByte b_G_isByte 1 (some .boolean) :: gw) (rmH 0) (xPc D T A M [.int a]) (xR (fun r => r = some (.int (byF a)))) 0 0 (fun _ => False) := by
  refine xMetRz (by decide) (Nat.le_of_ble_eq_true rfl) ?_
  intro p e s m below meth c Q ls hB hP hl hret
  obtain ⟨hx, hb, hml, hown, hg, hK0, hnm⟩ := hB
  have hown : s.vm.findClass "ShareGrid" = some m.cls := hown
  have hK := hK0.1
  have hN := hK0.2.1
  have hl : lv_has ls 1 [(0, .int a)] := hl
  refine lv_iload_n hx hb d_G_isByte_0 rfl (lv_at hl 0 rfl) ?_
  refine lv_if_lt (tgt := 15) hx hb d_G_isByte_1 (by decide) (fun c_1 => ?_) (fun c_1 => ?_)
  · refine lv_iconst (v := 0) hx hb d_G_isByte_15 (by decide) ?_
    exact hret _ _ _ d_G_isByte_16 (by first | exact Or.inl rfl | exact Or.inr rfl) (by simp [byF, c_1])
  · refine lv_iload_n hx hb d_G_isByte_4 rfl (lv_at hl 0 rfl) ?_
    refine lv_sipush (v := 255) hx hb d_G_isByte_5 (by decide) ?_
    refine lv_icmp_gt (tgt := 15) hx hb d_G_isByte_8 (by decide) (fun c_8 => ?_) (fun c_8 => ?_)
    · refine lv_iconst (v := 0) hx hb d_G_isByte_15 (by decide) ?_
      exact hret _ _ _ d_G_isByte_16 (by first | exact Or.inl rfl | exact Or.inr rfl) (by simp [byF, c_1, c_8])
    · refine lv_iconst (v := 1) hx hb d_G_isByte_11 (by decide) ?_
      refine lv_goto (tgt := 16) hx hb d_G_isByte_12 (by decide) ?_
      exact hret _ _ _ d_G_isByte_16 (by first | exact Or.inl rfl | exact Or.inr rfl) (by simp [byF, c_1, c_8])
set_option maxHeartbeats 4000000 in
set_option maxRecDepth 100000 in
theorem c_G_scaled (l : Launch) (D : va_G) (T : Nat → ClassId) (A : Nat → Prop) (M : xM) (a b : Int32) : Met l y_G_scaled (Cond.code y_G_scaled b_G_scaled 5 (some .int) :: gw) (rmH 1) (xPc D T A M [.int a, .int b]) (xR (fun r => r = some (.int (scF a b)))) 0 0 (fun _ => False) := by
  refine xMetRi (by decide) (Nat.le_of_ble_eq_true rfl) ?_
  intro p e s m below meth c Q ls hB hP hl hret
  obtain ⟨hx, hb, hml, hown, hg, hK0, hnm⟩ := hB
  have hown : s.vm.findClass "ShareGrid" = some m.cls := hown
  have hK := hK0.1
  have hN := hK0.2.1
  have hl : lv_has ls 5 [(0, .int a), (1, .int b)] := hl
  refine lv_iconst (v := nI 0) hx hb d_G_scaled_0 (by decide) ?_
  refine lv_istore_n (lv' := [(2, .int (nI 0)), (0, .int a), (1, .int b)]) hx hb d_G_scaled_1 rfl hl (by decide) rfl (fun ls hl => ?_)
  refine lv_iload_n hx hb d_G_scaled_2 rfl (lv_at hl 1 rfl) ?_
  refine lv_istore_n (lv' := [(3, .int a), (2, .int (nI 0)), (0, .int a), (1, .int b)]) hx hb d_G_scaled_3 rfl hl (by decide) rfl (fun ls hl => ?_)
  refine lv_iconst (v := nI 0) hx hb d_G_scaled_4 (by decide) ?_
  refine lv_istore (lv' := [(4, .int (nI 0)), (3, .int a), (2, .int (nI 0)), (0, .int a), (1, .int b)]) hx hb d_G_scaled_5 hl (by decide) rfl (fun ls hl => ?_)
  have loop : ∀ (n : Nat) (i : Nat) (x2 x3 : Int32), 9 ≤ i + n → i ≤ 8 → x2 = scS a b i → x3 = scP a i → ∀ (ls : Array Slot), lv_has ls 5 [(0, .int a), (1, .int b), (2, .int x2), (3, .int x3), (4, .int (nI i))] → W p l e (rmH 1) s m [.int a, .int b].toArray below meth c s.heap [] 0 0 Q (F0 m 7 ls []) := by
    intro n
    induction n with
    | zero =>
      intro i x2 x3 h2 h1 e2 e3
      exact absurd h2 (by omega)
    | succ n ih =>
      intro i x2 x3 h2 h1 e2 e3 ls hl
      refine lv_iload hx hb d_G_scaled_7 (lv_at hl 4 rfl) ?_
      refine lv_bipush (v := nI 8) hx hb d_G_scaled_9 (by decide) ?_
      refine x_nc_ge (tgt := 38) hx hb d_G_scaled_11 (by decide) (by omega) (by omega) (fun c1 => ?_) (fun c1 => ?_)
      · have hi8 : i = 8 := by omega
        subst hi8
        refine lv_iload_n hx hb d_G_scaled_38 rfl (lv_at hl 2 rfl) ?_
        exact hret _ _ _ d_G_scaled_39 (by rw [e2]; rfl)
      · refine lv_iload_n hx hb d_G_scaled_14 rfl (lv_at hl 1 rfl) ?_
        refine lv_iload hx hb d_G_scaled_15 (lv_at hl 4 rfl) ?_
        refine lv_iushr (v := ushF b (nI i)) hx hb d_G_scaled_17 rfl ?_
        refine lv_iconst (v := 1) hx hb d_G_scaled_18 (by decide) ?_
        refine lv_iand hx hb d_G_scaled_19 ?_
        refine lv_if_eq (tgt := 27) hx hb d_G_scaled_20 (by decide) (fun c2 => ?_) (fun c2 => ?_)
        · refine lv_iload_n hx hb d_G_scaled_27 rfl (lv_at hl 3 rfl) ?_
          refine xs_R (n := 1) (As := [.int x3]) (rest := []) hx hb hml hown hg hK0 hP (c_G_timesX l D T A M x3) w_205 w_1 w_203 w_204 (by decide +kernel) ⟨Nat.le_of_ble_eq_true rfl, Nat.le_of_ble_eq_true rfl⟩ rfl hl.1 rfl (Nat.le_of_ble_eq_true rfl) ⟨Nat.zero_le _, Nat.zero_le _⟩ rfl rfl d_G_scaled_28 (fun r hr => ?_)
          subst hr
          refine x_fr (pc := 31) [.int (txF x3)] rfl rfl ?_
          refine lv_istore_n (lv' := [(3, .int (txF x3)), (0, .int a), (1, .int b), (2, .int x2), (4, .int (nI i))]) hx hb d_G_scaled_31 rfl hl (by decide) rfl (fun ls hl => ?_)
          refine lv_iinc (v := nI (i + 1)) (lv' := [(4, .int (nI (i + 1))), (3, .int (txF x3)), (0, .int a), (1, .int b), (2, .int x2)]) hx hb d_G_scaled_32 hl (k := 4) rfl (nI_1 _) (by decide) rfl (fun ls hl => ?_)
          refine lv_goto (tgt := 7) hx hb d_G_scaled_35 (by decide) ?_
          exact ih (i + 1) _ _ (by omega) (by omega) (by rw [e2, scS, if_pos (show bitF b i = 0 from c2)]) (by rw [e3]; rfl) ls (lv_sub hl [2, 3, 4, 1, 0] rfl)
        · refine lv_iload_n hx hb d_G_scaled_23 rfl (lv_at hl 2 rfl) ?_
          refine lv_iload_n hx hb d_G_scaled_24 rfl (lv_at hl 3 rfl) ?_
          refine lv_ixor hx hb d_G_scaled_25 ?_
          refine lv_istore_n (lv' := [(2, .int (x2 ^^^ x3)), (0, .int a), (1, .int b), (3, .int x3), (4, .int (nI i))]) hx hb d_G_scaled_26 rfl hl (by decide) rfl (fun ls hl => ?_)
          refine lv_iload_n hx hb d_G_scaled_27 rfl (lv_at hl 3 rfl) ?_
          refine xs_R (n := 1) (As := [.int x3]) (rest := []) hx hb hml hown hg hK0 hP (c_G_timesX l D T A M x3) w_205 w_1 w_203 w_204 (by decide +kernel) ⟨Nat.le_of_ble_eq_true rfl, Nat.le_of_ble_eq_true rfl⟩ rfl hl.1 rfl (Nat.le_of_ble_eq_true rfl) ⟨Nat.zero_le _, Nat.zero_le _⟩ rfl rfl d_G_scaled_28 (fun r hr => ?_)
          subst hr
          refine x_fr (pc := 31) [.int (txF x3)] rfl rfl ?_
          refine lv_istore_n (lv' := [(3, .int (txF x3)), (2, .int (x2 ^^^ x3)), (0, .int a), (1, .int b), (4, .int (nI i))]) hx hb d_G_scaled_31 rfl hl (by decide) rfl (fun ls hl => ?_)
          refine lv_iinc (v := nI (i + 1)) (lv' := [(4, .int (nI (i + 1))), (3, .int (txF x3)), (2, .int (x2 ^^^ x3)), (0, .int a), (1, .int b)]) hx hb d_G_scaled_32 hl (k := 4) rfl (nI_1 _) (by decide) rfl (fun ls hl => ?_)
          refine lv_goto (tgt := 7) hx hb d_G_scaled_35 (by decide) ?_
          exact ih (i + 1) _ _ (by omega) (by omega) (by rw [e2, e3, scS, if_neg (show ¬ bitF b i = 0 from c2)]) (by rw [e3]; rfl) ls (lv_sub hl [3, 4, 2, 1, 0] rfl)
  exact loop 9 0 _ _ (by omega) (by omega) rfl rfl ls (lv_sub hl [3, 4, 2, 1, 0] rfl)
set_option maxHeartbeats 4000000 in
set_option maxRecDepth 100000 in
theorem c_G_inverse (l : Launch) (D : va_G) (T : Nat → ClassId) (A : Nat → Prop) (M : xM) (a : Int32) : Met l y_G_inverse (Cond.code y_G_inverse b_G_inverse 4 (some .int) :: gw) (rmH 2) (xPc D T A M [.int a]) (xR (fun r => r = some (.int (ivF a)))) 0 0 (fun _ => False) := by
  refine xMetRi (by decide) (Nat.le_of_ble_eq_true rfl) ?_
  intro p e s m below meth c Q ls hB hP hl hret
  obtain ⟨hx, hb, hml, hown, hg, hK0, hnm⟩ := hB
  have hown : s.vm.findClass "ShareGrid" = some m.cls := hown
  have hK := hK0.1
  have hN := hK0.2.1
  have hl : lv_has ls 4 [(0, .int a)] := hl
  refine lv_iconst (v := 1) hx hb d_G_inverse_0 (by decide) ?_
  refine lv_istore_n (lv' := [(1, .int 1), (0, .int a)]) hx hb d_G_inverse_1 rfl hl (by decide) rfl (fun ls hl => ?_)
  refine lv_iload_n hx hb d_G_inverse_2 rfl (lv_at hl 1 rfl) ?_
  refine lv_istore_n (lv' := [(2, .int a), (1, .int 1), (0, .int a)]) hx hb d_G_inverse_3 rfl hl (by decide) rfl (fun ls hl => ?_)
  refine lv_iconst (v := nI 1) hx hb d_G_inverse_4 (by decide) ?_
  refine lv_istore_n (lv' := [(3, .int (nI 1)), (2, .int a), (1, .int 1), (0, .int a)]) hx hb d_G_inverse_5 rfl hl (by decide) rfl (fun ls hl => ?_)
  have loop : ∀ (n : Nat) (i : Nat) (x1 x2 : Int32), 8 ≤ i + n → i ≤ 7 → x1 = ivP a i → x2 = ivS a i → ∀ (ls : Array Slot), lv_has ls 4 [(0, .int a), (1, .int x1), (2, .int x2), (3, .int (nI (i + 1)))] → W p l e (rmH 2) s m [.int a].toArray below meth c s.heap [] 0 0 Q (F0 m 6 ls []) := by
    intro n
    induction n with
    | zero =>
      intro i x1 x2 h2 h1 e1 e2
      exact absurd h2 (by omega)
    | succ n ih =>
      intro i x1 x2 h2 h1 e1 e2 ls hl
      refine lv_iload_n hx hb d_G_inverse_6 rfl (lv_at hl 3 rfl) ?_
      refine lv_bipush (v := nI 8) hx hb d_G_inverse_7 (by decide) ?_
      refine x_nc_ge (tgt := 30) hx hb d_G_inverse_9 (by decide) (by omega) (by omega) (fun c1 => ?_) (fun c1 => ?_)
      · have hi7 : i = 7 := by omega
        subst hi7
        refine lv_iload_n hx hb d_G_inverse_30 rfl (lv_at hl 1 rfl) ?_
        exact hret _ _ _ d_G_inverse_31 (by rw [e1]; rfl)
      · refine lv_iload_n hx hb d_G_inverse_12 rfl (lv_at hl 2 rfl) ?_
        refine lv_iload_n hx hb d_G_inverse_13 rfl (lv_at hl 2 rfl) ?_
        refine xs_R (n := 2) (As := [.int x2, .int x2]) (rest := []) hx hb hml hown hg hK0 hP (c_G_scaled l D T A M x2 x2) w_202 w_1 w_273 w_201 (by decide +kernel) ⟨Nat.le_of_ble_eq_true rfl, Nat.le_of_ble_eq_true rfl⟩ rfl hl.1 rfl (Nat.le_of_ble_eq_true rfl) ⟨Nat.zero_le _, Nat.zero_le _⟩ rfl rfl d_G_inverse_14 (fun r hr => ?_)
        subst hr
        refine x_fr (pc := 17) [.int (scF x2 x2)] rfl rfl ?_
        refine lv_istore_n (lv' := [(2, .int (scF x2 x2)), (0, .int a), (1, .int x1), (3, .int (nI (i + 1)))]) hx hb d_G_inverse_17 rfl hl (by decide) rfl (fun ls hl => ?_)
        refine lv_iload_n hx hb d_G_inverse_18 rfl (lv_at hl 2 rfl) ?_
        refine lv_iload_n hx hb d_G_inverse_19 rfl (lv_at hl 0 rfl) ?_
        refine xs_R (n := 2) (As := [.int x1, .int (scF x2 x2)]) (rest := []) hx hb hml hown hg hK0 hP (c_G_scaled l D T A M x1 (scF x2 x2)) w_202 w_1 w_273 w_201 (by decide +kernel) ⟨Nat.le_of_ble_eq_true rfl, Nat.le_of_ble_eq_true rfl⟩ rfl hl.1 rfl (Nat.le_of_ble_eq_true rfl) ⟨Nat.zero_le _, Nat.zero_le _⟩ rfl rfl d_G_inverse_20 (fun r hr => ?_)
        subst hr
        refine x_fr (pc := 23) [.int (scF x1 (scF x2 x2))] rfl rfl ?_
        refine lv_istore_n (lv' := [(1, .int (scF x1 (scF x2 x2))), (2, .int (scF x2 x2)), (0, .int a), (3, .int (nI (i + 1)))]) hx hb d_G_inverse_23 rfl hl (by decide) rfl (fun ls hl => ?_)
        refine lv_iinc (v := nI ((i + 1) + 1)) (lv' := [(3, .int (nI ((i + 1) + 1))), (1, .int (scF x1 (scF x2 x2))), (2, .int (scF x2 x2)), (0, .int a)]) hx hb d_G_inverse_24 hl (k := 3) rfl (nI_1 _) (by decide) rfl (fun ls hl => ?_)
        refine lv_goto (tgt := 6) hx hb d_G_inverse_27 (by decide) ?_
        exact ih (i + 1) _ _ (by omega) (by omega) (by rw [e1, e2]; rfl) (by rw [e2]; rfl) ls (lv_sub hl [3, 1, 2, 0] rfl)
  exact loop 8 0 _ _ (by omega) (by omega) rfl rfl ls (lv_sub hl [3, 2, 1, 0] rfl)
end
section
/-! the class's memory: cells by key (kind, file, place); the ints that they hold are one function g -/
abbrev eQ (cA : ClassId) (n : Nat) (f : Nat → Option Nat) : va_E := .inl (cA, n, .inr (.inr (.inr (.inr f))))
abbrev eI (cA : ClassId) (n : Nat) (f : Nat → Int32) : va_E := .inl (cA, n, .inl f)
def vG (N k f s : Nat) : Prop := (k < 12 ∧ f = 0 ∧ s = 0) ∨ (12 ≤ k ∧ k < 17 ∧ f < 6 ∧ s = 0) ∨ (17 ≤ k ∧ k < 21 ∧ f < 6 ∧ s < N)
def cG (T : Nat → ClassId) (ad : Nat → Nat → Nat → Nat) (K N : Nat) (h : Nat → Int32) (k f s : Nat) : va_E := match k with
  | 0 => .inr (3, [.int (nI K), .int (nI N), .ref (ad 1 0 0), .ref (ad 2 0 0), .ref (ad 3 0 0), .ref (ad 4 0 0), .ref (ad 5 0 0), .ref (ad 6 0 0), .ref (ad 9 0 0), .ref (ad 11 0 0), .int (h 0), .int (h 1)])
  | 1 => eI (T 1) N h
  | 2 => eI (T 1) N h
  | 3 => eQ (T 3) 6 (fun j => some (ad 12 j 0))
  | 4 => eI (T 0) K h
  | 5 => eI (T 0) K h
  | 6 => .inr (0, [.int (nI K), .ref (ad 7 0 0), .ref (ad 8 0 0)])
  | 7 => eI (T 0) K h
  | 8 => eI (T 0) K h
  | 9 => .inr (1, [.ref (ad 10 0 0), .int (h 0), .int (h 1), .int (h 2), .int (h 3)])
  | 10 => eI (T 0) N h
  | 11 => eI (T 0) 31 h
  | 12 => .inr (2, [.ref (ad 13 f 0), .ref (ad 14 f 0), .ref (ad 15 f 0), .ref (ad 16 f 0), .int (h 0), .int (h 1)])
  | 13 => eQ (T 2) N (fun j => some (ad 17 f j))
  | 14 => eQ (T 2) N (fun j => some (ad 19 f j))
  | 15 => eI (T 0) 31 h
  | 16 => eI (T 0) 31 h
  | 17 => .inr (1, [.ref (ad 18 f s), .int (h 0), .int (h 1), .int (h 2), .int (h 3)])
  | 18 => eI (T 0) N h
  | 19 => .inr (1, [.ref (ad 20 f s), .int (h 0), .int (h 1), .int (h 2), .int (h 3)])
  | _ => eI (T 0) N h
abbrev gT : Type := Nat → Nat → Nat → Nat → Int32
def gG (T : Nat → ClassId) (ad : Nat → Nat → Nat → Nat) (K N : Nat) (g : gT) (M : xM) : Prop := (∀ k f s, vG N k f s → M (ad k f s) = some (cG T ad K N (g k f s) k f s)) ∧ ∀ k f s k' f' s', vG N k f s → vG N k' f' s' → ad k f s = ad k' f' s' → k = k' ∧ f = f' ∧ s = s'
/-- the cells that are none of the class's stay -/
def fG (ad : Nat → Nat → Nat → Nat) (N : Nat) (M M1 : xM) : Prop := ∀ a, (∀ k f s, vG N k f s → ad k f s ≠ a) → M1 a = M a
def gR (T : Nat → ClassId) (ad : Nat → Nat → Nat → Nat) (K N : Nat) (M : xM) (g : gT) (M1 : xM) : Prop := gG T ad K N g M1 ∧ fG ad N M M1
def upS (g : gT) (k f s : Nat) (h : Nat → Int32) : gT := fun k1 f1 s1 => if k1 = k ∧ f1 = f ∧ s1 = s then h else g k1 f1 s1
theorem upS_s {g : gT} {k f s : Nat} {h : Nat → Int32} : upS g k f s h k f s = h := by simp [upS]
theorem upS_n {g : gT} {k f s k1 f1 s1 : Nat} {h : Nat → Int32} (q : ¬ (k1 = k ∧ f1 = f ∧ s1 = s)) : upS g k f s h k1 f1 s1 = g k1 f1 s1 := by simp [upS, q]
section GG
variable {T : Nat → ClassId} {ad : Nat → Nat → Nat → Nat} {K N : Nat} {g : gT} {M M0 M1 : xM}
theorem gG.rf (h : gG T ad K N g M) : gR T ad K N M g M := ⟨h, fun _ _ => rfl⟩
theorem gR.gg (h : gR T ad K N M0 g M) : gG T ad K N g M := h.1
theorem gR.tr {g1 : gT} (h : gR T ad K N M0 g M) (h1 : gR T ad K N M g1 M1) : gR T ad K N M0 g1 M1 := ⟨h1.1, fun a q => (h1.2 a q).trans (h.2 a q)⟩
theorem gG.ne (h : gG T ad K N g M) {k f s k' f' s' : Nat} (v : vG N k f s) (v' : vG N k' f' s') (q : ¬ (k = k' ∧ f = f' ∧ s = s')) : ad k f s ≠ ad k' f' s' := fun z => q (h.2 k f s k' f' s' v v' z)
theorem gR.set {k f s : Nat} {h' : Nat → Int32} {e : va_E} (h : gR T ad K N M0 g M) (v : vG N k f s) (he : e = cG T ad K N h' k f s) : gR T ad K N M0 (upS g k f s h') (xU M (ad k f s) e) := by
  subst he
  refine ⟨⟨fun k1 f1 s1 v1 => ?_, h.1.2⟩, fun a q => ?_⟩
  · by_cases hq : k1 = k ∧ f1 = f ∧ s1 = s
    · obtain ⟨rfl, rfl, rfl⟩ := hq
      rw [xU_s, upS_s]
    · rw [xU_n (h.1.ne v1 v hq), upS_n hq]
      exact h.1.1 k1 f1 s1 v1
  · rw [xU_n (fun z => q k f s v z.symm)]
    exact h.2 a q
theorem ga_0 (h : gG T ad K N g M) : M (ad 0 0 0) = some (cG T ad K N (g 0 0 0) 0 0 0) := h.1 0 0 0 (Or.inl ⟨by omega, rfl, rfl⟩)
theorem ga_1 (h : gG T ad K N g M) : M (ad 1 0 0) = some (cG T ad K N (g 1 0 0) 1 0 0) := h.1 1 0 0 (Or.inl ⟨by omega, rfl, rfl⟩)
theorem ga_2 (h : gG T ad K N g M) : M (ad 2 0 0) = some (cG T ad K N (g 2 0 0) 2 0 0) := h.1 2 0 0 (Or.inl ⟨by omega, rfl, rfl⟩)
theorem ga_3 (h : gG T ad K N g M) : M (ad 3 0 0) = some (cG T ad K N (g 3 0 0) 3 0 0) := h.1 3 0 0 (Or.inl ⟨by omega, rfl, rfl⟩)
theorem ga_4 (h : gG T ad K N g M) : M (ad 4 0 0) = some (cG T ad K N (g 4 0 0) 4 0 0) := h.1 4 0 0 (Or.inl ⟨by omega, rfl, rfl⟩)
theorem ga_5 (h : gG T ad K N g M) : M (ad 5 0 0) = some (cG T ad K N (g 5 0 0) 5 0 0) := h.1 5 0 0 (Or.inl ⟨by omega, rfl, rfl⟩)
theorem ga_6 (h : gG T ad K N g M) : M (ad 6 0 0) = some (cG T ad K N (g 6 0 0) 6 0 0) := h.1 6 0 0 (Or.inl ⟨by omega, rfl, rfl⟩)
theorem ga_7 (h : gG T ad K N g M) : M (ad 7 0 0) = some (cG T ad K N (g 7 0 0) 7 0 0) := h.1 7 0 0 (Or.inl ⟨by omega, rfl, rfl⟩)
theorem ga_8 (h : gG T ad K N g M) : M (ad 8 0 0) = some (cG T ad K N (g 8 0 0) 8 0 0) := h.1 8 0 0 (Or.inl ⟨by omega, rfl, rfl⟩)
theorem ga_9 (h : gG T ad K N g M) : M (ad 9 0 0) = some (cG T ad K N (g 9 0 0) 9 0 0) := h.1 9 0 0 (Or.inl ⟨by omega, rfl, rfl⟩)
theorem ga_10 (h : gG T ad K N g M) : M (ad 10 0 0) = some (cG T ad K N (g 10 0 0) 10 0 0) := h.1 10 0 0 (Or.inl ⟨by omega, rfl, rfl⟩)
theorem ga_11 (h : gG T ad K N g M) : M (ad 11 0 0) = some (cG T ad K N (g 11 0 0) 11 0 0) := h.1 11 0 0 (Or.inl ⟨by omega, rfl, rfl⟩)
theorem ga_12 (h : gG T ad K N g M) {f : Nat} (hf : f < 6) : M (ad 12 f 0) = some (cG T ad K N (g 12 f 0) 12 f 0) := h.1 12 f 0 (Or.inr (Or.inl ⟨by omega, by omega, hf, rfl⟩))
theorem ga_13 (h : gG T ad K N g M) {f : Nat} (hf : f < 6) : M (ad 13 f 0) = some (cG T ad K N (g 13 f 0) 13 f 0) := h.1 13 f 0 (Or.inr (Or.inl ⟨by omega, by omega, hf, rfl⟩))
theorem ga_14 (h : gG T ad K N g M) {f : Nat} (hf : f < 6) : M (ad 14 f 0) = some (cG T ad K N (g 14 f 0) 14 f 0) := h.1 14 f 0 (Or.inr (Or.inl ⟨by omega, by omega, hf, rfl⟩))
theorem ga_15 (h : gG T ad K N g M) {f : Nat} (hf : f < 6) : M (ad 15 f 0) = some (cG T ad K N (g 15 f 0) 15 f 0) := h.1 15 f 0 (Or.inr (Or.inl ⟨by omega, by omega, hf, rfl⟩))
theorem ga_16 (h : gG T ad K N g M) {f : Nat} (hf : f < 6) : M (ad 16 f 0) = some (cG T ad K N (g 16 f 0) 16 f 0) := h.1 16 f 0 (Or.inr (Or.inl ⟨by omega, by omega, hf, rfl⟩))
theorem ga_17 (h : gG T ad K N g M) {f s : Nat} (hf : f < 6) (hs : s < N) : M (ad 17 f s) = some (cG T ad K N (g 17 f s) 17 f s) := h.1 17 f s (Or.inr (Or.inr ⟨by omega, by omega, hf, hs⟩))
theorem ga_18 (h : gG T ad K N g M) {f s : Nat} (hf : f < 6) (hs : s < N) : M (ad 18 f s) = some (cG T ad K N (g 18 f s) 18 f s) := h.1 18 f s (Or.inr (Or.inr ⟨by omega, by omega, hf, hs⟩))
theorem ga_19 (h : gG T ad K N g M) {f s : Nat} (hf : f < 6) (hs : s < N) : M (ad 19 f s) = some (cG T ad K N (g 19 f s) 19 f s) := h.1 19 f s (Or.inr (Or.inr ⟨by omega, by omega, hf, hs⟩))
theorem ga_20 (h : gG T ad K N g M) {f s : Nat} (hf : f < 6) (hs : s < N) : M (ad 20 f s) = some (cG T ad K N (g 20 f s) 20 f s) := h.1 20 f s (Or.inr (Or.inr ⟨by omega, by omega, hf, hs⟩))
end GG
end
section
/-! reading methods of the class -/
def zB (K N : Nat) : Prop := 1 ≤ K ∧ K ≤ 4 ∧ K ≤ N ∧ N ≤ 7
def inF (x y : Int32) : Int32 := if x < 0 then 0 else if y ≤ x then 0 else 1
def cuF (u : Nat → Int32) : Nat → Nat
  | 0 => 0
  | i + 1 => if u i = 0 then cuF u i else cuF u i + 1
theorem cuF_le (u : Nat → Int32) (n : Nat) : cuF u n ≤ n := by
  induction n with
  | zero => exact Nat.le_refl 0
  | succ n ih => rw [cuF]; split <;> omega
def fdF (vk : Nat → Int32) (v : Int32) : Nat → Nat → Int32
  | _, 0 => -1
  | i, n + 1 => if vk i = v then nI i else fdF vk v (i + 1) n
def tkF (u k : Int32) : Int32 := if u = 0 then 0 else if k = 0 then 1 else 0
def rtI (f : Nat → Int32) : Nat → Int32
  | 0 => 7
  | i + 1 => mixF (rtI f i) (f i)
def rtF (f : Nat → Int32) (n : Nat) (nu : Int32) : Int32 := mixF (rtI f n) nu
def sdF (N : Nat) (rc fps roots seals : Nat → Int32) (w : Int32) (i : Nat) : Int32 :=
  if rc 0 = 0 then 0 else if rc 2 < 1 then 0 else if rc 2 ≤ w then (if mixF (rc 1) (nI i + 100) = fps i then (if rtF fps N (rc 2) = roots (rc 2).toNatClampNeg then (if rc 3 = seals (rc 2).toNatClampNeg then 1 else 0) else 0) else 0) else 0
abbrev sdG (N : Nat) (g : gT) (f i : Nat) : Int32 := sdF N (g 17 f i) (g 18 f i) (g 15 f 0) (g 16 f 0) (g 12 f 0 1) i
def swG (N : Nat) (g : gT) (f i : Nat) (x : Int32) : Int32 := if g 17 f i 2 = x then sdG N g f i else 0
theorem sdF_z (N : Nat) (rc fps roots seals : Nat → Int32) (w : Int32) (i : Nat) : sdF N rc fps roots seals w i = 0 ∨ sdF N rc fps roots seals w i = 1 := by
  unfold sdF
  repeat' split
  all_goals first | exact Or.inl rfl | exact Or.inr rfl
theorem inF_z (x y : Int32) : inF x y = 0 ∨ inF x y = 1 := by
  unfold inF
  repeat' split
  all_goals first | exact Or.inl rfl | exact Or.inr rfl
theorem tkF_z (x y : Int32) : tkF x y = 0 ∨ tkF x y = 1 := by
  unfold tkF
  repeat' split
  all_goals first | exact Or.inl rfl | exact Or.inr rfl
def shG (cw : Nat → Int32) (pt : Int32) : Nat → Nat → Int32
  | _, 0 => 0
  | j, n + 1 => scF (shG cw pt (j + 1) n) pt ^^^ cw j
def dnI : Nat → Int32
  | 0 => -1
  | j + 1 => nI j
theorem dnI_dec (j : Nat) : nI j + (-1) = dnI j := by
  cases j with
  | zero => decide
  | succ j => exact pk_m1 j
/-- an index between 1 and w -/
theorem ixw {x : Int32} {w : Nat} (hw : w ≤ 30) (h1 : ¬ x < 1) (h2 : x ≤ nI w) : ∃ j : Nat, 1 ≤ j ∧ j ≤ w ∧ x = nI j := by
  have e1 : (1 : Int32).toInt = 1 := by decide
  have a1 : ¬ x.toInt < 1 := fun q => h1 (Int32.lt_iff_toInt_lt.mpr (by rw [e1]; exact q))
  have a2 := Int32.le_iff_toInt_le.mp h2
  rw [nI_toInt (by omega)] at a2
  have h0 : ¬ x < 0 := fun q => by
    have := Int32.lt_iff_toInt_lt.mp q
    have e0 : (0 : Int32).toInt = 0 := by decide
    rw [e0] at this
    omega
  obtain ⟨j, hj, rfl⟩ := nI_of h0
  rw [nI_toInt hj] at a1 a2
  exact ⟨j, by omega, by omega, rfl⟩
set_option maxHeartbeats 4000000 in
set_option maxRecDepth 100000 in
theorem c_G_isWordPlace (l : Launch) (D : va_G) (T : Nat → ClassId) (A : Nat → Prop) (M : xM) (ad : Nat → Nat → Nat → Nat) (K N : Nat) (g : gT) (hz : zB K N) (hG : gG T ad K N g M) (x : Int32) : Met l y_G_isWordPlace (Cond.code y_G_isWordPlace b_G_isWordPlace 2 (some .boolean) :: gw) (rmH 0) (xPc D T A M [.ref (ad 0 0 0), .int x]) (xR (fun r => r = some (.int (inF x (nI K))))) 0 0 (fun _ => False) := by
  refine xMetRz (by decide) (Nat.le_of_ble_eq_true rfl) ?_
  intro p e s m below meth c Q ls hB hP hl hret
  obtain ⟨hx, hb, hml, hown, hg, hK0, hnm⟩ := hB
  have hown : s.vm.findClass "ShareGrid" = some m.cls := hown
  have hK := hK0.1
  have hN := hK0.2.1
  obtain ⟨hz1, hz4, hzn, hz7⟩ := id hz
  have hl : lv_has ls 2 [(0, .ref (ad 0 0 0)), (1, .int x)] := hl
  refine lv_iload_n hx hb d_G_isWordPlace_0 rfl (lv_at hl 1 rfl) ?_
  refine lv_if_lt (tgt := 16) hx hb d_G_isWordPlace_1 (by decide) (fun c_1 => ?_) (fun c_1 => ?_)
  · refine lv_iconst (v := 0) hx hb d_G_isWordPlace_16 (by decide) ?_
    exact hret _ _ _ d_G_isWordPlace_17 (by first | exact Or.inl rfl | exact Or.inr rfl) (by simp [inF, c_1])
  · refine lv_iload_n hx hb d_G_isWordPlace_4 rfl (lv_at hl 1 rfl) ?_
    refine lv_aload_n hx hb d_G_isWordPlace_5 rfl (lv_at hl 0 rfl) ?_
    refine x_get (v := .int (nI K)) (C := R_G) (T := F_G) (N := 12) hx hb hg i_G hown hK hP (ga_0 hG) rfl 0 (by decide) (hg _ w_110) (fun _ h9 => h9) rfl d_G_isWordPlace_6 ?_
    refine lv_icmp_ge (tgt := 16) hx hb d_G_isWordPlace_9 (by decide) (fun c_9 => ?_) (fun c_9 => ?_)
    · refine lv_iconst (v := 0) hx hb d_G_isWordPlace_16 (by decide) ?_
      exact hret _ _ _ d_G_isWordPlace_17 (by first | exact Or.inl rfl | exact Or.inr rfl) (by simp [inF, c_1, c_9])
    · refine lv_iconst (v := 1) hx hb d_G_isWordPlace_12 (by decide) ?_
      refine lv_goto (tgt := 17) hx hb d_G_isWordPlace_13 (by decide) ?_
      exact hret _ _ _ d_G_isWordPlace_17 (by first | exact Or.inl rfl | exact Or.inr rfl) (by simp [inF, c_1, c_9])
set_option maxHeartbeats 4000000 in
set_option maxRecDepth 100000 in
theorem c_G_isPlace (l : Launch) (D : va_G) (T : Nat → ClassId) (A : Nat → Prop) (M : xM) (ad : Nat → Nat → Nat → Nat) (K N : Nat) (g : gT) (hz : zB K N) (hG : gG T ad K N g M) (x : Int32) : Met l y_G_isPlace (Cond.code y_G_isPlace b_G_isPlace 2 (some .boolean) :: gw) (rmH 0) (xPc D T A M [.ref (ad 0 0 0), .int x]) (xR (fun r => r = some (.int (inF x (nI N))))) 0 0 (fun _ => False) := by
  refine xMetRz (by decide) (Nat.le_of_ble_eq_true rfl) ?_
  intro p e s m below meth c Q ls hB hP hl hret
  obtain ⟨hx, hb, hml, hown, hg, hK0, hnm⟩ := hB
  have hown : s.vm.findClass "ShareGrid" = some m.cls := hown
  have hK := hK0.1
  have hN := hK0.2.1
  obtain ⟨hz1, hz4, hzn, hz7⟩ := id hz
  have hl : lv_has ls 2 [(0, .ref (ad 0 0 0)), (1, .int x)] := hl
  refine lv_iload_n hx hb d_G_isPlace_0 rfl (lv_at hl 1 rfl) ?_
  refine lv_if_lt (tgt := 16) hx hb d_G_isPlace_1 (by decide) (fun c_1 => ?_) (fun c_1 => ?_)
  · refine lv_iconst (v := 0) hx hb d_G_isPlace_16 (by decide) ?_
    exact hret _ _ _ d_G_isPlace_17 (by first | exact Or.inl rfl | exact Or.inr rfl) (by simp [inF, c_1])
  · refine lv_iload_n hx hb d_G_isPlace_4 rfl (lv_at hl 1 rfl) ?_
    refine lv_aload_n hx hb d_G_isPlace_5 rfl (lv_at hl 0 rfl) ?_
    refine x_get (v := .int (nI N)) (C := R_G) (T := F_G) (N := 12) hx hb hg i_G hown hK hP (ga_0 hG) rfl 1 (by decide) (hg _ w_111) (fun _ h9 => h9) rfl d_G_isPlace_6 ?_
    refine lv_icmp_ge (tgt := 16) hx hb d_G_isPlace_9 (by decide) (fun c_9 => ?_) (fun c_9 => ?_)
    · refine lv_iconst (v := 0) hx hb d_G_isPlace_16 (by decide) ?_
      exact hret _ _ _ d_G_isPlace_17 (by first | exact Or.inl rfl | exact Or.inr rfl) (by simp [inF, c_1, c_9])
    · refine lv_iconst (v := 1) hx hb d_G_isPlace_12 (by decide) ?_
      refine lv_goto (tgt := 17) hx hb d_G_isPlace_13 (by decide) ?_
      exact hret _ _ _ d_G_isPlace_17 (by first | exact Or.inl rfl | exact Or.inr rfl) (by simp [inF, c_1, c_9])
set_option maxHeartbeats 4000000 in
set_option maxRecDepth 100000 in
theorem c_G_isFile (l : Launch) (D : va_G) (T : Nat → ClassId) (A : Nat → Prop) (M : xM) (ad : Nat → Nat → Nat → Nat) (K N : Nat) (g : gT) (hz : zB K N) (hG : gG T ad K N g M) (x : Int32) : Met l y_G_isFile (Cond.code y_G_isFile b_G_isFile 2 (some .boolean) :: gw) (rmH 0) (xPc D T A M [.ref (ad 0 0 0), .int x]) (xR (fun r => r = some (.int (inF x (g 0 0 0 0))))) 0 0 (fun _ => False) := by
  refine xMetRz (by decide) (Nat.le_of_ble_eq_true rfl) ?_
  intro p e s m below meth c Q ls hB hP hl hret
  obtain ⟨hx, hb, hml, hown, hg, hK0, hnm⟩ := hB
  have hown : s.vm.findClass "ShareGrid" = some m.cls := hown
  have hK := hK0.1
  have hN := hK0.2.1
  obtain ⟨hz1, hz4, hzn, hz7⟩ := id hz
  have hl : lv_has ls 2 [(0, .ref (ad 0 0 0)), (1, .int x)] := hl
  refine lv_iload_n hx hb d_G_isFile_0 rfl (lv_at hl 1 rfl) ?_
  refine lv_if_lt (tgt := 16) hx hb d_G_isFile_1 (by decide) (fun c_1 => ?_) (fun c_1 => ?_)
  · refine lv_iconst (v := 0) hx hb d_G_isFile_16 (by decide) ?_
    exact hret _ _ _ d_G_isFile_17 (by first | exact Or.inl rfl | exact Or.inr rfl) (by simp [inF, c_1])
  · refine lv_iload_n hx hb d_G_isFile_4 rfl (lv_at hl 1 rfl) ?_
    refine lv_aload_n hx hb d_G_isFile_5 rfl (lv_at hl 0 rfl) ?_
    refine x_get (v := .int (g 0 0 0 0)) (C := R_G) (T := F_G) (N := 12) hx hb hg i_G hown hK hP (ga_0 hG) rfl 10 (by decide) (hg _ w_120) (fun _ h9 => h9) rfl d_G_isFile_6 ?_
    refine lv_icmp_ge (tgt := 16) hx hb d_G_isFile_9 (by decide) (fun c_9 => ?_) (fun c_9 => ?_)
    · refine lv_iconst (v := 0) hx hb d_G_isFile_16 (by decide) ?_
      exact hret _ _ _ d_G_isFile_17 (by first | exact Or.inl rfl | exact Or.inr rfl) (by simp [inF, c_1, c_9])
    · refine lv_iconst (v := 1) hx hb d_G_isFile_12 (by decide) ?_
      refine lv_goto (tgt := 17) hx hb d_G_isFile_13 (by decide) ?_
      exact hret _ _ _ d_G_isFile_17 (by first | exact Or.inl rfl | exact Or.inr rfl) (by simp [inF, c_1, c_9])
set_option maxHeartbeats 4000000 in
set_option maxRecDepth 100000 in
theorem c_G_serversUp (l : Launch) (D : va_G) (T : Nat → ClassId) (A : Nat → Prop) (M : xM) (ad : Nat → Nat → Nat → Nat) (K N : Nat) (g : gT) (hz : zB K N) (hG : gG T ad K N g M) : Met l y_G_serversUp (Cond.code y_G_serversUp b_G_serversUp 3 (some .int) :: gw) (rmH 0) (xPc D T A M [.ref (ad 0 0 0)]) (xR (fun r => r = some (.int (nI (cuF (g 1 0 0) N))))) 0 0 (fun _ => False) := by
  refine xMetRi (by decide) (Nat.le_of_ble_eq_true rfl) ?_
  intro p e s m below meth c Q ls hB hP hl hret
  obtain ⟨hx, hb, hml, hown, hg, hK0, hnm⟩ := hB
  have hown : s.vm.findClass "ShareGrid" = some m.cls := hown
  have hK := hK0.1
  have hN := hK0.2.1
  obtain ⟨hz1, hz4, hzn, hz7⟩ := id hz
  have hl : lv_has ls 3 [(0, .ref (ad 0 0 0))] := hl
  refine lv_iconst (v := nI 0) hx hb d_G_serversUp_0 (by decide) ?_
  refine lv_istore_n (lv' := [(1, .int (nI 0)), (0, .ref (ad 0 0 0))]) hx hb d_G_serversUp_1 rfl hl (by decide) rfl (fun ls hl => ?_)
  refine lv_iconst (v := nI 0) hx hb d_G_serversUp_2 (by decide) ?_
  refine lv_istore_n (lv' := [(2, .int (nI 0)), (1, .int (nI 0)), (0, .ref (ad 0 0 0))]) hx hb d_G_serversUp_3 rfl hl (by decide) rfl (fun ls hl => ?_)
  have loop : ∀ (n : Nat) (i : Nat), N + 1 ≤ i + n → i ≤ N → ∀ (ls : Array Slot), lv_has ls 3 [(0, .ref (ad 0 0 0)), (1, .int (nI (cuF (g 1 0 0) i))), (2, .int (nI i))] → W p l e (rmH 0) s m [.ref (ad 0 0 0)].toArray below meth c s.heap [] 0 0 Q (F0 m 4 ls []) := by
    intro n
    induction n with
    | zero =>
      intro i h2 h1
      exact absurd h2 (by omega)
    | succ n ih =>
      intro i h2 h1 ls hl
      refine lv_iload_n hx hb d_G_serversUp_4 rfl (lv_at hl 2 rfl) ?_
      refine lv_aload_n hx hb d_G_serversUp_5 rfl (lv_at hl 0 rfl) ?_
      refine x_get (v := .int (nI N)) (C := R_G) (T := F_G) (N := 12) hx hb hg i_G hown hK hP (ga_0 hG) rfl 1 (by decide) (hg _ w_111) (fun _ h9 => h9) rfl d_G_serversUp_6 ?_
      refine x_nc_ge (tgt := 30) hx hb d_G_serversUp_9 (by decide) (by omega) (by omega) (fun c1 => ?_) (fun c1 => ?_)
      · have hiN : i = N := by omega
        subst hiN
        refine lv_iload_n hx hb d_G_serversUp_30 rfl (lv_at hl 1 rfl) ?_
        exact hret _ _ _ d_G_serversUp_31 rfl
      · refine lv_aload_n hx hb d_G_serversUp_12 rfl (lv_at hl 0 rfl) ?_
        refine x_get (v := .ref (ad 1 0 0)) (C := R_G) (T := F_G) (N := 12) hx hb hg i_G hown hK hP (ga_0 hG) rfl 2 (by decide) (hg _ w_112) (fun _ h9 => h9) rfl d_G_serversUp_13 ?_
        refine lv_iload_n hx hb d_G_serversUp_16 rfl (lv_at hl 2 rfl) ?_
        refine x_zald (v := g 1 0 0 i) hx hb hK hP 1 (ga_1 hG) rfl (vp_in_nI (by omega) (by omega)) (by rw [nI_clamp (by omega)]) d_G_serversUp_17 ?_
        refine lv_if_eq (tgt := 24) hx hb d_G_serversUp_18 (by decide) (fun c2 => ?_) (fun c2 => ?_)
        · have ecu : cuF (g 1 0 0) (i + 1) = cuF (g 1 0 0) i := by rw [cuF, if_pos c2]
          refine lv_iinc (v := nI (i + 1)) (lv' := [(2, .int (nI (i + 1))), (0, .ref (ad 0 0 0)), (1, .int (nI (cuF (g 1 0 0) i)))]) hx hb d_G_serversUp_24 hl (k := 2) rfl (nI_1 _) (by decide) rfl (fun ls hl => ?_)
          refine lv_goto (tgt := 4) hx hb d_G_serversUp_27 (by decide) ?_
          exact ih (i + 1) (by omega) (by omega) ls (by rw [ecu]; exact (lv_sub hl [1, 2, 0] rfl))
        · have ecu : cuF (g 1 0 0) (i + 1) = cuF (g 1 0 0) i + 1 := by rw [cuF, if_neg c2]
          refine lv_iinc (v := nI ((cuF (g 1 0 0) i) + 1)) (lv' := [(1, .int (nI ((cuF (g 1 0 0) i) + 1))), (0, .ref (ad 0 0 0)), (2, .int (nI i))]) hx hb d_G_serversUp_21 hl (k := 1) rfl (nI_1 _) (by decide) rfl (fun ls hl => ?_)
          refine lv_iinc (v := nI (i + 1)) (lv' := [(2, .int (nI (i + 1))), (1, .int (nI ((cuF (g 1 0 0) i) + 1))), (0, .ref (ad 0 0 0))]) hx hb d_G_serversUp_24 hl (k := 2) rfl (nI_1 _) (by decide) rfl (fun ls hl => ?_)
          refine lv_goto (tgt := 4) hx hb d_G_serversUp_27 (by decide) ?_
          exact ih (i + 1) (by omega) (by omega) ls (by rw [ecu]; exact (lv_sub hl [2, 1, 0] rfl))
  exact loop (N + 1) 0 (by omega) (by omega) ls (lv_sub hl [2, 1, 0] rfl)
set_option maxHeartbeats 4000000 in
set_option maxRecDepth 100000 in
theorem c_G_fileUnder (l : Launch) (D : va_G) (T : Nat → ClassId) (A : Nat → Prop) (M : xM) (ad : Nat → Nat → Nat → Nat) (K N : Nat) (g : gT) (hz : zB K N) (hG : gG T ad K N g M) (q : Nat) (hq : g 0 0 0 0 = nI q) (hq6 : q ≤ 6) (x : Int32) : Met l y_G_fileUnder (Cond.code y_G_fileUnder b_G_fileUnder 3 (some .int) :: gw) (rmH 0) (xPc D T A M [.ref (ad 0 0 0), .int x]) (xR (fun r => r = some (.int (fdF (fun f => g 12 f 0 0) x 0 q)))) 0 0 (fun _ => False) := by
  refine xMetRi (by decide) (Nat.le_of_ble_eq_true rfl) ?_
  intro p e s m below meth c Q ls hB hP hl hret
  obtain ⟨hx, hb, hml, hown, hg, hK0, hnm⟩ := hB
  have hown : s.vm.findClass "ShareGrid" = some m.cls := hown
  have hK := hK0.1
  have hN := hK0.2.1
  obtain ⟨hz1, hz4, hzn, hz7⟩ := id hz
  have hl : lv_has ls 3 [(0, .ref (ad 0 0 0)), (1, .int x)] := hl
  refine lv_iconst (v := nI 0) hx hb d_G_fileUnder_0 (by decide) ?_
  refine lv_istore_n (lv' := [(2, .int (nI 0)), (0, .ref (ad 0 0 0)), (1, .int x)]) hx hb d_G_fileUnder_1 rfl hl (by decide) rfl (fun ls hl => ?_)
  have loop : ∀ (n : Nat) (i : Nat), q + 1 ≤ i + n → i ≤ q → fdF (fun f => g 12 f 0 0) x 0 q = fdF (fun f => g 12 f 0 0) x i (q - i) → ∀ (ls : Array Slot), lv_has ls 3 [(0, .ref (ad 0 0 0)), (1, .int x), (2, .int (nI i))] → W p l e (rmH 0) s m [.ref (ad 0 0 0), .int x].toArray below meth c s.heap [] 0 0 Q (F0 m 2 ls []) := by
    intro n
    induction n with
    | zero =>
      intro i h2 h1 h3
      exact absurd h2 (by omega)
    | succ n ih =>
      intro i h2 h1 h3 ls hl
      refine lv_iload_n hx hb d_G_fileUnder_2 rfl (lv_at hl 2 rfl) ?_
      refine lv_aload_n hx hb d_G_fileUnder_3 rfl (lv_at hl 0 rfl) ?_
      refine x_get (v := .int (g 0 0 0 0)) (C := R_G) (T := F_G) (N := 12) hx hb hg i_G hown hK hP (ga_0 hG) rfl 10 (by decide) (hg _ w_120) (fun _ h9 => h9) rfl d_G_fileUnder_4 ?_
      refine x_top (y := nI q) hq ?_
      refine x_nc_ge (tgt := 31) hx hb d_G_fileUnder_7 (by decide) (by omega) (by omega) (fun c1 => ?_) (fun c1 => ?_)
      · have hiN : i = q := by omega
        subst hiN
        refine lv_iconst (v := (-1)) hx hb d_G_fileUnder_31 (by decide) ?_
        exact hret _ _ _ d_G_fileUnder_32 (by rw [h3, Nat.sub_self]; rfl)
      · have hqi : q - i = (q - (i + 1)) + 1 := by omega
        refine lv_aload_n hx hb d_G_fileUnder_10 rfl (lv_at hl 0 rfl) ?_
        refine x_get (v := .ref (ad 3 0 0)) (C := R_G) (T := F_G) (N := 12) hx hb hg i_G hown hK hP (ga_0 hG) rfl 4 (by decide) (hg _ w_114) (fun _ h9 => h9) rfl d_G_fileUnder_11 ?_
        refine lv_iload_n hx hb d_G_fileUnder_14 rfl (lv_at hl 2 rfl) ?_
        refine x_aldq (v := .ref (ad 12 i 0)) hx hb hK hP 3 (ga_3 hG) rfl (vp_in_nI (by omega) (by omega)) (by rw [nI_clamp (by omega)]; rfl) d_G_fileUnder_15 ?_
        refine x_getN (v := .int (g 12 i 0 0)) (C := R_F) (T := F_F) (N := 6) hx hb hg i_F hown hK hP (ga_12 hG (show i < 6 by omega)) rfl 4 (by decide) (va_Nw.use rfl (hN _ e_74)) (fun _ h9 => h9) rfl d_G_fileUnder_16 ?_
        refine lv_iload_n hx hb d_G_fileUnder_19 rfl (lv_at hl 1 rfl) ?_
        refine lv_icmp_ne (tgt := 25) hx hb d_G_fileUnder_20 (by decide) (fun c2 => ?_) (fun c2 => ?_)
        · refine lv_iinc (v := nI (i + 1)) (lv' := [(2, .int (nI (i + 1))), (0, .ref (ad 0 0 0)), (1, .int x)]) hx hb d_G_fileUnder_25 hl (k := 2) rfl (nI_1 _) (by decide) rfl (fun ls hl => ?_)
          refine lv_goto (tgt := 2) hx hb d_G_fileUnder_28 (by decide) ?_
          exact ih (i + 1) (by omega) (by omega) (by rw [h3, hqi, fdF, if_neg c2]) ls (lv_sub hl [1, 2, 0] rfl)
        · refine lv_iload_n hx hb d_G_fileUnder_23 rfl (lv_at hl 2 rfl) ?_
          exact hret _ _ _ d_G_fileUnder_24 (by rw [h3, hqi, fdF, if_pos c2])
  exact loop (q + 1) 0 (by omega) (by omega) rfl ls (lv_sub hl [1, 2, 0] rfl)
set_option maxHeartbeats 4000000 in
set_option maxRecDepth 100000 in
theorem c_G_takesRecords (l : Launch) (D : va_G) (T : Nat → ClassId) (A : Nat → Prop) (M : xM) (ad : Nat → Nat → Nat → Nat) (K N : Nat) (g : gT) (hz : zB K N) (hG : gG T ad K N g M) (i : Nat) (hi : i < N) : Met l y_G_takesRecords (Cond.code y_G_takesRecords b_G_takesRecords 2 (some .boolean) :: gw) (rmH 0) (xPc D T A M [.ref (ad 0 0 0), .int (nI i)]) (xR (fun r => r = some (.int (tkF (g 1 0 0 i) (g 2 0 0 i))))) 0 0 (fun _ => False) := by
  refine xMetRz (by decide) (Nat.le_of_ble_eq_true rfl) ?_
  intro p e s m below meth c Q ls hB hP hl hret
  obtain ⟨hx, hb, hml, hown, hg, hK0, hnm⟩ := hB
  have hown : s.vm.findClass "ShareGrid" = some m.cls := hown
  have hK := hK0.1
  have hN := hK0.2.1
  obtain ⟨hz1, hz4, hzn, hz7⟩ := id hz
  have hl : lv_has ls 2 [(0, .ref (ad 0 0 0)), (1, .int (nI i))] := hl
  refine lv_aload_n hx hb d_G_takesRecords_0 rfl (lv_at hl 0 rfl) ?_
  refine x_get (v := .ref (ad 1 0 0)) (C := R_G) (T := F_G) (N := 12) hx hb hg i_G hown hK hP (ga_0 hG) rfl 2 (by decide) (hg _ w_112) (fun _ h9 => h9) rfl d_G_takesRecords_1 ?_
  refine lv_iload_n hx hb d_G_takesRecords_4 rfl (lv_at hl 1 rfl) ?_
  refine x_zald (v := g 1 0 0 i) hx hb hK hP 1 (ga_1 hG) rfl (vp_in_nI (by omega) (by omega)) (by rw [nI_clamp (by omega)]) d_G_takesRecords_5 ?_
  refine lv_if_eq (tgt := 22) hx hb d_G_takesRecords_6 (by decide) (fun c_6 => ?_) (fun c_6 => ?_)
  · refine lv_iconst (v := 0) hx hb d_G_takesRecords_22 (by decide) ?_
    exact hret _ _ _ d_G_takesRecords_23 (by first | exact Or.inl rfl | exact Or.inr rfl) (by simp [tkF, c_6])
  · refine lv_aload_n hx hb d_G_takesRecords_9 rfl (lv_at hl 0 rfl) ?_
    refine x_get (v := .ref (ad 2 0 0)) (C := R_G) (T := F_G) (N := 12) hx hb hg i_G hown hK hP (ga_0 hG) rfl 3 (by decide) (hg _ w_113) (fun _ h9 => h9) rfl d_G_takesRecords_10 ?_
    refine lv_iload_n hx hb d_G_takesRecords_13 rfl (lv_at hl 1 rfl) ?_
    refine x_zald (v := g 2 0 0 i) hx hb hK hP 1 (ga_2 hG) rfl (vp_in_nI (by omega) (by omega)) (by rw [nI_clamp (by omega)]) d_G_takesRecords_14 ?_
    refine lv_if_ne (tgt := 22) hx hb d_G_takesRecords_15 (by decide) (fun c_15 => ?_) (fun c_15 => ?_)
    · refine lv_iconst (v := 0) hx hb d_G_takesRecords_22 (by decide) ?_
      exact hret _ _ _ d_G_takesRecords_23 (by first | exact Or.inl rfl | exact Or.inr rfl) (by simp [tkF, c_6, c_15])
    · refine lv_iconst (v := 1) hx hb d_G_takesRecords_18 (by decide) ?_
      refine lv_goto (tgt := 23) hx hb d_G_takesRecords_19 (by decide) ?_
      exact hret _ _ _ d_G_takesRecords_23 (by first | exact Or.inl rfl | exact Or.inr rfl) (by simp [tkF, c_6, c_15])
set_option maxHeartbeats 4000000 in
set_option maxRecDepth 100000 in
theorem c_R_rootOfFingerprints (l : Launch) (D : va_G) (T : Nat → ClassId) (A : Nat → Prop) (M : xM) (a fa n0 : Nat) (f : Nat → Int32) (y0 y1 y2 y3 : Int32) (hn0 : n0 ≤ 7) (ha : M a = some (.inr (1, [.ref fa, .int y0, .int y1, .int y2, .int y3]))) (hfa : M fa = some (eI (T 0) n0 f)) : Met l y_R_rootOfFingerprints (Cond.code y_R_rootOfFingerprints b_R_rootOfFingerprints 3 (some .int) :: gw) (rmH 1) (xPc D T A M [.ref a]) (xR (fun r => r = some (.int (rtF f n0 y2)))) 0 0 (fun _ => False) := by
  refine xMetRi (by decide) (Nat.le_of_ble_eq_true rfl) ?_
  intro p e s m below meth c Q ls hB hP hl hret
  obtain ⟨hx, hb, hml, hown, hg, hK0, hnm⟩ := hB
  have hown : s.vm.findClass "ShareGrid$ServerRecord" = some m.cls := hown
  have hK := hK0.1
  have hN := hK0.2.1
  have hl : lv_has ls 3 [(0, .ref a)] := hl
  refine lv_bipush (v := 7) hx hb d_R_rootOfFingerprints_0 (by decide) ?_
  refine lv_istore_n (lv' := [(1, .int 7), (0, .ref a)]) hx hb d_R_rootOfFingerprints_2 rfl hl (by decide) rfl (fun ls hl => ?_)
  refine lv_iconst (v := nI 0) hx hb d_R_rootOfFingerprints_3 (by decide) ?_
  refine lv_istore_n (lv' := [(2, .int (nI 0)), (1, .int 7), (0, .ref a)]) hx hb d_R_rootOfFingerprints_4 rfl hl (by decide) rfl (fun ls hl => ?_)
  have loop : ∀ (n : Nat) (i : Nat), n0 + 1 ≤ i + n → i ≤ n0 → ∀ (ls : Array Slot), lv_has ls 3 [(0, .ref a), (1, .int (rtI f i)), (2, .int (nI i))] → W p l e (rmH 1) s m [.ref a].toArray below meth c s.heap [] 0 0 Q (F0 m 5 ls []) := by
    intro n
    induction n with
    | zero =>
      intro i h2 h1
      exact absurd h2 (by omega)
    | succ n ih =>
      intro i h2 h1 ls hl
      refine lv_iload_n hx hb d_R_rootOfFingerprints_5 rfl (lv_at hl 2 rfl) ?_
      refine lv_aload_n hx hb d_R_rootOfFingerprints_6 rfl (lv_at hl 0 rfl) ?_
      refine x_get (v := .ref fa) (C := R_R) (T := F_R) (N := 5) hx hb hg i_R hown hK hP ha rfl 0 (by decide) (hg _ w_40) (fun _ h9 => h9) rfl d_R_rootOfFingerprints_7 ?_
      refine x_alen (v := nI n0) hx hb hK hP 0 hfa rfl rfl d_R_rootOfFingerprints_10 ?_
      refine x_nc_ge (tgt := 31) hx hb d_R_rootOfFingerprints_11 (by decide) (by omega) (by omega) (fun c1 => ?_) (fun c1 => ?_)
      · have hiN : i = n0 := by omega
        subst hiN
        refine lv_iload_n hx hb d_R_rootOfFingerprints_31 rfl (lv_at hl 1 rfl) ?_
        refine lv_aload_n hx hb d_R_rootOfFingerprints_32 rfl (lv_at hl 0 rfl) ?_
        refine x_get (v := .int y2) (C := R_R) (T := F_R) (N := 5) hx hb hg i_R hown hK hP ha rfl 3 (by decide) (hg _ w_49) (fun _ h9 => h9) rfl d_R_rootOfFingerprints_33 ?_
        refine xsn_R (n := 2) (As := [.int (rtI f i), .int y2]) (rest := []) hx hb hml hown hg hK0 hP hN (c_G_mix l D T A M (rtI f i) y2) w_156 w_1 e_215 w_155 (by decide +kernel) ⟨Nat.le_of_ble_eq_true rfl, Nat.le_of_ble_eq_true rfl⟩ rfl hl.1 rfl (Nat.le_of_ble_eq_true rfl) ⟨Nat.zero_le _, Nat.zero_le _⟩ rfl rfl d_R_rootOfFingerprints_36 (fun r hr => ?_)
        subst hr
        refine x_fr (pc := 39) [.int (mixF (rtI f i) y2)] rfl rfl ?_
        exact hret _ _ _ d_R_rootOfFingerprints_39 rfl
      · refine lv_iload_n hx hb d_R_rootOfFingerprints_14 rfl (lv_at hl 1 rfl) ?_
        refine lv_aload_n hx hb d_R_rootOfFingerprints_15 rfl (lv_at hl 0 rfl) ?_
        refine x_get (v := .ref fa) (C := R_R) (T := F_R) (N := 5) hx hb hg i_R hown hK hP ha rfl 0 (by decide) (hg _ w_40) (fun _ h9 => h9) rfl d_R_rootOfFingerprints_16 ?_
        refine lv_iload_n hx hb d_R_rootOfFingerprints_19 rfl (lv_at hl 2 rfl) ?_
        refine x_iald (v := f i) hx hb hK hP 0 hfa rfl (vp_in_nI (by omega) (by omega)) (by rw [nI_clamp (by omega)]) d_R_rootOfFingerprints_20 ?_
        refine xsn_R (n := 2) (As := [.int (rtI f i), .int (f i)]) (rest := []) hx hb hml hown hg hK0 hP hN (c_G_mix l D T A M (rtI f i) (f i)) w_156 w_1 e_215 w_155 (by decide +kernel) ⟨Nat.le_of_ble_eq_true rfl, Nat.le_of_ble_eq_true rfl⟩ rfl hl.1 rfl (Nat.le_of_ble_eq_true rfl) ⟨Nat.zero_le _, Nat.zero_le _⟩ rfl rfl d_R_rootOfFingerprints_21 (fun r hr => ?_)
        subst hr
        refine x_fr (pc := 24) [.int (mixF (rtI f i) (f i))] rfl rfl ?_
        refine lv_istore_n (lv' := [(1, .int (mixF (rtI f i) (f i))), (0, .ref a), (2, .int (nI i))]) hx hb d_R_rootOfFingerprints_24 rfl hl (by decide) rfl (fun ls hl => ?_)
        refine lv_iinc (v := nI (i + 1)) (lv' := [(2, .int (nI (i + 1))), (1, .int (mixF (rtI f i) (f i))), (0, .ref a)]) hx hb d_R_rootOfFingerprints_25 hl (k := 2) rfl (nI_1 _) (by decide) rfl (fun ls hl => ?_)
        refine lv_goto (tgt := 5) hx hb d_R_rootOfFingerprints_28 (by decide) ?_
        exact ih (i + 1) (by omega) (by omega) ls (lv_sub hl [2, 1, 0] rfl)
  exact loop (n0 + 1) 0 (by omega) (by omega) ls (lv_sub hl [2, 1, 0] rfl)
set_option maxHeartbeats 4000000 in
set_option maxRecDepth 100000 in
theorem c_F_isSoundAt (l : Launch) (D : va_G) (T : Nat → ClassId) (A : Nat → Prop) (M : xM) (ad : Nat → Nat → Nat → Nat) (K N : Nat) (g : gT) (hz : zB K N) (hG : gG T ad K N g M) (f i w : Nat) (hf : f < 6) (hi : i < N) (hw : g 12 f 0 1 = nI w) (hw30 : w ≤ 30) : Met l y_F_isSoundAt (Cond.code y_F_isSoundAt b_F_isSoundAt 4 (some .boolean) :: gw) (rmH 2) (xPc D T A M [.ref (ad 12 f 0), .int (nI i)]) (xR (fun r => r = some (.int (sdG N g f i)))) 0 0 (fun _ => False) := by
  refine xMetRz (by decide) (Nat.le_of_ble_eq_true rfl) ?_
  intro p e s m below meth c Q ls hB hP hl hret
  obtain ⟨hx, hb, hml, hown, hg, hK0, hnm⟩ := hB
  have hown : s.vm.findClass "ShareGrid$StoredFile" = some m.cls := hown
  have hK := hK0.1
  have hN := hK0.2.1
  obtain ⟨hz1, hz4, hzn, hz7⟩ := id hz
  have hl : lv_has ls 4 [(0, .ref (ad 12 f 0)), (1, .int (nI i))] := hl
  refine lv_aload_n hx hb d_F_isSoundAt_0 rfl (lv_at hl 0 rfl) ?_
  refine x_get (v := .ref (ad 13 f 0)) (C := R_F) (T := F_F) (N := 6) hx hb hg i_F hown hK hP (ga_12 hG (show f < 6 by omega)) rfl 0 (by decide) (hg _ w_68) (fun _ h9 => h9) rfl d_F_isSoundAt_1 ?_
  refine lv_iload_n hx hb d_F_isSoundAt_4 rfl (lv_at hl 1 rfl) ?_
  refine x_aldq (v := .ref (ad 17 f i)) hx hb hK hP 2 (ga_13 hG (show f < 6 by omega)) rfl (vp_in_nI (by omega) (by omega)) (by rw [nI_clamp (by omega)]; rfl) d_F_isSoundAt_5 ?_
  refine lv_astore_n (lv' := [(2, .ref (ad 17 f i)), (0, .ref (ad 12 f 0)), (1, .int (nI i))]) hx hb d_F_isSoundAt_6 rfl hl (by decide) rfl (fun ls hl => ?_)
  refine lv_aload_n hx hb d_F_isSoundAt_7 rfl (lv_at hl 0 rfl) ?_
  refine x_getN (v := .int (g 17 f i 2)) (C := R_R) (T := F_R) (N := 5) hx hb hg i_R hown hK hP (ga_17 hG (show f < 6 by omega) (show i < N by omega)) rfl 3 (by decide) (va_Nw.use rfl (hN _ e_50)) (fun _ h9 => h9) rfl d_F_isSoundAt_8 ?_
  refine lv_istore_n (lv' := [(3, .int (g 17 f i 2)), (2, .ref (ad 17 f i)), (0, .ref (ad 12 f 0)), (1, .int (nI i))]) hx hb d_F_isSoundAt_11 rfl hl (by decide) rfl (fun ls hl => ?_)
  refine lv_aload_n hx hb d_F_isSoundAt_12 rfl (lv_at hl 1 rfl) ?_
  refine x_getN (v := .int (g 17 f i 0)) (C := R_R) (T := F_R) (N := 5) hx hb hg i_R hown hK hP (ga_17 hG (show f < 6 by omega) (show i < N by omega)) rfl 1 (by decide) (va_Nw.use rfl (hN _ e_44)) (fun _ h9 => h9) rfl d_F_isSoundAt_13 ?_
  refine lv_if_eq (tgt := 32) hx hb d_F_isSoundAt_16 (by decide) (fun c_16 => ?_) (fun c_16 => ?_)
  · refine lv_iconst (v := 0) hx hb d_F_isSoundAt_32 (by decide) ?_
    exact hret _ _ _ d_F_isSoundAt_33 (by first | exact Or.inl rfl | exact Or.inr rfl) (by simp [sdG, sdF, c_16])
  · refine lv_iload_n hx hb d_F_isSoundAt_19 rfl (lv_at hl 0 rfl) ?_
    refine lv_iconst (v := 1) hx hb d_F_isSoundAt_20 (by decide) ?_
    refine lv_icmp_lt (tgt := 32) hx hb d_F_isSoundAt_21 (by decide) (fun c_21 => ?_) (fun c_21 => ?_)
    · refine lv_iconst (v := 0) hx hb d_F_isSoundAt_32 (by decide) ?_
      exact hret _ _ _ d_F_isSoundAt_33 (by first | exact Or.inl rfl | exact Or.inr rfl) (by simp [sdG, sdF, c_16, c_21])
    · refine lv_iload_n hx hb d_F_isSoundAt_24 rfl (lv_at hl 0 rfl) ?_
      refine lv_aload_n hx hb d_F_isSoundAt_25 rfl (lv_at hl 2 rfl) ?_
      refine x_get (v := .int (g 12 f 0 1)) (C := R_F) (T := F_F) (N := 6) hx hb hg i_F hown hK hP (ga_12 hG (show f < 6 by omega)) rfl 5 (by decide) (hg _ w_75) (fun _ h9 => h9) rfl d_F_isSoundAt_26 ?_
      refine lv_icmp_le (tgt := 34) hx hb d_F_isSoundAt_29 (by decide) (fun c_29 => ?_) (fun c_29 => ?_)
      · obtain ⟨j, hj1, hj2, hj⟩ := ixw hw30 c_21 (by rw [← hw]; exact c_29)
        refine lv_aload_n hx hb d_F_isSoundAt_34 rfl (lv_at hl 1 rfl) ?_
        refine x_getN (v := .int (g 17 f i 1)) (C := R_R) (T := F_R) (N := 5) hx hb hg i_R hown hK hP (ga_17 hG (show f < 6 by omega) (show i < N by omega)) rfl 2 (by decide) (va_Nw.use rfl (hN _ e_47)) (fun _ h9 => h9) rfl d_F_isSoundAt_35 ?_
        refine lv_iload_n hx hb d_F_isSoundAt_38 rfl (lv_at hl 3 rfl) ?_
        refine xsn_R (n := 2) (As := [.int (g 17 f i 1), .int (nI i)]) (rest := []) hx hb hml hown hg hK0 hP hN (c_G_fingerprint l D T A M (g 17 f i 1) (nI i)) w_210 w_1 e_250 w_209 (by decide +kernel) ⟨Nat.le_of_ble_eq_true rfl, Nat.le_of_ble_eq_true rfl⟩ rfl hl.1 rfl (Nat.le_of_ble_eq_true rfl) ⟨Nat.zero_le _, Nat.zero_le _⟩ rfl rfl d_F_isSoundAt_39 (fun r hr => ?_)
        subst hr
        refine x_fr (pc := 42) [.int (mixF (g 17 f i 1) ((nI i) + 100))] rfl rfl ?_
        refine lv_aload_n hx hb d_F_isSoundAt_42 rfl (lv_at hl 1 rfl) ?_
        refine x_getN (v := .ref (ad 18 f i)) (C := R_R) (T := F_R) (N := 5) hx hb hg i_R hown hK hP (ga_17 hG (show f < 6 by omega) (show i < N by omega)) rfl 0 (by decide) (va_Nw.use rfl (hN _ e_41)) (fun _ h9 => h9) rfl d_F_isSoundAt_43 ?_
        refine lv_iload_n hx hb d_F_isSoundAt_46 rfl (lv_at hl 3 rfl) ?_
        refine x_iald (v := g 18 f i i) hx hb hK hP 0 (ga_18 hG (show f < 6 by omega) (show i < N by omega)) rfl (vp_in_nI (by omega) (by omega)) (by rw [nI_clamp (by omega)]) d_F_isSoundAt_47 ?_
        refine lv_icmp_ne (tgt := 81) hx hb d_F_isSoundAt_48 (by decide) (fun c_48 => ?_) (fun c_48 => ?_)
        · refine lv_iconst (v := 0) hx hb d_F_isSoundAt_81 (by decide) ?_
          exact hret _ _ _ d_F_isSoundAt_82 (by first | exact Or.inl rfl | exact Or.inr rfl) (by simp [sdG, sdF, c_16, c_21, c_29, c_48])
        · refine lv_aload_n hx hb d_F_isSoundAt_51 rfl (lv_at hl 1 rfl) ?_
          refine xvn_R (n := 0) (As := []) (rest := []) hx hb hml hown hg hK0 hP hN (c_R_rootOfFingerprints l D T A M (ad 17 f i) (ad 18 f i) N (g 18 f i) (g 17 f i 0) (g 17 f i 1) (g 17 f i 2) (g 17 f i 3) (by omega) (ga_17 hG (show f < 6 by omega) (show i < N by omega)) (ga_18 hG (show f < 6 by omega) (show i < N by omega))) w_214 w_4 e_251 w_213 s_5 (ga_17 hG (show f < 6 by omega) (show i < N by omega)) rfl rfl (by decide +kernel) ⟨Nat.le_of_ble_eq_true rfl, Nat.le_of_ble_eq_true rfl⟩ rfl hl.1 rfl (Nat.le_of_ble_eq_true rfl) ⟨Nat.zero_le _, Nat.zero_le _⟩ rfl rfl d_F_isSoundAt_52 (fun r hr => ?_)
          subst hr
          refine x_fr (pc := 55) [.int (rtF (g 18 f i) N (g 17 f i 2))] rfl rfl ?_
          refine lv_aload_n hx hb d_F_isSoundAt_55 rfl (lv_at hl 2 rfl) ?_
          refine x_get (v := .ref (ad 15 f 0)) (C := R_F) (T := F_F) (N := 6) hx hb hg i_F hown hK hP (ga_12 hG (show f < 6 by omega)) rfl 2 (by decide) (hg _ w_72) (fun _ h9 => h9) rfl d_F_isSoundAt_56 ?_
          refine lv_iload_n hx hb d_F_isSoundAt_59 rfl (lv_at hl 0 rfl) ?_
          refine x_iald (v := (g 15 f 0 (g 17 f i 2).toNatClampNeg)) hx hb hK hP 0 (ga_15 hG (show f < 6 by omega)) rfl (by rw [hj]; exact vp_in_nI (by omega) (by omega)) rfl d_F_isSoundAt_60 ?_
          refine lv_icmp_ne (tgt := 81) hx hb d_F_isSoundAt_61 (by decide) (fun c_61 => ?_) (fun c_61 => ?_)
          · refine lv_iconst (v := 0) hx hb d_F_isSoundAt_81 (by decide) ?_
            exact hret _ _ _ d_F_isSoundAt_82 (by first | exact Or.inl rfl | exact Or.inr rfl) (by simp [sdG, sdF, c_16, c_21, c_29, c_48, c_61])
          · refine lv_aload_n hx hb d_F_isSoundAt_64 rfl (lv_at hl 1 rfl) ?_
            refine x_getN (v := .int (g 17 f i 3)) (C := R_R) (T := F_R) (N := 5) hx hb hg i_R hown hK hP (ga_17 hG (show f < 6 by omega) (show i < N by omega)) rfl 4 (by decide) (va_Nw.use rfl (hN _ e_53)) (fun _ h9 => h9) rfl d_F_isSoundAt_65 ?_
            refine lv_aload_n hx hb d_F_isSoundAt_68 rfl (lv_at hl 2 rfl) ?_
            refine x_get (v := .ref (ad 16 f 0)) (C := R_F) (T := F_F) (N := 6) hx hb hg i_F hown hK hP (ga_12 hG (show f < 6 by omega)) rfl 3 (by decide) (hg _ w_73) (fun _ h9 => h9) rfl d_F_isSoundAt_69 ?_
            refine lv_iload_n hx hb d_F_isSoundAt_72 rfl (lv_at hl 0 rfl) ?_
            refine x_iald (v := (g 16 f 0 (g 17 f i 2).toNatClampNeg)) hx hb hK hP 0 (ga_16 hG (show f < 6 by omega)) rfl (by rw [hj]; exact vp_in_nI (by omega) (by omega)) rfl d_F_isSoundAt_73 ?_
            refine lv_icmp_ne (tgt := 81) hx hb d_F_isSoundAt_74 (by decide) (fun c_74 => ?_) (fun c_74 => ?_)
            · refine lv_iconst (v := 0) hx hb d_F_isSoundAt_81 (by decide) ?_
              exact hret _ _ _ d_F_isSoundAt_82 (by first | exact Or.inl rfl | exact Or.inr rfl) (by simp [sdG, sdF, c_16, c_21, c_29, c_48, c_61, c_74])
            · refine lv_iconst (v := 1) hx hb d_F_isSoundAt_77 (by decide) ?_
              refine lv_goto (tgt := 82) hx hb d_F_isSoundAt_78 (by decide) ?_
              exact hret _ _ _ d_F_isSoundAt_82 (by first | exact Or.inl rfl | exact Or.inr rfl) (by simp [sdG, sdF, c_16, c_21, c_29, c_48, c_61, c_74])
      · refine lv_iconst (v := 0) hx hb d_F_isSoundAt_32 (by decide) ?_
        exact hret _ _ _ d_F_isSoundAt_33 (by first | exact Or.inl rfl | exact Or.inr rfl) (by simp [sdG, sdF, c_16, c_21, c_29])
set_option maxHeartbeats 4000000 in
set_option maxRecDepth 100000 in
theorem c_F_isSoundWith (l : Launch) (D : va_G) (T : Nat → ClassId) (A : Nat → Prop) (M : xM) (ad : Nat → Nat → Nat → Nat) (K N : Nat) (g : gT) (hz : zB K N) (hG : gG T ad K N g M) (f i w : Nat) (hf : f < 6) (hi : i < N) (hw : g 12 f 0 1 = nI w) (hw30 : w ≤ 30) (x : Int32) : Met l y_F_isSoundWith (Cond.code y_F_isSoundWith b_F_isSoundWith 3 (some .boolean) :: gw) (rmH 3) (xPc D T A M [.ref (ad 12 f 0), .int (nI i), .int x]) (xR (fun r => r = some (.int (swG N g f i x)))) 0 0 (fun _ => False) := by
  refine xMetRz (by decide) (Nat.le_of_ble_eq_true rfl) ?_
  intro p e s m below meth c Q ls hB hP hl hret
  obtain ⟨hx, hb, hml, hown, hg, hK0, hnm⟩ := hB
  have hown : s.vm.findClass "ShareGrid$StoredFile" = some m.cls := hown
  have hK := hK0.1
  have hN := hK0.2.1
  obtain ⟨hz1, hz4, hzn, hz7⟩ := id hz
  have hl : lv_has ls 3 [(0, .ref (ad 12 f 0)), (1, .int (nI i)), (2, .int x)] := hl
  refine lv_aload_n hx hb d_F_isSoundWith_0 rfl (lv_at hl 0 rfl) ?_
  refine x_get (v := .ref (ad 13 f 0)) (C := R_F) (T := F_F) (N := 6) hx hb hg i_F hown hK hP (ga_12 hG (show f < 6 by omega)) rfl 0 (by decide) (hg _ w_68) (fun _ h9 => h9) rfl d_F_isSoundWith_1 ?_
  refine lv_iload_n hx hb d_F_isSoundWith_4 rfl (lv_at hl 1 rfl) ?_
  refine x_aldq (v := .ref (ad 17 f i)) hx hb hK hP 2 (ga_13 hG (show f < 6 by omega)) rfl (vp_in_nI (by omega) (by omega)) (by rw [nI_clamp (by omega)]; rfl) d_F_isSoundWith_5 ?_
  refine x_getN (v := .int (g 17 f i 2)) (C := R_R) (T := F_R) (N := 5) hx hb hg i_R hown hK hP (ga_17 hG (show f < 6 by omega) (show i < N by omega)) rfl 3 (by decide) (va_Nw.use rfl (hN _ e_50)) (fun _ h9 => h9) rfl d_F_isSoundWith_6 ?_
  refine lv_iload_n hx hb d_F_isSoundWith_9 rfl (lv_at hl 2 rfl) ?_
  refine lv_icmp_ne (tgt := 25) hx hb d_F_isSoundWith_10 (by decide) (fun c_10 => ?_) (fun c_10 => ?_)
  · refine lv_iconst (v := 0) hx hb d_F_isSoundWith_25 (by decide) ?_
    exact hret _ _ _ d_F_isSoundWith_26 (by first | exact Or.inl rfl | exact Or.inr rfl) (by simp [swG, c_10])
  · refine lv_aload_n hx hb d_F_isSoundWith_13 rfl (lv_at hl 0 rfl) ?_
    refine lv_iload_n hx hb d_F_isSoundWith_14 rfl (lv_at hl 1 rfl) ?_
    refine xv_R (n := 1) (As := [.int (nI i)]) (rest := []) hx hb hml hown hg hK0 hP (c_F_isSoundAt l D T A M ad K N g hz hG f i w (by omega) (by omega) hw hw30) w_249 w_3 w_260 w_248 s_11 (ga_12 hG (show f < 6 by omega)) rfl rfl (by decide +kernel) ⟨Nat.le_of_ble_eq_true rfl, Nat.le_of_ble_eq_true rfl⟩ rfl hl.1 rfl (Nat.le_of_ble_eq_true rfl) ⟨Nat.zero_le _, Nat.zero_le _⟩ rfl rfl d_F_isSoundWith_15 (fun r hr => ?_)
    subst hr
    refine x_fr (pc := 18) [.int (sdG N g f i)] rfl rfl ?_
    have hz9 := sdF_z N (g 17 f i) (g 18 f i) (g 15 f 0) (g 16 f 0) (g 12 f 0 1) i
    refine lv_if_eq (tgt := 25) hx hb d_F_isSoundWith_18 (by decide) (fun c_18 => ?_) (fun c_18 => ?_)
    · refine lv_iconst (v := 0) hx hb d_F_isSoundWith_25 (by decide) ?_
      exact hret _ _ _ d_F_isSoundWith_26 (by first | exact Or.inl rfl | exact Or.inr rfl) (by simp [swG, c_10, c_18])
    · refine lv_iconst (v := 1) hx hb d_F_isSoundWith_21 (by decide) ?_
      refine lv_goto (tgt := 26) hx hb d_F_isSoundWith_22 (by decide) ?_
      exact hret _ _ _ d_F_isSoundWith_26 (by first | exact Or.inl rfl | exact Or.inr rfl) (by rw [swG, if_pos c_10]; exact congrArg (fun z => some (Value.int z)) (hz9.resolve_left c_18).symm)
set_option maxHeartbeats 4000000 in
set_option maxRecDepth 100000 in
theorem c_C_shareAt (l : Launch) (D : va_G) (T : Nat → ClassId) (A : Nat → Prop) (M : xM) (ad : Nat → Nat → Nat → Nat) (K N : Nat) (g : gT) (hz : zB K N) (hG : gG T ad K N g M) (x : Int32) : Met l y_C_shareAt (Cond.code y_C_shareAt b_C_shareAt 4 (some .int) :: gw) (rmH 2) (xPc D T A M [.ref (ad 6 0 0), .int x]) (xR (fun r => r = some (.int (shG (g 7 0 0) (x + 1) 0 K)))) 0 0 (fun _ => False) := by
  refine xMetRi (by decide) (Nat.le_of_ble_eq_true rfl) ?_
  intro p e s m below meth c Q ls hB hP hl hret
  obtain ⟨hx, hb, hml, hown, hg, hK0, hnm⟩ := hB
  have hown : s.vm.findClass "ShareGrid$Coder" = some m.cls := hown
  have hK := hK0.1
  have hN := hK0.2.1
  obtain ⟨hz1, hz4, hzn, hz7⟩ := id hz
  have hl : lv_has ls 4 [(0, .ref (ad 6 0 0)), (1, .int x)] := hl
  refine lv_iconst (v := 0) hx hb d_C_shareAt_0 (by decide) ?_
  refine lv_istore_n (lv' := [(2, .int 0), (0, .ref (ad 6 0 0)), (1, .int x)]) hx hb d_C_shareAt_1 rfl hl (by decide) rfl (fun ls hl => ?_)
  refine lv_aload_n hx hb d_C_shareAt_2 rfl (lv_at hl 1 rfl) ?_
  refine x_get (v := .int (nI K)) (C := R_C) (T := F_C) (N := 3) hx hb hg i_C hown hK hP (ga_6 hG) rfl 0 (by decide) (hg _ w_96) (fun _ h9 => h9) rfl d_C_shareAt_3 ?_
  refine lv_iconst (v := nI 1) hx hb d_C_shareAt_6 (by decide) ?_
  refine lv_isub hx hb d_C_shareAt_7 ?_
  refine x_top (y := nI (K - 1)) (pk_sub (by omega)) ?_
  refine lv_istore_n (lv' := [(3, .int (nI (K - 1))), (2, .int 0), (0, .ref (ad 6 0 0)), (1, .int x)]) hx hb d_C_shareAt_8 rfl hl (by decide) rfl (fun ls hl => ?_)
  have loop : ∀ (j : Nat), j ≤ K → ∀ (ls : Array Slot), lv_has ls 4 [(0, .ref (ad 6 0 0)), (1, .int x), (2, .int (shG (g 7 0 0) (x + 1) j (K - j))), (3, .int (dnI j))] → W p l e (rmH 2) s m [.ref (ad 6 0 0), .int x].toArray below meth c s.heap [] 0 0 Q (F0 m 9 ls []) := by
    intro j
    induction j with
    | zero =>
      intro hj ls hl
      have hl : lv_has ls 4 [(0, .ref (ad 6 0 0)), (1, .int x), (2, .int (shG (g 7 0 0) (x + 1) (0) (K - (0)))), (3, .int (-1))] := hl
      refine lv_iload_n hx hb d_C_shareAt_9 rfl (lv_at hl 3 rfl) ?_
      refine lv_if_lt (tgt := 35) hx hb d_C_shareAt_10 (by decide) (fun c1 => ?_) (fun c1 => ?_)
      · refine lv_iload_n hx hb d_C_shareAt_35 rfl (lv_at hl 2 rfl) ?_
        exact hret _ _ _ d_C_shareAt_36 rfl
      · exact absurd (by decide) c1
    | succ j ih =>
      intro hj ls hl
      have hl : lv_has ls 4 [(0, .ref (ad 6 0 0)), (1, .int x), (2, .int (shG (g 7 0 0) (x + 1) (j + 1) (K - (j + 1)))), (3, .int (nI j))] := hl
      have hKj : K - j = (K - (j + 1)) + 1 := by omega
      refine lv_iload_n hx hb d_C_shareAt_9 rfl (lv_at hl 3 rfl) ?_
      refine lv_if_lt (tgt := 35) hx hb d_C_shareAt_10 (by decide) (fun c1 => ?_) (fun c1 => ?_)
      · exact absurd c1 (nI_pos (by omega))
      · refine lv_iload_n hx hb d_C_shareAt_13 rfl (lv_at hl 2 rfl) ?_
        refine lv_iload_n hx hb d_C_shareAt_14 rfl (lv_at hl 1 rfl) ?_
        refine xsn_R (n := 1) (As := [.int x]) (rest := [.int (shG (g 7 0 0) (x + 1) (j + 1) (K - (j + 1)))]) hx hb hml hown hg hK0 hP hN (c_G_pointOf l D T A M x) w_199 w_1 e_197 w_198 (by decide +kernel) ⟨Nat.le_of_ble_eq_true rfl, Nat.le_of_ble_eq_true rfl⟩ rfl hl.1 rfl (Nat.le_of_ble_eq_true rfl) ⟨Nat.zero_le _, Nat.zero_le _⟩ rfl rfl d_C_shareAt_15 (fun r hr => ?_)
        subst hr
        refine x_fr (pc := 18) [.int (x + 1), .int (shG (g 7 0 0) (x + 1) (j + 1) (K - (j + 1)))] rfl rfl ?_
        refine xsn_R (n := 2) (As := [.int (shG (g 7 0 0) (x + 1) (j + 1) (K - (j + 1))), .int (x + 1)]) (rest := []) hx hb hml hown hg hK0 hP hN (c_G_scaled l D T A M (shG (g 7 0 0) (x + 1) (j + 1) (K - (j + 1))) (x + 1)) w_202 w_1 e_200 w_201 (by decide +kernel) ⟨Nat.le_of_ble_eq_true rfl, Nat.le_of_ble_eq_true rfl⟩ rfl hl.1 rfl (Nat.le_of_ble_eq_true rfl) ⟨Nat.zero_le _, Nat.zero_le _⟩ rfl rfl d_C_shareAt_18 (fun r hr => ?_)
        subst hr
        refine x_fr (pc := 21) [.int (scF (shG (g 7 0 0) (x + 1) (j + 1) (K - (j + 1))) (x + 1))] rfl rfl ?_
        refine lv_aload_n hx hb d_C_shareAt_21 rfl (lv_at hl 0 rfl) ?_
        refine x_get (v := .ref (ad 7 0 0)) (C := R_C) (T := F_C) (N := 3) hx hb hg i_C hown hK hP (ga_6 hG) rfl 1 (by decide) (hg _ w_97) (fun _ h9 => h9) rfl d_C_shareAt_22 ?_
        refine lv_iload_n hx hb d_C_shareAt_25 rfl (lv_at hl 3 rfl) ?_
        refine x_iald (v := g 7 0 0 j) hx hb hK hP 0 (ga_7 hG) rfl (vp_in_nI (by omega) (by omega)) (by rw [nI_clamp (by omega)]) d_C_shareAt_26 ?_
        refine lv_ixor hx hb d_C_shareAt_27 ?_
        refine lv_istore_n (lv' := [(2, .int ((scF (shG (g 7 0 0) (x + 1) (j + 1) (K - (j + 1))) (x + 1)) ^^^ (g 7 0 0 j))), (0, .ref (ad 6 0 0)), (1, .int x), (3, .int (nI j))]) hx hb d_C_shareAt_28 rfl hl (by decide) rfl (fun ls hl => ?_)
        refine lv_iinc (v := dnI j) (lv' := [(3, .int (dnI j)), (2, .int ((scF (shG (g 7 0 0) (x + 1) (j + 1) (K - (j + 1))) (x + 1)) ^^^ (g 7 0 0 j))), (0, .ref (ad 6 0 0)), (1, .int x)]) hx hb d_C_shareAt_29 hl (k := 3) rfl (dnI_dec j) (by decide) rfl (fun ls hl => ?_)
        refine lv_goto (tgt := 9) hx hb d_C_shareAt_32 (by decide) ?_
        exact ih (by omega) ls (by rw [hKj, shG]; exact (lv_sub hl [2, 3, 1, 0] rfl))
  have hK1 : nI (K - 1) = dnI K := by
    obtain ⟨j, rfl⟩ : ∃ j, K = j + 1 := ⟨K - 1, by omega⟩
    rfl
  exact loop K (Nat.le_refl K) ls (by rw [Nat.sub_self, ← hK1]; exact (lv_sub hl [2, 3, 1, 0] rfl))
def gnF (g : gT) (q : Nat) (x : Int32) : Int32 := if inF x (nI q) = 0 then -1 else g 12 x.toNatClampNeg 0 1
/-- an index that passes the test -/
theorem inF_j {x : Int32} {n : Nat} (hn : n < 2 ^ 31) (h : ¬ inF x (nI n) = 0) : ∃ j : Nat, j < n ∧ x = nI j := by
  rcases pk_ix x hn with h1 | h1 | h1
  · exact absurd (by simp [inF, h1]) h
  · by_cases h0 : x < 0
    · exact absurd (by simp [inF, h0]) h
    · exact absurd (by simp [inF, h0, h1]) h
  · exact h1
set_option maxHeartbeats 4000000 in
set_option maxRecDepth 100000 in
theorem c_G_greatestNumber (l : Launch) (D : va_G) (T : Nat → ClassId) (A : Nat → Prop) (M : xM) (ad : Nat → Nat → Nat → Nat) (K N : Nat) (g : gT) (hz : zB K N) (hG : gG T ad K N g M) (q : Nat) (hq : g 0 0 0 0 = nI q) (hq6 : q ≤ 6) (x : Int32) : Met l y_G_greatestNumber (Cond.code y_G_greatestNumber b_G_greatestNumber 2 (some .int) :: gw) (rmH 1) (xPc D T A M [.ref (ad 0 0 0), .int x]) (xR (fun r => r = some (.int (gnF g q x)))) 0 0 (fun _ => False) := by
  refine xMetRi (by decide) (Nat.le_of_ble_eq_true rfl) ?_
  intro p e s m below meth c Q ls hB hP hl hret
  obtain ⟨hx, hb, hml, hown, hg, hK0, hnm⟩ := hB
  have hown : s.vm.findClass "ShareGrid" = some m.cls := hown
  have hK := hK0.1
  have hN := hK0.2.1
  obtain ⟨hz1, hz4, hzn, hz7⟩ := id hz
  have hl : lv_has ls 2 [(0, .ref (ad 0 0 0)), (1, .int x)] := hl
  refine lv_aload_n hx hb d_G_greatestNumber_0 rfl (lv_at hl 0 rfl) ?_
  refine lv_iload_n hx hb d_G_greatestNumber_1 rfl (lv_at hl 1 rfl) ?_
  refine xv_R (n := 1) (As := [.int x]) (rest := []) hx hb hml hown hg hK0 hP (c_G_isFile l D T A M ad K N g hz hG x) w_313 w_1 w_310 w_312 s_18 (ga_0 hG) rfl rfl (by decide +kernel) ⟨Nat.le_of_ble_eq_true rfl, Nat.le_of_ble_eq_true rfl⟩ rfl hl.1 rfl (Nat.le_of_ble_eq_true rfl) ⟨Nat.zero_le _, Nat.zero_le _⟩ rfl rfl d_G_greatestNumber_2 (fun r hr => ?_)
  subst hr
  refine x_fr (pc := 5) [.int (inF x (g 0 0 0 0))] rfl rfl ?_
  refine lv_if_eq (tgt := 20) hx hb d_G_greatestNumber_5 (by decide) (fun c_5 => ?_) (fun c_5 => ?_)
  · refine lv_iconst (v := (-1)) hx hb d_G_greatestNumber_20 (by decide) ?_
    exact hret _ _ _ d_G_greatestNumber_21 (by rw [gnF, if_pos (by rw [← hq]; exact c_5)])
  · rw [hq] at c_5
    obtain ⟨j, hj, rfl⟩ := inF_j (by omega) c_5
    refine lv_aload_n hx hb d_G_greatestNumber_8 rfl (lv_at hl 0 rfl) ?_
    refine x_get (v := .ref (ad 3 0 0)) (C := R_G) (T := F_G) (N := 12) hx hb hg i_G hown hK hP (ga_0 hG) rfl 4 (by decide) (hg _ w_114) (fun _ h9 => h9) rfl d_G_greatestNumber_9 ?_
    refine lv_iload_n hx hb d_G_greatestNumber_12 rfl (lv_at hl 1 rfl) ?_
    refine x_aldq (v := .ref (ad 12 j 0)) hx hb hK hP 3 (ga_3 hG) rfl (vp_in_nI (by omega) (by omega)) (by rw [nI_clamp (by omega)]; rfl) d_G_greatestNumber_13 ?_
    refine x_getN (v := .int (g 12 j 0 1)) (C := R_F) (T := F_F) (N := 6) hx hb hg i_F hown hK hP (ga_12 hG (show j < 6 by omega)) rfl 5 (by decide) (va_Nw.use rfl (hN _ e_76)) (fun _ h9 => h9) rfl d_G_greatestNumber_14 ?_
    refine lv_goto (tgt := 21) hx hb d_G_greatestNumber_17 (by decide) ?_
    exact hret _ _ _ d_G_greatestNumber_21 (by rw [gnF, if_neg c_5, nI_clamp (by omega)])
end
section
/-! writing methods of the class: the small ones -/
theorem xU_uu {M : xM} {a : Nat} {e e' : va_E} : xU (xU M a e) a e' = xU M a e' := by
  funext x
  by_cases h : x = a
  · subst h; rw [xU_s, xU_s]
  · rw [xU_n h, xU_n h, xU_n h]
theorem arr_congr {cA : ClassId} {n : Nat} {f f' : Nat → Int32} (h : ∀ j, j < n → f j = f' j) : vp_cell cA (n, .inl f) = vp_cell cA (n, .inl f') := by
  rw [vp_cell_i, vp_cell_i]
  unfold arrV
  congr 1
  apply Array.ext_getElem?
  intro i
  simp
  by_cases hi : i < n
  · simp [hi, h i hi]
  · simp [hi]
theorem xW.ext {D : va_G} {cl : List vw_C} {A : Nat → Prop} {M : xM} {H : Heap} {a n : Nat} {cA : ClassId} {f f' : Nat → Int32} (h : xW D cl A (xU M a (eI cA n f)) H) (hf : ∀ j, j < n → f j = f' j) : xW D cl A (xU M a (eI cA n f')) H := by
  obtain ⟨ws, hP, hD, hE⟩ := h
  obtain ⟨q0, h0⟩ := (hE a _).mp xU_s
  have hE2 := hE.set (e := eI cA n f') hD h0
  rw [xU_uu] at hE2
  refine ⟨_, ?_, hD.set h0, hE2⟩
  refine hP.set hD h0 ?_ (fun _ _ => rfl)
  show H[a]? = some (vp_cell cA (n, .inl f'))
  rw [← arr_congr hf]
  exact hP q0 _ h0
def iG (N : Nat) (g : gT) (q : Nat) (w : Nat → Nat) : Prop := g 0 0 0 0 = nI q ∧ q ≤ 6 ∧ (∀ f, f < 6 → g 12 f 0 1 = nI (w f) ∧ w f ≤ 30) ∧ ∀ f s, f < 6 → s < N → (g 17 f s 0 = 0 ∨ g 17 f s 0 = 1) ∧ (g 19 f s 0 = 0 ∨ g 19 f s 0 = 1)
set_option maxHeartbeats 4000000 in
set_option maxRecDepth 100000 in
theorem c_R_copyFrom (l : Launch) (D : va_G) (T : Nat → ClassId) (A : Nat → Prop) (M : xM) (a b fa fb n0 : Nat) (f f1 : Nat → Int32) (y0 y1 y2 y3 z0 z1 z2 z3 : Int32) (hn0 : n0 ≤ 7) (hy0 : y0 = 0 ∨ y0 = 1) (ha : M a = some (.inr (1, [.ref fa, .int z0, .int z1, .int z2, .int z3]))) (hb1 : M b = some (.inr (1, [.ref fb, .int y0, .int y1, .int y2, .int y3]))) (hfa : M fa = some (eI (T 0) n0 f1)) (hfb : M fb = some (eI (T 0) n0 f)) (hba : b ≠ a) : Met l y_R_copyFrom (Cond.code y_R_copyFrom b_R_copyFrom 2 none :: gw) (rmH 1) (xPc D T A M [.ref a, .ref b]) (xQ D A (fun r M1 => r = none ∧ M1 = xU (xU M a (.inr (1, [.ref fa, .int y0, .int y1, .int y2, .int y3]))) fa (eI (T 0) n0 f))) 0 0 A := by
  refine xMetQv (by decide) (Nat.le_of_ble_eq_true rfl) ?_
  intro p e s m below meth c Q ls hB hP hS hl hret
  obtain ⟨hx, hb, hml, hown, hg, hK0, hnm⟩ := hB
  have hown : s.vm.findClass "ShareGrid$ServerRecord" = some m.cls := hown
  have hK := hK0.1
  have hN := hK0.2.1
  have hfaa : fa ≠ a := fun q => by rw [q, ha] at hfa; cases hfa
  have hfba : fb ≠ a := fun q => by rw [q, ha] at hfb; cases hfb
  have hl : lv_has ls 2 [(0, .ref a), (1, .ref b)] := hl
  refine lv_aload_n hx hb d_R_copyFrom_0 rfl (lv_at hl 0 rfl) ?_
  refine lv_aload_n hx hb d_R_copyFrom_1 rfl (lv_at hl 1 rfl) ?_
  refine x_get (v := .int y0) (C := R_R) (T := F_R) (N := 5) hx hb hg i_R hown hK hP hb1 rfl 1 (by decide) (hg _ w_43) (fun _ h9 => h9) rfl d_R_copyFrom_2 ?_
  refine x_put (v := .int y0) (ty := .boolean) (C := R_R) (T := F_R) (N := 5) hx hb hg i_R t_R t_R_ok n_R hown hK hP hS ha rfl 1 (by decide) (hg _ w_43) (fun _ h9 => h9) rfl (by decide +kernel) (by rcases hy0 with h | h <;> rw [h] <;> rfl) (by rcases hy0 with h | h <;> rw [h] <;> rfl) (Nat.le_of_ble_eq_true rfl) d_R_copyFrom_5 (fun H_1 L_2 hP hS => ?_)
  have hP : xW D classes A (xU M a (.inr (1, [.ref fa, .int y0, .int z1, .int z2, .int z3]))) H_1 := hP
  refine lv_aload_n hx hb d_R_copyFrom_8 rfl (lv_at hl 0 rfl) ?_
  refine lv_aload_n hx hb d_R_copyFrom_9 rfl (lv_at hl 1 rfl) ?_
  refine x_get (v := .int y1) (C := R_R) (T := F_R) (N := 5) hx hb hg i_R hown hK hP (xU_k hba hb1) rfl 2 (by decide) (hg _ w_46) (fun _ h9 => h9) rfl d_R_copyFrom_10 ?_
  refine x_put (v := .int y1) (ty := .int) (C := R_R) (T := F_R) (N := 5) hx hb hg i_R t_R t_R_ok n_R hown hK hP hS xU_s rfl 2 (by decide) (hg _ w_46) (fun _ h9 => h9) rfl (by decide +kernel) rfl rfl (Nat.le_of_ble_eq_true rfl) d_R_copyFrom_13 (fun H_3 L_4 hP hS => ?_)
  rw [xU_uu] at hP
  have hP : xW D classes A (xU M a (.inr (1, [.ref fa, .int y0, .int y1, .int z2, .int z3]))) H_3 := hP
  refine lv_aload_n hx hb d_R_copyFrom_16 rfl (lv_at hl 0 rfl) ?_
  refine lv_aload_n hx hb d_R_copyFrom_17 rfl (lv_at hl 1 rfl) ?_
  refine x_get (v := .int y2) (C := R_R) (T := F_R) (N := 5) hx hb hg i_R hown hK hP (xU_k hba hb1) rfl 3 (by decide) (hg _ w_49) (fun _ h9 => h9) rfl d_R_copyFrom_18 ?_
  refine x_put (v := .int y2) (ty := .int) (C := R_R) (T := F_R) (N := 5) hx hb hg i_R t_R t_R_ok n_R hown hK hP hS xU_s rfl 3 (by decide) (hg _ w_49) (fun _ h9 => h9) rfl (by decide +kernel) rfl rfl (Nat.le_of_ble_eq_true rfl) d_R_copyFrom_21 (fun H_5 L_6 hP hS => ?_)
  rw [xU_uu] at hP
  have hP : xW D classes A (xU M a (.inr (1, [.ref fa, .int y0, .int y1, .int y2, .int z3]))) H_5 := hP
  refine lv_aload_n hx hb d_R_copyFrom_24 rfl (lv_at hl 0 rfl) ?_
  refine lv_aload_n hx hb d_R_copyFrom_25 rfl (lv_at hl 1 rfl) ?_
  refine x_get (v := .int y3) (C := R_R) (T := F_R) (N := 5) hx hb hg i_R hown hK hP (xU_k hba hb1) rfl 4 (by decide) (hg _ w_52) (fun _ h9 => h9) rfl d_R_copyFrom_26 ?_
  refine x_put (v := .int y3) (ty := .int) (C := R_R) (T := F_R) (N := 5) hx hb hg i_R t_R t_R_ok n_R hown hK hP hS xU_s rfl 4 (by decide) (hg _ w_52) (fun _ h9 => h9) rfl (by decide +kernel) rfl rfl (Nat.le_of_ble_eq_true rfl) d_R_copyFrom_29 (fun H_7 L_8 hP hS => ?_)
  rw [xU_uu] at hP
  have hP : xW D classes A (xU M a (.inr (1, [.ref fa, .int y0, .int y1, .int y2, .int y3]))) H_7 := hP
  refine lv_aload_n hx hb d_R_copyFrom_32 rfl (lv_at hl 1 rfl) ?_
  refine x_get (v := .ref fb) (C := R_R) (T := F_R) (N := 5) hx hb hg i_R hown hK hP (xU_k hba hb1) rfl 0 (by decide) (hg _ w_40) (fun _ h9 => h9) rfl d_R_copyFrom_33 ?_
  refine lv_iconst (v := nI 0) hx hb d_R_copyFrom_36 (by decide) ?_
  refine lv_aload_n hx hb d_R_copyFrom_37 rfl (lv_at hl 0 rfl) ?_
  refine x_get (v := .ref fa) (C := R_R) (T := F_R) (N := 5) hx hb hg i_R hown hK hP xU_s rfl 0 (by decide) (hg _ w_40) (fun _ h9 => h9) rfl d_R_copyFrom_38 ?_
  refine lv_iconst (v := nI 0) hx hb d_R_copyFrom_41 (by decide) ?_
  refine lv_aload_n hx hb d_R_copyFrom_42 rfl (lv_at hl 0 rfl) ?_
  refine x_get (v := .ref fa) (C := R_R) (T := F_R) (N := 5) hx hb hg i_R hown hK hP xU_s rfl 0 (by decide) (hg _ w_40) (fun _ h9 => h9) rfl d_R_copyFrom_43 ?_
  refine x_alen (v := nI n0) hx hb hK hP 0 (xU_k hfaa hfa) rfl rfl d_R_copyFrom_46 ?_
  refine x_copyi hx hb (hml.trans hl.1.symm) hown (hg _ w_232) (hg _ w_234) (hg _ w_233) (hg _ w_7) hK hP hS 0 (xU_k hfba hfb) (xU_k hfaa hfa) rfl (by decide) (by decide) (nI_pos (by omega)) (by rw [nI_clamp (n := n0) (by omega)]; exact Nat.le_of_eq (Nat.zero_add _)) (by rw [nI_clamp (n := n0) (by omega)]; exact Nat.le_of_eq (Nat.zero_add _)) (Nat.le_of_ble_eq_true rfl) (by decide +kernel) d_R_copyFrom_47 (fun H1 L1 hP hS => ?_)
  rw [nI_clamp (n := n0) (by omega), show (nI 0).toNatClampNeg = 0 from rfl] at hP
  have hP := hP.ext (f' := f) (fun j hj => by
    rw [pk_cpy_in (Nat.zero_le _) (by omega)]
    congr 1
    omega)
  exact hret _ _ _ _ _ d_R_copyFrom_50 hP hS ⟨rfl, rfl⟩
def aDraft (K : Nat) (g : gT) (x y : Int32) : Int32 × gT := if inF x (nI K) = 0 then (-1, g) else (0, upS g 4 0 0 (upd (g 4 0 0) x.toNatClampNeg y))
def aServer (N : Nat) (g : gT) (x u k : Int32) : Int32 × gT := if inF x (nI N) = 0 then (-1, g) else (0, upS (upS g 1 0 0 (upd (g 1 0 0) x.toNatClampNeg u)) 2 0 0 (upd (g 2 0 0) x.toNatClampNeg k))
def aWipe (N : Nat) (g : gT) (x y : Int32) : Int32 × gT := if inF x (g 0 0 0 0) = 0 then (-1, g) else if inF y (nI N) = 0 then (-1, g) else (0, upS g 17 x.toNatClampNeg y.toNatClampNeg (upd (g 17 x.toNatClampNeg y.toNatClampNeg) 0 0))
def aCreate (g : gT) (q : Nat) (x : Int32) : Int32 × gT := if 0 ≤ fdF (fun f => g 12 f 0 0) (mixF (mixF x 1) 2) 0 q then (-1, g) else if 6 ≤ q then (-2, g) else (nI q, upS (upS g 12 q 0 (upd (g 12 q 0) 0 (mixF (mixF x 1) 2))) 0 0 0 (upd (g 0 0 0) 0 (nI (q + 1))))
/-- a method that answers and leaves: the pair an -/
def pA (T : Nat → ClassId) (ad : Nat → Nat → Nat → Nat) (K N : Nat) (M : xM) (an : Int32 × gT) (r : Option Value) (M1 : xM) : Prop := r = some (.int an.1) ∧ gR T ad K N M an.2 M1
set_option maxHeartbeats 4000000 in
set_option maxRecDepth 100000 in
theorem c_G_draft (l : Launch) (D : va_G) (T : Nat → ClassId) (A : Nat → Prop) (M : xM) (ad : Nat → Nat → Nat → Nat) (K N : Nat) (g : gT) (hz : zB K N) (hG : gG T ad K N g M) (x y : Int32) : Met l y_G_draft (Cond.code y_G_draft b_G_draft 3 (some .int) :: gw) (rmH 1) (xPc D T A M [.ref (ad 0 0 0), .int x, .int y]) (xQ D A (fun r M1 => pA T ad K N M (aDraft K g x y) r M1)) 0 0 A := by
  refine xMetQi (by decide) (Nat.le_of_ble_eq_true rfl) ?_
  intro p e s m below meth c Q ls hB hP hS hl hret
  obtain ⟨hx, hb, hml, hown, hg, hK0, hnm⟩ := hB
  have hown : s.vm.findClass "ShareGrid" = some m.cls := hown
  have hK := hK0.1
  have hN := hK0.2.1
  obtain ⟨hz1, hz4, hzn, hz7⟩ := id hz
  have hR := hG.rf
  have hl : lv_has ls 3 [(0, .ref (ad 0 0 0)), (1, .int x), (2, .int y)] := hl
  refine lv_aload_n hx hb d_G_draft_0 rfl (lv_at hl 0 rfl) ?_
  refine lv_iload_n hx hb d_G_draft_1 rfl (lv_at hl 1 rfl) ?_
  refine xv_R (n := 1) (As := [.int x]) (rest := []) hx hb hml hown hg hK0 hP (c_G_isWordPlace l D T A M ad K N g hz hG x) w_177 w_1 w_174 w_176 s_1 (ga_0 hG) rfl rfl (by decide +kernel) ⟨Nat.le_of_ble_eq_true rfl, Nat.le_of_ble_eq_true rfl⟩ rfl hl.1 rfl (Nat.le_of_ble_eq_true rfl) ⟨Nat.zero_le _, Nat.zero_le _⟩ rfl rfl d_G_draft_2 (fun r hr => ?_)
  subst hr
  refine x_fr (pc := 5) [.int (inF x (nI K))] rfl rfl ?_
  refine lv_if_ne (tgt := 10) hx hb d_G_draft_5 (by decide) (fun c_5 => ?_) (fun c_5 => ?_)
  · have c6 := c_5
    obtain ⟨j, hj, rfl⟩ := inF_j (by omega) c6
    refine lv_aload_n hx hb d_G_draft_10 rfl (lv_at hl 0 rfl) ?_
    refine x_get (v := .ref (ad 4 0 0)) (C := R_G) (T := F_G) (N := 12) hx hb hg i_G hown hK hP (ga_0 hG) rfl 5 (by decide) (hg _ w_115) (fun _ h9 => h9) rfl d_G_draft_11 ?_
    refine lv_iload_n hx hb d_G_draft_14 rfl (lv_at hl 1 rfl) ?_
    refine lv_iload_n hx hb d_G_draft_15 rfl (lv_at hl 2 rfl) ?_
    refine x_iast hx hb hK hP hS 0 (ga_4 hG) rfl (vp_in_nI (by omega) (by omega)) d_G_draft_16 (fun H_9 L_10 hP hS => ?_)
    rw [nI_clamp (by omega)] at hP
    obtain ⟨g_11, hg_11⟩ : ∃ z, z = upS g 4 0 0 (upd (g 4 0 0) j y) := ⟨_, rfl⟩
    obtain ⟨M_12, hP, hR⟩ : ∃ z, xW D classes A z H_9 ∧ gR T ad K N M g_11 z := ⟨_, hP, by rw [hg_11]; exact hR.set (Or.inl ⟨by omega, rfl, rfl⟩) rfl⟩
    have hG := hR.1
    refine lv_iconst (v := nI 0) hx hb d_G_draft_17 (by decide) ?_
    exact hret _ _ _ _ _ _ d_G_draft_18 hP hS (by rw [aDraft, if_neg c6, nI_clamp (by omega), ← hg_11]; exact ⟨rfl, hR⟩)
  · refine lv_iconst (v := (-1)) hx hb d_G_draft_8 (by decide) ?_
    exact hret _ _ _ _ _ _ d_G_draft_9 hP hS (by rw [aDraft, if_pos c_5]; exact ⟨rfl, hR⟩)
set_option maxHeartbeats 4000000 in
set_option maxRecDepth 100000 in
theorem c_G_server (l : Launch) (D : va_G) (T : Nat → ClassId) (A : Nat → Prop) (M : xM) (ad : Nat → Nat → Nat → Nat) (K N : Nat) (g : gT) (hz : zB K N) (hG : gG T ad K N g M) (x u k : Int32) (hu : u = 0 ∨ u = 1) (hk : k = 0 ∨ k = 1) : Met l y_G_server (Cond.code y_G_server b_G_server 4 (some .int) :: gw) (rmH 1) (xPc D T A M [.ref (ad 0 0 0), .int x, .int u, .int k]) (xQ D A (fun r M1 => pA T ad K N M (aServer N g x u k) r M1)) 0 0 A := by
  refine xMetQi (by decide) (Nat.le_of_ble_eq_true rfl) ?_
  intro p e s m below meth c Q ls hB hP hS hl hret
  obtain ⟨hx, hb, hml, hown, hg, hK0, hnm⟩ := hB
  have hown : s.vm.findClass "ShareGrid" = some m.cls := hown
  have hK := hK0.1
  have hN := hK0.2.1
  obtain ⟨hz1, hz4, hzn, hz7⟩ := id hz
  have hR := hG.rf
  have hl : lv_has ls 4 [(0, .ref (ad 0 0 0)), (1, .int x), (2, .int u), (3, .int k)] := hl
  refine lv_aload_n hx hb d_G_server_0 rfl (lv_at hl 0 rfl) ?_
  refine lv_iload_n hx hb d_G_server_1 rfl (lv_at hl 1 rfl) ?_
  refine xv_R (n := 1) (As := [.int x]) (rest := []) hx hb hml hown hg hK0 hP (c_G_isPlace l D T A M ad K N g hz hG x) w_305 w_1 w_302 w_304 s_17 (ga_0 hG) rfl rfl (by decide +kernel) ⟨Nat.le_of_ble_eq_true rfl, Nat.le_of_ble_eq_true rfl⟩ rfl hl.1 rfl (Nat.le_of_ble_eq_true rfl) ⟨Nat.zero_le _, Nat.zero_le _⟩ rfl rfl d_G_server_2 (fun r hr => ?_)
  subst hr
  refine x_fr (pc := 5) [.int (inF x (nI N))] rfl rfl ?_
  refine lv_if_ne (tgt := 10) hx hb d_G_server_5 (by decide) (fun c_5 => ?_) (fun c_5 => ?_)
  · have c6 := c_5
    obtain ⟨j, hj, rfl⟩ := inF_j (by omega) c6
    refine lv_aload_n hx hb d_G_server_10 rfl (lv_at hl 0 rfl) ?_
    refine x_get (v := .ref (ad 1 0 0)) (C := R_G) (T := F_G) (N := 12) hx hb hg i_G hown hK hP (ga_0 hG) rfl 2 (by decide) (hg _ w_112) (fun _ h9 => h9) rfl d_G_server_11 ?_
    refine lv_iload_n hx hb d_G_server_14 rfl (lv_at hl 1 rfl) ?_
    refine lv_iload_n hx hb d_G_server_15 rfl (lv_at hl 2 rfl) ?_
    refine x_zast hx hb hK hP hS 1 (ga_1 hG) rfl (vp_in_nI (by omega) (by omega)) d_G_server_16 (fun H_13 L_14 hP hS => ?_)
    rw [show vp_nar .boolean u = u from by rcases hu with h | h <;> rw [h] <;> rfl] at hP
    rw [nI_clamp (by omega)] at hP
    obtain ⟨g_15, hg_15⟩ : ∃ z, z = upS g 1 0 0 (upd (g 1 0 0) j u) := ⟨_, rfl⟩
    obtain ⟨M_16, hP, hR⟩ : ∃ z, xW D classes A z H_13 ∧ gR T ad K N M g_15 z := ⟨_, hP, by rw [hg_15]; exact hR.set (Or.inl ⟨by omega, rfl, rfl⟩) rfl⟩
    have hG := hR.1
    refine lv_aload_n hx hb d_G_server_17 rfl (lv_at hl 0 rfl) ?_
    refine x_get (v := .ref (ad 2 0 0)) (C := R_G) (T := F_G) (N := 12) hx hb hg i_G hown hK hP (ga_0 hG) rfl 3 (by decide) (hg _ w_113) (fun _ h9 => h9) rfl d_G_server_18 ?_
    refine lv_iload_n hx hb d_G_server_21 rfl (lv_at hl 1 rfl) ?_
    refine lv_iload_n hx hb d_G_server_22 rfl (lv_at hl 3 rfl) ?_
    refine x_zast hx hb hK hP hS 1 (ga_2 hG) rfl (vp_in_nI (by omega) (by omega)) d_G_server_23 (fun H_17 L_18 hP hS => ?_)
    rw [show vp_nar .boolean k = k from by rcases hk with h | h <;> rw [h] <;> rfl] at hP
    rw [nI_clamp (by omega)] at hP
    obtain ⟨g_19, hg_19⟩ : ∃ z, z = upS g_15 2 0 0 (upd (g_15 2 0 0) j k) := ⟨_, rfl⟩
    obtain ⟨M_20, hP, hR⟩ : ∃ z, xW D classes A z H_17 ∧ gR T ad K N M g_19 z := ⟨_, hP, by rw [hg_19]; exact hR.set (Or.inl ⟨by omega, rfl, rfl⟩) rfl⟩
    have hG := hR.1
    refine lv_iconst (v := nI 0) hx hb d_G_server_24 (by decide) ?_
    exact hret _ _ _ _ _ _ d_G_server_25 hP hS (by rw [aServer, if_neg c6, nI_clamp (by omega)]; refine ⟨rfl, ?_⟩; rw [hg_19, hg_15] at hR; exact hR)
  · refine lv_iconst (v := (-1)) hx hb d_G_server_8 (by decide) ?_
    exact hret _ _ _ _ _ _ d_G_server_9 hP hS (by rw [aServer, if_pos c_5]; exact ⟨rfl, hR⟩)
set_option maxHeartbeats 4000000 in
set_option maxRecDepth 100000 in
theorem c_G_wipe (l : Launch) (D : va_G) (T : Nat → ClassId) (A : Nat → Prop) (M : xM) (ad : Nat → Nat → Nat → Nat) (K N : Nat) (g : gT) (hz : zB K N) (hG : gG T ad K N g M) (q : Nat) (hq : g 0 0 0 0 = nI q) (hq6 : q ≤ 6) (x y : Int32) : Met l y_G_wipe (Cond.code y_G_wipe b_G_wipe 3 (some .int) :: gw) (rmH 1) (xPc D T A M [.ref (ad 0 0 0), .int x, .int y]) (xQ D A (fun r M1 => pA T ad K N M (aWipe N g x y) r M1)) 0 0 A := by
  refine xMetQi (by decide) (Nat.le_of_ble_eq_true rfl) ?_
  intro p e s m below meth c Q ls hB hP hS hl hret
  obtain ⟨hx, hb, hml, hown, hg, hK0, hnm⟩ := hB
  have hown : s.vm.findClass "ShareGrid" = some m.cls := hown
  have hK := hK0.1
  have hN := hK0.2.1
  obtain ⟨hz1, hz4, hzn, hz7⟩ := id hz
  have hR := hG.rf
  have hl : lv_has ls 3 [(0, .ref (ad 0 0 0)), (1, .int x), (2, .int y)] := hl
  refine lv_aload_n hx hb d_G_wipe_0 rfl (lv_at hl 0 rfl) ?_
  refine lv_iload_n hx hb d_G_wipe_1 rfl (lv_at hl 1 rfl) ?_
  refine xv_R (n := 1) (As := [.int x]) (rest := []) hx hb hml hown hg hK0 hP (c_G_isFile l D T A M ad K N g hz hG x) w_313 w_1 w_310 w_312 s_18 (ga_0 hG) rfl rfl (by decide +kernel) ⟨Nat.le_of_ble_eq_true rfl, Nat.le_of_ble_eq_true rfl⟩ rfl hl.1 rfl (Nat.le_of_ble_eq_true rfl) ⟨Nat.zero_le _, Nat.zero_le _⟩ rfl rfl d_G_wipe_2 (fun r hr => ?_)
  subst hr
  refine x_fr (pc := 5) [.int (inF x (g 0 0 0 0))] rfl rfl ?_
  refine lv_if_eq (tgt := 16) hx hb d_G_wipe_5 (by decide) (fun c_5 => ?_) (fun c_5 => ?_)
  · refine lv_iconst (v := (-1)) hx hb d_G_wipe_16 (by decide) ?_
    exact hret _ _ _ _ _ _ d_G_wipe_17 hP hS (by rw [aWipe, if_pos c_5]; exact ⟨rfl, hR⟩)
  · refine lv_aload_n hx hb d_G_wipe_8 rfl (lv_at hl 0 rfl) ?_
    refine lv_iload_n hx hb d_G_wipe_9 rfl (lv_at hl 2 rfl) ?_
    refine xv_R (n := 1) (As := [.int y]) (rest := []) hx hb hml hown hg hK0 hP (c_G_isPlace l D T A M ad K N g hz hG y) w_305 w_1 w_302 w_304 s_17 (ga_0 hG) rfl rfl (by decide +kernel) ⟨Nat.le_of_ble_eq_true rfl, Nat.le_of_ble_eq_true rfl⟩ rfl hl.1 rfl (Nat.le_of_ble_eq_true rfl) ⟨Nat.zero_le _, Nat.zero_le _⟩ rfl rfl d_G_wipe_10 (fun r hr => ?_)
    subst hr
    refine x_fr (pc := 13) [.int (inF y (nI N))] rfl rfl ?_
    refine lv_if_ne (tgt := 18) hx hb d_G_wipe_13 (by decide) (fun c_13 => ?_) (fun c_13 => ?_)
    · have c6 := c_5
      have c7 := c_13
      have c8 := c6
      rw [hq] at c8
      obtain ⟨f, hf, rfl⟩ := inF_j (by omega) c8
      obtain ⟨i, hi, rfl⟩ := inF_j (by omega) c7
      refine lv_aload_n hx hb d_G_wipe_18 rfl (lv_at hl 0 rfl) ?_
      refine x_get (v := .ref (ad 3 0 0)) (C := R_G) (T := F_G) (N := 12) hx hb hg i_G hown hK hP (ga_0 hG) rfl 4 (by decide) (hg _ w_114) (fun _ h9 => h9) rfl d_G_wipe_19 ?_
      refine lv_iload_n hx hb d_G_wipe_22 rfl (lv_at hl 1 rfl) ?_
      refine x_aldq (v := .ref (ad 12 f 0)) hx hb hK hP 3 (ga_3 hG) rfl (vp_in_nI (by omega) (by omega)) (by rw [nI_clamp (by omega)]; rfl) d_G_wipe_23 ?_
      refine x_getN (v := .ref (ad 13 f 0)) (C := R_F) (T := F_F) (N := 6) hx hb hg i_F hown hK hP (ga_12 hG (show f < 6 by omega)) rfl 0 (by decide) (va_Nw.use rfl (hN _ e_69)) (fun _ h9 => h9) rfl d_G_wipe_24 ?_
      refine lv_iload_n hx hb d_G_wipe_27 rfl (lv_at hl 2 rfl) ?_
      refine x_aldq (v := .ref (ad 17 f i)) hx hb hK hP 2 (ga_13 hG (show f < 6 by omega)) rfl (vp_in_nI (by omega) (by omega)) (by rw [nI_clamp (by omega)]; rfl) d_G_wipe_28 ?_
      refine lv_iconst (v := nI 0) hx hb d_G_wipe_29 (by decide) ?_
      refine x_putN (v := .int (nI 0)) (ty := .boolean) (C := R_R) (T := F_R) (N := 5) hx hb hg i_R t_R t_R_ok n_R hown hK hP hS (ga_17 hG (show f < 6 by omega) (show i < N by omega)) rfl 1 (by decide) (va_Nw.use rfl (hN _ e_45)) (fun _ h9 => h9) rfl (by decide +kernel) (by rfl) (by rfl) (Nat.le_of_ble_eq_true rfl) d_G_wipe_30 (fun H_21 L_22 hP hS => ?_)
      obtain ⟨g_23, hg_23⟩ : ∃ z, z = upS g 17 f i (upd (g 17 f i) 0 (nI 0)) := ⟨_, rfl⟩
      obtain ⟨M_24, hP, hR⟩ : ∃ z, xW D classes A z H_21 ∧ gR T ad K N M g_23 z := ⟨_, hP, by rw [hg_23]; exact hR.set (Or.inr (Or.inr ⟨by omega, by omega, by omega, by omega⟩)) rfl⟩
      have hG := hR.1
      refine lv_iconst (v := nI 0) hx hb d_G_wipe_33 (by decide) ?_
      exact hret _ _ _ _ _ _ d_G_wipe_34 hP hS (by rw [aWipe, if_neg c6, if_neg c7, nI_clamp (by omega), nI_clamp (by omega)]; refine ⟨rfl, ?_⟩; rw [hg_23] at hR; exact hR)
    · refine lv_iconst (v := (-1)) hx hb d_G_wipe_16 (by decide) ?_
      exact hret _ _ _ _ _ _ d_G_wipe_17 hP hS (by rw [aWipe, if_neg c_5, if_pos c_13]; exact ⟨rfl, hR⟩)
set_option maxHeartbeats 4000000 in
set_option maxRecDepth 100000 in
theorem c_G_create (l : Launch) (D : va_G) (T : Nat → ClassId) (A : Nat → Prop) (M : xM) (ad : Nat → Nat → Nat → Nat) (K N : Nat) (g : gT) (hz : zB K N) (hG : gG T ad K N g M) (q : Nat) (hq : g 0 0 0 0 = nI q) (hq6 : q ≤ 6) (x : Int32) : Met l y_G_create (Cond.code y_G_create b_G_create 3 (some .int) :: gw) (rmH 2) (xPc D T A M [.ref (ad 0 0 0), .int x]) (xQ D A (fun r M1 => pA T ad K N M (aCreate g q x) r M1)) 0 0 A := by
  refine xMetQi (by decide) (Nat.le_of_ble_eq_true rfl) ?_
  intro p e s m below meth c Q ls hB hP hS hl hret
  obtain ⟨hx, hb, hml, hown, hg, hK0, hnm⟩ := hB
  have hown : s.vm.findClass "ShareGrid" = some m.cls := hown
  have hK := hK0.1
  have hN := hK0.2.1
  obtain ⟨hz1, hz4, hzn, hz7⟩ := id hz
  have hR := hG.rf
  have hl : lv_has ls 3 [(0, .ref (ad 0 0 0)), (1, .int x)] := hl
  refine lv_iload_n hx hb d_G_create_0 rfl (lv_at hl 1 rfl) ?_
  refine xs_R (n := 1) (As := [.int x]) (rest := []) hx hb hml hown hg hK0 hP (c_G_readKeyOf l D T A M x) w_153 w_1 w_151 w_152 (by decide +kernel) ⟨Nat.le_of_ble_eq_true rfl, Nat.le_of_ble_eq_true rfl⟩ rfl hl.1 rfl (Nat.le_of_ble_eq_true rfl) ⟨Nat.zero_le _, Nat.zero_le _⟩ rfl rfl d_G_create_1 (fun r hr => ?_)
  subst hr
  refine x_fr (pc := 4) [.int (mixF x 1)] rfl rfl ?_
  refine xs_R (n := 1) (As := [.int (mixF x 1)]) (rest := []) hx hb hml hown hg hK0 hP (c_G_verifyKeyOf l D T A M (mixF x 1)) w_161 w_1 w_159 w_160 (by decide +kernel) ⟨Nat.le_of_ble_eq_true rfl, Nat.le_of_ble_eq_true rfl⟩ rfl hl.1 rfl (Nat.le_of_ble_eq_true rfl) ⟨Nat.zero_le _, Nat.zero_le _⟩ rfl rfl d_G_create_4 (fun r hr => ?_)
  subst hr
  refine x_fr (pc := 7) [.int (mixF (mixF x 1) 2)] rfl rfl ?_
  refine lv_istore_n (lv' := [(2, .int (mixF (mixF x 1) 2)), (0, .ref (ad 0 0 0)), (1, .int x)]) hx hb d_G_create_7 rfl hl (by decide) rfl (fun ls hl => ?_)
  refine lv_aload_n hx hb d_G_create_8 rfl (lv_at hl 1 rfl) ?_
  refine lv_iload_n hx hb d_G_create_9 rfl (lv_at hl 0 rfl) ?_
  refine xv_R (n := 1) (As := [.int (mixF (mixF x 1) 2)]) (rest := []) hx hb hml hown hg hK0 hP (c_G_fileUnder l D T A M ad K N g hz hG q hq hq6 (mixF (mixF x 1) 2)) w_169 w_1 w_166 w_168 s_0 (ga_0 hG) rfl rfl (by decide +kernel) ⟨Nat.le_of_ble_eq_true rfl, Nat.le_of_ble_eq_true rfl⟩ rfl hl.1 rfl (Nat.le_of_ble_eq_true rfl) ⟨Nat.zero_le _, Nat.zero_le _⟩ rfl rfl d_G_create_10 (fun r hr => ?_)
  subst hr
  refine x_fr (pc := 13) [.int (fdF (fun f => g 12 f 0 0) (mixF (mixF x 1) 2) 0 q)] rfl rfl ?_
  refine lv_if_lt (tgt := 18) hx hb d_G_create_13 (by decide) (fun c_13 => ?_) (fun c_13 => ?_)
  · refine lv_aload_n hx hb d_G_create_18 rfl (lv_at hl 1 rfl) ?_
    refine x_get (v := .int (g 0 0 0 0)) (C := R_G) (T := F_G) (N := 12) hx hb hg i_G hown hK hP (ga_0 hG) rfl 10 (by decide) (hg _ w_120) (fun _ h9 => h9) rfl d_G_create_19 ?_
    refine x_top (y := nI q) hq ?_
    refine lv_bipush (v := nI 6) hx hb d_G_create_22 (by decide) ?_
    refine x_nc_lt (tgt := 30) hx hb d_G_create_24 (by decide) (by omega) (by omega) (fun c_24 => ?_) (fun c_24 => ?_)
    · refine lv_aload_n hx hb d_G_create_30 rfl (lv_at hl 1 rfl) ?_
      refine x_get (v := .ref (ad 3 0 0)) (C := R_G) (T := F_G) (N := 12) hx hb hg i_G hown hK hP (ga_0 hG) rfl 4 (by decide) (hg _ w_114) (fun _ h9 => h9) rfl d_G_create_31 ?_
      refine lv_aload_n hx hb d_G_create_34 rfl (lv_at hl 1 rfl) ?_
      refine x_get (v := .int (g 0 0 0 0)) (C := R_G) (T := F_G) (N := 12) hx hb hg i_G hown hK hP (ga_0 hG) rfl 10 (by decide) (hg _ w_120) (fun _ h9 => h9) rfl d_G_create_35 ?_
      refine x_top (y := nI q) hq ?_
      refine x_aldq (v := .ref (ad 12 q 0)) hx hb hK hP 3 (ga_3 hG) rfl (vp_in_nI (by omega) (by omega)) (by rw [nI_clamp (by omega)]; rfl) d_G_create_38 ?_
      refine lv_iload_n hx hb d_G_create_39 rfl (lv_at hl 0 rfl) ?_
      refine x_putN (v := .int (mixF (mixF x 1) 2)) (ty := .int) (C := R_F) (T := F_F) (N := 6) hx hb hg i_F t_F t_F_ok n_F hown hK hP hS (ga_12 hG (show q < 6 by omega)) rfl 4 (by decide) (va_Nw.use rfl (hN _ e_74)) (fun _ h9 => h9) rfl (by decide +kernel) rfl rfl (Nat.le_of_ble_eq_true rfl) d_G_create_40 (fun H_25 L_26 hP hS => ?_)
      obtain ⟨g_27, hg_27⟩ : ∃ z, z = upS g 12 q 0 (upd (g 12 q 0) 0 (mixF (mixF x 1) 2)) := ⟨_, rfl⟩
      obtain ⟨M_28, hP, hR⟩ : ∃ z, xW D classes A z H_25 ∧ gR T ad K N M g_27 z := ⟨_, hP, by rw [hg_27]; exact hR.set (Or.inr (Or.inl ⟨by omega, by omega, by omega, rfl⟩)) rfl⟩
      have hG := hR.1
      have hq1 : g_27 0 0 0 0 = nI q := by rw [hg_27]; exact hq
      refine lv_aload_n hx hb d_G_create_43 rfl (lv_at hl 1 rfl) ?_
      refine lv_dup hx hb d_G_create_44 rfl ?_
      refine x_get (v := .int (g_27 0 0 0 0)) (C := R_G) (T := F_G) (N := 12) hx hb hg i_G hown hK hP (ga_0 hG) rfl 10 (by decide) (hg _ w_120) (fun _ h9 => h9) rfl d_G_create_45 ?_
      refine x_top (y := nI q) hq1 ?_
      refine lv_iconst (v := nI 1) hx hb d_G_create_48 (by decide) ?_
      refine lv_iadd hx hb d_G_create_49 ?_
      refine x_top (y := nI (q + 1)) (nI_add _ _) ?_
      refine x_put (v := .int (nI (q + 1))) (ty := .int) (C := R_G) (T := F_G) (N := 12) hx hb hg i_G t_G t_G_ok n_G hown hK hP hS (ga_0 hG) rfl 10 (by decide) (hg _ w_120) (fun _ h9 => h9) rfl (by decide +kernel) rfl rfl (Nat.le_of_ble_eq_true rfl) d_G_create_50 (fun H_29 L_30 hP hS => ?_)
      obtain ⟨g_31, hg_31⟩ : ∃ z, z = upS g_27 0 0 0 (upd (g_27 0 0 0) 0 (nI (q + 1))) := ⟨_, rfl⟩
      obtain ⟨M_32, hP, hR⟩ : ∃ z, xW D classes A z H_29 ∧ gR T ad K N M g_31 z := ⟨_, hP, by rw [hg_31]; exact hR.set (Or.inl ⟨by omega, rfl, rfl⟩) rfl⟩
      have hG := hR.1
      have hq2 : g_31 0 0 0 0 = nI (q + 1) := by rw [hg_31]; rfl
      refine lv_aload_n hx hb d_G_create_53 rfl (lv_at hl 1 rfl) ?_
      refine x_get (v := .int (g_31 0 0 0 0)) (C := R_G) (T := F_G) (N := 12) hx hb hg i_G hown hK hP (ga_0 hG) rfl 10 (by decide) (hg _ w_120) (fun _ h9 => h9) rfl d_G_create_54 ?_
      refine x_top (y := nI (q + 1)) hq2 ?_
      refine lv_iconst (v := nI 1) hx hb d_G_create_57 (by decide) ?_
      refine lv_isub hx hb d_G_create_58 ?_
      refine x_top (y := nI ((q + 1) - 1)) (pk_sub (by omega)) ?_
      exact hret _ _ _ _ _ _ d_G_create_59 hP hS (by rw [aCreate, if_neg (Int32.not_le.mpr c_13), if_neg (Nat.not_le.mpr c_24)]; refine ⟨by rw [show q + 1 - 1 = q by omega], ?_⟩; rw [hg_31, hg_27] at hR; exact hR)
    · refine lv_bipush (v := (-2)) hx hb d_G_create_27 (by decide) ?_
      exact hret _ _ _ _ _ _ d_G_create_29 hP hS (by rw [aCreate, if_neg (Int32.not_le.mpr c_13), if_pos c_24]; exact ⟨rfl, hR⟩)
  · refine lv_iconst (v := (-1)) hx hb d_G_create_16 (by decide) ?_
    exact hret _ _ _ _ _ _ d_G_create_17 hP hS (by rw [aCreate, if_pos (Int32.not_lt.mp c_13)]; exact ⟨rfl, hR⟩)
end
section
/-! more methods of the class -/
abbrev cNone : Int64 := -1000000000000
def fuF (g : gT) (q : Nat) (x : Int32) : Int32 := fdF (fun f => g 12 f 0 0) x 0 q
theorem fdF_ix (vk : Nat → Int32) (v : Int32) : ∀ (n i : Nat), fdF vk v i n = -1 ∨ ∃ f, i ≤ f ∧ f < i + n ∧ fdF vk v i n = nI f := by
  intro n
  induction n with
  | zero => intro i; exact Or.inl rfl
  | succ n ih =>
    intro i
    rw [fdF]
    by_cases h : vk i = v
    · rw [if_pos h]; exact Or.inr ⟨i, Nat.le_refl i, by omega, rfl⟩
    · rw [if_neg h]
      rcases ih (i + 1) with h1 | ⟨f, h1, h2, h3⟩
      · exact Or.inl h1
      · exact Or.inr ⟨f, by omega, by omega, h3⟩
theorem fuF_ge {g : gT} {q : Nat} {x : Int32} (h : 0 ≤ fuF g q x) : ∃ f, f < q ∧ fuF g q x = nI f := by
  rcases fdF_ix (fun f => g 12 f 0 0) x q 0 with h1 | ⟨f, -, h2, h3⟩
  · rw [fuF, h1] at h; exact absurd h (by decide)
  · exact ⟨f, by omega, h3⟩
def spF (N : Nat) (g : gT) (f s : Nat) : Int32 := if g 1 0 0 s = 0 then 0 else sdG N g f s
def svF (N : Nat) (g : gT) (f : Nat) (x : Int32) (s : Nat) : Int32 := if g 1 0 0 s = 0 then 0 else if sdG N g f s = 0 then 0 else if g 17 f s 2 = x then 1 else 0
def bdF (cn : Nat → Nat) (K : Nat) : Nat → Nat
  | 0 => 0
  | w + 1 => if K ≤ cn (w + 1) then w + 1 else bdF cn K w
def beF (K N : Nat) (g : gT) (f : Nat) : Nat := bdF (fun j => cuF (svF N g f (nI j)) N) K (g 12 f 0 1).toNatClampNeg
def cpS (g : gT) (k f s k' f' s' : Nat) : gT := upS (upS g k' f' s' (g k f s)) (k' + 1) f' s' (g (k + 1) f s)
def aKey (x y : Int32) : Int32 := if y = 1 then mixF x 1 else if y = 2 then mixF x 2 else if y = 3 then mixF (mixF x 1) 2 else 0
def aWord (K : Nat) (g : gT) (x : Int32) : Int64 := if g 0 0 0 1 = 0 then cNone else if inF x (nI K) = 0 then cNone else (g 5 0 0 x.toNatClampNeg).toInt64
def aShare (N : Nat) (g : gT) (x y z : Int32) : Int64 := if inF x (g 0 0 0 0) = 0 then cNone else if inF y (nI N) = 0 then cNone else if g 17 x.toNatClampNeg y.toNatClampNeg 0 = 0 then cNone else if z = 0 then (g 17 x.toNatClampNeg y.toNatClampNeg 1).toInt64 else if z = 1 then (g 17 x.toNatClampNeg y.toNatClampNeg 2).toInt64 else if z = 2 then (g 17 x.toNatClampNeg y.toNatClampNeg 3).toInt64 else cNone
def aTimes (x y : Int32) : Int32 := if byF x = 0 then -1 else if byF y = 0 then -1 else scF x y
def aCount (K N : Nat) (g : gT) (q : Nat) (x : Int32) : Int32 := if x = 0 then g 0 0 0 0 else if x = 1 then nI (cuF (g 1 0 0) N) else if x = 2 then nI K else if x = 3 then nI N else gnF g q (x - 10)
def aSound (N : Nat) (g : gT) (q : Nat) (x : Int32) : Int32 := if 0 ≤ fuF g q x then nI (cuF (spF N g (fuF g q x).toNatClampNeg) N) else -1
def aBest (K N : Nat) (g : gT) (q : Nat) (x : Int32) : Int32 := if 0 ≤ fuF g q x then nI (beF K N g (fuF g q x).toNatClampNeg) else -1
def aPicture (N : Nat) (g : gT) (x y : Int32) : Int32 × gT := if inF x (g 0 0 0 0) = 0 then (-1, g) else if inF y (nI N) = 0 then (-1, g) else if g 17 x.toNatClampNeg y.toNatClampNeg 0 = 0 then (-1, g) else (0, cpS g 17 x.toNatClampNeg y.toNatClampNeg 19 x.toNatClampNeg y.toNatClampNeg)
def aFall (N : Nat) (g : gT) (x y : Int32) : Int32 × gT := if inF x (g 0 0 0 0) = 0 then (-1, g) else if inF y (nI N) = 0 then (-1, g) else if g 19 x.toNatClampNeg y.toNatClampNeg 0 = 0 then (-1, g) else (0, cpS g 19 x.toNatClampNeg y.toNatClampNeg 17 x.toNatClampNeg y.toNatClampNeg)
def tmG (g : gT) (f i : Nat) (z x : Int32) : gT := if z = 0 then upS g 17 f i (upd (g 17 f i) 1 (g 17 f i 1 ^^^ x)) else if z = 1 then upS g 17 f i (upd (g 17 f i) 2 (g 17 f i 2 ^^^ x)) else if z = 2 then upS g 17 f i (upd (g 17 f i) 3 (g 17 f i 3 ^^^ x)) else upS g 18 f i (upd (g 18 f i) (z.toNatClampNeg - 3) (g 18 f i (z.toNatClampNeg - 3) ^^^ x))
def aTamper (N : Nat) (g : gT) (x y z u : Int32) : Int32 × gT := if inF x (g 0 0 0 0) = 0 then (-1, g) else if inF y (nI N) = 0 then (-1, g) else if z < 0 then (-1, g) else if z < nI (3 + N) then (if g 17 x.toNatClampNeg y.toNatClampNeg 0 = 0 then (-1, g) else (0, tmG g x.toNatClampNeg y.toNatClampNeg z u)) else (-1, g)
set_option maxHeartbeats 4000000 in
set_option maxRecDepth 100000 in
theorem c_G_key (l : Launch) (D : va_G) (T : Nat → ClassId) (A : Nat → Prop) (M : xM) (ad : Nat → Nat → Nat → Nat) (K N : Nat) (g : gT) (hz : zB K N) (hG : gG T ad K N g M) (x y : Int32) : Met l y_G_key (Cond.code y_G_key b_G_key 3 (some .int) :: gw) (rmH 2) (xPc D T A M [.ref (ad 0 0 0), .int x, .int y]) (xR (fun r => r = some (.int (aKey x y)))) 0 0 (fun _ => False) := by
  refine xMetRi (by decide) (Nat.le_of_ble_eq_true rfl) ?_
  intro p e s m below meth c Q ls hB hP hl hret
  obtain ⟨hx, hb, hml, hown, hg, hK0, hnm⟩ := hB
  have hown : s.vm.findClass "ShareGrid" = some m.cls := hown
  have hK := hK0.1
  have hN := hK0.2.1
  obtain ⟨hz1, hz4, hzn, hz7⟩ := id hz
  have hl : lv_has ls 3 [(0, .ref (ad 0 0 0)), (1, .int x), (2, .int y)] := hl
  refine lv_iload_n hx hb d_G_key_0 rfl (lv_at hl 2 rfl) ?_
  by_cases s1 : y = 1
  · refine lv_tableIn (off := 27) (tgt := 28) hx hb d_G_key_1 (by rw [s1]; decide) (by rw [s1]; decide) (by rw [s1]; rfl) (by decide) ?_
    refine lv_iload_n hx hb d_G_key_28 rfl (lv_at hl 1 rfl) ?_
    refine xs_R (n := 1) (As := [.int x]) (rest := []) hx hb hml hown hg hK0 hP (c_G_readKeyOf l D T A _ x) w_153 w_1 w_151 w_152 (by decide +kernel) ⟨Nat.le_of_ble_eq_true rfl, Nat.le_of_ble_eq_true rfl⟩ rfl hl.1 rfl (Nat.le_of_ble_eq_true rfl) ⟨Nat.zero_le _, Nat.zero_le _⟩ rfl rfl d_G_key_29 (fun r hr => ?_)
    subst hr
    refine x_fr (pc := 32) [.int (mixF x 1)] rfl rfl ?_
    exact hret _ _ _ d_G_key_32 (by simp [aKey, s1])
  · by_cases s2 : y = 2
    · refine lv_tableIn (off := 32) (tgt := 33) hx hb d_G_key_1 (by rw [s2]; decide) (by rw [s2]; decide) (by rw [s2]; rfl) (by decide) ?_
      refine lv_iload_n hx hb d_G_key_33 rfl (lv_at hl 1 rfl) ?_
      refine xs_R (n := 1) (As := [.int x]) (rest := []) hx hb hml hown hg hK0 hP (c_G_verifyKeyOf l D T A _ x) w_161 w_1 w_159 w_160 (by decide +kernel) ⟨Nat.le_of_ble_eq_true rfl, Nat.le_of_ble_eq_true rfl⟩ rfl hl.1 rfl (Nat.le_of_ble_eq_true rfl) ⟨Nat.zero_le _, Nat.zero_le _⟩ rfl rfl d_G_key_34 (fun r hr => ?_)
      subst hr
      refine x_fr (pc := 37) [.int (mixF x 2)] rfl rfl ?_
      exact hret _ _ _ d_G_key_37 (by simp [aKey, s1, s2])
    · by_cases s3 : y = 3
      · refine lv_tableIn (off := 37) (tgt := 38) hx hb d_G_key_1 (by rw [s3]; decide) (by rw [s3]; decide) (by rw [s3]; rfl) (by decide) ?_
        refine lv_iload_n hx hb d_G_key_38 rfl (lv_at hl 1 rfl) ?_
        refine xs_R (n := 1) (As := [.int x]) (rest := []) hx hb hml hown hg hK0 hP (c_G_readKeyOf l D T A _ x) w_153 w_1 w_151 w_152 (by decide +kernel) ⟨Nat.le_of_ble_eq_true rfl, Nat.le_of_ble_eq_true rfl⟩ rfl hl.1 rfl (Nat.le_of_ble_eq_true rfl) ⟨Nat.zero_le _, Nat.zero_le _⟩ rfl rfl d_G_key_39 (fun r hr => ?_)
        subst hr
        refine x_fr (pc := 42) [.int (mixF x 1)] rfl rfl ?_
        refine xs_R (n := 1) (As := [.int (mixF x 1)]) (rest := []) hx hb hml hown hg hK0 hP (c_G_verifyKeyOf l D T A _ (mixF x 1)) w_161 w_1 w_159 w_160 (by decide +kernel) ⟨Nat.le_of_ble_eq_true rfl, Nat.le_of_ble_eq_true rfl⟩ rfl hl.1 rfl (Nat.le_of_ble_eq_true rfl) ⟨Nat.zero_le _, Nat.zero_le _⟩ rfl rfl d_G_key_42 (fun r hr => ?_)
        subst hr
        refine x_fr (pc := 45) [.int (mixF (mixF x 1) 2)] rfl rfl ?_
        exact hret _ _ _ d_G_key_45 (by simp [aKey, s1, s2, s3])
      · have hout : (y).toInt < 1 ∨ 3 < (y).toInt := by
          have q1 := lv_neT s1 (a := 1) (by decide)
          have q2 := lv_neT s2 (a := 2) (by decide)
          have q3 := lv_neT s3 (a := 3) (by decide)
          omega
        refine lv_tableOut (tgt := 46) hx hb d_G_key_1 hout (by decide) ?_
        refine lv_iconst (v := 0) hx hb d_G_key_46 (by decide) ?_
        exact hret _ _ _ d_G_key_47 (by simp [aKey, s1, s2, s3])
set_option maxHeartbeats 4000000 in
set_option maxRecDepth 100000 in
theorem c_G_word (l : Launch) (D : va_G) (T : Nat → ClassId) (A : Nat → Prop) (M : xM) (ad : Nat → Nat → Nat → Nat) (K N : Nat) (g : gT) (hz : zB K N) (hG : gG T ad K N g M) (x : Int32) : Met l y_G_word (Cond.code y_G_word b_G_word 2 (some .long) :: gw) (rmH 1) (xPc D T A M [.ref (ad 0 0 0), .int x]) (xR (fun r => r = some (.long (aWord K g x)))) 0 0 (fun _ => False) := by
  refine xMetRl (by decide) (Nat.le_of_ble_eq_true rfl) ?_
  intro p e s m below meth c Q ls hB hP hl hret
  obtain ⟨hx, hb, hml, hown, hg, hK0, hnm⟩ := hB
  have hown : s.vm.findClass "ShareGrid" = some m.cls := hown
  have hK := hK0.1
  have hN := hK0.2.1
  obtain ⟨hz1, hz4, hzn, hz7⟩ := id hz
  have hl : lv_has ls 2 [(0, .ref (ad 0 0 0)), (1, .int x)] := hl
  refine lv_aload_n hx hb d_G_word_0 rfl (lv_at hl 0 rfl) ?_
  refine x_get (v := .int (g 0 0 0 1)) (C := R_G) (T := F_G) (N := 12) hx hb hg i_G hown hK hP (ga_0 hG) rfl 11 (by decide) (hg _ w_121) (fun _ h9 => h9) rfl d_G_word_1 ?_
  refine lv_if_eq (tgt := 15) hx hb d_G_word_4 (by decide) (fun c_4 => ?_) (fun c_4 => ?_)
  · refine lv_ldc2 (v := (-1000000000000)) hx hb hown (hg _ w_285) d_G_word_15 ?_
    exact hret _ _ _ d_G_word_18 (by simp [aWord, c_4])
  · refine lv_aload_n hx hb d_G_word_7 rfl (lv_at hl 0 rfl) ?_
    refine lv_iload_n hx hb d_G_word_8 rfl (lv_at hl 1 rfl) ?_
    refine xv_R (n := 1) (As := [.int x]) (rest := []) hx hb hml hown hg hK0 hP (c_G_isWordPlace l D T A _ ad K N g hz hG x) w_177 w_1 w_174 w_176 s_1 (ga_0 hG) rfl rfl (by decide +kernel) ⟨Nat.le_of_ble_eq_true rfl, Nat.le_of_ble_eq_true rfl⟩ rfl hl.1 rfl (Nat.le_of_ble_eq_true rfl) ⟨Nat.zero_le _, Nat.zero_le _⟩ rfl rfl d_G_word_9 (fun r hr => ?_)
    subst hr
    refine x_fr (pc := 12) [.int (inF x (nI K))] rfl rfl ?_
    refine lv_if_ne (tgt := 19) hx hb d_G_word_12 (by decide) (fun c_12 => ?_) (fun c_12 => ?_)
    · have c6 := c_12
      obtain ⟨j, hj, rfl⟩ := inF_j (by omega) c6
      refine lv_aload_n hx hb d_G_word_19 rfl (lv_at hl 0 rfl) ?_
      refine x_get (v := .ref (ad 5 0 0)) (C := R_G) (T := F_G) (N := 12) hx hb hg i_G hown hK hP (ga_0 hG) rfl 6 (by decide) (hg _ w_116) (fun _ h9 => h9) rfl d_G_word_20 ?_
      refine lv_iload_n hx hb d_G_word_23 rfl (lv_at hl 1 rfl) ?_
      refine x_iald (v := g 5 0 0 j) hx hb hK hP 0 (ga_5 hG) rfl (vp_in_nI (by omega) (by omega)) (by rw [nI_clamp (by omega)]) d_G_word_24 ?_
      refine lv_i2l (v := (g 5 0 0 j).toInt64) hx hb d_G_word_25 rfl ?_
      exact hret _ _ _ d_G_word_26 (by rw [aWord, if_neg c_4, if_neg c6, nI_clamp (by omega)])
    · refine lv_ldc2 (v := (-1000000000000)) hx hb hown (hg _ w_285) d_G_word_15 ?_
      exact hret _ _ _ d_G_word_18 (by simp [aWord, c_4, c_12])
set_option maxHeartbeats 4000000 in
set_option maxRecDepth 100000 in
theorem c_G_times (l : Launch) (D : va_G) (T : Nat → ClassId) (A : Nat → Prop) (M : xM) (ad : Nat → Nat → Nat → Nat) (K N : Nat) (g : gT) (hz : zB K N) (hG : gG T ad K N g M) (x y : Int32) : Met l y_G_times (Cond.code y_G_times b_G_times 3 (some .int) :: gw) (rmH 2) (xPc D T A M [.ref (ad 0 0 0), .int x, .int y]) (xR (fun r => r = some (.int (aTimes x y)))) 0 0 (fun _ => False) := by
  refine xMetRi (by decide) (Nat.le_of_ble_eq_true rfl) ?_
  intro p e s m below meth c Q ls hB hP hl hret
  obtain ⟨hx, hb, hml, hown, hg, hK0, hnm⟩ := hB
  have hown : s.vm.findClass "ShareGrid" = some m.cls := hown
  have hK := hK0.1
  have hN := hK0.2.1
  obtain ⟨hz1, hz4, hzn, hz7⟩ := id hz
  have hl : lv_has ls 3 [(0, .ref (ad 0 0 0)), (1, .int x), (2, .int y)] := hl
  refine lv_iload_n hx hb d_G_times_0 rfl (lv_at hl 1 rfl) ?_
  refine xs_R (n := 1) (As := [.int x]) (rest := []) hx hb hml hown hg hK0 hP (c_G_isByte l D T A _ x) w_336 w_1 w_334 w_335 (by decide +kernel) ⟨Nat.le_of_ble_eq_true rfl, Nat.le_of_ble_eq_true rfl⟩ rfl hl.1 rfl (Nat.le_of_ble_eq_true rfl) ⟨Nat.zero_le _, Nat.zero_le _⟩ rfl rfl d_G_times_1 (fun r hr => ?_)
  subst hr
  refine x_fr (pc := 4) [.int (byF x)] rfl rfl ?_
  refine lv_if_eq (tgt := 14) hx hb d_G_times_4 (by decide) (fun c_4 => ?_) (fun c_4 => ?_)
  · refine lv_iconst (v := (-1)) hx hb d_G_times_14 (by decide) ?_
    exact hret _ _ _ d_G_times_15 (by simp [aTimes, c_4])
  · refine lv_iload_n hx hb d_G_times_7 rfl (lv_at hl 2 rfl) ?_
    refine xs_R (n := 1) (As := [.int y]) (rest := []) hx hb hml hown hg hK0 hP (c_G_isByte l D T A _ y) w_336 w_1 w_334 w_335 (by decide +kernel) ⟨Nat.le_of_ble_eq_true rfl, Nat.le_of_ble_eq_true rfl⟩ rfl hl.1 rfl (Nat.le_of_ble_eq_true rfl) ⟨Nat.zero_le _, Nat.zero_le _⟩ rfl rfl d_G_times_8 (fun r hr => ?_)
    subst hr
    refine x_fr (pc := 11) [.int (byF y)] rfl rfl ?_
    refine lv_if_ne (tgt := 16) hx hb d_G_times_11 (by decide) (fun c_11 => ?_) (fun c_11 => ?_)
    · refine lv_iload_n hx hb d_G_times_16 rfl (lv_at hl 1 rfl) ?_
      refine lv_iload_n hx hb d_G_times_17 rfl (lv_at hl 2 rfl) ?_
      refine xs_R (n := 2) (As := [.int x, .int y]) (rest := []) hx hb hml hown hg hK0 hP (c_G_scaled l D T A _ x y) w_202 w_1 w_273 w_201 (by decide +kernel) ⟨Nat.le_of_ble_eq_true rfl, Nat.le_of_ble_eq_true rfl⟩ rfl hl.1 rfl (Nat.le_of_ble_eq_true rfl) ⟨Nat.zero_le _, Nat.zero_le _⟩ rfl rfl d_G_times_18 (fun r hr => ?_)
      subst hr
      refine x_fr (pc := 21) [.int (scF x y)] rfl rfl ?_
      exact hret _ _ _ d_G_times_21 (by simp [aTimes, c_4, c_11])
    · refine lv_iconst (v := (-1)) hx hb d_G_times_14 (by decide) ?_
      exact hret _ _ _ d_G_times_15 (by simp [aTimes, c_4, c_11])
set_option maxHeartbeats 4000000 in
set_option maxRecDepth 100000 in
theorem c_G_count (l : Launch) (D : va_G) (T : Nat → ClassId) (A : Nat → Prop) (M : xM) (ad : Nat → Nat → Nat → Nat) (K N : Nat) (g : gT) (hz : zB K N) (hG : gG T ad K N g M) (q : Nat) (w : Nat → Nat) (hI : iG N g q w) (x : Int32) : Met l y_G_count (Cond.code y_G_count b_G_count 2 (some .int) :: gw) (rmH 2) (xPc D T A M [.ref (ad 0 0 0), .int x]) (xR (fun r => r = some (.int (aCount K N g q x)))) 0 0 (fun _ => False) := by
  refine xMetRi (by decide) (Nat.le_of_ble_eq_true rfl) ?_
  intro p e s m below meth c Q ls hB hP hl hret
  obtain ⟨hx, hb, hml, hown, hg, hK0, hnm⟩ := hB
  have hown : s.vm.findClass "ShareGrid" = some m.cls := hown
  have hK := hK0.1
  have hN := hK0.2.1
  obtain ⟨hz1, hz4, hzn, hz7⟩ := id hz
  obtain ⟨hq, hq6, hwr, hbo⟩ := id hI
  have hl : lv_has ls 2 [(0, .ref (ad 0 0 0)), (1, .int x)] := hl
  refine lv_iload_n hx hb d_G_count_0 rfl (lv_at hl 1 rfl) ?_
  by_cases s0 : x = 0
  · refine lv_tableIn (off := 31) (tgt := 32) hx hb d_G_count_1 (by rw [s0]; decide) (by rw [s0]; decide) (by rw [s0]; rfl) (by decide) ?_
    refine lv_aload_n hx hb d_G_count_32 rfl (lv_at hl 0 rfl) ?_
    refine x_get (v := .int (g 0 0 0 0)) (C := R_G) (T := F_G) (N := 12) hx hb hg i_G hown hK hP (ga_0 hG) rfl 10 (by decide) (hg _ w_120) (fun _ h9 => h9) rfl d_G_count_33 ?_
    exact hret _ _ _ d_G_count_36 (by simp [aCount, s0])
  · by_cases s1 : x = 1
    · refine lv_tableIn (off := 36) (tgt := 37) hx hb d_G_count_1 (by rw [s1]; decide) (by rw [s1]; decide) (by rw [s1]; rfl) (by decide) ?_
      refine lv_aload_n hx hb d_G_count_37 rfl (lv_at hl 0 rfl) ?_
      refine xv_R (n := 0) (As := []) (rest := []) hx hb hml hown hg hK0 hP (c_G_serversUp l D T A _ ad K N g hz hG) w_185 w_1 w_182 w_184 s_2 (ga_0 hG) rfl rfl (by decide +kernel) ⟨Nat.le_of_ble_eq_true rfl, Nat.le_of_ble_eq_true rfl⟩ rfl hl.1 rfl (Nat.le_of_ble_eq_true rfl) ⟨Nat.zero_le _, Nat.zero_le _⟩ rfl rfl d_G_count_38 (fun r hr => ?_)
      subst hr
      refine x_fr (pc := 41) [.int (nI (cuF (g 1 0 0) N))] rfl rfl ?_
      exact hret _ _ _ d_G_count_41 (by simp [aCount, s0, s1])
    · by_cases s2 : x = 2
      · refine lv_tableIn (off := 41) (tgt := 42) hx hb d_G_count_1 (by rw [s2]; decide) (by rw [s2]; decide) (by rw [s2]; rfl) (by decide) ?_
        refine lv_aload_n hx hb d_G_count_42 rfl (lv_at hl 0 rfl) ?_
        refine x_get (v := .int (nI K)) (C := R_G) (T := F_G) (N := 12) hx hb hg i_G hown hK hP (ga_0 hG) rfl 0 (by decide) (hg _ w_110) (fun _ h9 => h9) rfl d_G_count_43 ?_
        exact hret _ _ _ d_G_count_46 (by simp [aCount, s0, s1, s2])
      · by_cases s3 : x = 3
        · refine lv_tableIn (off := 46) (tgt := 47) hx hb d_G_count_1 (by rw [s3]; decide) (by rw [s3]; decide) (by rw [s3]; rfl) (by decide) ?_
          refine lv_aload_n hx hb d_G_count_47 rfl (lv_at hl 0 rfl) ?_
          refine x_get (v := .int (nI N)) (C := R_G) (T := F_G) (N := 12) hx hb hg i_G hown hK hP (ga_0 hG) rfl 1 (by decide) (hg _ w_111) (fun _ h9 => h9) rfl d_G_count_48 ?_
          exact hret _ _ _ d_G_count_51 (by simp [aCount, s0, s1, s2, s3])
        · have hout : (x).toInt < 0 ∨ 3 < (x).toInt := by
            have q0 := lv_neT s0 (a := 0) (by decide)
            have q1 := lv_neT s1 (a := 1) (by decide)
            have q2 := lv_neT s2 (a := 2) (by decide)
            have q3 := lv_neT s3 (a := 3) (by decide)
            omega
          refine lv_tableOut (tgt := 52) hx hb d_G_count_1 hout (by decide) ?_
          refine lv_aload_n hx hb d_G_count_52 rfl (lv_at hl 0 rfl) ?_
          refine lv_iload_n hx hb d_G_count_53 rfl (lv_at hl 1 rfl) ?_
          refine lv_bipush (v := 10) hx hb d_G_count_54 (by decide) ?_
          refine lv_isub hx hb d_G_count_56 ?_
          refine xv_R (n := 1) (As := [.int (x - 10)]) (rest := []) hx hb hml hown hg hK0 hP (c_G_greatestNumber l D T A _ ad K N g hz hG q hq hq6 (x - 10)) w_344 w_1 w_341 w_343 s_19 (ga_0 hG) rfl rfl (by decide +kernel) ⟨Nat.le_of_ble_eq_true rfl, Nat.le_of_ble_eq_true rfl⟩ rfl hl.1 rfl (Nat.le_of_ble_eq_true rfl) ⟨Nat.zero_le _, Nat.zero_le _⟩ rfl rfl d_G_count_57 (fun r hr => ?_)
          subst hr
          refine x_fr (pc := 60) [.int (gnF g q (x - 10))] rfl rfl ?_
          exact hret _ _ _ d_G_count_60 (by simp [aCount, s0, s1, s2, s3])
set_option maxHeartbeats 4000000 in
set_option maxRecDepth 100000 in
theorem c_G_share (l : Launch) (D : va_G) (T : Nat → ClassId) (A : Nat → Prop) (M : xM) (ad : Nat → Nat → Nat → Nat) (K N : Nat) (g : gT) (hz : zB K N) (hG : gG T ad K N g M) (q : Nat) (w : Nat → Nat) (hI : iG N g q w) (x y z : Int32) : Met l y_G_share (Cond.code y_G_share b_G_share 5 (some .long) :: gw) (rmH 1) (xPc D T A M [.ref (ad 0 0 0), .int x, .int y, .int z]) (xR (fun r => r = some (.long (aShare N g x y z)))) 0 0 (fun _ => False) := by
  refine xMetRl (by decide) (Nat.le_of_ble_eq_true rfl) ?_
  intro p e s m below meth c Q ls hB hP hl hret
  obtain ⟨hx, hb, hml, hown, hg, hK0, hnm⟩ := hB
  have hown : s.vm.findClass "ShareGrid" = some m.cls := hown
  have hK := hK0.1
  have hN := hK0.2.1
  obtain ⟨hz1, hz4, hzn, hz7⟩ := id hz
  obtain ⟨hq, hq6, hwr, hbo⟩ := id hI
  have hl : lv_has ls 5 [(0, .ref (ad 0 0 0)), (1, .int x), (2, .int y), (3, .int z)] := hl
  refine lv_aload_n hx hb d_G_share_0 rfl (lv_at hl 0 rfl) ?_
  refine lv_iload_n hx hb d_G_share_1 rfl (lv_at hl 1 rfl) ?_
  refine xv_R (n := 1) (As := [.int x]) (rest := []) hx hb hml hown hg hK0 hP (c_G_isFile l D T A _ ad K N g hz hG x) w_313 w_1 w_310 w_312 s_18 (ga_0 hG) rfl rfl (by decide +kernel) ⟨Nat.le_of_ble_eq_true rfl, Nat.le_of_ble_eq_true rfl⟩ rfl hl.1 rfl (Nat.le_of_ble_eq_true rfl) ⟨Nat.zero_le _, Nat.zero_le _⟩ rfl rfl d_G_share_2 (fun r hr => ?_)
  subst hr
  refine x_fr (pc := 5) [.int (inF x (g 0 0 0 0))] rfl rfl ?_
  refine lv_if_eq (tgt := 33) hx hb d_G_share_5 (by decide) (fun c_5 => ?_) (fun c_5 => ?_)
  · refine lv_ldc2 (v := (-1000000000000)) hx hb hown (hg _ w_285) d_G_share_33 ?_
    exact hret _ _ _ d_G_share_36 (by simp [aShare, c_5])
  · refine lv_aload_n hx hb d_G_share_8 rfl (lv_at hl 0 rfl) ?_
    refine lv_iload_n hx hb d_G_share_9 rfl (lv_at hl 2 rfl) ?_
    refine xv_R (n := 1) (As := [.int y]) (rest := []) hx hb hml hown hg hK0 hP (c_G_isPlace l D T A _ ad K N g hz hG y) w_305 w_1 w_302 w_304 s_17 (ga_0 hG) rfl rfl (by decide +kernel) ⟨Nat.le_of_ble_eq_true rfl, Nat.le_of_ble_eq_true rfl⟩ rfl hl.1 rfl (Nat.le_of_ble_eq_true rfl) ⟨Nat.zero_le _, Nat.zero_le _⟩ rfl rfl d_G_share_10 (fun r hr => ?_)
    subst hr
    refine x_fr (pc := 13) [.int (inF y (nI N))] rfl rfl ?_
    refine lv_if_eq (tgt := 33) hx hb d_G_share_13 (by decide) (fun c_13 => ?_) (fun c_13 => ?_)
    · refine lv_ldc2 (v := (-1000000000000)) hx hb hown (hg _ w_285) d_G_share_33 ?_
      exact hret _ _ _ d_G_share_36 (by simp [aShare, c_5, c_13])
    · have c6 := c_5
      have c7 := c_13
      have c8 := c6
      rw [hq] at c8
      obtain ⟨f, hf, rfl⟩ := inF_j (by omega) c8
      obtain ⟨i, hi, rfl⟩ := inF_j (by omega) c7
      have ef : (nI f).toNatClampNeg = f := nI_clamp (by omega)
      have ei : (nI i).toNatClampNeg = i := nI_clamp (by omega)
      refine lv_aload_n hx hb d_G_share_16 rfl (lv_at hl 0 rfl) ?_
      refine x_get (v := .ref (ad 3 0 0)) (C := R_G) (T := F_G) (N := 12) hx hb hg i_G hown hK hP (ga_0 hG) rfl 4 (by decide) (hg _ w_114) (fun _ h9 => h9) rfl d_G_share_17 ?_
      refine lv_iload_n hx hb d_G_share_20 rfl (lv_at hl 1 rfl) ?_
      refine x_aldq (v := .ref (ad 12 f 0)) hx hb hK hP 3 (ga_3 hG) rfl (vp_in_nI (by omega) (by omega)) (by rw [nI_clamp (by omega)]; rfl) d_G_share_21 ?_
      refine x_getN (v := .ref (ad 13 f 0)) (C := R_F) (T := F_F) (N := 6) hx hb hg i_F hown hK hP (ga_12 hG (show f < 6 by omega)) rfl 0 (by decide) (va_Nw.use rfl (hN _ e_69)) (fun _ h9 => h9) rfl d_G_share_22 ?_
      refine lv_iload_n hx hb d_G_share_25 rfl (lv_at hl 2 rfl) ?_
      refine x_aldq (v := .ref (ad 17 f i)) hx hb hK hP 2 (ga_13 hG (show f < 6 by omega)) rfl (vp_in_nI (by omega) (by omega)) (by rw [nI_clamp (by omega)]; rfl) d_G_share_26 ?_
      refine x_getN (v := .int (g 17 f i 0)) (C := R_R) (T := F_R) (N := 5) hx hb hg i_R hown hK hP (ga_17 hG (show f < 6 by omega) (show i < N by omega)) rfl 1 (by decide) (va_Nw.use rfl (hN _ e_45)) (fun _ h9 => h9) rfl d_G_share_27 ?_
      refine lv_if_ne (tgt := 37) hx hb d_G_share_30 (by decide) (fun c_30 => ?_) (fun c_30 => ?_)
      · refine lv_aload_n hx hb d_G_share_37 rfl (lv_at hl 0 rfl) ?_
        refine x_get (v := .ref (ad 3 0 0)) (C := R_G) (T := F_G) (N := 12) hx hb hg i_G hown hK hP (ga_0 hG) rfl 4 (by decide) (hg _ w_114) (fun _ h9 => h9) rfl d_G_share_38 ?_
        refine lv_iload_n hx hb d_G_share_41 rfl (lv_at hl 1 rfl) ?_
        refine x_aldq (v := .ref (ad 12 f 0)) hx hb hK hP 3 (ga_3 hG) rfl (vp_in_nI (by omega) (by omega)) (by rw [nI_clamp (by omega)]; rfl) d_G_share_42 ?_
        refine x_getN (v := .ref (ad 13 f 0)) (C := R_F) (T := F_F) (N := 6) hx hb hg i_F hown hK hP (ga_12 hG (show f < 6 by omega)) rfl 0 (by decide) (va_Nw.use rfl (hN _ e_69)) (fun _ h9 => h9) rfl d_G_share_43 ?_
        refine lv_iload_n hx hb d_G_share_46 rfl (lv_at hl 2 rfl) ?_
        refine x_aldq (v := .ref (ad 17 f i)) hx hb hK hP 2 (ga_13 hG (show f < 6 by omega)) rfl (vp_in_nI (by omega) (by omega)) (by rw [nI_clamp (by omega)]; rfl) d_G_share_47 ?_
        refine lv_astore (lv' := [(4, .ref (ad 17 f i)), (0, .ref (ad 0 0 0)), (1, .int (nI f)), (2, .int (nI i)), (3, .int z)]) hx hb d_G_share_48 hl (by decide) rfl (fun ls hl => ?_)
        refine lv_iload_n hx hb d_G_share_50 rfl (lv_at hl 4 rfl) ?_
        by_cases s0 : z = 0
        · refine lv_tableIn (off := 25) (tgt := 76) hx hb d_G_share_51 (by rw [s0]; decide) (by rw [s0]; decide) (by rw [s0]; rfl) (by decide) ?_
          refine lv_aload hx hb d_G_share_76 (lv_at hl 0 rfl) ?_
          refine x_getN (v := .int (g 17 f i 1)) (C := R_R) (T := F_R) (N := 5) hx hb hg i_R hown hK hP (ga_17 hG (show f < 6 by omega) (show i < N by omega)) rfl 2 (by decide) (va_Nw.use rfl (hN _ e_48)) (fun _ h9 => h9) rfl d_G_share_78 ?_
          refine lv_i2l (v := (g 17 f i 1).toInt64) hx hb d_G_share_81 rfl ?_
          exact hret _ _ _ d_G_share_82 (by simp [aShare, c_5, c_13, c_30, s0, ef, ei])
        · by_cases s1 : z = 1
          · refine lv_tableIn (off := 32) (tgt := 83) hx hb d_G_share_51 (by rw [s1]; decide) (by rw [s1]; decide) (by rw [s1]; rfl) (by decide) ?_
            refine lv_aload hx hb d_G_share_83 (lv_at hl 0 rfl) ?_
            refine x_getN (v := .int (g 17 f i 2)) (C := R_R) (T := F_R) (N := 5) hx hb hg i_R hown hK hP (ga_17 hG (show f < 6 by omega) (show i < N by omega)) rfl 3 (by decide) (va_Nw.use rfl (hN _ e_51)) (fun _ h9 => h9) rfl d_G_share_85 ?_
            refine lv_i2l (v := (g 17 f i 2).toInt64) hx hb d_G_share_88 rfl ?_
            exact hret _ _ _ d_G_share_89 (by simp [aShare, c_5, c_13, c_30, s0, s1, ef, ei])
          · by_cases s2 : z = 2
            · refine lv_tableIn (off := 39) (tgt := 90) hx hb d_G_share_51 (by rw [s2]; decide) (by rw [s2]; decide) (by rw [s2]; rfl) (by decide) ?_
              refine lv_aload hx hb d_G_share_90 (lv_at hl 0 rfl) ?_
              refine x_getN (v := .int (g 17 f i 3)) (C := R_R) (T := F_R) (N := 5) hx hb hg i_R hown hK hP (ga_17 hG (show f < 6 by omega) (show i < N by omega)) rfl 4 (by decide) (va_Nw.use rfl (hN _ e_54)) (fun _ h9 => h9) rfl d_G_share_92 ?_
              refine lv_i2l (v := (g 17 f i 3).toInt64) hx hb d_G_share_95 rfl ?_
              exact hret _ _ _ d_G_share_96 (by simp [aShare, c_5, c_13, c_30, s0, s1, s2, ef, ei])
            · have hout : (z).toInt < 0 ∨ 2 < (z).toInt := by
                have q0 := lv_neT s0 (a := 0) (by decide)
                have q1 := lv_neT s1 (a := 1) (by decide)
                have q2 := lv_neT s2 (a := 2) (by decide)
                omega
              refine lv_tableOut (tgt := 97) hx hb d_G_share_51 hout (by decide) ?_
              refine lv_ldc2 (v := (-1000000000000)) hx hb hown (hg _ w_285) d_G_share_97 ?_
              exact hret _ _ _ d_G_share_100 (by simp [aShare, c_5, c_13, c_30, s0, s1, s2, ef, ei])
      · refine lv_ldc2 (v := (-1000000000000)) hx hb hown (hg _ w_285) d_G_share_33 ?_
        exact hret _ _ _ d_G_share_36 (by simp [aShare, c_5, c_13, c_30, ef, ei])
set_option maxHeartbeats 4000000 in
set_option maxRecDepth 100000 in
theorem c_G_sound (l : Launch) (D : va_G) (T : Nat → ClassId) (A : Nat → Prop) (M : xM) (ad : Nat → Nat → Nat → Nat) (K N : Nat) (g : gT) (hz : zB K N) (hG : gG T ad K N g M) (q : Nat) (w : Nat → Nat) (hI : iG N g q w) (x : Int32) : Met l y_G_sound (Cond.code y_G_sound b_G_sound 5 (some .int) :: gw) (rmH 3) (xPc D T A M [.ref (ad 0 0 0), .int x]) (xR (fun r => r = some (.int (aSound N g q x)))) 0 0 (fun _ => False) := by
  refine xMetRi (by decide) (Nat.le_of_ble_eq_true rfl) ?_
  intro p e s m below meth c Q ls hB hP hl hret
  obtain ⟨hx, hb, hml, hown, hg, hK0, hnm⟩ := hB
  have hown : s.vm.findClass "ShareGrid" = some m.cls := hown
  have hK := hK0.1
  have hN := hK0.2.1
  obtain ⟨hz1, hz4, hzn, hz7⟩ := id hz
  obtain ⟨hq, hq6, hwr, hbo⟩ := id hI
  have hl : lv_has ls 5 [(0, .ref (ad 0 0 0)), (1, .int x)] := hl
  refine lv_aload_n hx hb d_G_sound_0 rfl (lv_at hl 0 rfl) ?_
  refine lv_iload_n hx hb d_G_sound_1 rfl (lv_at hl 1 rfl) ?_
  refine xv_R (n := 1) (As := [.int x]) (rest := []) hx hb hml hown hg hK0 hP (c_G_fileUnder l D T A _ ad K N g hz hG q hq hq6 x) w_169 w_1 w_166 w_168 s_0 (ga_0 hG) rfl rfl (by decide +kernel) ⟨Nat.le_of_ble_eq_true rfl, Nat.le_of_ble_eq_true rfl⟩ rfl hl.1 rfl (Nat.le_of_ble_eq_true rfl) ⟨Nat.zero_le _, Nat.zero_le _⟩ rfl rfl d_G_sound_2 (fun r hr => ?_)
  subst hr
  refine x_fr (pc := 5) [.int (fdF (fun f => g 12 f 0 0) x 0 q)] rfl rfl ?_
  refine lv_istore_n (lv' := [(2, .int (fdF (fun f => g 12 f 0 0) x 0 q)), (0, .ref (ad 0 0 0)), (1, .int x)]) hx hb d_G_sound_5 rfl hl (by decide) rfl (fun ls hl => ?_)
  refine lv_iload_n hx hb d_G_sound_6 rfl (lv_at hl 0 rfl) ?_
  refine lv_if_ge (tgt := 12) hx hb d_G_sound_7 (by decide) (fun c7 => ?_) (fun c7 => ?_)
  · have c7 : 0 ≤ fuF g q x := c7
    obtain ⟨f, hf, hfe⟩ := fuF_ge (g := g) (q := q) (x := x) c7
    have hfe2 : (fdF (fun f => g 12 f 0 0) x 0 q) = nI f := hfe
    rw [hfe2] at hl
    have ef : (fuF g q x).toNatClampNeg = f := by rw [hfe, nI_clamp (by omega)]
    refine lv_iconst (v := nI 0) hx hb d_G_sound_12 (by decide) ?_
    refine lv_istore_n (lv' := [(3, .int (nI 0)), (2, .int (nI f)), (0, .ref (ad 0 0 0)), (1, .int x)]) hx hb d_G_sound_13 rfl hl (by decide) rfl (fun ls hl => ?_)
    refine lv_iconst (v := nI 0) hx hb d_G_sound_14 (by decide) ?_
    refine lv_istore (lv' := [(4, .int (nI 0)), (3, .int (nI 0)), (2, .int (nI f)), (0, .ref (ad 0 0 0)), (1, .int x)]) hx hb d_G_sound_15 hl (by decide) rfl (fun ls hl => ?_)
    have loop : ∀ (n : Nat) (i : Nat), N + 1 ≤ i + n → i ≤ N → ∀ (ls : Array Slot), lv_has ls 5 [(0, .ref (ad 0 0 0)), (1, .int x), (2, .int (nI f)), (3, .int (nI (cuF (spF N g f) i))), (4, .int (nI i))] → W p l e (rmH 3) s m [.ref (ad 0 0 0), .int x].toArray below meth c s.heap [] 0 0 Q (F0 m 17 ls []) := by
      intro n
      induction n with
      | zero =>
        intro i h2 h1
        exact absurd h2 (by omega)
      | succ n ih =>
        intro i h2 h1 ls hl
        refine lv_iload hx hb d_G_sound_17 (lv_at hl 4 rfl) ?_
        refine lv_aload_n hx hb d_G_sound_19 rfl (lv_at hl 0 rfl) ?_
        refine x_get (v := .int (nI N)) (C := R_G) (T := F_G) (N := 12) hx hb hg i_G hown hK hP (ga_0 hG) rfl 1 (by decide) (hg _ w_111) (fun _ h9 => h9) rfl d_G_sound_20 ?_
        refine x_nc_ge (tgt := 59) hx hb d_G_sound_23 (by decide) (by omega) (by omega) (fun c1 => ?_) (fun c1 => ?_)
        · have hiN : i = N := by omega
          subst hiN
          refine lv_iload_n hx hb d_G_sound_59 rfl (lv_at hl 3 rfl) ?_
          exact hret _ _ _ d_G_sound_60 (by rw [aSound, if_pos c7, ef])
        · refine lv_aload_n hx hb d_G_sound_26 rfl (lv_at hl 0 rfl) ?_
          refine x_get (v := .ref (ad 1 0 0)) (C := R_G) (T := F_G) (N := 12) hx hb hg i_G hown hK hP (ga_0 hG) rfl 2 (by decide) (hg _ w_112) (fun _ h9 => h9) rfl d_G_sound_27 ?_
          refine lv_iload hx hb d_G_sound_30 (lv_at hl 4 rfl) ?_
          refine x_zald (v := g 1 0 0 i) hx hb hK hP 1 (ga_1 hG) rfl (vp_in_nI (by omega) (by omega)) (by rw [nI_clamp (by omega)]) d_G_sound_32 ?_
          refine lv_if_eq (tgt := 53) hx hb d_G_sound_33 (by decide) (fun c2 => ?_) (fun c2 => ?_)
          · have ecu : cuF (spF N g f) (i + 1) = cuF (spF N g f) i := by rw [cuF, if_pos (by rw [spF, if_pos c2])]
            refine lv_iinc (v := nI (i + 1)) (lv' := [(4, .int (nI (i + 1))), (0, .ref (ad 0 0 0)), (1, .int x), (2, .int (nI f)), (3, .int (nI (cuF (spF N g f) i)))]) hx hb d_G_sound_53 hl (k := 4) rfl (nI_1 _) (by decide) rfl (fun ls hl => ?_)
            refine lv_goto (tgt := 17) hx hb d_G_sound_56 (by decide) ?_
            exact ih (i + 1) (by omega) (by omega) ls (by rw [ecu]; exact (lv_sub hl [1, 2, 3, 4, 0] rfl))
          · refine lv_aload_n hx hb d_G_sound_36 rfl (lv_at hl 0 rfl) ?_
            refine x_get (v := .ref (ad 3 0 0)) (C := R_G) (T := F_G) (N := 12) hx hb hg i_G hown hK hP (ga_0 hG) rfl 4 (by decide) (hg _ w_114) (fun _ h9 => h9) rfl d_G_sound_37 ?_
            refine lv_iload_n hx hb d_G_sound_40 rfl (lv_at hl 2 rfl) ?_
            refine x_aldq (v := .ref (ad 12 f 0)) hx hb hK hP 3 (ga_3 hG) rfl (vp_in_nI (by omega) (by omega)) (by rw [nI_clamp (by omega)]; rfl) d_G_sound_41 ?_
            refine lv_iload hx hb d_G_sound_42 (lv_at hl 4 rfl) ?_
            refine xvn_R (n := 1) (As := [.int (nI i)]) (rest := []) hx hb hml hown hg hK0 hP hN (c_F_isSoundAt l D T A _ ad K N g hz hG f i (w f) (by omega) (by omega) (hwr f (by omega)).1 (hwr f (by omega)).2) w_249 w_3 e_246 w_248 s_11 (ga_12 hG (show f < 6 by omega)) rfl rfl (by decide +kernel) ⟨Nat.le_of_ble_eq_true rfl, Nat.le_of_ble_eq_true rfl⟩ rfl hl.1 rfl (Nat.le_of_ble_eq_true rfl) ⟨Nat.zero_le _, Nat.zero_le _⟩ rfl rfl d_G_sound_44 (fun r hr => ?_)
            subst hr
            refine x_fr (pc := 47) [.int (sdG N g f i)] rfl rfl ?_
            refine lv_if_eq (tgt := 53) hx hb d_G_sound_47 (by decide) (fun c3 => ?_) (fun c3 => ?_)
            · have ecu : cuF (spF N g f) (i + 1) = cuF (spF N g f) i := by rw [cuF, if_pos (by rw [spF, if_neg c2]; exact c3)]
              refine lv_iinc (v := nI (i + 1)) (lv' := [(4, .int (nI (i + 1))), (0, .ref (ad 0 0 0)), (1, .int x), (2, .int (nI f)), (3, .int (nI (cuF (spF N g f) i)))]) hx hb d_G_sound_53 hl (k := 4) rfl (nI_1 _) (by decide) rfl (fun ls hl => ?_)
              refine lv_goto (tgt := 17) hx hb d_G_sound_56 (by decide) ?_
              exact ih (i + 1) (by omega) (by omega) ls (by rw [ecu]; exact (lv_sub hl [1, 2, 3, 4, 0] rfl))
            · have ecu : cuF (spF N g f) (i + 1) = cuF (spF N g f) i + 1 := by rw [cuF, if_neg (by rw [spF, if_neg c2]; exact c3)]
              refine lv_iinc (v := nI ((cuF (spF N g f) i) + 1)) (lv' := [(3, .int (nI ((cuF (spF N g f) i) + 1))), (0, .ref (ad 0 0 0)), (1, .int x), (2, .int (nI f)), (4, .int (nI i))]) hx hb d_G_sound_50 hl (k := 3) rfl (nI_1 _) (by decide) rfl (fun ls hl => ?_)
              refine lv_iinc (v := nI (i + 1)) (lv' := [(4, .int (nI (i + 1))), (3, .int (nI ((cuF (spF N g f) i) + 1))), (0, .ref (ad 0 0 0)), (1, .int x), (2, .int (nI f))]) hx hb d_G_sound_53 hl (k := 4) rfl (nI_1 _) (by decide) rfl (fun ls hl => ?_)
              refine lv_goto (tgt := 17) hx hb d_G_sound_56 (by decide) ?_
              exact ih (i + 1) (by omega) (by omega) ls (by rw [ecu]; exact (lv_sub hl [2, 3, 4, 1, 0] rfl))
    exact loop (N + 1) 0 (by omega) (by omega) ls (lv_sub hl [3, 4, 2, 1, 0] rfl)
  · have c7 : ¬ 0 ≤ fuF g q x := c7
    refine lv_iconst (v := (-1)) hx hb d_G_sound_10 (by decide) ?_
    exact hret _ _ _ d_G_sound_11 (by rw [aSound, if_neg c7])
set_option maxHeartbeats 4000000 in
set_option maxRecDepth 100000 in
theorem c_G_picture (l : Launch) (D : va_G) (T : Nat → ClassId) (A : Nat → Prop) (M : xM) (ad : Nat → Nat → Nat → Nat) (K N : Nat) (g : gT) (hz : zB K N) (hG : gG T ad K N g M) (q : Nat) (w : Nat → Nat) (hI : iG N g q w) (x y : Int32) : Met l y_G_picture (Cond.code y_G_picture b_G_picture 3 (some .int) :: gw) (rmH 2) (xPc D T A M [.ref (ad 0 0 0), .int x, .int y]) (xQ D A (fun r M1 => pA T ad K N M (aPicture N g x y) r M1)) 0 0 A := by
  refine xMetQi (by decide) (Nat.le_of_ble_eq_true rfl) ?_
  intro p e s m below meth c Q ls hB hP hS hl hret
  obtain ⟨hx, hb, hml, hown, hg, hK0, hnm⟩ := hB
  have hown : s.vm.findClass "ShareGrid" = some m.cls := hown
  have hK := hK0.1
  have hN := hK0.2.1
  obtain ⟨hz1, hz4, hzn, hz7⟩ := id hz
  have hR := hG.rf
  obtain ⟨hq, hq6, hwr, hbo⟩ := id hI
  have hl : lv_has ls 3 [(0, .ref (ad 0 0 0)), (1, .int x), (2, .int y)] := hl
  refine lv_aload_n hx hb d_G_picture_0 rfl (lv_at hl 0 rfl) ?_
  refine lv_iload_n hx hb d_G_picture_1 rfl (lv_at hl 1 rfl) ?_
  refine xv_R (n := 1) (As := [.int x]) (rest := []) hx hb hml hown hg hK0 hP (c_G_isFile l D T A _ ad K N g hz hG x) w_313 w_1 w_310 w_312 s_18 (ga_0 hG) rfl rfl (by decide +kernel) ⟨Nat.le_of_ble_eq_true rfl, Nat.le_of_ble_eq_true rfl⟩ rfl hl.1 rfl (Nat.le_of_ble_eq_true rfl) ⟨Nat.zero_le _, Nat.zero_le _⟩ rfl rfl d_G_picture_2 (fun r hr => ?_)
  subst hr
  refine x_fr (pc := 5) [.int (inF x (g 0 0 0 0))] rfl rfl ?_
  refine lv_if_eq (tgt := 33) hx hb d_G_picture_5 (by decide) (fun c_5 => ?_) (fun c_5 => ?_)
  · refine lv_iconst (v := (-1)) hx hb d_G_picture_33 (by decide) ?_
    exact hret _ _ _ _ _ _ d_G_picture_34 hP hS (by simp only [aPicture, c_5, if_true, if_false, ite_true, ite_false, not_true_eq_false, not_false_eq_true, reduceIte]; exact ⟨rfl, hR⟩)
  · refine lv_aload_n hx hb d_G_picture_8 rfl (lv_at hl 0 rfl) ?_
    refine lv_iload_n hx hb d_G_picture_9 rfl (lv_at hl 2 rfl) ?_
    refine xv_R (n := 1) (As := [.int y]) (rest := []) hx hb hml hown hg hK0 hP (c_G_isPlace l D T A _ ad K N g hz hG y) w_305 w_1 w_302 w_304 s_17 (ga_0 hG) rfl rfl (by decide +kernel) ⟨Nat.le_of_ble_eq_true rfl, Nat.le_of_ble_eq_true rfl⟩ rfl hl.1 rfl (Nat.le_of_ble_eq_true rfl) ⟨Nat.zero_le _, Nat.zero_le _⟩ rfl rfl d_G_picture_10 (fun r hr => ?_)
    subst hr
    refine x_fr (pc := 13) [.int (inF y (nI N))] rfl rfl ?_
    refine lv_if_eq (tgt := 33) hx hb d_G_picture_13 (by decide) (fun c_13 => ?_) (fun c_13 => ?_)
    · refine lv_iconst (v := (-1)) hx hb d_G_picture_33 (by decide) ?_
      exact hret _ _ _ _ _ _ d_G_picture_34 hP hS (by simp only [aPicture, c_5, c_13, if_true, if_false, ite_true, ite_false, not_true_eq_false, not_false_eq_true, reduceIte]; exact ⟨rfl, hR⟩)
    · have c6 := c_5
      have c7 := c_13
      have c8 := c6
      rw [hq] at c8
      obtain ⟨f, hf, rfl⟩ := inF_j (by omega) c8
      obtain ⟨i, hi, rfl⟩ := inF_j (by omega) c7
      have ef : (nI f).toNatClampNeg = f := nI_clamp (by omega)
      have ei : (nI i).toNatClampNeg = i := nI_clamp (by omega)
      refine lv_aload_n hx hb d_G_picture_16 rfl (lv_at hl 0 rfl) ?_
      refine x_get (v := .ref (ad 3 0 0)) (C := R_G) (T := F_G) (N := 12) hx hb hg i_G hown hK hP (ga_0 hG) rfl 4 (by decide) (hg _ w_114) (fun _ h9 => h9) rfl d_G_picture_17 ?_
      refine lv_iload_n hx hb d_G_picture_20 rfl (lv_at hl 1 rfl) ?_
      refine x_aldq (v := .ref (ad 12 f 0)) hx hb hK hP 3 (ga_3 hG) rfl (vp_in_nI (by omega) (by omega)) (by rw [nI_clamp (by omega)]; rfl) d_G_picture_21 ?_
      refine x_getN (v := .ref (ad 13 f 0)) (C := R_F) (T := F_F) (N := 6) hx hb hg i_F hown hK hP (ga_12 hG (show f < 6 by omega)) rfl 0 (by decide) (va_Nw.use rfl (hN _ e_69)) (fun _ h9 => h9) rfl d_G_picture_22 ?_
      refine lv_iload_n hx hb d_G_picture_25 rfl (lv_at hl 2 rfl) ?_
      refine x_aldq (v := .ref (ad 17 f i)) hx hb hK hP 2 (ga_13 hG (show f < 6 by omega)) rfl (vp_in_nI (by omega) (by omega)) (by rw [nI_clamp (by omega)]; rfl) d_G_picture_26 ?_
      refine x_getN (v := .int (g 17 f i 0)) (C := R_R) (T := F_R) (N := 5) hx hb hg i_R hown hK hP (ga_17 hG (show f < 6 by omega) (show i < N by omega)) rfl 1 (by decide) (va_Nw.use rfl (hN _ e_45)) (fun _ h9 => h9) rfl d_G_picture_27 ?_
      refine lv_if_ne (tgt := 35) hx hb d_G_picture_30 (by decide) (fun c_30 => ?_) (fun c_30 => ?_)
      · refine lv_aload_n hx hb d_G_picture_35 rfl (lv_at hl 0 rfl) ?_
        refine x_get (v := .ref (ad 3 0 0)) (C := R_G) (T := F_G) (N := 12) hx hb hg i_G hown hK hP (ga_0 hG) rfl 4 (by decide) (hg _ w_114) (fun _ h9 => h9) rfl d_G_picture_36 ?_
        refine lv_iload_n hx hb d_G_picture_39 rfl (lv_at hl 1 rfl) ?_
        refine x_aldq (v := .ref (ad 12 f 0)) hx hb hK hP 3 (ga_3 hG) rfl (vp_in_nI (by omega) (by omega)) (by rw [nI_clamp (by omega)]; rfl) d_G_picture_40 ?_
        refine x_getN (v := .ref (ad 14 f 0)) (C := R_F) (T := F_F) (N := 6) hx hb hg i_F hown hK hP (ga_12 hG (show f < 6 by omega)) rfl 1 (by decide) (va_Nw.use rfl (hN _ e_71)) (fun _ h9 => h9) rfl d_G_picture_41 ?_
        refine lv_iload_n hx hb d_G_picture_44 rfl (lv_at hl 2 rfl) ?_
        refine x_aldq (v := .ref (ad 19 f i)) hx hb hK hP 2 (ga_14 hG (show f < 6 by omega)) rfl (vp_in_nI (by omega) (by omega)) (by rw [nI_clamp (by omega)]; rfl) d_G_picture_45 ?_
        refine lv_aload_n hx hb d_G_picture_46 rfl (lv_at hl 0 rfl) ?_
        refine x_get (v := .ref (ad 3 0 0)) (C := R_G) (T := F_G) (N := 12) hx hb hg i_G hown hK hP (ga_0 hG) rfl 4 (by decide) (hg _ w_114) (fun _ h9 => h9) rfl d_G_picture_47 ?_
        refine lv_iload_n hx hb d_G_picture_50 rfl (lv_at hl 1 rfl) ?_
        refine x_aldq (v := .ref (ad 12 f 0)) hx hb hK hP 3 (ga_3 hG) rfl (vp_in_nI (by omega) (by omega)) (by rw [nI_clamp (by omega)]; rfl) d_G_picture_51 ?_
        refine x_getN (v := .ref (ad 13 f 0)) (C := R_F) (T := F_F) (N := 6) hx hb hg i_F hown hK hP (ga_12 hG (show f < 6 by omega)) rfl 0 (by decide) (va_Nw.use rfl (hN _ e_69)) (fun _ h9 => h9) rfl d_G_picture_52 ?_
        refine lv_iload_n hx hb d_G_picture_55 rfl (lv_at hl 2 rfl) ?_
        refine x_aldq (v := .ref (ad 17 f i)) hx hb hK hP 2 (ga_13 hG (show f < 6 by omega)) rfl (vp_in_nI (by omega) (by omega)) (by rw [nI_clamp (by omega)]; rfl) d_G_picture_56 ?_
        refine xvn_Q (n := 1) (As := [.ref (ad 17 f i)]) (rest := []) hx hb hml hown hg hK0 hP hN (c_R_copyFrom l D T A _ (ad 19 f i) (ad 17 f i) (ad 20 f i) (ad 18 f i) N (g 18 f i) (g 20 f i) (g 17 f i 0) (g 17 f i 1) (g 17 f i 2) (g 17 f i 3) (g 19 f i 0) (g 19 f i 1) (g 19 f i 2) (g 19 f i 3) (by omega) (hbo f i (by omega) (by omega)).1 (ga_19 hG (show f < 6 by omega) (show i < N by omega)) (ga_17 hG (show f < 6 by omega) (show i < N by omega)) (ga_20 hG (show f < 6 by omega) (show i < N by omega)) (ga_18 hG (show f < 6 by omega) (show i < N by omega)) (hG.ne (Or.inr (Or.inr ⟨by omega, by omega, by omega, by omega⟩)) (Or.inr (Or.inr ⟨by omega, by omega, by omega, by omega⟩)) (by omega))) w_231 w_4 e_228 w_230 s_9 (ga_19 hG (show f < 6 by omega) (show i < N by omega)) rfl rfl (by decide +kernel) ⟨Nat.le_of_ble_eq_true rfl, Nat.le_of_ble_eq_true rfl⟩ rfl hl.1 rfl (Nat.le_of_ble_eq_true rfl) hS ⟨Nat.zero_le _, Nat.zero_le _⟩ rfl rfl d_G_picture_57 (fun r M1 H_33 L_34 hr hP hS => ?_)
        obtain ⟨rfl, rfl⟩ := hr
        obtain ⟨g_35, hg_35⟩ : ∃ z, z = cpS g 17 f i 19 f i := ⟨_, rfl⟩
        obtain ⟨M_36, hP, hR⟩ : ∃ z, xW D classes A z H_33 ∧ gR T ad K N M g_35 z := ⟨_, hP, by rw [hg_35]; exact (hR.set (Or.inr (Or.inr ⟨by omega, by omega, by omega, by omega⟩)) rfl).set (Or.inr (Or.inr ⟨by omega, by omega, by omega, by omega⟩)) rfl⟩
        have hG := hR.1
        refine x_fr (pc := 60) [] rfl rfl ?_
        refine lv_iconst (v := nI 0) hx hb d_G_picture_60 (by decide) ?_
        exact hret _ _ _ _ _ _ d_G_picture_61 hP hS (by simp only [aPicture, c_5, c_13, c_30, ef, ei, reduceIte]; refine ⟨rfl, ?_⟩; rw [hg_35] at hR; exact hR)
      · refine lv_iconst (v := (-1)) hx hb d_G_picture_33 (by decide) ?_
        exact hret _ _ _ _ _ _ d_G_picture_34 hP hS (by simp only [aPicture, c_5, c_13, c_30, ef, ei, if_true, if_false, ite_true, ite_false, not_true_eq_false, not_false_eq_true, reduceIte]; exact ⟨rfl, hR⟩)
set_option maxHeartbeats 4000000 in
set_option maxRecDepth 100000 in
theorem c_G_fallBack (l : Launch) (D : va_G) (T : Nat → ClassId) (A : Nat → Prop) (M : xM) (ad : Nat → Nat → Nat → Nat) (K N : Nat) (g : gT) (hz : zB K N) (hG : gG T ad K N g M) (q : Nat) (w : Nat → Nat) (hI : iG N g q w) (x y : Int32) : Met l y_G_fallBack (Cond.code y_G_fallBack b_G_fallBack 3 (some .int) :: gw) (rmH 2) (xPc D T A M [.ref (ad 0 0 0), .int x, .int y]) (xQ D A (fun r M1 => pA T ad K N M (aFall N g x y) r M1)) 0 0 A := by
  refine xMetQi (by decide) (Nat.le_of_ble_eq_true rfl) ?_
  intro p e s m below meth c Q ls hB hP hS hl hret
  obtain ⟨hx, hb, hml, hown, hg, hK0, hnm⟩ := hB
  have hown : s.vm.findClass "ShareGrid" = some m.cls := hown
  have hK := hK0.1
  have hN := hK0.2.1
  obtain ⟨hz1, hz4, hzn, hz7⟩ := id hz
  have hR := hG.rf
  obtain ⟨hq, hq6, hwr, hbo⟩ := id hI
  have hl : lv_has ls 3 [(0, .ref (ad 0 0 0)), (1, .int x), (2, .int y)] := hl
  refine lv_aload_n hx hb d_G_fallBack_0 rfl (lv_at hl 0 rfl) ?_
  refine lv_iload_n hx hb d_G_fallBack_1 rfl (lv_at hl 1 rfl) ?_
  refine xv_R (n := 1) (As := [.int x]) (rest := []) hx hb hml hown hg hK0 hP (c_G_isFile l D T A _ ad K N g hz hG x) w_313 w_1 w_310 w_312 s_18 (ga_0 hG) rfl rfl (by decide +kernel) ⟨Nat.le_of_ble_eq_true rfl, Nat.le_of_ble_eq_true rfl⟩ rfl hl.1 rfl (Nat.le_of_ble_eq_true rfl) ⟨Nat.zero_le _, Nat.zero_le _⟩ rfl rfl d_G_fallBack_2 (fun r hr => ?_)
  subst hr
  refine x_fr (pc := 5) [.int (inF x (g 0 0 0 0))] rfl rfl ?_
  refine lv_if_eq (tgt := 33) hx hb d_G_fallBack_5 (by decide) (fun c_5 => ?_) (fun c_5 => ?_)
  · refine lv_iconst (v := (-1)) hx hb d_G_fallBack_33 (by decide) ?_
    exact hret _ _ _ _ _ _ d_G_fallBack_34 hP hS (by simp only [aFall, c_5, if_true, if_false, ite_true, ite_false, not_true_eq_false, not_false_eq_true, reduceIte]; exact ⟨rfl, hR⟩)
  · refine lv_aload_n hx hb d_G_fallBack_8 rfl (lv_at hl 0 rfl) ?_
    refine lv_iload_n hx hb d_G_fallBack_9 rfl (lv_at hl 2 rfl) ?_
    refine xv_R (n := 1) (As := [.int y]) (rest := []) hx hb hml hown hg hK0 hP (c_G_isPlace l D T A _ ad K N g hz hG y) w_305 w_1 w_302 w_304 s_17 (ga_0 hG) rfl rfl (by decide +kernel) ⟨Nat.le_of_ble_eq_true rfl, Nat.le_of_ble_eq_true rfl⟩ rfl hl.1 rfl (Nat.le_of_ble_eq_true rfl) ⟨Nat.zero_le _, Nat.zero_le _⟩ rfl rfl d_G_fallBack_10 (fun r hr => ?_)
    subst hr
    refine x_fr (pc := 13) [.int (inF y (nI N))] rfl rfl ?_
    refine lv_if_eq (tgt := 33) hx hb d_G_fallBack_13 (by decide) (fun c_13 => ?_) (fun c_13 => ?_)
    · refine lv_iconst (v := (-1)) hx hb d_G_fallBack_33 (by decide) ?_
      exact hret _ _ _ _ _ _ d_G_fallBack_34 hP hS (by simp only [aFall, c_5, c_13, if_true, if_false, ite_true, ite_false, not_true_eq_false, not_false_eq_true, reduceIte]; exact ⟨rfl, hR⟩)
    · have c6 := c_5
      have c7 := c_13
      have c8 := c6
      rw [hq] at c8
      obtain ⟨f, hf, rfl⟩ := inF_j (by omega) c8
      obtain ⟨i, hi, rfl⟩ := inF_j (by omega) c7
      have ef : (nI f).toNatClampNeg = f := nI_clamp (by omega)
      have ei : (nI i).toNatClampNeg = i := nI_clamp (by omega)
      refine lv_aload_n hx hb d_G_fallBack_16 rfl (lv_at hl 0 rfl) ?_
      refine x_get (v := .ref (ad 3 0 0)) (C := R_G) (T := F_G) (N := 12) hx hb hg i_G hown hK hP (ga_0 hG) rfl 4 (by decide) (hg _ w_114) (fun _ h9 => h9) rfl d_G_fallBack_17 ?_
      refine lv_iload_n hx hb d_G_fallBack_20 rfl (lv_at hl 1 rfl) ?_
      refine x_aldq (v := .ref (ad 12 f 0)) hx hb hK hP 3 (ga_3 hG) rfl (vp_in_nI (by omega) (by omega)) (by rw [nI_clamp (by omega)]; rfl) d_G_fallBack_21 ?_
      refine x_getN (v := .ref (ad 14 f 0)) (C := R_F) (T := F_F) (N := 6) hx hb hg i_F hown hK hP (ga_12 hG (show f < 6 by omega)) rfl 1 (by decide) (va_Nw.use rfl (hN _ e_71)) (fun _ h9 => h9) rfl d_G_fallBack_22 ?_
      refine lv_iload_n hx hb d_G_fallBack_25 rfl (lv_at hl 2 rfl) ?_
      refine x_aldq (v := .ref (ad 19 f i)) hx hb hK hP 2 (ga_14 hG (show f < 6 by omega)) rfl (vp_in_nI (by omega) (by omega)) (by rw [nI_clamp (by omega)]; rfl) d_G_fallBack_26 ?_
      refine x_getN (v := .int (g 19 f i 0)) (C := R_R) (T := F_R) (N := 5) hx hb hg i_R hown hK hP (ga_19 hG (show f < 6 by omega) (show i < N by omega)) rfl 1 (by decide) (va_Nw.use rfl (hN _ e_45)) (fun _ h9 => h9) rfl d_G_fallBack_27 ?_
      refine lv_if_ne (tgt := 35) hx hb d_G_fallBack_30 (by decide) (fun c_30 => ?_) (fun c_30 => ?_)
      · refine lv_aload_n hx hb d_G_fallBack_35 rfl (lv_at hl 0 rfl) ?_
        refine x_get (v := .ref (ad 3 0 0)) (C := R_G) (T := F_G) (N := 12) hx hb hg i_G hown hK hP (ga_0 hG) rfl 4 (by decide) (hg _ w_114) (fun _ h9 => h9) rfl d_G_fallBack_36 ?_
        refine lv_iload_n hx hb d_G_fallBack_39 rfl (lv_at hl 1 rfl) ?_
        refine x_aldq (v := .ref (ad 12 f 0)) hx hb hK hP 3 (ga_3 hG) rfl (vp_in_nI (by omega) (by omega)) (by rw [nI_clamp (by omega)]; rfl) d_G_fallBack_40 ?_
        refine x_getN (v := .ref (ad 13 f 0)) (C := R_F) (T := F_F) (N := 6) hx hb hg i_F hown hK hP (ga_12 hG (show f < 6 by omega)) rfl 0 (by decide) (va_Nw.use rfl (hN _ e_69)) (fun _ h9 => h9) rfl d_G_fallBack_41 ?_
        refine lv_iload_n hx hb d_G_fallBack_44 rfl (lv_at hl 2 rfl) ?_
        refine x_aldq (v := .ref (ad 17 f i)) hx hb hK hP 2 (ga_13 hG (show f < 6 by omega)) rfl (vp_in_nI (by omega) (by omega)) (by rw [nI_clamp (by omega)]; rfl) d_G_fallBack_45 ?_
        refine lv_aload_n hx hb d_G_fallBack_46 rfl (lv_at hl 0 rfl) ?_
        refine x_get (v := .ref (ad 3 0 0)) (C := R_G) (T := F_G) (N := 12) hx hb hg i_G hown hK hP (ga_0 hG) rfl 4 (by decide) (hg _ w_114) (fun _ h9 => h9) rfl d_G_fallBack_47 ?_
        refine lv_iload_n hx hb d_G_fallBack_50 rfl (lv_at hl 1 rfl) ?_
        refine x_aldq (v := .ref (ad 12 f 0)) hx hb hK hP 3 (ga_3 hG) rfl (vp_in_nI (by omega) (by omega)) (by rw [nI_clamp (by omega)]; rfl) d_G_fallBack_51 ?_
        refine x_getN (v := .ref (ad 14 f 0)) (C := R_F) (T := F_F) (N := 6) hx hb hg i_F hown hK hP (ga_12 hG (show f < 6 by omega)) rfl 1 (by decide) (va_Nw.use rfl (hN _ e_71)) (fun _ h9 => h9) rfl d_G_fallBack_52 ?_
        refine lv_iload_n hx hb d_G_fallBack_55 rfl (lv_at hl 2 rfl) ?_
        refine x_aldq (v := .ref (ad 19 f i)) hx hb hK hP 2 (ga_14 hG (show f < 6 by omega)) rfl (vp_in_nI (by omega) (by omega)) (by rw [nI_clamp (by omega)]; rfl) d_G_fallBack_56 ?_
        refine xvn_Q (n := 1) (As := [.ref (ad 19 f i)]) (rest := []) hx hb hml hown hg hK0 hP hN (c_R_copyFrom l D T A _ (ad 17 f i) (ad 19 f i) (ad 18 f i) (ad 20 f i) N (g 20 f i) (g 18 f i) (g 19 f i 0) (g 19 f i 1) (g 19 f i 2) (g 19 f i 3) (g 17 f i 0) (g 17 f i 1) (g 17 f i 2) (g 17 f i 3) (by omega) (hbo f i (by omega) (by omega)).2 (ga_17 hG (show f < 6 by omega) (show i < N by omega)) (ga_19 hG (show f < 6 by omega) (show i < N by omega)) (ga_18 hG (show f < 6 by omega) (show i < N by omega)) (ga_20 hG (show f < 6 by omega) (show i < N by omega)) (hG.ne (Or.inr (Or.inr ⟨by omega, by omega, by omega, by omega⟩)) (Or.inr (Or.inr ⟨by omega, by omega, by omega, by omega⟩)) (by omega))) w_231 w_4 e_228 w_230 s_9 (ga_17 hG (show f < 6 by omega) (show i < N by omega)) rfl rfl (by decide +kernel) ⟨Nat.le_of_ble_eq_true rfl, Nat.le_of_ble_eq_true rfl⟩ rfl hl.1 rfl (Nat.le_of_ble_eq_true rfl) hS ⟨Nat.zero_le _, Nat.zero_le _⟩ rfl rfl d_G_fallBack_57 (fun r M1 H_37 L_38 hr hP hS => ?_)
        obtain ⟨rfl, rfl⟩ := hr
        obtain ⟨g_39, hg_39⟩ : ∃ z, z = cpS g 19 f i 17 f i := ⟨_, rfl⟩
        obtain ⟨M_40, hP, hR⟩ : ∃ z, xW D classes A z H_37 ∧ gR T ad K N M g_39 z := ⟨_, hP, by rw [hg_39]; exact (hR.set (Or.inr (Or.inr ⟨by omega, by omega, by omega, by omega⟩)) rfl).set (Or.inr (Or.inr ⟨by omega, by omega, by omega, by omega⟩)) rfl⟩
        have hG := hR.1
        refine x_fr (pc := 60) [] rfl rfl ?_
        refine lv_iconst (v := nI 0) hx hb d_G_fallBack_60 (by decide) ?_
        exact hret _ _ _ _ _ _ d_G_fallBack_61 hP hS (by simp only [aFall, c_5, c_13, c_30, ef, ei, reduceIte]; refine ⟨rfl, ?_⟩; rw [hg_39] at hR; exact hR)
      · refine lv_iconst (v := (-1)) hx hb d_G_fallBack_33 (by decide) ?_
        exact hret _ _ _ _ _ _ d_G_fallBack_34 hP hS (by simp only [aFall, c_5, c_13, c_30, ef, ei, if_true, if_false, ite_true, ite_false, not_true_eq_false, not_false_eq_true, reduceIte]; exact ⟨rfl, hR⟩)
set_option maxHeartbeats 4000000 in
set_option maxRecDepth 100000 in
theorem c_G_tamper (l : Launch) (D : va_G) (T : Nat → ClassId) (A : Nat → Prop) (M : xM) (ad : Nat → Nat → Nat → Nat) (K N : Nat) (g : gT) (hz : zB K N) (hG : gG T ad K N g M) (q : Nat) (w : Nat → Nat) (hI : iG N g q w) (x y z u : Int32) : Met l y_G_tamper (Cond.code y_G_tamper b_G_tamper 6 (some .int) :: gw) (rmH 1) (xPc D T A M [.ref (ad 0 0 0), .int x, .int y, .int z, .int u]) (xQ D A (fun r M1 => pA T ad K N M (aTamper N g x y z u) r M1)) 0 0 A := by
  refine xMetQi (by decide) (Nat.le_of_ble_eq_true rfl) ?_
  intro p e s m below meth c Q ls hB hP hS hl hret
  obtain ⟨hx, hb, hml, hown, hg, hK0, hnm⟩ := hB
  have hown : s.vm.findClass "ShareGrid" = some m.cls := hown
  have hK := hK0.1
  have hN := hK0.2.1
  obtain ⟨hz1, hz4, hzn, hz7⟩ := id hz
  have hR := hG.rf
  obtain ⟨hq, hq6, hwr, hbo⟩ := id hI
  have hl : lv_has ls 6 [(0, .ref (ad 0 0 0)), (1, .int x), (2, .int y), (3, .int z), (4, .int u)] := hl
  refine lv_aload_n hx hb d_G_tamper_0 rfl (lv_at hl 0 rfl) ?_
  refine lv_iload_n hx hb d_G_tamper_1 rfl (lv_at hl 1 rfl) ?_
  refine xv_R (n := 1) (As := [.int x]) (rest := []) hx hb hml hown hg hK0 hP (c_G_isFile l D T A _ ad K N g hz hG x) w_313 w_1 w_310 w_312 s_18 (ga_0 hG) rfl rfl (by decide +kernel) ⟨Nat.le_of_ble_eq_true rfl, Nat.le_of_ble_eq_true rfl⟩ rfl hl.1 rfl (Nat.le_of_ble_eq_true rfl) ⟨Nat.zero_le _, Nat.zero_le _⟩ rfl rfl d_G_tamper_2 (fun r hr => ?_)
  subst hr
  refine x_fr (pc := 5) [.int (inF x (g 0 0 0 0))] rfl rfl ?_
  refine lv_if_eq (tgt := 30) hx hb d_G_tamper_5 (by decide) (fun c_5 => ?_) (fun c_5 => ?_)
  · refine lv_iconst (v := (-1)) hx hb d_G_tamper_30 (by decide) ?_
    exact hret _ _ _ _ _ _ d_G_tamper_31 hP hS (by simp only [aTamper, c_5, reduceIte]; exact ⟨rfl, hR⟩)
  · refine lv_aload_n hx hb d_G_tamper_8 rfl (lv_at hl 0 rfl) ?_
    refine lv_iload_n hx hb d_G_tamper_9 rfl (lv_at hl 2 rfl) ?_
    refine xv_R (n := 1) (As := [.int y]) (rest := []) hx hb hml hown hg hK0 hP (c_G_isPlace l D T A _ ad K N g hz hG y) w_305 w_1 w_302 w_304 s_17 (ga_0 hG) rfl rfl (by decide +kernel) ⟨Nat.le_of_ble_eq_true rfl, Nat.le_of_ble_eq_true rfl⟩ rfl hl.1 rfl (Nat.le_of_ble_eq_true rfl) ⟨Nat.zero_le _, Nat.zero_le _⟩ rfl rfl d_G_tamper_10 (fun r hr => ?_)
    subst hr
    refine x_fr (pc := 13) [.int (inF y (nI N))] rfl rfl ?_
    refine lv_if_eq (tgt := 30) hx hb d_G_tamper_13 (by decide) (fun c_13 => ?_) (fun c_13 => ?_)
    · refine lv_iconst (v := (-1)) hx hb d_G_tamper_30 (by decide) ?_
      exact hret _ _ _ _ _ _ d_G_tamper_31 hP hS (by simp only [aTamper, c_5, c_13, reduceIte]; exact ⟨rfl, hR⟩)
    · refine lv_iload_n hx hb d_G_tamper_16 rfl (lv_at hl 3 rfl) ?_
      refine lv_if_lt (tgt := 30) hx hb d_G_tamper_17 (by decide) (fun c_17 => ?_) (fun c_17 => ?_)
      · refine lv_iconst (v := (-1)) hx hb d_G_tamper_30 (by decide) ?_
        exact hret _ _ _ _ _ _ d_G_tamper_31 hP hS (by simp only [aTamper, c_5, c_13, c_17, reduceIte]; exact ⟨rfl, hR⟩)
      · refine lv_iload_n hx hb d_G_tamper_20 rfl (lv_at hl 3 rfl) ?_
        refine lv_iconst (v := nI 3) hx hb d_G_tamper_21 (by decide) ?_
        refine lv_aload_n hx hb d_G_tamper_22 rfl (lv_at hl 0 rfl) ?_
        refine x_get (v := .int (nI N)) (C := R_G) (T := F_G) (N := 12) hx hb hg i_G hown hK hP (ga_0 hG) rfl 1 (by decide) (hg _ w_111) (fun _ h9 => h9) rfl d_G_tamper_23 ?_
        refine lv_iadd hx hb d_G_tamper_26 ?_
        refine x_top (y := nI (3 + N)) (nI_add _ _) ?_
        refine lv_icmp_lt (tgt := 32) hx hb d_G_tamper_27 (by decide) (fun c_27 => ?_) (fun c_27 => ?_)
        · have c6 := c_5
          have c7 := c_13
          have c8 := c6
          rw [hq] at c8
          obtain ⟨f, hf, rfl⟩ := inF_j (by omega) c8
          obtain ⟨i, hi, rfl⟩ := inF_j (by omega) c7
          have ef : (nI f).toNatClampNeg = f := nI_clamp (by omega)
          have ei : (nI i).toNatClampNeg = i := nI_clamp (by omega)
          refine lv_aload_n hx hb d_G_tamper_32 rfl (lv_at hl 0 rfl) ?_
          refine x_get (v := .ref (ad 3 0 0)) (C := R_G) (T := F_G) (N := 12) hx hb hg i_G hown hK hP (ga_0 hG) rfl 4 (by decide) (hg _ w_114) (fun _ h9 => h9) rfl d_G_tamper_33 ?_
          refine lv_iload_n hx hb d_G_tamper_36 rfl (lv_at hl 1 rfl) ?_
          refine x_aldq (v := .ref (ad 12 f 0)) hx hb hK hP 3 (ga_3 hG) rfl (vp_in_nI (by omega) (by omega)) (by rw [nI_clamp (by omega)]; rfl) d_G_tamper_37 ?_
          refine x_getN (v := .ref (ad 13 f 0)) (C := R_F) (T := F_F) (N := 6) hx hb hg i_F hown hK hP (ga_12 hG (show f < 6 by omega)) rfl 0 (by decide) (va_Nw.use rfl (hN _ e_69)) (fun _ h9 => h9) rfl d_G_tamper_38 ?_
          refine lv_iload_n hx hb d_G_tamper_41 rfl (lv_at hl 2 rfl) ?_
          refine x_aldq (v := .ref (ad 17 f i)) hx hb hK hP 2 (ga_13 hG (show f < 6 by omega)) rfl (vp_in_nI (by omega) (by omega)) (by rw [nI_clamp (by omega)]; rfl) d_G_tamper_42 ?_
          refine lv_astore (lv' := [(5, .ref (ad 17 f i)), (0, .ref (ad 0 0 0)), (1, .int (nI f)), (2, .int (nI i)), (3, .int z), (4, .int u)]) hx hb d_G_tamper_43 hl (by decide) rfl (fun ls hl => ?_)
          refine lv_aload hx hb d_G_tamper_45 (lv_at hl 0 rfl) ?_
          refine x_getN (v := .int (g 17 f i 0)) (C := R_R) (T := F_R) (N := 5) hx hb hg i_R hown hK hP (ga_17 hG (show f < 6 by omega) (show i < N by omega)) rfl 1 (by decide) (va_Nw.use rfl (hN _ e_45)) (fun _ h9 => h9) rfl d_G_tamper_47 ?_
          refine lv_if_ne (tgt := 55) hx hb d_G_tamper_50 (by decide) (fun c_50 => ?_) (fun c_50 => ?_)
          · refine lv_iload_n hx hb d_G_tamper_55 rfl (lv_at hl 4 rfl) ?_
            by_cases s0 : z = 0
            · refine lv_tableIn (off := 28) (tgt := 84) hx hb d_G_tamper_56 (by rw [s0]; decide) (by rw [s0]; decide) (by rw [s0]; rfl) (by decide) ?_
              refine lv_aload hx hb d_G_tamper_84 (lv_at hl 0 rfl) ?_
              refine lv_dup hx hb d_G_tamper_86 rfl ?_
              refine x_getN (v := .int (g 17 f i 1)) (C := R_R) (T := F_R) (N := 5) hx hb hg i_R hown hK hP (ga_17 hG (show f < 6 by omega) (show i < N by omega)) rfl 2 (by decide) (va_Nw.use rfl (hN _ e_48)) (fun _ h9 => h9) rfl d_G_tamper_87 ?_
              refine lv_iload hx hb d_G_tamper_90 (lv_at hl 5 rfl) ?_
              refine lv_ixor hx hb d_G_tamper_92 ?_
              refine x_putN (v := .int ((g 17 f i 1) ^^^ u)) (ty := .int) (C := R_R) (T := F_R) (N := 5) hx hb hg i_R t_R t_R_ok n_R hown hK hP hS (ga_17 hG (show f < 6 by omega) (show i < N by omega)) rfl 2 (by decide) (va_Nw.use rfl (hN _ e_48)) (fun _ h9 => h9) rfl (by decide +kernel) rfl rfl (Nat.le_of_ble_eq_true rfl) d_G_tamper_93 (fun H_41 L_42 hP hS => ?_)
              obtain ⟨g_43, hg_43⟩ : ∃ z, z = upS g 17 f i (upd (g 17 f i) 1 ((g 17 f i 1) ^^^ u)) := ⟨_, rfl⟩
              obtain ⟨M_44, hP, hR⟩ : ∃ z, xW D classes A z H_41 ∧ gR T ad K N M g_43 z := ⟨_, hP, by rw [hg_43]; exact hR.set (Or.inr (Or.inr ⟨by omega, by omega, by omega, by omega⟩)) rfl⟩
              have hG := hR.1
              refine lv_goto (tgt := 143) hx hb d_G_tamper_96 (by decide) ?_
              refine lv_iconst (v := nI 0) hx hb d_G_tamper_143 (by decide) ?_
              exact hret _ _ _ _ _ _ d_G_tamper_144 hP hS (by
                have e1 : aTamper N g (nI f) (nI i) z u = (0, tmG g f i z u) := by rw [aTamper, if_neg c6, if_neg c7, if_neg c_17, if_pos c_27, ef, ei, if_neg c_50]
                have e2 : tmG g f i z u = g_43 := by rw [tmG, if_pos s0, hg_43]
                rw [e1, e2]
                exact ⟨rfl, hR⟩)
            · by_cases s1 : z = 1
              · refine lv_tableIn (off := 43) (tgt := 99) hx hb d_G_tamper_56 (by rw [s1]; decide) (by rw [s1]; decide) (by rw [s1]; rfl) (by decide) ?_
                refine lv_aload hx hb d_G_tamper_99 (lv_at hl 0 rfl) ?_
                refine lv_dup hx hb d_G_tamper_101 rfl ?_
                refine x_getN (v := .int (g 17 f i 2)) (C := R_R) (T := F_R) (N := 5) hx hb hg i_R hown hK hP (ga_17 hG (show f < 6 by omega) (show i < N by omega)) rfl 3 (by decide) (va_Nw.use rfl (hN _ e_51)) (fun _ h9 => h9) rfl d_G_tamper_102 ?_
                refine lv_iload hx hb d_G_tamper_105 (lv_at hl 5 rfl) ?_
                refine lv_ixor hx hb d_G_tamper_107 ?_
                refine x_putN (v := .int ((g 17 f i 2) ^^^ u)) (ty := .int) (C := R_R) (T := F_R) (N := 5) hx hb hg i_R t_R t_R_ok n_R hown hK hP hS (ga_17 hG (show f < 6 by omega) (show i < N by omega)) rfl 3 (by decide) (va_Nw.use rfl (hN _ e_51)) (fun _ h9 => h9) rfl (by decide +kernel) rfl rfl (Nat.le_of_ble_eq_true rfl) d_G_tamper_108 (fun H_45 L_46 hP hS => ?_)
                obtain ⟨g_47, hg_47⟩ : ∃ z, z = upS g 17 f i (upd (g 17 f i) 2 ((g 17 f i 2) ^^^ u)) := ⟨_, rfl⟩
                obtain ⟨M_48, hP, hR⟩ : ∃ z, xW D classes A z H_45 ∧ gR T ad K N M g_47 z := ⟨_, hP, by rw [hg_47]; exact hR.set (Or.inr (Or.inr ⟨by omega, by omega, by omega, by omega⟩)) rfl⟩
                have hG := hR.1
                refine lv_goto (tgt := 143) hx hb d_G_tamper_111 (by decide) ?_
                refine lv_iconst (v := nI 0) hx hb d_G_tamper_143 (by decide) ?_
                exact hret _ _ _ _ _ _ d_G_tamper_144 hP hS (by
                  have e1 : aTamper N g (nI f) (nI i) z u = (0, tmG g f i z u) := by rw [aTamper, if_neg c6, if_neg c7, if_neg c_17, if_pos c_27, ef, ei, if_neg c_50]
                  have e2 : tmG g f i z u = g_47 := by rw [tmG, if_neg s0, if_pos s1, hg_47]
                  rw [e1, e2]
                  exact ⟨rfl, hR⟩)
              · by_cases s2 : z = 2
                · refine lv_tableIn (off := 58) (tgt := 114) hx hb d_G_tamper_56 (by rw [s2]; decide) (by rw [s2]; decide) (by rw [s2]; rfl) (by decide) ?_
                  refine lv_aload hx hb d_G_tamper_114 (lv_at hl 0 rfl) ?_
                  refine lv_dup hx hb d_G_tamper_116 rfl ?_
                  refine x_getN (v := .int (g 17 f i 3)) (C := R_R) (T := F_R) (N := 5) hx hb hg i_R hown hK hP (ga_17 hG (show f < 6 by omega) (show i < N by omega)) rfl 4 (by decide) (va_Nw.use rfl (hN _ e_54)) (fun _ h9 => h9) rfl d_G_tamper_117 ?_
                  refine lv_iload hx hb d_G_tamper_120 (lv_at hl 5 rfl) ?_
                  refine lv_ixor hx hb d_G_tamper_122 ?_
                  refine x_putN (v := .int ((g 17 f i 3) ^^^ u)) (ty := .int) (C := R_R) (T := F_R) (N := 5) hx hb hg i_R t_R t_R_ok n_R hown hK hP hS (ga_17 hG (show f < 6 by omega) (show i < N by omega)) rfl 4 (by decide) (va_Nw.use rfl (hN _ e_54)) (fun _ h9 => h9) rfl (by decide +kernel) rfl rfl (Nat.le_of_ble_eq_true rfl) d_G_tamper_123 (fun H_49 L_50 hP hS => ?_)
                  obtain ⟨g_51, hg_51⟩ : ∃ z, z = upS g 17 f i (upd (g 17 f i) 3 ((g 17 f i 3) ^^^ u)) := ⟨_, rfl⟩
                  obtain ⟨M_52, hP, hR⟩ : ∃ z, xW D classes A z H_49 ∧ gR T ad K N M g_51 z := ⟨_, hP, by rw [hg_51]; exact hR.set (Or.inr (Or.inr ⟨by omega, by omega, by omega, by omega⟩)) rfl⟩
                  have hG := hR.1
                  refine lv_goto (tgt := 143) hx hb d_G_tamper_126 (by decide) ?_
                  refine lv_iconst (v := nI 0) hx hb d_G_tamper_143 (by decide) ?_
                  exact hret _ _ _ _ _ _ d_G_tamper_144 hP hS (by
                    have e1 : aTamper N g (nI f) (nI i) z u = (0, tmG g f i z u) := by rw [aTamper, if_neg c6, if_neg c7, if_neg c_17, if_pos c_27, ef, ei, if_neg c_50]
                    have e2 : tmG g f i z u = g_51 := by rw [tmG, if_neg s0, if_neg s1, if_pos s2, hg_51]
                    rw [e1, e2]
                    exact ⟨rfl, hR⟩)
                · have hout : (z).toInt < 0 ∨ 2 < (z).toInt := by
                    have q0 := lv_neT s0 (a := 0) (by decide)
                    have q1 := lv_neT s1 (a := 1) (by decide)
                    have q2 := lv_neT s2 (a := 2) (by decide)
                    omega
                  refine lv_tableOut (tgt := 129) hx hb d_G_tamper_56 hout (by decide) ?_
                  obtain ⟨j, hj3, hjN, hj⟩ : ∃ j : Nat, 3 ≤ j ∧ j < 3 + N ∧ z = nI j := by
                    obtain ⟨j, hj, rfl⟩ := nI_of c_17
                    have q9 := (nI_ltI hj (by omega)).mp c_27
                    have q0 : j ≠ 0 := fun h => s0 (by rw [h]; rfl)
                    have q1 : j ≠ 1 := fun h => s1 (by rw [h]; rfl)
                    have q2 : j ≠ 2 := fun h => s2 (by rw [h]; rfl)
                    exact ⟨j, by omega, q9, rfl⟩
                  rw [hj] at hl
                  have ej : z.toNatClampNeg = j := by rw [hj, nI_clamp (by omega)]
                  refine lv_aload hx hb d_G_tamper_129 (lv_at hl 0 rfl) ?_
                  refine x_getN (v := .ref (ad 18 f i)) (C := R_R) (T := F_R) (N := 5) hx hb hg i_R hown hK hP (ga_17 hG (show f < 6 by omega) (show i < N by omega)) rfl 0 (by decide) (va_Nw.use rfl (hN _ e_42)) (fun _ h9 => h9) rfl d_G_tamper_131 ?_
                  refine lv_iload_n hx hb d_G_tamper_134 rfl (lv_at hl 4 rfl) ?_
                  refine lv_iconst (v := nI 3) hx hb d_G_tamper_135 (by decide) ?_
                  refine lv_isub hx hb d_G_tamper_136 ?_
                  refine x_top (y := nI (j - 3)) (pk_sub (by omega)) ?_
                  refine lv_dup2_11 hx hb d_G_tamper_137 rfl rfl ?_
                  refine x_iald (v := g 18 f i (j - 3)) hx hb hK hP 0 (ga_18 hG (show f < 6 by omega) (show i < N by omega)) rfl (vp_in_nI (by omega) (by omega)) (by rw [nI_clamp (by omega)]) d_G_tamper_138 ?_
                  refine lv_iload hx hb d_G_tamper_139 (lv_at hl 5 rfl) ?_
                  refine lv_ixor hx hb d_G_tamper_141 ?_
                  refine x_iast hx hb hK hP hS 0 (ga_18 hG (show f < 6 by omega) (show i < N by omega)) rfl (vp_in_nI (by omega) (by omega)) d_G_tamper_142 (fun H_53 L_54 hP hS => ?_)
                  rw [nI_clamp (by omega)] at hP
                  obtain ⟨g_55, hg_55⟩ : ∃ z, z = upS g 18 f i (upd (g 18 f i) (j - 3) ((g 18 f i (j - 3)) ^^^ u)) := ⟨_, rfl⟩
                  obtain ⟨M_56, hP, hR⟩ : ∃ z, xW D classes A z H_53 ∧ gR T ad K N M g_55 z := ⟨_, hP, by rw [hg_55]; exact hR.set (Or.inr (Or.inr ⟨by omega, by omega, by omega, by omega⟩)) rfl⟩
                  have hG := hR.1
                  refine lv_iconst (v := nI 0) hx hb d_G_tamper_143 (by decide) ?_
                  exact hret _ _ _ _ _ _ d_G_tamper_144 hP hS (by
                    have e1 : aTamper N g (nI f) (nI i) z u = (0, tmG g f i z u) := by rw [aTamper, if_neg c6, if_neg c7, if_neg c_17, if_pos c_27, ef, ei, if_neg c_50]
                    have e2 : tmG g f i z u = g_55 := by rw [tmG, if_neg s0, if_neg s1, if_neg s2, ej, hg_55]
                    rw [e1, e2]
                    exact ⟨rfl, hR⟩)
          · refine lv_iconst (v := (-1)) hx hb d_G_tamper_53 (by decide) ?_
            exact hret _ _ _ _ _ _ d_G_tamper_54 hP hS (by simp only [aTamper, c_5, c_13, c_17, c_27, c_50, ef, ei, reduceIte]; exact ⟨rfl, hR⟩)
        · refine lv_iconst (v := (-1)) hx hb d_G_tamper_30 (by decide) ?_
          exact hret _ _ _ _ _ _ d_G_tamper_31 hP hS (by simp only [aTamper, c_5, c_13, c_17, c_27, reduceIte]; exact ⟨rfl, hR⟩)
end
section
/-! notes, fresh records, the best number -/
theorem upd_s {f : Nat → Int32} {k : Nat} {x : Int32} : upd f k x k = x := pk_us
theorem upd_n {f : Nat → Int32} {k j : Nat} {x : Int32} (h : j ≠ k) : upd f k x j = f j := pk_un h
def ntS (g : gT) (f w : Nat) (ro se : Int32) : gT := upS (upS (upS g 12 f 0 (upd (g 12 f 0) 1 (nI (w + 1)))) 15 f 0 (upd (g 15 f 0) (w + 1) ro)) 16 f 0 (upd (g 16 f 0) (w + 1) se)
def gvS (K : Nat) (g : gT) (f i : Nat) : gT := cpS (upS g 9 0 0 (upd (g 9 0 0) 1 (shG (g 7 0 0) (nI i + 1) 0 K))) 9 0 0 17 f i
def fpV (K : Nat) (cw : Nat → Int32) (j : Nat) : Int32 := mixF (shG cw (nI j + 1) 0 K) (nI j + 100)
theorem rtI_congr {f f' : Nat → Int32} : ∀ n, (∀ j, j < n → f j = f' j) → rtI f n = rtI f' n := by
  intro n
  induction n with
  | zero => intro _; rfl
  | succ n ih => intro h; rw [rtI, rtI, ih (fun j hj => h j (by omega)), h n (by omega)]
theorem rtF_congr {f f' : Nat → Int32} {n : Nat} {x : Int32} (h : ∀ j, j < n → f j = f' j) : rtF f n x = rtF f' n x := by rw [rtF, rtF, rtI_congr n h]
set_option maxHeartbeats 4000000 in
set_option maxRecDepth 100000 in
theorem c_F_noteNext (l : Launch) (D : va_G) (T : Nat → ClassId) (A : Nat → Prop) (M : xM) (ad : Nat → Nat → Nat → Nat) (K N : Nat) (g : gT) (hz : zB K N) (hG : gG T ad K N g M) (f w : Nat) (hf : f < 6) (hw : g 12 f 0 1 = nI w) (hw30 : w < 30) (x y : Int32) : Met l y_F_noteNext (Cond.code y_F_noteNext b_F_noteNext 3 none :: gw) (rmH 0) (xPc D T A M [.ref (ad 12 f 0), .int x, .int y]) (xQ D A (fun r M1 => r = none ∧ gR T ad K N M (ntS g f w x y) M1)) 0 0 A := by
  refine xMetQv (by decide) (Nat.le_of_ble_eq_true rfl) ?_
  intro p e s m below meth c Q ls hB hP hS hl hret
  obtain ⟨hx, hb, hml, hown, hg, hK0, hnm⟩ := hB
  have hown : s.vm.findClass "ShareGrid$StoredFile" = some m.cls := hown
  have hK := hK0.1
  have hN := hK0.2.1
  obtain ⟨hz1, hz4, hzn, hz7⟩ := id hz
  have hR := hG.rf
  have hl : lv_has ls 3 [(0, .ref (ad 12 f 0)), (1, .int x), (2, .int y)] := hl
  refine lv_aload_n hx hb d_F_noteNext_0 rfl (lv_at hl 0 rfl) ?_
  refine lv_dup hx hb d_F_noteNext_1 rfl ?_
  refine x_get (v := .int (g 12 f 0 1)) (C := R_F) (T := F_F) (N := 6) hx hb hg i_F hown hK hP (ga_12 hG (show f < 6 by omega)) rfl 5 (by decide) (hg _ w_75) (fun _ h9 => h9) rfl d_F_noteNext_2 ?_
  refine x_top (y := nI w) hw ?_
  refine lv_iconst (v := nI 1) hx hb d_F_noteNext_5 (by decide) ?_
  refine lv_iadd hx hb d_F_noteNext_6 ?_
  refine x_top (y := nI (w + 1)) (nI_add _ _) ?_
  refine x_put (v := .int (nI (w + 1))) (ty := .int) (C := R_F) (T := F_F) (N := 6) hx hb hg i_F t_F t_F_ok n_F hown hK hP hS (ga_12 hG (show f < 6 by omega)) rfl 5 (by decide) (hg _ w_75) (fun _ h9 => h9) rfl (by decide +kernel) rfl rfl (Nat.le_of_ble_eq_true rfl) d_F_noteNext_7 (fun H_57 L_58 hP hS => ?_)
  obtain ⟨g_59, hg_59⟩ : ∃ z, z = upS g 12 f 0 (upd (g 12 f 0) 1 (nI (w + 1))) := ⟨_, rfl⟩
  obtain ⟨M_60, hP, hR⟩ : ∃ z, xW D classes A z H_57 ∧ gR T ad K N M g_59 z := ⟨_, hP, by rw [hg_59]; exact hR.set (Or.inr (Or.inl ⟨by omega, by omega, by omega, rfl⟩)) rfl⟩
  have hG := hR.1
  have hw1 : g_59 12 f 0 1 = nI (w + 1) := by rw [hg_59, upS_s]; rfl
  refine lv_aload_n hx hb d_F_noteNext_10 rfl (lv_at hl 0 rfl) ?_
  refine x_get (v := .ref (ad 15 f 0)) (C := R_F) (T := F_F) (N := 6) hx hb hg i_F hown hK hP (ga_12 hG (show f < 6 by omega)) rfl 2 (by decide) (hg _ w_72) (fun _ h9 => h9) rfl d_F_noteNext_11 ?_
  refine lv_aload_n hx hb d_F_noteNext_14 rfl (lv_at hl 0 rfl) ?_
  refine x_get (v := .int (g_59 12 f 0 1)) (C := R_F) (T := F_F) (N := 6) hx hb hg i_F hown hK hP (ga_12 hG (show f < 6 by omega)) rfl 5 (by decide) (hg _ w_75) (fun _ h9 => h9) rfl d_F_noteNext_15 ?_
  refine x_top (y := nI (w + 1)) hw1 ?_
  refine lv_iload_n hx hb d_F_noteNext_18 rfl (lv_at hl 1 rfl) ?_
  refine x_iast hx hb hK hP hS 0 (ga_15 hG (show f < 6 by omega)) rfl (vp_in_nI (by omega) (by omega)) d_F_noteNext_19 (fun H_61 L_62 hP hS => ?_)
  rw [nI_clamp (by omega)] at hP
  obtain ⟨g_63, hg_63⟩ : ∃ z, z = upS g_59 15 f 0 (upd (g_59 15 f 0) (w + 1) x) := ⟨_, rfl⟩
  obtain ⟨M_64, hP, hR⟩ : ∃ z, xW D classes A z H_61 ∧ gR T ad K N M g_63 z := ⟨_, hP, by rw [hg_63]; exact hR.set (Or.inr (Or.inl ⟨by omega, by omega, by omega, rfl⟩)) rfl⟩
  have hG := hR.1
  have hw2 : g_63 12 f 0 1 = nI (w + 1) := by rw [hg_63, upS_n (by omega)]; exact hw1
  refine lv_aload_n hx hb d_F_noteNext_20 rfl (lv_at hl 0 rfl) ?_
  refine x_get (v := .ref (ad 16 f 0)) (C := R_F) (T := F_F) (N := 6) hx hb hg i_F hown hK hP (ga_12 hG (show f < 6 by omega)) rfl 3 (by decide) (hg _ w_73) (fun _ h9 => h9) rfl d_F_noteNext_21 ?_
  refine lv_aload_n hx hb d_F_noteNext_24 rfl (lv_at hl 0 rfl) ?_
  refine x_get (v := .int (g_63 12 f 0 1)) (C := R_F) (T := F_F) (N := 6) hx hb hg i_F hown hK hP (ga_12 hG (show f < 6 by omega)) rfl 5 (by decide) (hg _ w_75) (fun _ h9 => h9) rfl d_F_noteNext_25 ?_
  refine x_top (y := nI (w + 1)) hw2 ?_
  refine lv_iload_n hx hb d_F_noteNext_28 rfl (lv_at hl 2 rfl) ?_
  refine x_iast hx hb hK hP hS 0 (ga_16 hG (show f < 6 by omega)) rfl (vp_in_nI (by omega) (by omega)) d_F_noteNext_29 (fun H_65 L_66 hP hS => ?_)
  rw [nI_clamp (by omega)] at hP
  obtain ⟨g_67, hg_67⟩ : ∃ z, z = upS g_63 16 f 0 (upd (g_63 16 f 0) (w + 1) y) := ⟨_, rfl⟩
  obtain ⟨M_68, hP, hR⟩ : ∃ z, xW D classes A z H_65 ∧ gR T ad K N M g_67 z := ⟨_, hP, by rw [hg_67]; exact hR.set (Or.inr (Or.inl ⟨by omega, by omega, by omega, rfl⟩)) rfl⟩
  have hG := hR.1
  exact hret _ _ _ _ _ d_F_noteNext_30 hP hS ⟨rfl, by
    have e1 : g_59 15 f 0 = g 15 f 0 := by rw [hg_59, upS_n (by omega)]
    have e2 : g_63 16 f 0 = g 16 f 0 := by rw [hg_63, upS_n (by omega), hg_59, upS_n (by omega)]
    rw [hg_67, e2, hg_63, e1, hg_59] at hR
    exact hR⟩
set_option maxHeartbeats 4000000 in
set_option maxRecDepth 100000 in
theorem c_G_giveFreshRecord (l : Launch) (D : va_G) (T : Nat → ClassId) (A : Nat → Prop) (M : xM) (ad : Nat → Nat → Nat → Nat) (K N : Nat) (g : gT) (hz : zB K N) (hG : gG T ad K N g M) (f i : Nat) (hf : f < 6) (hi : i < N) (hfr : g 9 0 0 0 = 0 ∨ g 9 0 0 0 = 1) : Met l y_G_giveFreshRecord (Cond.code y_G_giveFreshRecord b_G_giveFreshRecord 3 none :: gw) (rmH 3) (xPc D T A M [.ref (ad 0 0 0), .ref (ad 12 f 0), .int (nI i)]) (xQ D A (fun r M1 => r = none ∧ gR T ad K N M (gvS K g f i) M1)) 0 0 A := by
  refine xMetQv (by decide) (Nat.le_of_ble_eq_true rfl) ?_
  intro p e s m below meth c Q ls hB hP hS hl hret
  obtain ⟨hx, hb, hml, hown, hg, hK0, hnm⟩ := hB
  have hown : s.vm.findClass "ShareGrid" = some m.cls := hown
  have hK := hK0.1
  have hN := hK0.2.1
  obtain ⟨hz1, hz4, hzn, hz7⟩ := id hz
  have hR := hG.rf
  have hl : lv_has ls 3 [(0, .ref (ad 0 0 0)), (1, .ref (ad 12 f 0)), (2, .int (nI i))] := hl
  refine lv_aload_n hx hb d_G_giveFreshRecord_0 rfl (lv_at hl 0 rfl) ?_
  refine x_get (v := .ref (ad 9 0 0)) (C := R_G) (T := F_G) (N := 12) hx hb hg i_G hown hK hP (ga_0 hG) rfl 8 (by decide) (hg _ w_118) (fun _ h9 => h9) rfl d_G_giveFreshRecord_1 ?_
  refine lv_aload_n hx hb d_G_giveFreshRecord_4 rfl (lv_at hl 0 rfl) ?_
  refine x_get (v := .ref (ad 6 0 0)) (C := R_G) (T := F_G) (N := 12) hx hb hg i_G hown hK hP (ga_0 hG) rfl 7 (by decide) (hg _ w_117) (fun _ h9 => h9) rfl d_G_giveFreshRecord_5 ?_
  refine lv_iload_n hx hb d_G_giveFreshRecord_8 rfl (lv_at hl 2 rfl) ?_
  refine xvn_R (n := 1) (As := [.int (nI i)]) (rest := [.ref (ad 9 0 0)]) hx hb hml hown hg hK0 hP hN (c_C_shareAt l D T A _ ad K N g hz hG (nI i)) w_196 w_5 e_193 w_195 s_4 (ga_6 hG) rfl rfl (by decide +kernel) ⟨Nat.le_of_ble_eq_true rfl, Nat.le_of_ble_eq_true rfl⟩ rfl hl.1 rfl (Nat.le_of_ble_eq_true rfl) ⟨Nat.zero_le _, Nat.zero_le _⟩ rfl rfl d_G_giveFreshRecord_9 (fun r hr => ?_)
  subst hr
  refine x_fr (pc := 12) [.int (shG (g 7 0 0) ((nI i) + 1) 0 K), .ref (ad 9 0 0)] rfl rfl ?_
  refine x_putN (v := .int (shG (g 7 0 0) ((nI i) + 1) 0 K)) (ty := .int) (C := R_R) (T := F_R) (N := 5) hx hb hg i_R t_R t_R_ok n_R hown hK hP hS (ga_9 hG) rfl 2 (by decide) (va_Nw.use rfl (hN _ e_48)) (fun _ h9 => h9) rfl (by decide +kernel) rfl rfl (Nat.le_of_ble_eq_true rfl) d_G_giveFreshRecord_12 (fun H_69 L_70 hP hS => ?_)
  obtain ⟨g_71, hg_71⟩ : ∃ z, z = upS g 9 0 0 (upd (g 9 0 0) 1 (shG (g 7 0 0) ((nI i) + 1) 0 K)) := ⟨_, rfl⟩
  obtain ⟨M_72, hP, hR⟩ : ∃ z, xW D classes A z H_69 ∧ gR T ad K N M g_71 z := ⟨_, hP, by rw [hg_71]; exact hR.set (Or.inl ⟨by omega, rfl, rfl⟩) rfl⟩
  have hG := hR.1
  have hfr1 : g_71 9 0 0 0 = 0 ∨ g_71 9 0 0 0 = 1 := by rw [hg_71]; exact hfr
  refine lv_aload_n hx hb d_G_giveFreshRecord_15 rfl (lv_at hl 1 rfl) ?_
  refine x_getN (v := .ref (ad 13 f 0)) (C := R_F) (T := F_F) (N := 6) hx hb hg i_F hown hK hP (ga_12 hG (show f < 6 by omega)) rfl 0 (by decide) (va_Nw.use rfl (hN _ e_69)) (fun _ h9 => h9) rfl d_G_giveFreshRecord_16 ?_
  refine lv_iload_n hx hb d_G_giveFreshRecord_19 rfl (lv_at hl 2 rfl) ?_
  refine x_aldq (v := .ref (ad 17 f i)) hx hb hK hP 2 (ga_13 hG (show f < 6 by omega)) rfl (vp_in_nI (by omega) (by omega)) (by rw [nI_clamp (by omega)]; rfl) d_G_giveFreshRecord_20 ?_
  refine lv_aload_n hx hb d_G_giveFreshRecord_21 rfl (lv_at hl 0 rfl) ?_
  refine x_get (v := .ref (ad 9 0 0)) (C := R_G) (T := F_G) (N := 12) hx hb hg i_G hown hK hP (ga_0 hG) rfl 8 (by decide) (hg _ w_118) (fun _ h9 => h9) rfl d_G_giveFreshRecord_22 ?_
  refine xvn_Q (n := 1) (As := [.ref (ad 9 0 0)]) (rest := []) hx hb hml hown hg hK0 hP hN (c_R_copyFrom l D T A _ (ad 17 f i) (ad 9 0 0) (ad 18 f i) (ad 10 0 0) N (g_71 10 0 0) (g_71 18 f i) (g_71 9 0 0 0) (g_71 9 0 0 1) (g_71 9 0 0 2) (g_71 9 0 0 3) (g_71 17 f i 0) (g_71 17 f i 1) (g_71 17 f i 2) (g_71 17 f i 3) (by omega) hfr1 (ga_17 hG (show f < 6 by omega) (show i < N by omega)) (ga_9 hG) (ga_18 hG (show f < 6 by omega) (show i < N by omega)) (ga_10 hG) (hG.ne (Or.inl ⟨by omega, rfl, rfl⟩) (Or.inr (Or.inr ⟨by omega, by omega, by omega, by omega⟩)) (by omega))) w_231 w_4 e_228 w_230 s_9 (ga_17 hG (show f < 6 by omega) (show i < N by omega)) rfl rfl (by decide +kernel) ⟨Nat.le_of_ble_eq_true rfl, Nat.le_of_ble_eq_true rfl⟩ rfl hl.1 rfl (Nat.le_of_ble_eq_true rfl) hS ⟨Nat.zero_le _, Nat.zero_le _⟩ rfl rfl d_G_giveFreshRecord_25 (fun r M1 H_73 L_74 hr hP hS => ?_)
  obtain ⟨rfl, rfl⟩ := hr
  obtain ⟨g_75, hg_75⟩ : ∃ z, z = cpS g_71 9 0 0 17 f i := ⟨_, rfl⟩
  obtain ⟨M_76, hP, hR⟩ : ∃ z, xW D classes A z H_73 ∧ gR T ad K N M g_75 z := ⟨_, hP, by rw [hg_75]; exact (hR.set (Or.inr (Or.inr ⟨by omega, by omega, by omega, by omega⟩)) rfl).set (Or.inr (Or.inr ⟨by omega, by omega, by omega, by omega⟩)) rfl⟩
  have hG := hR.1
  refine x_fr (pc := 28) [] rfl rfl ?_
  exact hret _ _ _ _ _ d_G_giveFreshRecord_28 hP hS ⟨rfl, by rw [hg_75, hg_71] at hR; exact hR⟩
def mkR (K N : Nat) (g g' : gT) (x y : Int32) : Prop := (∀ k f s, k ≠ 9 → k ≠ 10 → g' k f s = g k f s) ∧ (∀ j, j < N → g' 10 0 0 j = fpV K (g 7 0 0) j) ∧ g' 9 0 0 0 = 1 ∧ g' 9 0 0 2 = x ∧ g' 9 0 0 3 = mixF (rtF (fpV K (g 7 0 0)) N x) y ^^^ y
set_option maxHeartbeats 4000000 in
set_option maxRecDepth 100000 in
theorem c_G_makeFreshRecord (l : Launch) (D : va_G) (T : Nat → ClassId) (A : Nat → Prop) (M : xM) (ad : Nat → Nat → Nat → Nat) (K N : Nat) (g : gT) (hz : zB K N) (hG : gG T ad K N g M) (x y : Int32) : Met l y_G_makeFreshRecord (Cond.code y_G_makeFreshRecord b_G_makeFreshRecord 4 (some .int) :: gw) (rmH 3) (xPc D T A M [.ref (ad 0 0 0), .int x, .int y]) (xQ D A (fun r M1 => ∃ g', r = some (.int (rtF (fpV K (g 7 0 0)) N x)) ∧ gR T ad K N M g' M1 ∧ mkR K N g g' x y)) 0 0 A := by
  refine xMetQi (by decide) (Nat.le_of_ble_eq_true rfl) ?_
  intro p e s m below meth c Q ls hB hP hS hl hret
  obtain ⟨hx, hb, hml, hown, hg, hK0, hnm⟩ := hB
  have hown : s.vm.findClass "ShareGrid" = some m.cls := hown
  have hK := hK0.1
  have hN := hK0.2.1
  obtain ⟨hz1, hz4, hzn, hz7⟩ := id hz
  have hR := hG.rf
  have hl : lv_has ls 4 [(0, .ref (ad 0 0 0)), (1, .int x), (2, .int y)] := hl
  refine lv_aload_n hx hb d_G_makeFreshRecord_0 rfl (lv_at hl 0 rfl) ?_
  refine x_get (v := .ref (ad 9 0 0)) (C := R_G) (T := F_G) (N := 12) hx hb hg i_G hown hK hP (ga_0 hG) rfl 8 (by decide) (hg _ w_118) (fun _ h9 => h9) rfl d_G_makeFreshRecord_1 ?_
  refine lv_iload_n hx hb d_G_makeFreshRecord_4 rfl (lv_at hl 1 rfl) ?_
  refine x_putN (v := .int x) (ty := .int) (C := R_R) (T := F_R) (N := 5) hx hb hg i_R t_R t_R_ok n_R hown hK hP hS (ga_9 hG) rfl 3 (by decide) (va_Nw.use rfl (hN _ e_51)) (fun _ h9 => h9) rfl (by decide +kernel) rfl rfl (Nat.le_of_ble_eq_true rfl) d_G_makeFreshRecord_5 (fun H_77 L_78 hP hS => ?_)
  obtain ⟨g_79, hg_79⟩ : ∃ z, z = upS g 9 0 0 (upd (g 9 0 0) 2 x) := ⟨_, rfl⟩
  obtain ⟨M_80, hP, hR⟩ : ∃ z, xW D classes A z H_77 ∧ gR T ad K N M g_79 z := ⟨_, hP, by rw [hg_79]; exact hR.set (Or.inl ⟨by omega, rfl, rfl⟩) rfl⟩
  have hG := hR.1
  refine lv_iconst (v := nI 0) hx hb d_G_makeFreshRecord_8 (by decide) ?_
  refine lv_istore_n (lv' := [(3, .int (nI 0)), (0, .ref (ad 0 0 0)), (1, .int x), (2, .int y)]) hx hb d_G_makeFreshRecord_9 rfl hl (by decide) rfl (fun ls hl => ?_)
  have loop : ∀ (n : Nat) (i : Nat) (gx : gT), N + 1 ≤ i + n → i ≤ N → (∀ k f s, k ≠ 9 → k ≠ 10 → gx k f s = g k f s) → (∀ j, j < i → gx 10 0 0 j = fpV K (g 7 0 0) j) → gx 9 0 0 2 = x → ∀ (Mx : xM) (Hx : Heap) (Lx : List Loc), xW D classes A Mx Hx → va_S A s.heap Hx Lx → gR T ad K N M gx Mx → ∀ (ls : Array Slot), lv_has ls 4 [(0, .ref (ad 0 0 0)), (1, .int x), (2, .int y), (3, .int (nI i))] → W p l e (rmH 3) s m [.ref (ad 0 0 0), .int x, .int y].toArray below meth c Hx Lx 0 0 Q (F0 m 10 ls []) := by
    intro n
    induction n with
    | zero =>
      intro i gx h2 h1 r1 r2 r3
      exact absurd h2 (by omega)
    | succ n ih =>
      intro i gx h2 h1 r1 r2 r3 Mx Hx Lx hP hS hR ls hl
      have hG := hR.1
      refine lv_iload_n hx hb d_G_makeFreshRecord_10 rfl (lv_at hl 3 rfl) ?_
      refine lv_aload_n hx hb d_G_makeFreshRecord_11 rfl (lv_at hl 0 rfl) ?_
      refine x_get (v := .int (nI N)) (C := R_G) (T := F_G) (N := 12) hx hb hg i_G hown hK hP (ga_0 hG) rfl 1 (by decide) (hg _ w_111) (fun _ h9 => h9) rfl d_G_makeFreshRecord_12 ?_
      refine x_nc_ge (tgt := 45) hx hb d_G_makeFreshRecord_15 (by decide) (by omega) (by omega) (fun c1 => ?_) (fun c1 => ?_)
      · have hiN : i = N := by omega
        rw [hiN] at r2
        have ero : rtF (gx 10 0 0) N (gx 9 0 0 2) = rtF (fpV K (g 7 0 0)) N x := by rw [r3]; exact rtF_congr r2
        refine lv_aload_n hx hb d_G_makeFreshRecord_45 rfl (lv_at hl 0 rfl) ?_
        refine x_get (v := .ref (ad 9 0 0)) (C := R_G) (T := F_G) (N := 12) hx hb hg i_G hown hK hP (ga_0 hG) rfl 8 (by decide) (hg _ w_118) (fun _ h9 => h9) rfl d_G_makeFreshRecord_46 ?_
        refine xvn_R (n := 0) (As := []) (rest := []) hx hb hml hown hg hK0 hP hN (c_R_rootOfFingerprints l D T A _ (ad 9 0 0) (ad 10 0 0) N (gx 10 0 0) (gx 9 0 0 0) (gx 9 0 0 1) (gx 9 0 0 2) (gx 9 0 0 3) (by omega) (ga_9 hG) (ga_10 hG)) w_214 w_4 e_211 w_213 s_5 (ga_9 hG) rfl rfl (by decide +kernel) ⟨Nat.le_of_ble_eq_true rfl, Nat.le_of_ble_eq_true rfl⟩ rfl hl.1 rfl (Nat.le_of_ble_eq_true rfl) ⟨Nat.zero_le _, Nat.zero_le _⟩ rfl rfl d_G_makeFreshRecord_49 (fun r hr => ?_)
        subst hr
        refine x_fr (pc := 52) [.int (rtF (gx 10 0 0) N (gx 9 0 0 2))] rfl rfl ?_
        refine lv_istore_n (lv' := [(3, .int (rtF (gx 10 0 0) N (gx 9 0 0 2))), (0, .ref (ad 0 0 0)), (1, .int x), (2, .int y)]) hx hb d_G_makeFreshRecord_52 rfl hl (by decide) rfl (fun ls hl => ?_)
        refine lv_aload_n hx hb d_G_makeFreshRecord_53 rfl (lv_at hl 1 rfl) ?_
        refine x_get (v := .ref (ad 9 0 0)) (C := R_G) (T := F_G) (N := 12) hx hb hg i_G hown hK hP (ga_0 hG) rfl 8 (by decide) (hg _ w_118) (fun _ h9 => h9) rfl d_G_makeFreshRecord_54 ?_
        refine lv_iload_n hx hb d_G_makeFreshRecord_57 rfl (lv_at hl 0 rfl) ?_
        refine lv_iload_n hx hb d_G_makeFreshRecord_58 rfl (lv_at hl 3 rfl) ?_
        refine xs_R (n := 2) (As := [.int (rtF (gx 10 0 0) N (gx 9 0 0 2)), .int y]) (rest := [.ref (ad 9 0 0)]) hx hb hml hown hg hK0 hP (c_G_mix l D T A _ (rtF (gx 10 0 0) N (gx 9 0 0 2)) y) w_156 w_1 w_154 w_155 (by decide +kernel) ⟨Nat.le_of_ble_eq_true rfl, Nat.le_of_ble_eq_true rfl⟩ rfl hl.1 rfl (Nat.le_of_ble_eq_true rfl) ⟨Nat.zero_le _, Nat.zero_le _⟩ rfl rfl d_G_makeFreshRecord_59 (fun r hr => ?_)
        subst hr
        refine x_fr (pc := 62) [.int (mixF (rtF (gx 10 0 0) N (gx 9 0 0 2)) y), .ref (ad 9 0 0)] rfl rfl ?_
        refine lv_iload_n hx hb d_G_makeFreshRecord_62 rfl (lv_at hl 3 rfl) ?_
        refine lv_ixor hx hb d_G_makeFreshRecord_63 ?_
        refine x_putN (v := .int ((mixF (rtF (gx 10 0 0) N (gx 9 0 0 2)) y) ^^^ y)) (ty := .int) (C := R_R) (T := F_R) (N := 5) hx hb hg i_R t_R t_R_ok n_R hown hK hP hS (ga_9 hG) rfl 4 (by decide) (va_Nw.use rfl (hN _ e_54)) (fun _ h9 => h9) rfl (by decide +kernel) rfl rfl (Nat.le_of_ble_eq_true rfl) d_G_makeFreshRecord_64 (fun H_81 L_82 hP hS => ?_)
        obtain ⟨g_83, hg_83⟩ : ∃ z, z = upS gx 9 0 0 (upd (gx 9 0 0) 3 ((mixF (rtF (gx 10 0 0) N (gx 9 0 0 2)) y) ^^^ y)) := ⟨_, rfl⟩
        obtain ⟨M_84, hP, hR⟩ : ∃ z, xW D classes A z H_81 ∧ gR T ad K N M g_83 z := ⟨_, hP, by rw [hg_83]; exact hR.set (Or.inl ⟨by omega, rfl, rfl⟩) rfl⟩
        have hG := hR.1
        refine lv_aload_n hx hb d_G_makeFreshRecord_67 rfl (lv_at hl 1 rfl) ?_
        refine x_get (v := .ref (ad 9 0 0)) (C := R_G) (T := F_G) (N := 12) hx hb hg i_G hown hK hP (ga_0 hG) rfl 8 (by decide) (hg _ w_118) (fun _ h9 => h9) rfl d_G_makeFreshRecord_68 ?_
        refine lv_iconst (v := 1) hx hb d_G_makeFreshRecord_71 (by decide) ?_
        refine x_putN (v := .int 1) (ty := .boolean) (C := R_R) (T := F_R) (N := 5) hx hb hg i_R t_R t_R_ok n_R hown hK hP hS (ga_9 hG) rfl 1 (by decide) (va_Nw.use rfl (hN _ e_45)) (fun _ h9 => h9) rfl (by decide +kernel) (by rfl) (by rfl) (Nat.le_of_ble_eq_true rfl) d_G_makeFreshRecord_72 (fun H_85 L_86 hP hS => ?_)
        obtain ⟨g_87, hg_87⟩ : ∃ z, z = upS g_83 9 0 0 (upd (g_83 9 0 0) 0 1) := ⟨_, rfl⟩
        obtain ⟨M_88, hP, hR⟩ : ∃ z, xW D classes A z H_85 ∧ gR T ad K N M g_87 z := ⟨_, hP, by rw [hg_87]; exact hR.set (Or.inl ⟨by omega, rfl, rfl⟩) rfl⟩
        have hG := hR.1
        refine lv_iload_n hx hb d_G_makeFreshRecord_75 rfl (lv_at hl 0 rfl) ?_
        refine hret _ _ _ _ _ _ d_G_makeFreshRecord_76 hP hS ⟨g_87, by rw [ero], hR, ?_, ?_, ?_, ?_, ?_⟩
        · intro k f s q1 q2; rw [hg_87, upS_n (by omega), hg_83, upS_n (by omega)]; exact r1 k f s q1 q2
        · intro j hj; rw [hg_87, upS_n (by omega), hg_83, upS_n (by omega)]; exact r2 j hj
        · rw [hg_87, upS_s]; rfl
        · rw [hg_87, upS_s, upd_n (by omega), hg_83, upS_s, upd_n (by omega)]; exact r3
        · rw [hg_87, upS_s, upd_n (by omega), hg_83, upS_s, upd_s, ero]
      · refine lv_aload_n hx hb d_G_makeFreshRecord_18 rfl (lv_at hl 0 rfl) ?_
        refine x_get (v := .ref (ad 9 0 0)) (C := R_G) (T := F_G) (N := 12) hx hb hg i_G hown hK hP (ga_0 hG) rfl 8 (by decide) (hg _ w_118) (fun _ h9 => h9) rfl d_G_makeFreshRecord_19 ?_
        refine x_getN (v := .ref (ad 10 0 0)) (C := R_R) (T := F_R) (N := 5) hx hb hg i_R hown hK hP (ga_9 hG) rfl 0 (by decide) (va_Nw.use rfl (hN _ e_42)) (fun _ h9 => h9) rfl d_G_makeFreshRecord_22 ?_
        refine lv_iload_n hx hb d_G_makeFreshRecord_25 rfl (lv_at hl 3 rfl) ?_
        refine lv_aload_n hx hb d_G_makeFreshRecord_26 rfl (lv_at hl 0 rfl) ?_
        refine x_get (v := .ref (ad 6 0 0)) (C := R_G) (T := F_G) (N := 12) hx hb hg i_G hown hK hP (ga_0 hG) rfl 7 (by decide) (hg _ w_117) (fun _ h9 => h9) rfl d_G_makeFreshRecord_27 ?_
        refine lv_iload_n hx hb d_G_makeFreshRecord_30 rfl (lv_at hl 3 rfl) ?_
        refine xvn_R (n := 1) (As := [.int (nI i)]) (rest := [.int (nI i), .ref (ad 10 0 0)]) hx hb hml hown hg hK0 hP hN (c_C_shareAt l D T A _ ad K N gx hz hG (nI i)) w_196 w_5 e_193 w_195 s_4 (ga_6 hG) rfl rfl (by decide +kernel) ⟨Nat.le_of_ble_eq_true rfl, Nat.le_of_ble_eq_true rfl⟩ rfl hl.1 rfl (Nat.le_of_ble_eq_true rfl) ⟨Nat.zero_le _, Nat.zero_le _⟩ rfl rfl d_G_makeFreshRecord_31 (fun r hr => ?_)
        subst hr
        refine x_fr (pc := 34) [.int (shG (gx 7 0 0) ((nI i) + 1) 0 K), .int (nI i), .ref (ad 10 0 0)] rfl rfl ?_
        refine lv_iload_n hx hb d_G_makeFreshRecord_34 rfl (lv_at hl 3 rfl) ?_
        refine xs_R (n := 2) (As := [.int (shG (gx 7 0 0) ((nI i) + 1) 0 K), .int (nI i)]) (rest := [.int (nI i), .ref (ad 10 0 0)]) hx hb hml hown hg hK0 hP (c_G_fingerprint l D T A _ (shG (gx 7 0 0) ((nI i) + 1) 0 K) (nI i)) w_210 w_1 w_208 w_209 (by decide +kernel) ⟨Nat.le_of_ble_eq_true rfl, Nat.le_of_ble_eq_true rfl⟩ rfl hl.1 rfl (Nat.le_of_ble_eq_true rfl) ⟨Nat.zero_le _, Nat.zero_le _⟩ rfl rfl d_G_makeFreshRecord_35 (fun r hr => ?_)
        subst hr
        refine x_fr (pc := 38) [.int (mixF (shG (gx 7 0 0) ((nI i) + 1) 0 K) ((nI i) + 100)), .int (nI i), .ref (ad 10 0 0)] rfl rfl ?_
        refine x_iast hx hb hK hP hS 0 (ga_10 hG) rfl (vp_in_nI (by omega) (by omega)) d_G_makeFreshRecord_38 (fun H_89 L_90 hP hS => ?_)
        rw [nI_clamp (by omega)] at hP
        obtain ⟨g_91, hg_91⟩ : ∃ z, z = upS gx 10 0 0 (upd (gx 10 0 0) i (mixF (shG (gx 7 0 0) ((nI i) + 1) 0 K) ((nI i) + 100))) := ⟨_, rfl⟩
        obtain ⟨M_92, hP, hR⟩ : ∃ z, xW D classes A z H_89 ∧ gR T ad K N M g_91 z := ⟨_, hP, by rw [hg_91]; exact hR.set (Or.inl ⟨by omega, rfl, rfl⟩) rfl⟩
        have hG := hR.1
        have e7 : gx 7 0 0 = g 7 0 0 := r1 7 0 0 (by omega) (by omega)
        have ra : ∀ k f s, k ≠ 9 → k ≠ 10 → g_91 k f s = g k f s := fun k f s q1 q2 => by rw [hg_91, upS_n (by omega)]; exact r1 k f s q1 q2
        have rb : ∀ j, j < i + 1 → g_91 10 0 0 j = fpV K (g 7 0 0) j := by
          intro j hj
          rw [hg_91, upS_s]
          by_cases hji : j = i
          · subst hji; rw [upd_s, e7]; rfl
          · rw [upd_n hji]; exact r2 j (by omega)
        have rc : g_91 9 0 0 2 = x := by rw [hg_91, upS_n (by omega)]; exact r3
        refine lv_iinc (v := nI (i + 1)) (lv' := [(3, .int (nI (i + 1))), (0, .ref (ad 0 0 0)), (1, .int x), (2, .int y)]) hx hb d_G_makeFreshRecord_39 hl (k := 3) rfl (nI_1 _) (by decide) rfl (fun ls hl => ?_)
        refine lv_goto (tgt := 10) hx hb d_G_makeFreshRecord_42 (by decide) ?_
        exact ih (i + 1) g_91 (by omega) (by omega) ra rb rc _ _ _ hP hS hR ls (lv_sub hl [1, 2, 3, 0] rfl)
  exact loop (N + 1) 0 g_79 (by omega) (by omega) (fun k f s q1 q2 => by rw [hg_79, upS_n (by omega)]) (fun j hj => absurd hj (by omega)) (by rw [hg_79, upS_s]; rfl) _ _ _ hP hS hR ls (lv_sub hl [1, 2, 3, 0] rfl)
theorem xU_id {M : xM} {a : Nat} {e : va_E} (h : M a = some e) : xU M a e = M := by
  funext x
  by_cases q : x = a
  · subst q; rw [xU_s, h]
  · rw [xU_n q]
set_option maxHeartbeats 4000000 in
set_option maxRecDepth 100000 in
theorem c_J_fill (l : Launch) (D : va_G) (T : Nat → ClassId) (A : Nat → Prop) (M : xM) (a n0 : Nat) (f : Nat → Int32) (x : Int32) (hn0 : n0 ≤ 31) (ha : M a = some (eI (T 0) n0 f)) : Met l y_J_fill (Cond.code y_J_fill b_J_fill 4 none :: gw) (rmH 0) (xPc D T A M [.ref a, .int x]) (xQ D A (fun r M1 => r = none ∧ M1 = xU M a (eI (T 0) n0 (fun _ => x)))) 0 0 A := by
  refine xMetQv (by decide) (Nat.le_of_ble_eq_true rfl) ?_
  intro p e s m below meth c Q ls hB hP hS hl hret
  obtain ⟨hx, hb, hml, hown, hg, hK0, hnm⟩ := hB
  have hown : s.vm.findClass "java/util/Arrays" = some m.cls := hown
  have hK := hK0.1
  have hN := hK0.2.1
  have hl : lv_has ls 4 [(0, .ref a), (1, .int x)] := hl
  refine lv_iconst (v := nI 0) hx hb d_J_fill_0 (by decide) ?_
  refine lv_istore_n (lv' := [(2, .int (nI 0)), (0, .ref a), (1, .int x)]) hx hb d_J_fill_1 rfl hl (by decide) rfl (fun ls hl => ?_)
  refine lv_aload_n hx hb d_J_fill_2 rfl (lv_at hl 1 rfl) ?_
  refine x_alen (v := nI n0) hx hb hK hP 0 ha rfl rfl d_J_fill_3 ?_
  refine lv_istore_n (lv' := [(3, .int (nI n0)), (2, .int (nI 0)), (0, .ref a), (1, .int x)]) hx hb d_J_fill_4 rfl hl (by decide) rfl (fun ls hl => ?_)
  have loop : ∀ (n i : Nat) (h : Nat → Int32), n0 + 1 ≤ i + n → i ≤ n0 → (∀ j, j < i → h j = x) → ∀ (Hx : Heap) (Lx : List Loc), xW D classes A (xU M a (eI (T 0) n0 h)) Hx → va_S A s.heap Hx Lx → ∀ (ls : Array Slot), lv_has ls 4 [(0, .ref a), (1, .int x), (2, .int (nI i)), (3, .int (nI n0))] → W p l e (rmH 0) s m [.ref a, .int x].toArray below meth c Hx Lx 0 0 Q (F0 m 5 ls []) := by
    intro n
    induction n with
    | zero => intro i h h2 h1; exact absurd h2 (by omega)
    | succ n ih =>
      intro i h h2 h1 r1 Hx Lx hP hS ls hl
      refine lv_iload_n hx hb d_J_fill_5 rfl (lv_at hl 2 rfl) ?_
      refine lv_iload_n hx hb d_J_fill_6 rfl (lv_at hl 3 rfl) ?_
      refine x_nc_ge (tgt := 20) hx hb d_J_fill_7 (by decide) (by omega) (by omega) (fun c1 => ?_) (fun c1 => ?_)
      · have hP := hP.ext (f' := fun _ => x) (fun j hj => r1 j (by omega))
        exact hret _ _ _ _ _ d_J_fill_20 hP hS ⟨rfl, rfl⟩
      · refine lv_aload_n hx hb d_J_fill_10 rfl (lv_at hl 0 rfl) ?_
        refine lv_iload_n hx hb d_J_fill_11 rfl (lv_at hl 2 rfl) ?_
        refine lv_iload_n hx hb d_J_fill_12 rfl (lv_at hl 1 rfl) ?_
        refine x_iast hx hb hK hP hS 0 xU_s rfl (vp_in_nI (by omega) (by omega)) d_J_fill_13 (fun H_93 L_94 hP hS => ?_)
        rw [nI_clamp (by omega), xU_uu] at hP
        refine lv_iinc (v := nI (i + 1)) (lv' := [(2, .int (nI (i + 1))), (0, .ref a), (1, .int x), (3, .int (nI n0))]) hx hb d_J_fill_14 hl (k := 2) rfl (nI_1 _) (by decide) rfl (fun ls hl => ?_)
        refine lv_goto (tgt := 5) hx hb d_J_fill_17 (by decide) ?_
        exact ih (i + 1) _ (by omega) (by omega) (fun j hj => by
          by_cases hji : j = i
          · subst hji; rw [upd_s]
          · rw [upd_n hji]; exact r1 j (by omega)) _ _ hP hS ls (lv_sub hl [1, 2, 0, 3] rfl)
  exact loop (n0 + 1) 0 f (by omega) (by omega) (fun j hj => absurd hj (by omega)) _ _ (by rw [xU_id ha]; exact hP) hS ls (lv_sub hl [2, 3, 1, 0] rfl)
end
section
/-! the best number -/
theorem upS_uu {g : gT} {k f s : Nat} {h h' : Nat → Int32} : upS (upS g k f s h) k f s h' = upS g k f s h' := by
  funext k1 f1 s1
  by_cases q : k1 = k ∧ f1 = f ∧ s1 = s
  · simp [upS, q]
  · simp [upS, q]
theorem sdF_num {N : Nat} {rc fps roots seals : Nat → Int32} {w : Int32} {i : Nat} (h : ¬ sdF N rc fps roots seals w i = 0) : ¬ rc 2 < 1 ∧ rc 2 ≤ w := by
  unfold sdF at h
  by_cases h0 : rc 0 = 0
  · exact absurd (if_pos h0) h
  · rw [if_neg h0] at h
    by_cases h1 : rc 2 < 1
    · exact absurd (if_pos h1) h
    · rw [if_neg h1] at h
      by_cases h2 : rc 2 ≤ w
      · exact ⟨h1, h2⟩
      · exact absurd (if_neg h2) h
set_option maxHeartbeats 4000000 in
set_option maxRecDepth 100000 in
theorem c_G_bestNumber (l : Launch) (D : va_G) (T : Nat → ClassId) (A : Nat → Prop) (M : xM) (ad : Nat → Nat → Nat → Nat) (K N : Nat) (g : gT) (hz : zB K N) (hG : gG T ad K N g M) (f w : Nat) (hf : f < 6) (hw : g 12 f 0 1 = nI w) (hw30 : w ≤ 30) : Met l y_G_bestNumber (Cond.code y_G_bestNumber b_G_bestNumber 3 (some .int) :: gw) (rmH 3) (xPc D T A M [.ref (ad 0 0 0), .ref (ad 12 f 0)]) (xQ D A (fun r M1 => ∃ h, r = some (.int (nI (beF K N g f))) ∧ gR T ad K N M (upS g 11 0 0 h) M1)) 0 0 A := by
  refine xMetQi (by decide) (Nat.le_of_ble_eq_true rfl) ?_
  intro p e s m below meth c Q ls hB hP hS hl hret
  obtain ⟨hx, hb, hml, hown, hg, hK0, hnm⟩ := hB
  have hown : s.vm.findClass "ShareGrid" = some m.cls := hown
  have hK := hK0.1
  have hN := hK0.2.1
  obtain ⟨hz1, hz4, hzn, hz7⟩ := id hz
  have hR := hG.rf
  have hl : lv_has ls 3 [(0, .ref (ad 0 0 0)), (1, .ref (ad 12 f 0))] := hl
  refine lv_aload_n hx hb d_G_bestNumber_0 rfl (lv_at hl 0 rfl) ?_
  refine x_get (v := .ref (ad 11 0 0)) (C := R_G) (T := F_G) (N := 12) hx hb hg i_G hown hK hP (ga_0 hG) rfl 9 (by decide) (hg _ w_119) (fun _ h9 => h9) rfl d_G_bestNumber_1 ?_
  refine lv_iconst (v := nI 0) hx hb d_G_bestNumber_4 (by decide) ?_
  refine xs_Q (n := 2) (As := [.ref (ad 11 0 0), .int (nI 0)]) (rest := []) hx hb hml hown hg hK0 hP (c_J_fill l D T A _ (ad 11 0 0) 31 (g 11 0 0) (nI 0) (by omega) (ga_11 hG)) w_245 w_8 w_243 w_244 (by decide +kernel) ⟨Nat.le_of_ble_eq_true rfl, Nat.le_of_ble_eq_true rfl⟩ rfl hl.1 rfl (Nat.le_of_ble_eq_true rfl) hS ⟨Nat.zero_le _, Nat.zero_le _⟩ rfl rfl d_G_bestNumber_5 (fun r M1 H_95 L_96 hr hP hS => ?_)
  obtain ⟨rfl, rfl⟩ := hr
  obtain ⟨g_97, hg_97⟩ : ∃ z, z = upS g 11 0 0 (fun _ => nI 0) := ⟨_, rfl⟩
  obtain ⟨M_98, hP, hR⟩ : ∃ z, xW D classes A z H_95 ∧ gR T ad K N M g_97 z := ⟨_, hP, by rw [hg_97]; exact hR.set (Or.inl ⟨by omega, rfl, rfl⟩) rfl⟩
  have hG := hR.1
  refine x_fr (pc := 8) [] rfl rfl ?_
  refine lv_iconst (v := nI 0) hx hb d_G_bestNumber_8 (by decide) ?_
  refine lv_istore_n (lv' := [(2, .int (nI 0)), (0, .ref (ad 0 0 0)), (1, .ref (ad 12 f 0))]) hx hb d_G_bestNumber_9 rfl hl (by decide) rfl (fun ls hl => ?_)
  have loop : ∀ (n : Nat) (i : Nat) (h : Nat → Int32), N + 1 ≤ i + n → i ≤ N → (∀ j, j < 31 → h j = nI (cuF (svF N g f (nI j)) i)) → ∀ (Mx : xM) (Hx : Heap) (Lx : List Loc), xW D classes A Mx Hx → va_S A s.heap Hx Lx → gR T ad K N M (upS g 11 0 0 h) Mx → ∀ (ls : Array Slot), lv_has ls 3 [(0, .ref (ad 0 0 0)), (1, .ref (ad 12 f 0)), (2, .int (nI i))] → W p l e (rmH 3) s m [.ref (ad 0 0 0), .ref (ad 12 f 0)].toArray below meth c Hx Lx 0 0 Q (F0 m 10 ls []) := by
    intro n
    induction n with
    | zero =>
      intro i h h2 h1 r1
      exact absurd h2 (by omega)
    | succ n ih =>
      intro i h h2 h1 r1 Mx Hx Lx hP hS hR ls hl
      have hG := hR.1
      refine lv_iload_n hx hb d_G_bestNumber_10 rfl (lv_at hl 2 rfl) ?_
      refine lv_aload_n hx hb d_G_bestNumber_11 rfl (lv_at hl 0 rfl) ?_
      refine x_get (v := .int (nI N)) (C := R_G) (T := F_G) (N := 12) hx hb hg i_G hown hK hP (ga_0 hG) rfl 1 (by decide) (hg _ w_111) (fun _ h9 => h9) rfl d_G_bestNumber_12 ?_
      refine x_nc_ge (tgt := 59) hx hb d_G_bestNumber_15 (by decide) (by omega) (by omega) (fun c1 => ?_) (fun c1 => ?_)
      · have hiN : i = N := by omega
        rw [hiN] at r1
        refine lv_aload_n hx hb d_G_bestNumber_59 rfl (lv_at hl 1 rfl) ?_
        refine x_getN (v := .int ((upS g 11 0 0 h) 12 f 0 1)) (C := R_F) (T := F_F) (N := 6) hx hb hg i_F hown hK hP (ga_12 hG (show f < 6 by omega)) rfl 5 (by decide) (va_Nw.use rfl (hN _ e_76)) (fun _ h9 => h9) rfl d_G_bestNumber_60 ?_
        refine x_top (y := nI w) (show (upS g 11 0 0 h) 12 f 0 1 = nI w from hw) ?_
        refine lv_istore_n (lv' := [(2, .int (nI w)), (0, .ref (ad 0 0 0)), (1, .ref (ad 12 f 0))]) hx hb d_G_bestNumber_63 rfl hl (by decide) rfl (fun ls hl => ?_)
        have ebe : beF K N g f = bdF (fun j => cuF (svF N g f (nI j)) N) K w := by rw [beF, hw, nI_clamp (by omega)]
        have loop2 : ∀ (u : Nat), u ≤ w → beF K N g f = bdF (fun j => cuF (svF N g f (nI j)) N) K u → ∀ (ls : Array Slot), lv_has ls 3 [(0, .ref (ad 0 0 0)), (1, .ref (ad 12 f 0)), (2, .int (nI u))] → W p l e (rmH 3) s m [.ref (ad 0 0 0), .ref (ad 12 f 0)].toArray below meth c Hx Lx 0 0 Q (F0 m 64 ls []) := by
          intro u
          induction u with
          | zero =>
            intro hu he ls hl
            refine lv_iload_n hx hb d_G_bestNumber_64 rfl (lv_at hl 2 rfl) ?_
            refine lv_iconst (v := nI 1) hx hb d_G_bestNumber_65 (by decide) ?_
            refine x_nc_lt (tgt := 90) hx hb d_G_bestNumber_66 (by decide) (by omega) (by omega) (fun c4 => ?_) (fun c4 => ?_)
            · refine lv_iconst (v := nI 0) hx hb d_G_bestNumber_90 (by decide) ?_
              exact hret _ _ _ _ _ _ d_G_bestNumber_91 hP hS ⟨h, by rw [he]; rfl, hR⟩
            · exact absurd c4 (by omega)
          | succ u ihu =>
            intro hu he ls hl
            have hcl := cuF_le (svF N g f (nI (u + 1))) N
            refine lv_iload_n hx hb d_G_bestNumber_64 rfl (lv_at hl 2 rfl) ?_
            refine lv_iconst (v := nI 1) hx hb d_G_bestNumber_65 (by decide) ?_
            refine x_nc_lt (tgt := 90) hx hb d_G_bestNumber_66 (by decide) (by omega) (by omega) (fun c4 => ?_) (fun c4 => ?_)
            · exact absurd c4 (by omega)
            · refine lv_aload_n hx hb d_G_bestNumber_69 rfl (lv_at hl 0 rfl) ?_
              refine x_get (v := .ref (ad 11 0 0)) (C := R_G) (T := F_G) (N := 12) hx hb hg i_G hown hK hP (ga_0 hG) rfl 9 (by decide) (hg _ w_119) (fun _ h9 => h9) rfl d_G_bestNumber_70 ?_
              refine lv_iload_n hx hb d_G_bestNumber_73 rfl (lv_at hl 2 rfl) ?_
              refine x_iald (v := (upS g 11 0 0 h) 11 0 0 (u + 1)) hx hb hK hP 0 (ga_11 hG) rfl (vp_in_nI (by omega) (by omega)) (by rw [nI_clamp (by omega)]) d_G_bestNumber_74 ?_
              refine x_top (y := nI (cuF (svF N g f (nI (u + 1))) N)) (show (upS g 11 0 0 h) 11 0 0 (u + 1) = _ from r1 (u + 1) (by omega)) ?_
              refine lv_aload_n hx hb d_G_bestNumber_75 rfl (lv_at hl 0 rfl) ?_
              refine x_get (v := .int (nI K)) (C := R_G) (T := F_G) (N := 12) hx hb hg i_G hown hK hP (ga_0 hG) rfl 0 (by decide) (hg _ w_110) (fun _ h9 => h9) rfl d_G_bestNumber_76 ?_
              refine x_nc_lt (tgt := 84) hx hb d_G_bestNumber_79 (by decide) (by omega) (by omega) (fun c5 => ?_) (fun c5 => ?_)
              · refine lv_iinc (v := nI u) (lv' := [(2, .int (nI u)), (0, .ref (ad 0 0 0)), (1, .ref (ad 12 f 0))]) hx hb d_G_bestNumber_84 hl (k := 2) rfl (pk_m1 u) (by decide) rfl (fun ls hl => ?_)
                refine lv_goto (tgt := 64) hx hb d_G_bestNumber_87 (by decide) ?_
                exact ihu (by omega) (by rw [he, bdF, if_neg (Nat.not_le.mpr c5)]) ls (lv_sub hl [1, 2, 0] rfl)
              · refine lv_iload_n hx hb d_G_bestNumber_82 rfl (lv_at hl 2 rfl) ?_
                exact hret _ _ _ _ _ _ d_G_bestNumber_83 hP hS ⟨h, by rw [he, bdF, if_pos c5], hR⟩
        exact loop2 w (Nat.le_refl w) ebe ls (lv_sub hl [1, 2, 0] rfl)
      · refine lv_aload_n hx hb d_G_bestNumber_18 rfl (lv_at hl 0 rfl) ?_
        refine x_get (v := .ref (ad 1 0 0)) (C := R_G) (T := F_G) (N := 12) hx hb hg i_G hown hK hP (ga_0 hG) rfl 2 (by decide) (hg _ w_112) (fun _ h9 => h9) rfl d_G_bestNumber_19 ?_
        refine lv_iload_n hx hb d_G_bestNumber_22 rfl (lv_at hl 2 rfl) ?_
        refine x_zald (v := (upS g 11 0 0 h) 1 0 0 i) hx hb hK hP 1 (ga_1 hG) rfl (vp_in_nI (by omega) (by omega)) (by rw [nI_clamp (by omega)]) d_G_bestNumber_23 ?_
        refine lv_if_eq (tgt := 53) hx hb d_G_bestNumber_24 (by decide) (fun c2 => ?_) (fun c2 => ?_)
        · have c2 : g 1 0 0 i = 0 := c2
          have ecu : ∀ x, cuF (svF N g f x) (i + 1) = cuF (svF N g f x) i := fun x => by rw [cuF, if_pos (by rw [svF, if_pos c2])]
          refine lv_iinc (v := nI (i + 1)) (lv' := [(2, .int (nI (i + 1))), (0, .ref (ad 0 0 0)), (1, .ref (ad 12 f 0))]) hx hb d_G_bestNumber_53 hl (k := 2) rfl (nI_1 _) (by decide) rfl (fun ls hl => ?_)
          refine lv_goto (tgt := 10) hx hb d_G_bestNumber_56 (by decide) ?_
          exact ih (i + 1) h (by omega) (by omega) (fun j hj => by rw [ecu]; exact r1 j hj) _ _ _ hP hS hR ls (lv_sub hl [1, 2, 0] rfl)
        · have c2 : ¬ g 1 0 0 i = 0 := c2
          refine lv_aload_n hx hb d_G_bestNumber_27 rfl (lv_at hl 1 rfl) ?_
          refine lv_iload_n hx hb d_G_bestNumber_28 rfl (lv_at hl 2 rfl) ?_
          refine xvn_R (n := 1) (As := [.int (nI i)]) (rest := []) hx hb hml hown hg hK0 hP hN (c_F_isSoundAt l D T A _ ad K N (upS g 11 0 0 h) hz hG f i w (by omega) (by omega) (show (upS g 11 0 0 h) 12 f 0 1 = nI w from hw) hw30) w_249 w_3 e_246 w_248 s_11 (ga_12 hG (show f < 6 by omega)) rfl rfl (by decide +kernel) ⟨Nat.le_of_ble_eq_true rfl, Nat.le_of_ble_eq_true rfl⟩ rfl hl.1 rfl (Nat.le_of_ble_eq_true rfl) ⟨Nat.zero_le _, Nat.zero_le _⟩ rfl rfl d_G_bestNumber_29 (fun r hr => ?_)
          subst hr
          refine x_fr (pc := 32) [.int (sdG N (upS g 11 0 0 h) f i)] rfl rfl ?_
          refine lv_if_eq (tgt := 53) hx hb d_G_bestNumber_32 (by decide) (fun c3 => ?_) (fun c3 => ?_)
          · have c3 : sdG N g f i = 0 := c3
            have ecu : ∀ x, cuF (svF N g f x) (i + 1) = cuF (svF N g f x) i := fun x => by rw [cuF, if_pos (by rw [svF, if_neg c2, if_pos c3])]
            refine lv_iinc (v := nI (i + 1)) (lv' := [(2, .int (nI (i + 1))), (0, .ref (ad 0 0 0)), (1, .ref (ad 12 f 0))]) hx hb d_G_bestNumber_53 hl (k := 2) rfl (nI_1 _) (by decide) rfl (fun ls hl => ?_)
            refine lv_goto (tgt := 10) hx hb d_G_bestNumber_56 (by decide) ?_
            exact ih (i + 1) h (by omega) (by omega) (fun j hj => by rw [ecu]; exact r1 j hj) _ _ _ hP hS hR ls (lv_sub hl [1, 2, 0] rfl)
          · have c3 : ¬ sdG N g f i = 0 := c3
            obtain ⟨q1, q2⟩ := sdF_num c3
            rw [hw] at q2
            obtain ⟨j0, hj1, hj2, hj0⟩ := ixw hw30 q1 q2
            refine lv_aload_n hx hb d_G_bestNumber_35 rfl (lv_at hl 0 rfl) ?_
            refine x_get (v := .ref (ad 11 0 0)) (C := R_G) (T := F_G) (N := 12) hx hb hg i_G hown hK hP (ga_0 hG) rfl 9 (by decide) (hg _ w_119) (fun _ h9 => h9) rfl d_G_bestNumber_36 ?_
            refine lv_aload_n hx hb d_G_bestNumber_39 rfl (lv_at hl 1 rfl) ?_
            refine x_getN (v := .ref (ad 13 f 0)) (C := R_F) (T := F_F) (N := 6) hx hb hg i_F hown hK hP (ga_12 hG (show f < 6 by omega)) rfl 0 (by decide) (va_Nw.use rfl (hN _ e_69)) (fun _ h9 => h9) rfl d_G_bestNumber_40 ?_
            refine lv_iload_n hx hb d_G_bestNumber_43 rfl (lv_at hl 2 rfl) ?_
            refine x_aldq (v := .ref (ad 17 f i)) hx hb hK hP 2 (ga_13 hG (show f < 6 by omega)) rfl (vp_in_nI (by omega) (by omega)) (by rw [nI_clamp (by omega)]; rfl) d_G_bestNumber_44 ?_
            refine x_getN (v := .int ((upS g 11 0 0 h) 17 f i 2)) (C := R_R) (T := F_R) (N := 5) hx hb hg i_R hown hK hP (ga_17 hG (show f < 6 by omega) (show i < N by omega)) rfl 3 (by decide) (va_Nw.use rfl (hN _ e_51)) (fun _ h9 => h9) rfl d_G_bestNumber_45 ?_
            refine x_top (y := nI j0) (show (upS g 11 0 0 h) 17 f i 2 = nI j0 from hj0) ?_
            refine lv_dup2_11 hx hb d_G_bestNumber_48 rfl rfl ?_
            refine x_iald (v := (upS g 11 0 0 h) 11 0 0 j0) hx hb hK hP 0 (ga_11 hG) rfl (vp_in_nI (by omega) (by omega)) (by rw [nI_clamp (by omega)]) d_G_bestNumber_49 ?_
            refine x_top (y := nI (cuF (svF N g f (nI j0)) i)) (show (upS g 11 0 0 h) 11 0 0 j0 = _ from r1 j0 (by omega)) ?_
            refine lv_iconst (v := nI 1) hx hb d_G_bestNumber_50 (by decide) ?_
            refine lv_iadd hx hb d_G_bestNumber_51 ?_
            refine x_top (y := nI ((cuF (svF N g f (nI j0)) i) + 1)) (nI_add _ _) ?_
            refine x_iast hx hb hK hP hS 0 (ga_11 hG) rfl (vp_in_nI (by omega) (by omega)) d_G_bestNumber_52 (fun H_99 L_100 hP hS => ?_)
            rw [nI_clamp (by omega)] at hP
            obtain ⟨g_101, hg_101⟩ : ∃ z, z = upS (upS g 11 0 0 h) 11 0 0 (upd ((upS g 11 0 0 h) 11 0 0) j0 (nI ((cuF (svF N g f (nI j0)) i) + 1))) := ⟨_, rfl⟩
            obtain ⟨M_102, hP, hR⟩ : ∃ z, xW D classes A z H_99 ∧ gR T ad K N M g_101 z := ⟨_, hP, by rw [hg_101]; exact hR.set (Or.inl ⟨by omega, rfl, rfl⟩) rfl⟩
            have hG := hR.1
            have hR : gR T ad K N M (upS g 11 0 0 (upd h j0 (nI (cuF (svF N g f (nI j0)) i + 1)))) M_102 := by rw [hg_101, upS_uu, upS_s] at hR; exact hR
            refine lv_iinc (v := nI (i + 1)) (lv' := [(2, .int (nI (i + 1))), (0, .ref (ad 0 0 0)), (1, .ref (ad 12 f 0))]) hx hb d_G_bestNumber_53 hl (k := 2) rfl (nI_1 _) (by decide) rfl (fun ls hl => ?_)
            refine lv_goto (tgt := 10) hx hb d_G_bestNumber_56 (by decide) ?_
            refine ih (i + 1) _ (by omega) (by omega) (fun j hj => ?_) _ _ _ hP hS hR ls (lv_sub hl [1, 2, 0] rfl)
            by_cases hjj : j = j0
            · subst hjj; rw [upd_s, cuF, if_neg (by rw [svF, if_neg c2, if_neg c3, if_pos hj0]; decide)]
            · rw [upd_n hjj, cuF, if_pos (by rw [svF, if_neg c2, if_neg c3, if_neg (fun z => hjj ((nI_eq (by omega) (by omega)).mp (z.symm.trans hj0)))])]; exact r1 j hj
  rw [hg_97] at hR
  exact loop (N + 1) 0 _ (by omega) (by omega) (fun j hj => rfl) _ _ _ hP hS hR ls (lv_sub hl [1, 2, 0] rfl)
theorem upS_id {g : gT} {k f s : Nat} : upS g k f s (g k f s) = g := by
  funext k1 f1 s1
  by_cases q : k1 = k ∧ f1 = f ∧ s1 = s
  · obtain ⟨rfl, rfl, rfl⟩ := q; rw [upS_s]
  · rw [upS_n q]
set_option maxHeartbeats 4000000 in
set_option maxRecDepth 100000 in
theorem c_G_best (l : Launch) (D : va_G) (T : Nat → ClassId) (A : Nat → Prop) (M : xM) (ad : Nat → Nat → Nat → Nat) (K N : Nat) (g : gT) (hz : zB K N) (hG : gG T ad K N g M) (q : Nat) (w : Nat → Nat) (hI : iG N g q w) (x : Int32) : Met l y_G_best (Cond.code y_G_best b_G_best 3 (some .int) :: gw) (rmH 4) (xPc D T A M [.ref (ad 0 0 0), .int x]) (xQ D A (fun r M1 => ∃ h, r = some (.int (aBest K N g q x)) ∧ gR T ad K N M (upS g 11 0 0 h) M1)) 0 0 A := by
  refine xMetQi (by decide) (Nat.le_of_ble_eq_true rfl) ?_
  intro p e s m below meth c Q ls hB hP hS hl hret
  obtain ⟨hx, hb, hml, hown, hg, hK0, hnm⟩ := hB
  have hown : s.vm.findClass "ShareGrid" = some m.cls := hown
  have hK := hK0.1
  have hN := hK0.2.1
  obtain ⟨hz1, hz4, hzn, hz7⟩ := id hz
  have hR := hG.rf
  obtain ⟨hq, hq6, hwr, hbo⟩ := id hI
  have hl : lv_has ls 3 [(0, .ref (ad 0 0 0)), (1, .int x)] := hl
  refine lv_aload_n hx hb d_G_best_0 rfl (lv_at hl 0 rfl) ?_
  refine lv_iload_n hx hb d_G_best_1 rfl (lv_at hl 1 rfl) ?_
  refine xv_R (n := 1) (As := [.int x]) (rest := []) hx hb hml hown hg hK0 hP (c_G_fileUnder l D T A _ ad K N g hz hG q hq hq6 x) w_169 w_1 w_166 w_168 s_0 (ga_0 hG) rfl rfl (by decide +kernel) ⟨Nat.le_of_ble_eq_true rfl, Nat.le_of_ble_eq_true rfl⟩ rfl hl.1 rfl (Nat.le_of_ble_eq_true rfl) ⟨Nat.zero_le _, Nat.zero_le _⟩ rfl rfl d_G_best_2 (fun r hr => ?_)
  subst hr
  refine x_fr (pc := 5) [.int (fdF (fun f => g 12 f 0 0) x 0 q)] rfl rfl ?_
  refine lv_istore_n (lv' := [(2, .int (fdF (fun f => g 12 f 0 0) x 0 q)), (0, .ref (ad 0 0 0)), (1, .int x)]) hx hb d_G_best_5 rfl hl (by decide) rfl (fun ls hl => ?_)
  refine lv_iload_n hx hb d_G_best_6 rfl (lv_at hl 0 rfl) ?_
  refine lv_if_ge (tgt := 12) hx hb d_G_best_7 (by decide) (fun c7 => ?_) (fun c7 => ?_)
  · have c7 : 0 ≤ fuF g q x := c7
    obtain ⟨f, hf, hfe⟩ := fuF_ge (g := g) (q := q) (x := x) c7
    have hfe2 : (fdF (fun f => g 12 f 0 0) x 0 q) = nI f := hfe
    rw [hfe2] at hl
    have ef : (fuF g q x).toNatClampNeg = f := by rw [hfe, nI_clamp (by omega)]
    refine lv_aload_n hx hb d_G_best_12 rfl (lv_at hl 1 rfl) ?_
    refine lv_aload_n hx hb d_G_best_13 rfl (lv_at hl 1 rfl) ?_
    refine x_get (v := .ref (ad 3 0 0)) (C := R_G) (T := F_G) (N := 12) hx hb hg i_G hown hK hP (ga_0 hG) rfl 4 (by decide) (hg _ w_114) (fun _ h9 => h9) rfl d_G_best_14 ?_
    refine lv_iload_n hx hb d_G_best_17 rfl (lv_at hl 0 rfl) ?_
    refine x_aldq (v := .ref (ad 12 f 0)) hx hb hK hP 3 (ga_3 hG) rfl (vp_in_nI (by omega) (by omega)) (by rw [nI_clamp (by omega)]; rfl) d_G_best_18 ?_
    refine xv_Q (n := 1) (As := [.ref (ad 12 f 0)]) (rest := []) hx hb hml hown hg hK0 hP (c_G_bestNumber l D T A _ ad K N g hz hG f (w f) (by omega) (hwr f (by omega)).1 (hwr f (by omega)).2) w_242 w_1 w_239 w_241 s_10 (ga_0 hG) rfl rfl (by decide +kernel) ⟨Nat.le_of_ble_eq_true rfl, Nat.le_of_ble_eq_true rfl⟩ rfl hl.1 rfl (Nat.le_of_ble_eq_true rfl) hS ⟨Nat.zero_le _, Nat.zero_le _⟩ rfl rfl d_G_best_19 (fun r M1 H_103 L_104 hr hP hS => ?_)
    obtain ⟨h11, rfl, hR1⟩ := hr
    obtain ⟨g_105, hg_105⟩ : ∃ z, z = upS g 11 0 0 h11 := ⟨_, rfl⟩
    rw [← hg_105] at hR1
    have hR := hR.tr hR1
    have hG := hR.1
    refine x_fr (pc := 22) [.int (nI (beF K N g f))] rfl rfl ?_
    exact hret _ _ _ _ _ _ d_G_best_22 hP hS ⟨h11, by rw [aBest, if_pos c7, ef], by rw [hg_105] at hR; exact hR⟩
  · have c7 : ¬ 0 ≤ fuF g q x := c7
    refine lv_iconst (v := (-1)) hx hb d_G_best_10 (by decide) ?_
    exact hret _ _ _ _ _ _ d_G_best_11 hP hS ⟨g 11 0 0, by rw [aBest, if_neg c7], by rw [upS_id]; exact hR⟩
end
section
/-! write -/
theorem shG_congr {cw cw' : Nat → Int32} {pt : Int32} : ∀ (n j : Nat), (∀ i, j ≤ i → i < j + n → cw i = cw' i) → shG cw pt j n = shG cw' pt j n := by
  intro n
  induction n with
  | zero => intro j _; rfl
  | succ n ih => intro j h; rw [shG, shG, ih (j + 1) (fun i h1 h2 => h i (by omega) (by omega)), h j (Nat.le_refl j) (by omega)]
theorem shG_congr0 {cw cw' : Nat → Int32} {pt : Int32} {K : Nat} (h : ∀ i, i < K → cw i = cw' i) : shG cw pt 0 K = shG cw' pt 0 K := shG_congr K 0 (fun i _ h2 => h i (by omega))
theorem fpV_congr {cw cw' : Nat → Int32} {K j : Nat} (h : ∀ i, i < K → cw i = cw' i) : fpV K cw j = fpV K cw' j := by rw [fpV, fpV, shG_congr0 h]
def wCw (g : gT) (x nu : Int32) (j : Nat) : Int32 := g 4 0 0 j ^^^ mixF (mixF x 1) (nu * 8 + nI j)
def wRt (K N : Nat) (g : gT) (x nu : Int32) : Int32 := rtF (fpV K (wCw g x nu)) N nu
def wSe (K N : Nat) (g : gT) (x nu : Int32) : Int32 := mixF (wRt K N g x nu) x ^^^ x
def tkV (g : gT) (s : Nat) : Int32 := tkF (g 1 0 0 s) (g 2 0 0 s)
/-- what a write leaves -/
def wrR (K N : Nat) (g g' : gT) (f w0 : Nat) (x : Int32) : Prop :=
  (∀ k f' s, (k = 0 ∨ k = 1 ∨ k = 2 ∨ k = 4 ∨ k = 5 ∨ k = 19 ∨ k = 20) → g' k f' s = g k f' s) ∧ (∀ k f', (k = 12 ∨ k = 15 ∨ k = 16) → f' ≠ f → g' k f' 0 = g k f' 0) ∧ g' 12 f 0 0 = g 12 f 0 0 ∧ g' 12 f 0 1 = nI (w0 + 1) ∧ g' 15 f 0 = upd (g 15 f 0) (w0 + 1) (wRt K N g x (nI (w0 + 1))) ∧ g' 16 f 0 = upd (g 16 f 0) (w0 + 1) (wSe K N g x (nI (w0 + 1))) ∧
  (∀ f' s, (f' ≠ f ∨ tkV g s = 0) → g' 17 f' s = g 17 f' s ∧ g' 18 f' s = g 18 f' s) ∧
  ∀ s, s < N → ¬ tkV g s = 0 → g' 17 f s 0 = 1 ∧ g' 17 f s 1 = shG (wCw g x (nI (w0 + 1))) (nI s + 1) 0 K ∧ g' 17 f s 2 = nI (w0 + 1) ∧ g' 17 f s 3 = wSe K N g x (nI (w0 + 1)) ∧ ∀ j, j < N → g' 18 f s j = fpV K (wCw g x (nI (w0 + 1))) j
abbrev vkF (x : Int32) : Int32 := mixF (mixF x 1) 2
def aWrite (K N : Nat) (g : gT) (q : Nat) (w : Nat → Nat) (x : Int32) : Int32 := if 0 ≤ fuF g q (vkF x) then (if K ≤ cuF (g 1 0 0) N then (if w (fuF g q (vkF x)).toNatClampNeg < 30 then nI (cuF (tkV g) N) else -2) else -3) else -1
def okW (K N : Nat) (g : gT) (q : Nat) (w : Nat → Nat) (x : Int32) : Prop := 0 ≤ fuF g q (vkF x) ∧ K ≤ cuF (g 1 0 0) N ∧ w (fuF g q (vkF x)).toNatClampNeg < 30
def stW (K N : Nat) (g g' : gT) (q : Nat) (w : Nat → Nat) (x : Int32) : Prop := (okW K N g q w x → wrR K N g g' (fuF g q (vkF x)).toNatClampNeg (w (fuF g q (vkF x)).toNatClampNeg) x) ∧ (¬ okW K N g q w x → g' = g)
/-- the records' part, while they are given -/
def gvR (K N : Nat) (g g3 gy : gT) (f w0 : Nat) (x : Int32) (i : Nat) : Prop :=
  (∀ k f' s, k ≠ 9 → k ≠ 10 → k ≠ 17 → k ≠ 18 → gy k f' s = g3 k f' s) ∧ (∀ j, j < N → gy 10 0 0 j = fpV K (wCw g x (nI (w0 + 1))) j) ∧ gy 9 0 0 0 = 1 ∧ gy 9 0 0 2 = nI (w0 + 1) ∧ gy 9 0 0 3 = wSe K N g x (nI (w0 + 1)) ∧
  (∀ f' s, (f' ≠ f ∨ i ≤ s ∨ tkV g s = 0) → gy 17 f' s = g 17 f' s ∧ gy 18 f' s = g 18 f' s) ∧
  ∀ s, s < i → ¬ tkV g s = 0 → gy 17 f s 0 = 1 ∧ gy 17 f s 1 = shG (wCw g x (nI (w0 + 1))) (nI s + 1) 0 K ∧ gy 17 f s 2 = nI (w0 + 1) ∧ gy 17 f s 3 = wSe K N g x (nI (w0 + 1)) ∧ ∀ j, j < N → gy 18 f s j = fpV K (wCw g x (nI (w0 + 1))) j
theorem gvR_step {K N : Nat} {g g3 gy : gT} {f w0 : Nat} {x : Int32} {i : Nat} (ht : ¬ tkV g i = 0) (hs : ∀ j, j < K → gy 7 0 0 j = wCw g x (nI (w0 + 1)) j) (h : gvR K N g g3 gy f w0 x i) : gvR K N g g3 (gvS K gy f i) f w0 x (i + 1) := by
  obtain ⟨a1, a2, a3, a4, a5, a6, a7⟩ := h
  have esh : shG (gy 7 0 0) (nI i + 1) 0 K = shG (wCw g x (nI (w0 + 1))) (nI i + 1) 0 K := shG_congr0 hs
  refine ⟨fun k f' s q1 q2 q3 q4 => ?_, fun j hj => ?_, ?_, ?_, ?_, fun f' s q => ?_, fun s q1 q2 => ?_⟩
  · rw [gvS, cpS, upS_n (by omega), upS_n (by omega), upS_n (by omega)]; exact a1 k f' s q1 q2 q3 q4
  · rw [gvS, cpS, upS_n (by omega), upS_n (by omega), upS_n (by omega)]; exact a2 j hj
  · rw [gvS, cpS, upS_n (by omega), upS_n (by omega), upS_s]; exact a3
  · rw [gvS, cpS, upS_n (by omega), upS_n (by omega), upS_s]; exact a4
  · rw [gvS, cpS, upS_n (by omega), upS_n (by omega), upS_s]; exact a5
  · by_cases hk : f' = f ∧ s = i
    · obtain ⟨rfl, rfl⟩ := hk
      rcases q with q | q | q
      · exact absurd rfl q
      · omega
      · exact absurd q ht
    · rw [gvS, cpS]
      refine ⟨?_, ?_⟩
      · rw [upS_n (by omega), upS_n (by omega), upS_n (by omega)]; exact (a6 f' s (q.elim Or.inl fun q => q.elim (fun q => Or.inr (Or.inl (by omega))) fun q => Or.inr (Or.inr q))).1
      · rw [upS_n (by omega), upS_n (by omega), upS_n (by omega)]; exact (a6 f' s (q.elim Or.inl fun q => q.elim (fun q => Or.inr (Or.inl (by omega))) fun q => Or.inr (Or.inr q))).2
  · by_cases hk : s = i
    · subst hk
      rw [gvS, cpS]
      refine ⟨?_, ?_, ?_, ?_, fun j hj => ?_⟩
      · rw [upS_n (by omega), upS_s, upS_s]; exact a3
      · rw [upS_n (by omega), upS_s, upS_s, upd_s]; exact esh
      · rw [upS_n (by omega), upS_s, upS_s]; exact a4
      · rw [upS_n (by omega), upS_s, upS_s]; exact a5
      · rw [upS_s, upS_n (by omega)]; exact a2 j hj
    · obtain ⟨b1, b2, b3, b4, b5⟩ := a7 s (by omega) q2
      rw [gvS, cpS]
      refine ⟨?_, ?_, ?_, ?_, fun j hj => ?_⟩
      · rw [upS_n (by omega), upS_n (by omega), upS_n (by omega)]; exact b1
      · rw [upS_n (by omega), upS_n (by omega), upS_n (by omega)]; exact b2
      · rw [upS_n (by omega), upS_n (by omega), upS_n (by omega)]; exact b3
      · rw [upS_n (by omega), upS_n (by omega), upS_n (by omega)]; exact b4
      · rw [upS_n (by omega), upS_n (by omega), upS_n (by omega)]; exact b5 j hj
set_option maxHeartbeats 4000000 in
set_option maxRecDepth 100000 in
theorem c_G_write (l : Launch) (D : va_G) (T : Nat → ClassId) (A : Nat → Prop) (M : xM) (ad : Nat → Nat → Nat → Nat) (K N : Nat) (g : gT) (hz : zB K N) (hG : gG T ad K N g M) (q : Nat) (w : Nat → Nat) (hI : iG N g q w) (x : Int32) : Met l y_G_write (Cond.code y_G_write b_G_write 9 (some .int) :: gw) (rmH 4) (xPc D T A M [.ref (ad 0 0 0), .int x]) (xQ D A (fun r M1 => ∃ g', r = some (.int (aWrite K N g q w x)) ∧ gR T ad K N M g' M1 ∧ stW K N g g' q w x)) 0 0 A := by
  refine xMetQi (by decide) (Nat.le_of_ble_eq_true rfl) ?_
  intro p e s m below meth c Q ls hB hP hS hl hret
  obtain ⟨hx, hb, hml, hown, hg, hK0, hnm⟩ := hB
  have hown : s.vm.findClass "ShareGrid" = some m.cls := hown
  have hK := hK0.1
  have hN := hK0.2.1
  obtain ⟨hz1, hz4, hzn, hz7⟩ := id hz
  have hR := hG.rf
  obtain ⟨hq, hq6, hwr, hbo⟩ := id hI
  have hl : lv_has ls 9 [(0, .ref (ad 0 0 0)), (1, .int x)] := hl
  refine lv_iload_n hx hb d_G_write_0 rfl (lv_at hl 1 rfl) ?_
  refine xs_R (n := 1) (As := [.int x]) (rest := []) hx hb hml hown hg hK0 hP (c_G_readKeyOf l D T A _ x) w_153 w_1 w_151 w_152 (by decide +kernel) ⟨Nat.le_of_ble_eq_true rfl, Nat.le_of_ble_eq_true rfl⟩ rfl hl.1 rfl (Nat.le_of_ble_eq_true rfl) ⟨Nat.zero_le _, Nat.zero_le _⟩ rfl rfl d_G_write_1 (fun r hr => ?_)
  subst hr
  refine x_fr (pc := 4) [.int (mixF x 1)] rfl rfl ?_
  refine lv_istore_n (lv' := [(2, .int (mixF x 1)), (0, .ref (ad 0 0 0)), (1, .int x)]) hx hb d_G_write_4 rfl hl (by decide) rfl (fun ls hl => ?_)
  refine lv_aload_n hx hb d_G_write_5 rfl (lv_at hl 1 rfl) ?_
  refine lv_iload_n hx hb d_G_write_6 rfl (lv_at hl 0 rfl) ?_
  refine xs_R (n := 1) (As := [.int (mixF x 1)]) (rest := [.ref (ad 0 0 0)]) hx hb hml hown hg hK0 hP (c_G_verifyKeyOf l D T A _ (mixF x 1)) w_161 w_1 w_159 w_160 (by decide +kernel) ⟨Nat.le_of_ble_eq_true rfl, Nat.le_of_ble_eq_true rfl⟩ rfl hl.1 rfl (Nat.le_of_ble_eq_true rfl) ⟨Nat.zero_le _, Nat.zero_le _⟩ rfl rfl d_G_write_7 (fun r hr => ?_)
  subst hr
  refine x_fr (pc := 10) [.int (mixF (mixF x 1) 2), .ref (ad 0 0 0)] rfl rfl ?_
  refine xv_R (n := 1) (As := [.int (mixF (mixF x 1) 2)]) (rest := []) hx hb hml hown hg hK0 hP (c_G_fileUnder l D T A _ ad K N g hz hG q hq hq6 (mixF (mixF x 1) 2)) w_169 w_1 w_166 w_168 s_0 (ga_0 hG) rfl rfl (by decide +kernel) ⟨Nat.le_of_ble_eq_true rfl, Nat.le_of_ble_eq_true rfl⟩ rfl hl.1 rfl (Nat.le_of_ble_eq_true rfl) ⟨Nat.zero_le _, Nat.zero_le _⟩ rfl rfl d_G_write_10 (fun r hr => ?_)
  subst hr
  refine x_fr (pc := 13) [.int (fdF (fun f => g 12 f 0 0) (mixF (mixF x 1) 2) 0 q)] rfl rfl ?_
  refine lv_istore_n (lv' := [(3, .int (fdF (fun f => g 12 f 0 0) (mixF (mixF x 1) 2) 0 q)), (2, .int (mixF x 1)), (0, .ref (ad 0 0 0)), (1, .int x)]) hx hb d_G_write_13 rfl hl (by decide) rfl (fun ls hl => ?_)
  refine lv_iload_n hx hb d_G_write_14 rfl (lv_at hl 0 rfl) ?_
  refine lv_if_ge (tgt := 20) hx hb d_G_write_15 (by decide) (fun c15 => ?_) (fun c15 => ?_)
  · have c15 : 0 ≤ fuF g q (vkF x) := c15
    obtain ⟨f, hf, hfe⟩ := fuF_ge (g := g) (q := q) (x := vkF x) c15
    have hfe2 : (fdF (fun f => g 12 f 0 0) (mixF (mixF x 1) 2) 0 q) = nI f := hfe
    rw [hfe2] at hl
    have ef : (fuF g q (vkF x)).toNatClampNeg = f := by rw [hfe, nI_clamp (by omega)]
    obtain ⟨hw0, hw30⟩ := hwr f (by omega)
    have hcl := cuF_le (g 1 0 0) N
    refine lv_aload_n hx hb d_G_write_20 rfl (lv_at hl 2 rfl) ?_
    refine xv_R (n := 0) (As := []) (rest := []) hx hb hml hown hg hK0 hP (c_G_serversUp l D T A _ ad K N g hz hG) w_185 w_1 w_182 w_184 s_2 (ga_0 hG) rfl rfl (by decide +kernel) ⟨Nat.le_of_ble_eq_true rfl, Nat.le_of_ble_eq_true rfl⟩ rfl hl.1 rfl (Nat.le_of_ble_eq_true rfl) ⟨Nat.zero_le _, Nat.zero_le _⟩ rfl rfl d_G_write_21 (fun r hr => ?_)
    subst hr
    refine x_fr (pc := 24) [.int (nI (cuF (g 1 0 0) N))] rfl rfl ?_
    refine lv_aload_n hx hb d_G_write_24 rfl (lv_at hl 2 rfl) ?_
    refine x_get (v := .int (nI K)) (C := R_G) (T := F_G) (N := 12) hx hb hg i_G hown hK hP (ga_0 hG) rfl 0 (by decide) (hg _ w_110) (fun _ h9 => h9) rfl d_G_write_25 ?_
    refine x_nc_ge (tgt := 34) hx hb d_G_write_28 (by decide) (by omega) (by omega) (fun c28 => ?_) (fun c28 => ?_)
    · refine lv_aload_n hx hb d_G_write_34 rfl (lv_at hl 2 rfl) ?_
      refine x_get (v := .ref (ad 3 0 0)) (C := R_G) (T := F_G) (N := 12) hx hb hg i_G hown hK hP (ga_0 hG) rfl 4 (by decide) (hg _ w_114) (fun _ h9 => h9) rfl d_G_write_35 ?_
      refine lv_iload_n hx hb d_G_write_38 rfl (lv_at hl 0 rfl) ?_
      refine x_aldq (v := .ref (ad 12 f 0)) hx hb hK hP 3 (ga_3 hG) rfl (vp_in_nI (by omega) (by omega)) (by rw [nI_clamp (by omega)]; rfl) d_G_write_39 ?_
      refine lv_astore (lv' := [(4, .ref (ad 12 f 0)), (3, .int (nI f)), (2, .int (mixF x 1)), (0, .ref (ad 0 0 0)), (1, .int x)]) hx hb d_G_write_40 hl (by decide) rfl (fun ls hl => ?_)
      refine lv_aload hx hb d_G_write_42 (lv_at hl 0 rfl) ?_
      refine x_getN (v := .int (g 12 f 0 1)) (C := R_F) (T := F_F) (N := 6) hx hb hg i_F hown hK hP (ga_12 hG (show f < 6 by omega)) rfl 5 (by decide) (va_Nw.use rfl (hN _ e_76)) (fun _ h9 => h9) rfl d_G_write_44 ?_
      refine x_top (y := nI (w f)) hw0 ?_
      refine lv_bipush (v := nI 30) hx hb d_G_write_47 (by decide) ?_
      refine x_nc_lt (tgt := 55) hx hb d_G_write_49 (by decide) (by omega) (by omega) (fun c49 => ?_) (fun c49 => ?_)
      · refine lv_aload hx hb d_G_write_55 (lv_at hl 0 rfl) ?_
        refine x_getN (v := .int (g 12 f 0 1)) (C := R_F) (T := F_F) (N := 6) hx hb hg i_F hown hK hP (ga_12 hG (show f < 6 by omega)) rfl 5 (by decide) (va_Nw.use rfl (hN _ e_76)) (fun _ h9 => h9) rfl d_G_write_57 ?_
        refine x_top (y := nI (w f)) hw0 ?_
        refine lv_iconst (v := nI 1) hx hb d_G_write_60 (by decide) ?_
        refine lv_iadd hx hb d_G_write_61 ?_
        refine x_top (y := nI ((w f) + 1)) (nI_add _ _) ?_
        refine lv_istore (lv' := [(5, .int (nI ((w f) + 1))), (4, .ref (ad 12 f 0)), (3, .int (nI f)), (2, .int (mixF x 1)), (0, .ref (ad 0 0 0)), (1, .int x)]) hx hb d_G_write_62 hl (by decide) rfl (fun ls hl => ?_)
        refine lv_iconst (v := nI 0) hx hb d_G_write_64 (by decide) ?_
        refine lv_istore (lv' := [(6, .int (nI 0)), (5, .int (nI ((w f) + 1))), (4, .ref (ad 12 f 0)), (3, .int (nI f)), (2, .int (mixF x 1)), (0, .ref (ad 0 0 0)), (1, .int x)]) hx hb d_G_write_65 hl (by decide) rfl (fun ls hl => ?_)
        have loopA : ∀ (n : Nat) (i : Nat) (gx : gT), K + 1 ≤ i + n → i ≤ K → (∀ k f s, k ≠ 7 → gx k f s = g k f s) → (∀ j, j < i → gx 7 0 0 j = wCw g x (nI (w f + 1)) j) → ∀ (Mx : xM) (Hx : Heap) (Lx : List Loc), xW D classes A Mx Hx → va_S A s.heap Hx Lx → gR T ad K N M gx Mx → ∀ (ls : Array Slot), lv_has ls 9 [(0, .ref (ad 0 0 0)), (1, .int x), (2, .int (mixF x 1)), (3, .int (nI f)), (4, .ref (ad 12 f 0)), (5, .int (nI (w f + 1))), (6, .int (nI i))] → W p l e (rmH 4) s m [.ref (ad 0 0 0), .int x].toArray below meth c Hx Lx 0 0 Q (F0 m 67 ls []) := by
          intro n
          induction n with
          | zero =>
            intro i gx h2 h1 r1 r2
            exact absurd h2 (by omega)
          | succ n ih =>
            intro i gx h2 h1 r1 r2 Mx Hx Lx hP hS hR ls hl
            have hG := hR.1
            refine lv_iload hx hb d_G_write_67 (lv_at hl 6 rfl) ?_
            refine lv_aload_n hx hb d_G_write_69 rfl (lv_at hl 0 rfl) ?_
            refine x_get (v := .int (nI K)) (C := R_G) (T := F_G) (N := 12) hx hb hg i_G hown hK hP (ga_0 hG) rfl 0 (by decide) (hg _ w_110) (fun _ h9 => h9) rfl d_G_write_70 ?_
            refine x_nc_ge (tgt := 108) hx hb d_G_write_73 (by decide) (by omega) (by omega) (fun c73 => ?_) (fun c73 => ?_)
            · have hiK : i = K := by omega
              rw [hiK] at r2
              refine lv_aload_n hx hb d_G_write_108 rfl (lv_at hl 0 rfl) ?_
              refine lv_iload hx hb d_G_write_109 (lv_at hl 5 rfl) ?_
              refine lv_iload_n hx hb d_G_write_111 rfl (lv_at hl 1 rfl) ?_
              refine xv_Q (n := 2) (As := [.int (nI (w f + 1)), .int x]) (rest := []) hx hb hml hown hg hK0 hP (c_G_makeFreshRecord l D T A _ ad K N gx hz hG (nI (w f + 1)) x) w_192 w_1 w_189 w_191 s_3 (ga_0 hG) rfl rfl (by decide +kernel) ⟨Nat.le_of_ble_eq_true rfl, Nat.le_of_ble_eq_true rfl⟩ rfl hl.1 rfl (Nat.le_of_ble_eq_true rfl) hS ⟨Nat.zero_le _, Nat.zero_le _⟩ rfl rfl d_G_write_112 (fun r M1 H_106 L_107 hr hP hS => ?_)
              obtain ⟨g_108, rfl, hR1, hmk⟩ := hr
              have hR := hR.tr hR1
              have hG := hR.1
              refine x_fr (pc := 115) [.int (rtF (fpV K (gx 7 0 0)) N (nI (w f + 1)))] rfl rfl ?_
              have efp : ∀ j, fpV K (gx 7 0 0) j = fpV K (wCw g x (nI (w f + 1))) j := fun j => fpV_congr r2
              have ero : rtF (fpV K (gx 7 0 0)) N (nI (w f + 1)) = wRt K N g x (nI (w f + 1)) := rtF_congr (fun j _ => efp j)
              obtain ⟨k1, k2, k3, k4, k5⟩ := hmk
              have hse : g_108 9 0 0 3 = wSe K N g x (nI (w f + 1)) := by rw [k5, ero]; rfl
              have hw2 : g_108 12 f 0 1 = nI (w f) := by rw [k1 12 f 0 (by omega) (by omega), r1 12 f 0 (by omega)]; exact hw0
              refine x_top (y := (wRt K N g x (nI (w f + 1)))) ero ?_
              refine lv_istore (lv' := [(6, .int (wRt K N g x (nI (w f + 1)))), (0, .ref (ad 0 0 0)), (1, .int x), (2, .int (mixF x 1)), (3, .int (nI f)), (4, .ref (ad 12 f 0)), (5, .int (nI (w f + 1)))]) hx hb d_G_write_115 hl (by decide) rfl (fun ls hl => ?_)
              refine lv_aload hx hb d_G_write_117 (lv_at hl 5 rfl) ?_
              refine lv_iload hx hb d_G_write_119 (lv_at hl 0 rfl) ?_
              refine lv_aload_n hx hb d_G_write_121 rfl (lv_at hl 1 rfl) ?_
              refine x_get (v := .ref (ad 9 0 0)) (C := R_G) (T := F_G) (N := 12) hx hb hg i_G hown hK hP (ga_0 hG) rfl 8 (by decide) (hg _ w_118) (fun _ h9 => h9) rfl d_G_write_122 ?_
              refine x_getN (v := .int (g_108 9 0 0 3)) (C := R_R) (T := F_R) (N := 5) hx hb hg i_R hown hK hP (ga_9 hG) rfl 4 (by decide) (va_Nw.use rfl (hN _ e_54)) (fun _ h9 => h9) rfl d_G_write_125 ?_
              refine x_top (y := (wSe K N g x (nI (w f + 1)))) hse ?_
              refine xvn_Q (n := 2) (As := [.int (wRt K N g x (nI (w f + 1))), .int (wSe K N g x (nI (w f + 1)))]) (rest := []) hx hb hml hown hg hK0 hP hN (c_F_noteNext l D T A _ ad K N g_108 hz hG f (w f) (by omega) hw2 (by omega) (wRt K N g x (nI (w f + 1))) (wSe K N g x (nI (w f + 1)))) w_219 w_3 e_216 w_218 s_6 (ga_12 hG (show f < 6 by omega)) rfl rfl (by decide +kernel) ⟨Nat.le_of_ble_eq_true rfl, Nat.le_of_ble_eq_true rfl⟩ rfl hl.1 rfl (Nat.le_of_ble_eq_true rfl) hS ⟨Nat.zero_le _, Nat.zero_le _⟩ rfl rfl d_G_write_128 (fun r M1 H_109 L_110 hr hP hS => ?_)
              obtain ⟨rfl, hR1⟩ := hr
              obtain ⟨g_111, hg_111⟩ : ∃ z, z = ntS g_108 f (w f) (wRt K N g x (nI (w f + 1))) (wSe K N g x (nI (w f + 1))) := ⟨_, rfl⟩
              rw [← hg_111] at hR1
              have hR := hR.tr hR1
              have hG := hR.1
              refine x_fr (pc := 131) [] rfl rfl ?_
              refine lv_iconst (v := nI 0) hx hb d_G_write_131 (by decide) ?_
              refine lv_istore (lv' := [(7, .int (nI 0)), (6, .int (wRt K N g x (nI (w f + 1)))), (0, .ref (ad 0 0 0)), (1, .int x), (2, .int (mixF x 1)), (3, .int (nI f)), (4, .ref (ad 12 f 0)), (5, .int (nI (w f + 1)))]) hx hb d_G_write_132 hl (by decide) rfl (fun ls hl => ?_)
              refine lv_iconst (v := nI 0) hx hb d_G_write_134 (by decide) ?_
              refine lv_istore (lv' := [(8, .int (nI 0)), (7, .int (nI 0)), (6, .int (wRt K N g x (nI (w f + 1)))), (0, .ref (ad 0 0 0)), (1, .int x), (2, .int (mixF x 1)), (3, .int (nI f)), (4, .ref (ad 12 f 0)), (5, .int (nI (w f + 1)))]) hx hb d_G_write_135 hl (by decide) rfl (fun ls hl => ?_)
              have e7 : ∀ j, j < K → g_111 7 0 0 j = wCw g x (nI (w f + 1)) j := fun j hj => by rw [hg_111, ntS, upS_n (by omega), upS_n (by omega), upS_n (by omega), k1 7 0 0 (by omega) (by omega)]; exact r2 j hj
              have e12 : ∀ k f s, k = 1 ∨ k = 2 → g_111 k f s = g k f s := fun k f s hk => by rw [hg_111, ntS, upS_n (by omega), upS_n (by omega), upS_n (by omega), k1 k f s (by omega) (by omega), r1 k f s (by omega)]
              have loopB : ∀ (n : Nat) (i : Nat) (gy : gT), N + 1 ≤ i + n → i ≤ N → gvR K N g g_111 gy f (w f) x i → ∀ (Mx : xM) (Hx : Heap) (Lx : List Loc), xW D classes A Mx Hx → va_S A s.heap Hx Lx → gR T ad K N M gy Mx → ∀ (ls : Array Slot), lv_has ls 9 [(0, .ref (ad 0 0 0)), (1, .int x), (2, .int (mixF x 1)), (3, .int (nI f)), (4, .ref (ad 12 f 0)), (5, .int (nI (w f + 1))), (6, .int (wRt K N g x (nI (w f + 1)))), (7, .int (nI (cuF (tkV g) i))), (8, .int (nI i))] → W p l e (rmH 4) s m [.ref (ad 0 0 0), .int x].toArray below meth c Hx Lx 0 0 Q (F0 m 137 ls []) := by
                intro n
                induction n with
                | zero =>
                  intro i gy h2 h1 r3
                  exact absurd h2 (by omega)
                | succ n ih =>
                  intro i gy h2 h1 r3 Mx Hx Lx hP hS hR ls hl
                  have hG := hR.1
                  have ey : ∀ k f s, k = 1 ∨ k = 2 → gy k f s = g k f s := fun k f s hk => by rw [r3.1 k f s (by omega) (by omega) (by omega) (by omega)]; exact e12 k f s hk
                  have hcl2 := cuF_le (tkV g) i
                  refine lv_iload hx hb d_G_write_137 (lv_at hl 8 rfl) ?_
                  refine lv_aload_n hx hb d_G_write_139 rfl (lv_at hl 0 rfl) ?_
                  refine x_get (v := .int (nI N)) (C := R_G) (T := F_G) (N := 12) hx hb hg i_G hown hK hP (ga_0 hG) rfl 1 (by decide) (hg _ w_111) (fun _ h9 => h9) rfl d_G_write_140 ?_
                  refine x_nc_ge (tgt := 172) hx hb d_G_write_143 (by decide) (by omega) (by omega) (fun c143 => ?_) (fun c143 => ?_)
                  · have hiN : i = N := by omega
                    rw [hiN] at r3
                    refine lv_iload hx hb d_G_write_172 (lv_at hl 7 rfl) ?_
                    refine hret _ _ _ _ _ _ d_G_write_174 hP hS ⟨gy, by rw [aWrite, if_pos c15, if_pos c28, ef, if_pos c49, hiN], hR, fun _ => ?_, fun z => absurd ⟨c15, c28, by rw [ef]; exact c49⟩ z⟩
                    rw [ef]
                    obtain ⟨a1, a2, a3, a4, a5, a6, a7⟩ := r3
                    have enn : ∀ k f1 s1, k ≠ 7 → k ≠ 9 → k ≠ 10 → k ≠ 12 → k ≠ 15 → k ≠ 16 → k ≠ 17 → k ≠ 18 → gy k f1 s1 = g k f1 s1 := fun k f1 s1 z1 z2 z3 z4 z5 z6 z7 z8 => by rw [a1 k f1 s1 (by omega) (by omega) (by omega) (by omega), hg_111, ntS, upS_n (by omega), upS_n (by omega), upS_n (by omega), k1 k f1 s1 (by omega) (by omega), r1 k f1 s1 (by omega)]
                    refine ⟨fun k f1 s1 hk => enn k f1 s1 (by omega) (by omega) (by omega) (by omega) (by omega) (by omega) (by omega) (by omega), fun k f1 hk hne => ?_, ?_, ?_, ?_, ?_, fun f1 s1 hk => a6 f1 s1 (hk.elim Or.inl fun z => Or.inr (Or.inr z)), a7⟩
                    · rw [a1 k f1 0 (by omega) (by omega) (by omega) (by omega), hg_111, ntS, upS_n (by omega), upS_n (by omega), upS_n (by omega), k1 k f1 0 (by omega) (by omega), r1 k f1 0 (by omega)]
                    · rw [a1 12 f 0 (by omega) (by omega) (by omega) (by omega), hg_111, ntS, upS_n (by omega), upS_n (by omega), upS_s, upd_n (by omega), k1 12 f 0 (by omega) (by omega), r1 12 f 0 (by omega)]
                    · rw [a1 12 f 0 (by omega) (by omega) (by omega) (by omega), hg_111, ntS, upS_n (by omega), upS_n (by omega), upS_s, upd_s]
                    · rw [a1 15 f 0 (by omega) (by omega) (by omega) (by omega), hg_111, ntS, upS_n (by omega), upS_s, k1 15 f 0 (by omega) (by omega), r1 15 f 0 (by omega)]
                    · rw [a1 16 f 0 (by omega) (by omega) (by omega) (by omega), hg_111, ntS, upS_s, k1 16 f 0 (by omega) (by omega), r1 16 f 0 (by omega)]
                  · refine lv_aload_n hx hb d_G_write_146 rfl (lv_at hl 0 rfl) ?_
                    refine lv_iload hx hb d_G_write_147 (lv_at hl 8 rfl) ?_
                    refine xv_R (n := 1) (As := [.int (nI i)]) (rest := []) hx hb hml hown hg hK0 hP (c_G_takesRecords l D T A _ ad K N gy hz hG i (by omega)) w_223 w_1 w_220 w_222 s_7 (ga_0 hG) rfl rfl (by decide +kernel) ⟨Nat.le_of_ble_eq_true rfl, Nat.le_of_ble_eq_true rfl⟩ rfl hl.1 rfl (Nat.le_of_ble_eq_true rfl) ⟨Nat.zero_le _, Nat.zero_le _⟩ rfl rfl d_G_write_149 (fun r hr => ?_)
                    subst hr
                    refine x_fr (pc := 152) [.int (tkF (gy 1 0 0 i) (gy 2 0 0 i))] rfl rfl ?_
                    refine lv_if_eq (tgt := 166) hx hb d_G_write_152 (by decide) (fun c152 => ?_) (fun c152 => ?_)
                    · have c152 : tkV g i = 0 := by rw [tkV, ← ey 1 0 0 (Or.inl rfl), ← ey 2 0 0 (Or.inr rfl)]; exact c152
                      have ecu : cuF (tkV g) (i + 1) = cuF (tkV g) i := by rw [cuF, if_pos c152]
                      refine lv_iinc (v := nI (i + 1)) (lv' := [(8, .int (nI (i + 1))), (0, .ref (ad 0 0 0)), (1, .int x), (2, .int (mixF x 1)), (3, .int (nI f)), (4, .ref (ad 12 f 0)), (5, .int (nI (w f + 1))), (6, .int (wRt K N g x (nI (w f + 1)))), (7, .int (nI (cuF (tkV g) i)))]) hx hb d_G_write_166 hl (k := 8) rfl (nI_1 _) (by decide) rfl (fun ls hl => ?_)
                      refine lv_goto (tgt := 137) hx hb d_G_write_169 (by decide) ?_
                      exact ih (i + 1) gy (by omega) (by omega) ⟨r3.1, r3.2.1, r3.2.2.1, r3.2.2.2.1, r3.2.2.2.2.1, fun f1 s1 hk => r3.2.2.2.2.2.1 f1 s1 (hk.elim Or.inl fun z => z.elim (fun z => Or.inr (Or.inl (by omega))) fun z => Or.inr (Or.inr z)), fun s1 hs1 ht => r3.2.2.2.2.2.2 s1 ((Nat.lt_succ_iff_lt_or_eq.mp hs1).elim id fun z => absurd (by rw [z]; exact c152) ht) ht⟩ _ _ _ hP hS hR ls (by rw [ecu]; exact (lv_sub hl [1, 2, 3, 4, 5, 6, 7, 8, 0] rfl))
                    · have c152 : ¬ tkV g i = 0 := by rw [tkV, ← ey 1 0 0 (Or.inl rfl), ← ey 2 0 0 (Or.inr rfl)]; exact c152
                      have ecu : cuF (tkV g) (i + 1) = cuF (tkV g) i + 1 := by rw [cuF, if_neg c152]
                      refine lv_aload_n hx hb d_G_write_155 rfl (lv_at hl 0 rfl) ?_
                      refine lv_aload hx hb d_G_write_156 (lv_at hl 4 rfl) ?_
                      refine lv_iload hx hb d_G_write_158 (lv_at hl 8 rfl) ?_
                      refine xv_Q (n := 2) (As := [.ref (ad 12 f 0), .int (nI i)]) (rest := []) hx hb hml hown hg hK0 hP (c_G_giveFreshRecord l D T A _ ad K N gy hz hG f i (by omega) (by omega) (Or.inr r3.2.2.1)) w_227 w_1 w_224 w_226 s_8 (ga_0 hG) rfl rfl (by decide +kernel) ⟨Nat.le_of_ble_eq_true rfl, Nat.le_of_ble_eq_true rfl⟩ rfl hl.1 rfl (Nat.le_of_ble_eq_true rfl) hS ⟨Nat.zero_le _, Nat.zero_le _⟩ rfl rfl d_G_write_160 (fun r M1 H_112 L_113 hr hP hS => ?_)
                      obtain ⟨rfl, hR1⟩ := hr
                      obtain ⟨g_114, hg_114⟩ : ∃ z, z = gvS K gy f i := ⟨_, rfl⟩
                      rw [← hg_114] at hR1
                      have hR := hR.tr hR1
                      have hG := hR.1
                      refine x_fr (pc := 163) [] rfl rfl ?_
                      refine lv_iinc (v := nI ((cuF (tkV g) i) + 1)) (lv' := [(7, .int (nI ((cuF (tkV g) i) + 1))), (0, .ref (ad 0 0 0)), (1, .int x), (2, .int (mixF x 1)), (3, .int (nI f)), (4, .ref (ad 12 f 0)), (5, .int (nI (w f + 1))), (6, .int (wRt K N g x (nI (w f + 1)))), (8, .int (nI i))]) hx hb d_G_write_163 hl (k := 7) rfl (nI_1 _) (by decide) rfl (fun ls hl => ?_)
                      refine lv_iinc (v := nI (i + 1)) (lv' := [(8, .int (nI (i + 1))), (7, .int (nI ((cuF (tkV g) i) + 1))), (0, .ref (ad 0 0 0)), (1, .int x), (2, .int (mixF x 1)), (3, .int (nI f)), (4, .ref (ad 12 f 0)), (5, .int (nI (w f + 1))), (6, .int (wRt K N g x (nI (w f + 1))))]) hx hb d_G_write_166 hl (k := 8) rfl (nI_1 _) (by decide) rfl (fun ls hl => ?_)
                      refine lv_goto (tgt := 137) hx hb d_G_write_169 (by decide) ?_
                      exact ih (i + 1) g_114 (by omega) (by omega) (by rw [hg_114]; exact gvR_step c152 (fun j hj => by rw [r3.1 7 0 0 (by omega) (by omega) (by omega) (by omega)]; exact e7 j hj) r3) _ _ _ hP hS hR ls (by rw [ecu]; exact (lv_sub hl [2, 3, 4, 5, 6, 7, 8, 1, 0] rfl))
              refine loopB (N + 1) 0 g_111 (by omega) (by omega) ⟨fun _ _ _ _ _ _ _ => rfl, ?_, ?_, ?_, ?_, ?_, fun s1 hs1 => absurd hs1 (by omega)⟩ _ _ _ hP hS hR ls (lv_sub hl [3, 4, 5, 6, 7, 8, 2, 1, 0] rfl)
              · intro j hj; rw [hg_111, ntS, upS_n (by omega), upS_n (by omega), upS_n (by omega), k2 j hj]; exact efp j
              · rw [hg_111, ntS, upS_n (by omega), upS_n (by omega), upS_n (by omega)]; exact k3
              · rw [hg_111, ntS, upS_n (by omega), upS_n (by omega), upS_n (by omega)]; exact k4
              · rw [hg_111, ntS, upS_n (by omega), upS_n (by omega), upS_n (by omega)]; exact hse
              · intro f1 s1 _; rw [hg_111, ntS]; refine ⟨?_, ?_⟩
                · rw [upS_n (by omega), upS_n (by omega), upS_n (by omega), k1 17 f1 s1 (by omega) (by omega), r1 17 f1 s1 (by omega)]
                · rw [upS_n (by omega), upS_n (by omega), upS_n (by omega), k1 18 f1 s1 (by omega) (by omega), r1 18 f1 s1 (by omega)]
            · refine lv_aload_n hx hb d_G_write_76 rfl (lv_at hl 0 rfl) ?_
              refine x_get (v := .ref (ad 6 0 0)) (C := R_G) (T := F_G) (N := 12) hx hb hg i_G hown hK hP (ga_0 hG) rfl 7 (by decide) (hg _ w_117) (fun _ h9 => h9) rfl d_G_write_77 ?_
              refine x_getN (v := .ref (ad 7 0 0)) (C := R_C) (T := F_C) (N := 3) hx hb hg i_C hown hK hP (ga_6 hG) rfl 1 (by decide) (va_Nw.use rfl (hN _ e_98)) (fun _ h9 => h9) rfl d_G_write_80 ?_
              refine lv_iload hx hb d_G_write_83 (lv_at hl 6 rfl) ?_
              refine lv_aload_n hx hb d_G_write_85 rfl (lv_at hl 0 rfl) ?_
              refine x_get (v := .ref (ad 4 0 0)) (C := R_G) (T := F_G) (N := 12) hx hb hg i_G hown hK hP (ga_0 hG) rfl 5 (by decide) (hg _ w_115) (fun _ h9 => h9) rfl d_G_write_86 ?_
              refine lv_iload hx hb d_G_write_89 (lv_at hl 6 rfl) ?_
              refine x_iald (v := gx 4 0 0 i) hx hb hK hP 0 (ga_4 hG) rfl (vp_in_nI (by omega) (by omega)) (by rw [nI_clamp (by omega)]) d_G_write_91 ?_
              refine lv_iload_n hx hb d_G_write_92 rfl (lv_at hl 2 rfl) ?_
              refine lv_iload hx hb d_G_write_93 (lv_at hl 5 rfl) ?_
              refine lv_iload hx hb d_G_write_95 (lv_at hl 6 rfl) ?_
              refine xs_R (n := 3) (As := [.int (mixF x 1), .int (nI (w f + 1)), .int (nI i)]) (rest := [.int (gx 4 0 0 i), .int (nI i), .ref (ad 7 0 0)]) hx hb hml hown hg hK0 hP (c_G_cipherMask l D T A _ (mixF x 1) (nI (w f + 1)) (nI i)) w_188 w_1 w_186 w_187 (by decide +kernel) ⟨Nat.le_of_ble_eq_true rfl, Nat.le_of_ble_eq_true rfl⟩ rfl hl.1 rfl (Nat.le_of_ble_eq_true rfl) ⟨Nat.zero_le _, Nat.zero_le _⟩ rfl rfl d_G_write_97 (fun r hr => ?_)
              subst hr
              refine x_fr (pc := 100) [.int (mixF (mixF x 1) ((nI (w f + 1)) * 8 + (nI i))), .int (gx 4 0 0 i), .int (nI i), .ref (ad 7 0 0)] rfl rfl ?_
              refine lv_ixor hx hb d_G_write_100 ?_
              refine x_iast hx hb hK hP hS 0 (ga_7 hG) rfl (vp_in_nI (by omega) (by omega)) d_G_write_101 (fun H_115 L_116 hP hS => ?_)
              rw [nI_clamp (by omega)] at hP
              obtain ⟨g_117, hg_117⟩ : ∃ z, z = upS gx 7 0 0 (upd (gx 7 0 0) i ((gx 4 0 0 i) ^^^ (mixF (mixF x 1) ((nI (w f + 1)) * 8 + (nI i))))) := ⟨_, rfl⟩
              obtain ⟨M_118, hP, hR⟩ : ∃ z, xW D classes A z H_115 ∧ gR T ad K N M g_117 z := ⟨_, hP, by rw [hg_117]; exact hR.set (Or.inl ⟨by omega, rfl, rfl⟩) rfl⟩
              have hG := hR.1
              have ra : ∀ k f s, k ≠ 7 → g_117 k f s = g k f s := fun k f s q1 => by rw [hg_117, upS_n (by omega)]; exact r1 k f s q1
              have rb : ∀ j, j < i + 1 → g_117 7 0 0 j = wCw g x (nI (w f + 1)) j := by
                intro j hj
                rw [hg_117, upS_s]
                by_cases hji : j = i
                · subst hji; rw [upd_s, r1 4 0 0 (by omega)]; rfl
                · rw [upd_n hji]; exact r2 j (by omega)
              refine lv_iinc (v := nI (i + 1)) (lv' := [(6, .int (nI (i + 1))), (0, .ref (ad 0 0 0)), (1, .int x), (2, .int (mixF x 1)), (3, .int (nI f)), (4, .ref (ad 12 f 0)), (5, .int (nI (w f + 1)))]) hx hb d_G_write_102 hl (k := 6) rfl (nI_1 _) (by decide) rfl (fun ls hl => ?_)
              refine lv_goto (tgt := 67) hx hb d_G_write_105 (by decide) ?_
              exact ih (i + 1) g_117 (by omega) (by omega) ra rb _ _ _ hP hS hR ls (lv_sub hl [1, 2, 3, 4, 5, 6, 0] rfl)
        exact loopA (K + 1) 0 g (by omega) (by omega) (fun _ _ _ _ => rfl) (fun j hj => absurd hj (by omega)) _ _ _ hP hS hR ls (lv_sub hl [5, 6, 4, 3, 2, 1, 0] rfl)
      · refine lv_bipush (v := (-2)) hx hb d_G_write_52 (by decide) ?_
        exact hret _ _ _ _ _ _ d_G_write_54 hP hS ⟨g, by rw [aWrite, if_pos c15, if_pos c28, ef, if_neg (Nat.not_lt.mpr c49)], hR, fun z => absurd z.2.2 (by rw [ef]; exact Nat.not_lt.mpr c49), fun _ => rfl⟩
    · refine lv_bipush (v := (-3)) hx hb d_G_write_31 (by decide) ?_
      exact hret _ _ _ _ _ _ d_G_write_33 hP hS ⟨g, by rw [aWrite, if_pos c15, if_neg (Nat.not_le.mpr c28)], hR, fun z => absurd z.2.1 (Nat.not_le.mpr c28), fun _ => rfl⟩
  · have c15 : ¬ 0 ≤ fuF g q (vkF x) := c15
    refine lv_iconst (v := (-1)) hx hb d_G_write_18 (by decide) ?_
    exact hret _ _ _ _ _ _ d_G_write_19 hP hS ⟨g, by rw [aWrite, if_neg c15], hR, fun z => absurd z.1 c15, fun _ => rfl⟩
end
section
/-! the coder's way back -/
def stD (pts : Nat → Int32) (lv j : Nat) (cw : Nat → Int32) : Nat → Int32 := upd cw j (scF (cw j ^^^ cw (j - 1)) (ivF (pts j ^^^ pts (j - lv))))
def inD (pts : Nat → Int32) (lv : Nat) : Nat → (Nat → Int32) → Nat → Int32
  | 0, cw => cw
  | u + 1, cw => inD pts lv u (stD pts lv (lv + u) cw)
def ouD (K : Nat) (pts : Nat → Int32) : Nat → Nat → (Nat → Int32) → Nat → Int32
  | _, 0, cw => cw
  | lv, t + 1, cw => ouD K pts (lv + 1) t (inD pts lv (K - lv) cw)
def stC (pts : Nat → Int32) (b j : Nat) (cw : Nat → Int32) : Nat → Int32 := upd cw j (cw j ^^^ scF (cw (j + 1)) (pts b))
def inC (pts : Nat → Int32) (b : Nat) : Nat → Nat → (Nat → Int32) → Nat → Int32
  | _, 0, cw => cw
  | j, u + 1, cw => inC pts b (j + 1) u (stC pts b j cw)
def ouC (K : Nat) (pts : Nat → Int32) : Nat → (Nat → Int32) → Nat → Int32
  | 0, cw => cw
  | t + 1, cw => ouC K pts t (inC pts t t (K - 1 - t) cw)
def dcS (K : Nat) (pts cw : Nat → Int32) : Nat → Int32 := ouC K pts (K - 1) (ouD K pts 1 (K - 1) cw)
theorem dnK {K : Nat} (h1 : 1 ≤ K) (h4 : K ≤ 4) : nI K - nI 2 = dnI (K - 1) := by
  rcases (show K = 1 ∨ K = 2 ∨ K = 3 ∨ K = 4 by omega) with rfl | rfl | rfl | rfl <;> decide
set_option maxHeartbeats 4000000 in
set_option maxRecDepth 100000 in
theorem c_C_sharesToDifferences (l : Launch) (D : va_G) (T : Nat → ClassId) (A : Nat → Prop) (M : xM) (ad : Nat → Nat → Nat → Nat) (K N : Nat) (g : gT) (hz : zB K N) (hG : gG T ad K N g M) : Met l y_C_sharesToDifferences (Cond.code y_C_sharesToDifferences b_C_sharesToDifferences 4 none :: gw) (rmH 3) (xPc D T A M [.ref (ad 6 0 0)]) (xQ D A (fun r M1 => r = none ∧ gR T ad K N M (upS g 7 0 0 (ouD K (g 8 0 0) 1 (K - 1) (g 7 0 0))) M1)) 0 0 A := by
  refine xMetQv (by decide) (Nat.le_of_ble_eq_true rfl) ?_
  intro p e s m below meth c Q ls hB hP hS hl hret
  obtain ⟨hx, hb, hml, hown, hg, hK0, hnm⟩ := hB
  have hown : s.vm.findClass "ShareGrid$Coder" = some m.cls := hown
  have hK := hK0.1
  have hN := hK0.2.1
  obtain ⟨hz1, hz4, hzn, hz7⟩ := id hz
  have hR := hG.rf
  have hl : lv_has ls 4 [(0, .ref (ad 6 0 0))] := hl
  refine lv_iconst (v := nI 1) hx hb d_C_sharesToDifferences_0 (by decide) ?_
  refine lv_istore_n (lv' := [(1, .int (nI 1)), (0, .ref (ad 6 0 0))]) hx hb d_C_sharesToDifferences_1 rfl hl (by decide) rfl (fun ls hl => ?_)
  have loop : ∀ (n : Nat) (lv : Nat) (cw : Nat → Int32), K + 1 ≤ lv + n → lv ≤ K → 1 ≤ lv → ouD K (g 8 0 0) 1 (K - 1) (g 7 0 0) = ouD K (g 8 0 0) lv (K - lv) cw → ∀ (Mx : xM) (Hx : Heap) (Lx : List Loc), xW D classes A Mx Hx → va_S A s.heap Hx Lx → gR T ad K N M (upS g 7 0 0 cw) Mx → ∀ (ls : Array Slot), lv_has ls 4 [(0, .ref (ad 6 0 0)), (1, .int (nI lv))] → W p l e (rmH 3) s m [.ref (ad 6 0 0)].toArray below meth c Hx Lx 0 0 Q (F0 m 2 ls []) := by
    intro n
    induction n with
    | zero =>
      intro lv cw h2 h1 h0 r1
      exact absurd h2 (by omega)
    | succ n ih =>
      intro lv cw h2 h1 h0 r1 Mx Hx Lx hP hS hR ls hl
      have hG := hR.1
      refine lv_iload_n hx hb d_C_sharesToDifferences_2 rfl (lv_at hl 1 rfl) ?_
      refine lv_aload_n hx hb d_C_sharesToDifferences_3 rfl (lv_at hl 0 rfl) ?_
      refine x_get (v := .int (nI K)) (C := R_C) (T := F_C) (N := 3) hx hb hg i_C hown hK hP (ga_6 hG) rfl 0 (by decide) (hg _ w_96) (fun _ h9 => h9) rfl d_C_sharesToDifferences_4 ?_
      refine x_nc_ge (tgt := 78) hx hb d_C_sharesToDifferences_7 (by decide) (by omega) (by omega) (fun c1 => ?_) (fun c1 => ?_)
      · have hlK : lv = K := by omega
        exact hret _ _ _ _ _ d_C_sharesToDifferences_78 hP hS ⟨rfl, by rw [r1, hlK, Nat.sub_self]; exact hR⟩
      · have hKl : K - lv = (K - (lv + 1)) + 1 := by omega
        refine lv_aload_n hx hb d_C_sharesToDifferences_10 rfl (lv_at hl 0 rfl) ?_
        refine x_get (v := .int (nI K)) (C := R_C) (T := F_C) (N := 3) hx hb hg i_C hown hK hP (ga_6 hG) rfl 0 (by decide) (hg _ w_96) (fun _ h9 => h9) rfl d_C_sharesToDifferences_11 ?_
        refine lv_iconst (v := nI 1) hx hb d_C_sharesToDifferences_14 (by decide) ?_
        refine lv_isub hx hb d_C_sharesToDifferences_15 ?_
        refine x_top (y := nI (K - 1)) (pk_sub (by omega)) ?_
        refine lv_istore_n (lv' := [(2, .int (nI (K - 1))), (0, .ref (ad 6 0 0)), (1, .int (nI lv))]) hx hb d_C_sharesToDifferences_16 rfl hl (by decide) rfl (fun ls hl => ?_)
        have loopI : ∀ (u : Nat) (cw1 : Nat → Int32), u ≤ K - lv → inD (g 8 0 0) lv (K - lv) cw = inD (g 8 0 0) lv u cw1 → ∀ (Mx : xM) (Hx : Heap) (Lx : List Loc), xW D classes A Mx Hx → va_S A s.heap Hx Lx → gR T ad K N M (upS g 7 0 0 cw1) Mx → ∀ (ls : Array Slot), lv_has ls 4 [(0, .ref (ad 6 0 0)), (1, .int (nI lv)), (2, .int (nI (lv + u - 1)))] → W p l e (rmH 3) s m [.ref (ad 6 0 0)].toArray below meth c Hx Lx 0 0 Q (F0 m 17 ls []) := by
          intro u
          induction u with
          | zero =>
            intro cw1 hu he Mx Hx Lx hP hS hR ls hl
            have hG := hR.1
            refine lv_iload_n hx hb d_C_sharesToDifferences_17 rfl (lv_at hl 2 rfl) ?_
            refine lv_iload_n hx hb d_C_sharesToDifferences_18 rfl (lv_at hl 1 rfl) ?_
            refine x_nc_lt (tgt := 72) hx hb d_C_sharesToDifferences_19 (by decide) (by omega) (by omega) (fun c2 => ?_) (fun c2 => ?_)
            · refine lv_iinc (v := nI (lv + 1)) (lv' := [(1, .int (nI (lv + 1))), (0, .ref (ad 6 0 0)), (2, .int (nI (lv + 0 - 1)))]) hx hb d_C_sharesToDifferences_72 hl (k := 1) rfl (nI_1 _) (by decide) rfl (fun ls hl => ?_)
              refine lv_goto (tgt := 2) hx hb d_C_sharesToDifferences_75 (by decide) ?_
              exact ih (lv + 1) cw1 (by omega) (by omega) (by omega) (by rw [r1, hKl, ouD, he]; rfl) _ _ _ hP hS hR ls (lv_sub hl [1, 0] rfl)
            · exact absurd c2 (by omega)
          | succ u ihu =>
            intro cw1 hu he Mx Hx Lx hP hS hR ls hl
            have hG := hR.1
            have eu : lv + (u + 1) - 1 = lv + u := by omega
            rw [eu] at hl
            refine lv_iload_n hx hb d_C_sharesToDifferences_17 rfl (lv_at hl 2 rfl) ?_
            refine lv_iload_n hx hb d_C_sharesToDifferences_18 rfl (lv_at hl 1 rfl) ?_
            refine x_nc_lt (tgt := 72) hx hb d_C_sharesToDifferences_19 (by decide) (by omega) (by omega) (fun c2 => ?_) (fun c2 => ?_)
            · exact absurd c2 (by omega)
            · refine lv_aload_n hx hb d_C_sharesToDifferences_22 rfl (lv_at hl 0 rfl) ?_
              refine x_get (v := .ref (ad 8 0 0)) (C := R_C) (T := F_C) (N := 3) hx hb hg i_C hown hK hP (ga_6 hG) rfl 2 (by decide) (hg _ w_99) (fun _ h9 => h9) rfl d_C_sharesToDifferences_23 ?_
              refine lv_iload_n hx hb d_C_sharesToDifferences_26 rfl (lv_at hl 2 rfl) ?_
              refine x_iald (v := (upS g 7 0 0 cw1) 8 0 0 (lv + u)) hx hb hK hP 0 (ga_8 hG) rfl (vp_in_nI (by omega) (by omega)) (by rw [nI_clamp (by omega)]) d_C_sharesToDifferences_27 ?_
              refine lv_aload_n hx hb d_C_sharesToDifferences_28 rfl (lv_at hl 0 rfl) ?_
              refine x_get (v := .ref (ad 8 0 0)) (C := R_C) (T := F_C) (N := 3) hx hb hg i_C hown hK hP (ga_6 hG) rfl 2 (by decide) (hg _ w_99) (fun _ h9 => h9) rfl d_C_sharesToDifferences_29 ?_
              refine lv_iload_n hx hb d_C_sharesToDifferences_32 rfl (lv_at hl 2 rfl) ?_
              refine lv_iload_n hx hb d_C_sharesToDifferences_33 rfl (lv_at hl 1 rfl) ?_
              refine lv_isub hx hb d_C_sharesToDifferences_34 ?_
              refine x_top (y := nI ((lv + u) - lv)) (pk_sub (by omega)) ?_
              refine x_iald (v := (upS g 7 0 0 cw1) 8 0 0 ((lv + u) - lv)) hx hb hK hP 0 (ga_8 hG) rfl (vp_in_nI (by omega) (by omega)) (by rw [nI_clamp (by omega)]) d_C_sharesToDifferences_35 ?_
              refine lv_ixor hx hb d_C_sharesToDifferences_36 ?_
              refine lv_istore_n (lv' := [(3, .int (((upS g 7 0 0 cw1) 8 0 0 (lv + u)) ^^^ ((upS g 7 0 0 cw1) 8 0 0 ((lv + u) - lv)))), (0, .ref (ad 6 0 0)), (1, .int (nI lv)), (2, .int (nI (lv + u)))]) hx hb d_C_sharesToDifferences_37 rfl hl (by decide) rfl (fun ls hl => ?_)
              refine lv_aload_n hx hb d_C_sharesToDifferences_38 rfl (lv_at hl 1 rfl) ?_
              refine x_get (v := .ref (ad 7 0 0)) (C := R_C) (T := F_C) (N := 3) hx hb hg i_C hown hK hP (ga_6 hG) rfl 1 (by decide) (hg _ w_97) (fun _ h9 => h9) rfl d_C_sharesToDifferences_39 ?_
              refine lv_iload_n hx hb d_C_sharesToDifferences_42 rfl (lv_at hl 3 rfl) ?_
              refine lv_aload_n hx hb d_C_sharesToDifferences_43 rfl (lv_at hl 1 rfl) ?_
              refine x_get (v := .ref (ad 7 0 0)) (C := R_C) (T := F_C) (N := 3) hx hb hg i_C hown hK hP (ga_6 hG) rfl 1 (by decide) (hg _ w_97) (fun _ h9 => h9) rfl d_C_sharesToDifferences_44 ?_
              refine lv_iload_n hx hb d_C_sharesToDifferences_47 rfl (lv_at hl 3 rfl) ?_
              refine x_iald (v := (upS g 7 0 0 cw1) 7 0 0 (lv + u)) hx hb hK hP 0 (ga_7 hG) rfl (vp_in_nI (by omega) (by omega)) (by rw [nI_clamp (by omega)]) d_C_sharesToDifferences_48 ?_
              refine lv_aload_n hx hb d_C_sharesToDifferences_49 rfl (lv_at hl 1 rfl) ?_
              refine x_get (v := .ref (ad 7 0 0)) (C := R_C) (T := F_C) (N := 3) hx hb hg i_C hown hK hP (ga_6 hG) rfl 1 (by decide) (hg _ w_97) (fun _ h9 => h9) rfl d_C_sharesToDifferences_50 ?_
              refine lv_iload_n hx hb d_C_sharesToDifferences_53 rfl (lv_at hl 3 rfl) ?_
              refine lv_iconst (v := nI 1) hx hb d_C_sharesToDifferences_54 (by decide) ?_
              refine lv_isub hx hb d_C_sharesToDifferences_55 ?_
              refine x_top (y := nI ((lv + u) - 1)) (pk_sub (by omega)) ?_
              refine x_iald (v := (upS g 7 0 0 cw1) 7 0 0 ((lv + u) - 1)) hx hb hK hP 0 (ga_7 hG) rfl (vp_in_nI (by omega) (by omega)) (by rw [nI_clamp (by omega)]) d_C_sharesToDifferences_56 ?_
              refine lv_ixor hx hb d_C_sharesToDifferences_57 ?_
              refine lv_iload_n hx hb d_C_sharesToDifferences_58 rfl (lv_at hl 0 rfl) ?_
              refine xsn_R (n := 1) (As := [.int (((upS g 7 0 0 cw1) 8 0 0 (lv + u)) ^^^ ((upS g 7 0 0 cw1) 8 0 0 ((lv + u) - lv)))]) (rest := [.int (((upS g 7 0 0 cw1) 7 0 0 (lv + u)) ^^^ ((upS g 7 0 0 cw1) 7 0 0 ((lv + u) - 1))), .int (nI (lv + u)), .ref (ad 7 0 0)]) hx hb hml hown hg hK0 hP hN (c_G_inverse l D T A _ (((upS g 7 0 0 cw1) 8 0 0 (lv + u)) ^^^ ((upS g 7 0 0 cw1) 8 0 0 ((lv + u) - lv)))) w_272 w_1 e_270 w_271 (by decide +kernel) ⟨Nat.le_of_ble_eq_true rfl, Nat.le_of_ble_eq_true rfl⟩ rfl hl.1 rfl (Nat.le_of_ble_eq_true rfl) ⟨Nat.zero_le _, Nat.zero_le _⟩ rfl rfl d_C_sharesToDifferences_59 (fun r hr => ?_)
              subst hr
              refine x_fr (pc := 62) [.int (ivF (((upS g 7 0 0 cw1) 8 0 0 (lv + u)) ^^^ ((upS g 7 0 0 cw1) 8 0 0 ((lv + u) - lv)))), .int (((upS g 7 0 0 cw1) 7 0 0 (lv + u)) ^^^ ((upS g 7 0 0 cw1) 7 0 0 ((lv + u) - 1))), .int (nI (lv + u)), .ref (ad 7 0 0)] rfl rfl ?_
              refine xsn_R (n := 2) (As := [.int (((upS g 7 0 0 cw1) 7 0 0 (lv + u)) ^^^ ((upS g 7 0 0 cw1) 7 0 0 ((lv + u) - 1))), .int (ivF (((upS g 7 0 0 cw1) 8 0 0 (lv + u)) ^^^ ((upS g 7 0 0 cw1) 8 0 0 ((lv + u) - lv))))]) (rest := [.int (nI (lv + u)), .ref (ad 7 0 0)]) hx hb hml hown hg hK0 hP hN (c_G_scaled l D T A _ (((upS g 7 0 0 cw1) 7 0 0 (lv + u)) ^^^ ((upS g 7 0 0 cw1) 7 0 0 ((lv + u) - 1))) (ivF (((upS g 7 0 0 cw1) 8 0 0 (lv + u)) ^^^ ((upS g 7 0 0 cw1) 8 0 0 ((lv + u) - lv))))) w_202 w_1 e_200 w_201 (by decide +kernel) ⟨Nat.le_of_ble_eq_true rfl, Nat.le_of_ble_eq_true rfl⟩ rfl hl.1 rfl (Nat.le_of_ble_eq_true rfl) ⟨Nat.zero_le _, Nat.zero_le _⟩ rfl rfl d_C_sharesToDifferences_62 (fun r hr => ?_)
              subst hr
              refine x_fr (pc := 65) [.int (scF (((upS g 7 0 0 cw1) 7 0 0 (lv + u)) ^^^ ((upS g 7 0 0 cw1) 7 0 0 ((lv + u) - 1))) (ivF (((upS g 7 0 0 cw1) 8 0 0 (lv + u)) ^^^ ((upS g 7 0 0 cw1) 8 0 0 ((lv + u) - lv))))), .int (nI (lv + u)), .ref (ad 7 0 0)] rfl rfl ?_
              refine x_iast hx hb hK hP hS 0 (ga_7 hG) rfl (vp_in_nI (by omega) (by omega)) d_C_sharesToDifferences_65 (fun H_119 L_120 hP hS => ?_)
              rw [nI_clamp (by omega)] at hP
              obtain ⟨g_121, hg_121⟩ : ∃ z, z = upS (upS g 7 0 0 cw1) 7 0 0 (upd ((upS g 7 0 0 cw1) 7 0 0) (lv + u) (scF (((upS g 7 0 0 cw1) 7 0 0 (lv + u)) ^^^ ((upS g 7 0 0 cw1) 7 0 0 ((lv + u) - 1))) (ivF (((upS g 7 0 0 cw1) 8 0 0 (lv + u)) ^^^ ((upS g 7 0 0 cw1) 8 0 0 ((lv + u) - lv)))))) := ⟨_, rfl⟩
              obtain ⟨M_122, hP, hR⟩ : ∃ z, xW D classes A z H_119 ∧ gR T ad K N M g_121 z := ⟨_, hP, by rw [hg_121]; exact hR.set (Or.inl ⟨by omega, rfl, rfl⟩) rfl⟩
              have hG := hR.1
              have hR : gR T ad K N M (upS g 7 0 0 (stD (g 8 0 0) lv (lv + u) cw1)) M_122 := by rw [hg_121, upS_uu] at hR; exact hR
              refine lv_iinc (v := nI ((lv + u) - 1)) (lv' := [(2, .int (nI ((lv + u) - 1))), (3, .int (((upS g 7 0 0 cw1) 8 0 0 (lv + u)) ^^^ ((upS g 7 0 0 cw1) 8 0 0 ((lv + u) - lv)))), (0, .ref (ad 6 0 0)), (1, .int (nI lv))]) hx hb d_C_sharesToDifferences_66 hl (k := 3) rfl (sb_m1 (by omega)) (by decide) rfl (fun ls hl => ?_)
              refine lv_goto (tgt := 17) hx hb d_C_sharesToDifferences_69 (by decide) ?_
              exact ihu _ (by omega) (by rw [he]; rfl) _ _ _ hP hS hR ls (lv_sub hl [2, 3, 0] rfl)
        have eK : K - 1 = lv + (K - lv) - 1 := by omega
        exact loopI (K - lv) cw (Nat.le_refl _) rfl _ _ _ hP hS hR ls (by rw [← eK]; exact (lv_sub hl [1, 2, 0] rfl))
  exact loop K 1 (g 7 0 0) (by omega) (by omega) (by omega) rfl _ _ _ hP hS (by rw [upS_id]; exact hR) ls (lv_sub hl [1, 0] rfl)
set_option maxHeartbeats 4000000 in
set_option maxRecDepth 100000 in
theorem c_C_differencesToCipherWords (l : Launch) (D : va_G) (T : Nat → ClassId) (A : Nat → Prop) (M : xM) (ad : Nat → Nat → Nat → Nat) (K N : Nat) (g : gT) (hz : zB K N) (hG : gG T ad K N g M) : Met l y_C_differencesToCipherWords (Cond.code y_C_differencesToCipherWords b_C_differencesToCipherWords 3 none :: gw) (rmH 2) (xPc D T A M [.ref (ad 6 0 0)]) (xQ D A (fun r M1 => r = none ∧ gR T ad K N M (upS g 7 0 0 (ouC K (g 8 0 0) (K - 1) (g 7 0 0))) M1)) 0 0 A := by
  refine xMetQv (by decide) (Nat.le_of_ble_eq_true rfl) ?_
  intro p e s m below meth c Q ls hB hP hS hl hret
  obtain ⟨hx, hb, hml, hown, hg, hK0, hnm⟩ := hB
  have hown : s.vm.findClass "ShareGrid$Coder" = some m.cls := hown
  have hK := hK0.1
  have hN := hK0.2.1
  obtain ⟨hz1, hz4, hzn, hz7⟩ := id hz
  have hR := hG.rf
  have hl : lv_has ls 3 [(0, .ref (ad 6 0 0))] := hl
  refine lv_aload_n hx hb d_C_differencesToCipherWords_0 rfl (lv_at hl 0 rfl) ?_
  refine x_get (v := .int (nI K)) (C := R_C) (T := F_C) (N := 3) hx hb hg i_C hown hK hP (ga_6 hG) rfl 0 (by decide) (hg _ w_96) (fun _ h9 => h9) rfl d_C_differencesToCipherWords_1 ?_
  refine lv_iconst (v := nI 2) hx hb d_C_differencesToCipherWords_4 (by decide) ?_
  refine lv_isub hx hb d_C_differencesToCipherWords_5 ?_
  refine x_top (y := (dnI (K - 1))) (dnK hz1 hz4) ?_
  refine lv_istore_n (lv' := [(1, .int (dnI (K - 1))), (0, .ref (ad 6 0 0))]) hx hb d_C_differencesToCipherWords_6 rfl hl (by decide) rfl (fun ls hl => ?_)
  have loop : ∀ (t : Nat) (cw : Nat → Int32), t ≤ K - 1 → ouC K (g 8 0 0) (K - 1) (g 7 0 0) = ouC K (g 8 0 0) t cw → ∀ (Mx : xM) (Hx : Heap) (Lx : List Loc), xW D classes A Mx Hx → va_S A s.heap Hx Lx → gR T ad K N M (upS g 7 0 0 cw) Mx → ∀ (ls : Array Slot), lv_has ls 3 [(0, .ref (ad 6 0 0)), (1, .int (dnI t))] → W p l e (rmH 2) s m [.ref (ad 6 0 0)].toArray below meth c Hx Lx 0 0 Q (F0 m 7 ls []) := by
    intro t
    induction t with
    | zero =>
      intro cw ht he Mx Hx Lx hP hS hR ls hl
      have hG := hR.1
      have hl : lv_has ls 3 [(0, .ref (ad 6 0 0)), (1, .int (-1))] := hl
      refine lv_iload_n hx hb d_C_differencesToCipherWords_7 rfl (lv_at hl 1 rfl) ?_
      refine lv_if_lt (tgt := 61) hx hb d_C_differencesToCipherWords_8 (by decide) (fun c2 => ?_) (fun c2 => ?_)
      · exact hret _ _ _ _ _ d_C_differencesToCipherWords_61 hP hS ⟨rfl, by rw [he]; exact hR⟩
      · exact absurd (by decide) c2
    | succ t ih =>
      intro cw ht he Mx Hx Lx hP hS hR ls hl
      have hG := hR.1
      have hl : lv_has ls 3 [(0, .ref (ad 6 0 0)), (1, .int (nI t))] := hl
      refine lv_iload_n hx hb d_C_differencesToCipherWords_7 rfl (lv_at hl 1 rfl) ?_
      refine lv_if_lt (tgt := 61) hx hb d_C_differencesToCipherWords_8 (by decide) (fun c2 => ?_) (fun c2 => ?_)
      · exact absurd c2 (nI_pos (by omega))
      · refine lv_iload_n hx hb d_C_differencesToCipherWords_11 rfl (lv_at hl 1 rfl) ?_
        refine lv_istore_n (lv' := [(2, .int (nI t)), (0, .ref (ad 6 0 0)), (1, .int (nI t))]) hx hb d_C_differencesToCipherWords_12 rfl hl (by decide) rfl (fun ls hl => ?_)
        have loopI : ∀ (u : Nat) (cw1 : Nat → Int32), u ≤ K - 1 - t → inC (g 8 0 0) t t (K - 1 - t) cw = inC (g 8 0 0) t (K - 1 - u) u cw1 → ∀ (Mx : xM) (Hx : Heap) (Lx : List Loc), xW D classes A Mx Hx → va_S A s.heap Hx Lx → gR T ad K N M (upS g 7 0 0 cw1) Mx → ∀ (ls : Array Slot), lv_has ls 3 [(0, .ref (ad 6 0 0)), (1, .int (nI t)), (2, .int (nI (K - 1 - u)))] → W p l e (rmH 2) s m [.ref (ad 6 0 0)].toArray below meth c Hx Lx 0 0 Q (F0 m 13 ls []) := by
          intro u
          induction u with
          | zero =>
            intro cw1 hu he1 Mx Hx Lx hP hS hR ls hl
            have hG := hR.1
            refine lv_iload_n hx hb d_C_differencesToCipherWords_13 rfl (lv_at hl 2 rfl) ?_
            refine lv_aload_n hx hb d_C_differencesToCipherWords_14 rfl (lv_at hl 0 rfl) ?_
            refine x_get (v := .int (nI K)) (C := R_C) (T := F_C) (N := 3) hx hb hg i_C hown hK hP (ga_6 hG) rfl 0 (by decide) (hg _ w_96) (fun _ h9 => h9) rfl d_C_differencesToCipherWords_15 ?_
            refine lv_iconst (v := nI 1) hx hb d_C_differencesToCipherWords_18 (by decide) ?_
            refine lv_isub hx hb d_C_differencesToCipherWords_19 ?_
            refine x_top (y := nI (K - 1)) (pk_sub (by omega)) ?_
            refine x_nc_ge (tgt := 55) hx hb d_C_differencesToCipherWords_20 (by decide) (by omega) (by omega) (fun c3 => ?_) (fun c3 => ?_)
            · refine lv_iinc (v := dnI t) (lv' := [(1, .int (dnI t)), (0, .ref (ad 6 0 0)), (2, .int (nI (K - 1 - 0)))]) hx hb d_C_differencesToCipherWords_55 hl (k := 1) rfl (dnI_dec t) (by decide) rfl (fun ls hl => ?_)
              refine lv_goto (tgt := 7) hx hb d_C_differencesToCipherWords_58 (by decide) ?_
              exact ih cw1 (by omega) (by rw [he, ouC, he1]; rfl) _ _ _ hP hS hR ls (lv_sub hl [1, 0] rfl)
            · exact absurd c3 (by omega)
          | succ u ihu =>
            intro cw1 hu he1 Mx Hx Lx hP hS hR ls hl
            have hG := hR.1
            have eu : K - 1 - (u + 1) + 1 = K - 1 - u := by omega
            refine lv_iload_n hx hb d_C_differencesToCipherWords_13 rfl (lv_at hl 2 rfl) ?_
            refine lv_aload_n hx hb d_C_differencesToCipherWords_14 rfl (lv_at hl 0 rfl) ?_
            refine x_get (v := .int (nI K)) (C := R_C) (T := F_C) (N := 3) hx hb hg i_C hown hK hP (ga_6 hG) rfl 0 (by decide) (hg _ w_96) (fun _ h9 => h9) rfl d_C_differencesToCipherWords_15 ?_
            refine lv_iconst (v := nI 1) hx hb d_C_differencesToCipherWords_18 (by decide) ?_
            refine lv_isub hx hb d_C_differencesToCipherWords_19 ?_
            refine x_top (y := nI (K - 1)) (pk_sub (by omega)) ?_
            refine x_nc_ge (tgt := 55) hx hb d_C_differencesToCipherWords_20 (by decide) (by omega) (by omega) (fun c3 => ?_) (fun c3 => ?_)
            · exact absurd c3 (by omega)
            · refine lv_aload_n hx hb d_C_differencesToCipherWords_23 rfl (lv_at hl 0 rfl) ?_
              refine x_get (v := .ref (ad 7 0 0)) (C := R_C) (T := F_C) (N := 3) hx hb hg i_C hown hK hP (ga_6 hG) rfl 1 (by decide) (hg _ w_97) (fun _ h9 => h9) rfl d_C_differencesToCipherWords_24 ?_
              refine lv_iload_n hx hb d_C_differencesToCipherWords_27 rfl (lv_at hl 2 rfl) ?_
              refine lv_dup2_11 hx hb d_C_differencesToCipherWords_28 rfl rfl ?_
              refine x_iald (v := (upS g 7 0 0 cw1) 7 0 0 (K - 1 - (u + 1))) hx hb hK hP 0 (ga_7 hG) rfl (vp_in_nI (by omega) (by omega)) (by rw [nI_clamp (by omega)]) d_C_differencesToCipherWords_29 ?_
              refine lv_aload_n hx hb d_C_differencesToCipherWords_30 rfl (lv_at hl 0 rfl) ?_
              refine x_get (v := .ref (ad 7 0 0)) (C := R_C) (T := F_C) (N := 3) hx hb hg i_C hown hK hP (ga_6 hG) rfl 1 (by decide) (hg _ w_97) (fun _ h9 => h9) rfl d_C_differencesToCipherWords_31 ?_
              refine lv_iload_n hx hb d_C_differencesToCipherWords_34 rfl (lv_at hl 2 rfl) ?_
              refine lv_iconst (v := nI 1) hx hb d_C_differencesToCipherWords_35 (by decide) ?_
              refine lv_iadd hx hb d_C_differencesToCipherWords_36 ?_
              refine x_top (y := nI ((K - 1 - (u + 1)) + 1)) (nI_add _ _) ?_
              refine x_iald (v := (upS g 7 0 0 cw1) 7 0 0 ((K - 1 - (u + 1)) + 1)) hx hb hK hP 0 (ga_7 hG) rfl (vp_in_nI (by omega) (by omega)) (by rw [nI_clamp (by omega)]) d_C_differencesToCipherWords_37 ?_
              refine lv_aload_n hx hb d_C_differencesToCipherWords_38 rfl (lv_at hl 0 rfl) ?_
              refine x_get (v := .ref (ad 8 0 0)) (C := R_C) (T := F_C) (N := 3) hx hb hg i_C hown hK hP (ga_6 hG) rfl 2 (by decide) (hg _ w_99) (fun _ h9 => h9) rfl d_C_differencesToCipherWords_39 ?_
              refine lv_iload_n hx hb d_C_differencesToCipherWords_42 rfl (lv_at hl 1 rfl) ?_
              refine x_iald (v := (upS g 7 0 0 cw1) 8 0 0 t) hx hb hK hP 0 (ga_8 hG) rfl (vp_in_nI (by omega) (by omega)) (by rw [nI_clamp (by omega)]) d_C_differencesToCipherWords_43 ?_
              refine xsn_R (n := 2) (As := [.int ((upS g 7 0 0 cw1) 7 0 0 ((K - 1 - (u + 1)) + 1)), .int ((upS g 7 0 0 cw1) 8 0 0 t)]) (rest := [.int ((upS g 7 0 0 cw1) 7 0 0 (K - 1 - (u + 1))), .int (nI (K - 1 - (u + 1))), .ref (ad 7 0 0)]) hx hb hml hown hg hK0 hP hN (c_G_scaled l D T A _ ((upS g 7 0 0 cw1) 7 0 0 ((K - 1 - (u + 1)) + 1)) ((upS g 7 0 0 cw1) 8 0 0 t)) w_202 w_1 e_200 w_201 (by decide +kernel) ⟨Nat.le_of_ble_eq_true rfl, Nat.le_of_ble_eq_true rfl⟩ rfl hl.1 rfl (Nat.le_of_ble_eq_true rfl) ⟨Nat.zero_le _, Nat.zero_le _⟩ rfl rfl d_C_differencesToCipherWords_44 (fun r hr => ?_)
              subst hr
              refine x_fr (pc := 47) [.int (scF ((upS g 7 0 0 cw1) 7 0 0 ((K - 1 - (u + 1)) + 1)) ((upS g 7 0 0 cw1) 8 0 0 t)), .int ((upS g 7 0 0 cw1) 7 0 0 (K - 1 - (u + 1))), .int (nI (K - 1 - (u + 1))), .ref (ad 7 0 0)] rfl rfl ?_
              refine lv_ixor hx hb d_C_differencesToCipherWords_47 ?_
              refine x_iast hx hb hK hP hS 0 (ga_7 hG) rfl (vp_in_nI (by omega) (by omega)) d_C_differencesToCipherWords_48 (fun H_123 L_124 hP hS => ?_)
              rw [nI_clamp (by omega)] at hP
              obtain ⟨g_125, hg_125⟩ : ∃ z, z = upS (upS g 7 0 0 cw1) 7 0 0 (upd ((upS g 7 0 0 cw1) 7 0 0) (K - 1 - (u + 1)) (((upS g 7 0 0 cw1) 7 0 0 (K - 1 - (u + 1))) ^^^ (scF ((upS g 7 0 0 cw1) 7 0 0 ((K - 1 - (u + 1)) + 1)) ((upS g 7 0 0 cw1) 8 0 0 t)))) := ⟨_, rfl⟩
              obtain ⟨M_126, hP, hR⟩ : ∃ z, xW D classes A z H_123 ∧ gR T ad K N M g_125 z := ⟨_, hP, by rw [hg_125]; exact hR.set (Or.inl ⟨by omega, rfl, rfl⟩) rfl⟩
              have hG := hR.1
              have hR : gR T ad K N M (upS g 7 0 0 (stC (g 8 0 0) t (K - 1 - (u + 1)) cw1)) M_126 := by rw [hg_125, upS_uu] at hR; exact hR
              refine lv_iinc (v := nI ((K - 1 - (u + 1)) + 1)) (lv' := [(2, .int (nI ((K - 1 - (u + 1)) + 1))), (0, .ref (ad 6 0 0)), (1, .int (nI t))]) hx hb d_C_differencesToCipherWords_49 hl (k := 2) rfl (nI_1 _) (by decide) rfl (fun ls hl => ?_)
              refine lv_goto (tgt := 13) hx hb d_C_differencesToCipherWords_52 (by decide) ?_
              exact ihu _ (by omega) (by rw [he1, inC, eu]) _ _ _ hP hS hR ls (by rw [← eu]; exact (lv_sub hl [1, 2, 0] rfl))
        have eK : t = K - 1 - (K - 1 - t) := by omega
        exact loopI (K - 1 - t) cw (Nat.le_refl _) (by rw [← eK]) _ _ _ hP hS hR ls (by rw [← eK]; exact (lv_sub hl [1, 2, 0] rfl))
  exact loop (K - 1) (g 7 0 0) (Nat.le_refl _) rfl _ _ _ hP hS (by rw [upS_id]; exact hR) ls (lv_sub hl [1, 0] rfl)
set_option maxHeartbeats 4000000 in
set_option maxRecDepth 100000 in
theorem c_C_decodeShares (l : Launch) (D : va_G) (T : Nat → ClassId) (A : Nat → Prop) (M : xM) (ad : Nat → Nat → Nat → Nat) (K N : Nat) (g : gT) (hz : zB K N) (hG : gG T ad K N g M) : Met l y_C_decodeShares (Cond.code y_C_decodeShares b_C_decodeShares 1 none :: gw) (rmH 4) (xPc D T A M [.ref (ad 6 0 0)]) (xQ D A (fun r M1 => r = none ∧ gR T ad K N M (upS g 7 0 0 (dcS K (g 8 0 0) (g 7 0 0))) M1)) 0 0 A := by
  refine xMetQv (by decide) (Nat.le_of_ble_eq_true rfl) ?_
  intro p e s m below meth c Q ls hB hP hS hl hret
  obtain ⟨hx, hb, hml, hown, hg, hK0, hnm⟩ := hB
  have hown : s.vm.findClass "ShareGrid$Coder" = some m.cls := hown
  have hK := hK0.1
  have hN := hK0.2.1
  obtain ⟨hz1, hz4, hzn, hz7⟩ := id hz
  have hR := hG.rf
  have hl : lv_has ls 1 [(0, .ref (ad 6 0 0))] := hl
  refine lv_aload_n hx hb d_C_decodeShares_0 rfl (lv_at hl 0 rfl) ?_
  refine xv_Q (n := 0) (As := []) (rest := []) hx hb hml hown hg hK0 hP (c_C_sharesToDifferences l D T A _ ad K N g hz hG) w_269 w_5 w_266 w_268 s_15 (ga_6 hG) rfl rfl (by decide +kernel) ⟨Nat.le_of_ble_eq_true rfl, Nat.le_of_ble_eq_true rfl⟩ rfl hl.1 rfl (Nat.le_of_ble_eq_true rfl) hS ⟨Nat.zero_le _, Nat.zero_le _⟩ rfl rfl d_C_decodeShares_1 (fun r M1 H_127 L_128 hr hP hS => ?_)
  obtain ⟨rfl, hR1⟩ := hr
  obtain ⟨g_129, hg_129⟩ : ∃ z, z = upS g 7 0 0 (ouD K (g 8 0 0) 1 (K - 1) (g 7 0 0)) := ⟨_, rfl⟩
  rw [← hg_129] at hR1
  have hR := hR.tr hR1
  have hG := hR.1
  refine x_fr (pc := 4) [] rfl rfl ?_
  refine lv_aload_n hx hb d_C_decodeShares_4 rfl (lv_at hl 0 rfl) ?_
  refine xv_Q (n := 0) (As := []) (rest := []) hx hb hml hown hg hK0 hP (c_C_differencesToCipherWords l D T A _ ad K N g_129 hz hG) w_277 w_5 w_274 w_276 s_16 (ga_6 hG) rfl rfl (by decide +kernel) ⟨Nat.le_of_ble_eq_true rfl, Nat.le_of_ble_eq_true rfl⟩ rfl hl.1 rfl (Nat.le_of_ble_eq_true rfl) hS ⟨Nat.zero_le _, Nat.zero_le _⟩ rfl rfl d_C_decodeShares_5 (fun r M1 H_130 L_131 hr hP hS => ?_)
  obtain ⟨rfl, hR1⟩ := hr
  obtain ⟨g_132, hg_132⟩ : ∃ z, z = upS g_129 7 0 0 (ouC K (g_129 8 0 0) (K - 1) (g_129 7 0 0)) := ⟨_, rfl⟩
  rw [← hg_132] at hR1
  have hR := hR.tr hR1
  have hG := hR.1
  refine x_fr (pc := 8) [] rfl rfl ?_
  exact hret _ _ _ _ _ d_C_decodeShares_8 hP hS ⟨rfl, by
    have e8 : g_129 8 0 0 = g 8 0 0 := by rw [hg_129, upS_n (by omega)]
    have e7 : g_129 7 0 0 = ouD K (g 8 0 0) 1 (K - 1) (g 7 0 0) := by rw [hg_129, upS_s]
    rw [hg_132, e8, e7, hg_129, upS_uu] at hR
    exact hR⟩
end
section
/-! places that serve; decoding a version -/
theorem cuF_mono {u : Nat → Int32} {a b : Nat} (h : a ≤ b) : cuF u a ≤ cuF u b := by
  induction b with
  | zero => rw [show a = 0 by omega]; exact Nat.le_refl _
  | succ b ih =>
    by_cases h1 : a = b + 1
    · rw [h1]; exact Nat.le_refl _
    · have := ih (by omega)
      rw [show cuF u (b + 1) = if u b = 0 then cuF u b else cuF u b + 1 from rfl]
      split <;> omega
theorem cuF_s {u : Nat → Int32} {i : Nat} (h : ¬ u i = 0) : cuF u (i + 1) = cuF u i + 1 := by rw [cuF, if_neg h]
theorem cuF_z {u : Nat → Int32} {i : Nat} (h : u i = 0) : cuF u (i + 1) = cuF u i := by rw [cuF, if_pos h]
theorem cuF_inj {u : Nat → Int32} {a b : Nat} (ha : ¬ u a = 0) (hb : ¬ u b = 0) (h : cuF u a = cuF u b) : a = b := by
  rcases Nat.lt_trichotomy a b with q | q | q
  · have := cuF_mono (u := u) (show a + 1 ≤ b by omega); rw [cuF_s ha] at this; omega
  · exact q
  · have := cuF_mono (u := u) (show b + 1 ≤ a by omega); rw [cuF_s hb] at this; omega
theorem cuF_ex {u : Nat → Int32} {j : Nat} : ∀ n, j < cuF u n → ∃ s, s < n ∧ ¬ u s = 0 ∧ cuF u s = j := by
  intro n
  induction n with
  | zero => intro h; exact absurd h (by rw [cuF]; omega)
  | succ n ih =>
    intro h
    by_cases hn : u n = 0
    · rw [cuF_z hn] at h
      obtain ⟨s, h1, h2⟩ := ih h
      exact ⟨s, by omega, h2⟩
    · rw [cuF_s hn] at h
      by_cases hj : j = cuF u n
      · exact ⟨n, by omega, hn, hj.symm⟩
      · obtain ⟨s, h1, h2⟩ := ih (by omega)
        exact ⟨s, by omega, h2⟩
def plS (u : Nat → Int32) (j : Nat) : Nat → Nat → Nat
  | s, 0 => s
  | s, n + 1 => if ¬ u s = 0 ∧ cuF u s = j then s else plS u j (s + 1) n
def plF (N : Nat) (u : Nat → Int32) (j : Nat) : Nat := plS u j 0 N
theorem plS_eq {u : Nat → Int32} {s : Nat} (hs : ¬ u s = 0) : ∀ n s0, s0 ≤ s → s < s0 + n → plS u (cuF u s) s0 n = s := by
  intro n
  induction n with
  | zero => intro s0 h1 h2; omega
  | succ n ih =>
    intro s0 h1 h2
    rw [plS]
    by_cases h : ¬ u s0 = 0 ∧ cuF u s0 = cuF u s
    · rw [if_pos h]; exact cuF_inj h.1 hs h.2
    · rw [if_neg h]
      have hne : s0 ≠ s := fun q => h (by rw [q]; exact ⟨hs, rfl⟩)
      exact ih (s0 + 1) (by omega) (by omega)
theorem plF_eq {N : Nat} {u : Nat → Int32} {s : Nat} (h : s < N) (hs : ¬ u s = 0) : plF N u (cuF u s) = s := plS_eq hs N 0 (Nat.zero_le _) (by omega)
theorem plF_ok {N n j : Nat} {u : Nat → Int32} (hn : n ≤ N) (h : j < cuF u n) : plF N u j < n ∧ ¬ u (plF N u j) = 0 ∧ cuF u (plF N u j) = j := by
  obtain ⟨s, h1, h2, h3⟩ := cuF_ex n h
  have e := plF_eq (N := N) (u := u) (s := s) (by omega) h2
  rw [h3] at e
  rw [e]
  exact ⟨h1, h2, h3⟩
theorem stD_congr {K lv j : Nat} {p p' a b : Nat → Int32} (hp : ∀ i, i < K → p i = p' i) (h : ∀ i, i < K → a i = b i) (hj : j < K) : ∀ i, i < K → stD p lv j a i = stD p' lv j b i := by
  intro i hi
  rw [stD, stD]
  by_cases q : i = j
  · subst q; rw [upd_s, upd_s, h i hi, h (i - 1) (by omega), hp i hi, hp (i - lv) (by omega)]
  · rw [upd_n q, upd_n q]; exact h i hi
theorem inD_congr {K lv : Nat} {p p' : Nat → Int32} (hp : ∀ i, i < K → p i = p' i) : ∀ (u : Nat) (a b : Nat → Int32), lv + u ≤ K → (∀ i, i < K → a i = b i) → ∀ i, i < K → inD p lv u a i = inD p' lv u b i := by
  intro u
  induction u with
  | zero => intro a b _ h i hi; exact h i hi
  | succ u ih => intro a b hu h; exact ih _ _ (by omega) (stD_congr hp h (by omega))
theorem ouD_congr {K : Nat} {p p' : Nat → Int32} (hp : ∀ i, i < K → p i = p' i) : ∀ (t lv : Nat) (a b : Nat → Int32), lv + t ≤ K → (∀ i, i < K → a i = b i) → ∀ i, i < K → ouD K p lv t a i = ouD K p' lv t b i := by
  intro t
  induction t with
  | zero => intro lv a b _ h i hi; exact h i hi
  | succ t ih => intro lv a b ht h; exact ih (lv + 1) _ _ (by omega) (inD_congr hp (K - lv) a b (by omega) h)
theorem stC_congr {K b0 j : Nat} {p p' a b : Nat → Int32} (hp : ∀ i, i < K → p i = p' i) (h : ∀ i, i < K → a i = b i) (hb : b0 < K) (hj : j + 1 < K) : ∀ i, i < K → stC p b0 j a i = stC p' b0 j b i := by
  intro i hi
  rw [stC, stC]
  by_cases q : i = j
  · subst q; rw [upd_s, upd_s, h i hi, h (i + 1) hj, hp b0 hb]
  · rw [upd_n q, upd_n q]; exact h i hi
theorem inC_congr {K b0 : Nat} {p p' : Nat → Int32} (hp : ∀ i, i < K → p i = p' i) (hb : b0 < K) : ∀ (u j : Nat) (a b : Nat → Int32), j + u + 1 ≤ K → (∀ i, i < K → a i = b i) → ∀ i, i < K → inC p b0 j u a i = inC p' b0 j u b i := by
  intro u
  induction u with
  | zero => intro j a b _ h i hi; exact h i hi
  | succ u ih => intro j a b hu h; exact ih (j + 1) _ _ (by omega) (stC_congr hp h hb (by omega))
theorem ouC_congr {K : Nat} {p p' : Nat → Int32} (hp : ∀ i, i < K → p i = p' i) : ∀ (t : Nat) (a b : Nat → Int32), t < K → (∀ i, i < K → a i = b i) → ∀ i, i < K → ouC K p t a i = ouC K p' t b i := by
  intro t
  induction t with
  | zero => intro a b _ h i hi; exact h i hi
  | succ t ih => intro a b ht h; exact ih _ _ (by omega) (inC_congr hp (by omega) (K - 1 - t) t a b (by omega) h)
theorem dcS_congr {K : Nat} {p p' a b : Nat → Int32} (hK : 1 ≤ K) (hp : ∀ i, i < K → p i = p' i) (h : ∀ i, i < K → a i = b i) : ∀ i, i < K → dcS K p a i = dcS K p' b i := ouC_congr hp (K - 1) _ _ (by omega) (ouD_congr hp (K - 1) 1 a b (by omega) h)
/-- the same but for what a call may use for itself -/
def kpS (g g' : gT) : Prop := ∀ k f s, k ≠ 7 → k ≠ 8 → k ≠ 9 → k ≠ 10 → k ≠ 11 → g' k f s = g k f s
theorem kpS.rf {g : gT} : kpS g g := fun _ _ _ _ _ _ _ _ => rfl
theorem kpS.tr {g g1 g2 : gT} (h : kpS g g1) (h1 : kpS g1 g2) : kpS g g2 := fun k f s a b c d e => (h1 k f s a b c d e).trans (h k f s a b c d e)
theorem kpS.up {g : gT} {k f s : Nat} {h : Nat → Int32} (hk : 7 ≤ k ∧ k ≤ 11) : kpS g (upS g k f s h) := fun k1 f1 s1 a b c d e => upS_n (by omega)
theorem sdG_sc {N : Nat} {g g' : gT} (h : kpS g g') (f i : Nat) : sdG N g' f i = sdG N g f i := by
  have h' := fun k a b => h k a b
  show sdF N (g' 17 f i) (g' 18 f i) (g' 15 f 0) (g' 16 f 0) (g' 12 f 0 1) i = _
  rw [h 17 f i (by omega) (by omega) (by omega) (by omega) (by omega), h 18 f i (by omega) (by omega) (by omega) (by omega) (by omega), h 15 f 0 (by omega) (by omega) (by omega) (by omega) (by omega), h 16 f 0 (by omega) (by omega) (by omega) (by omega) (by omega), h 12 f 0 (by omega) (by omega) (by omega) (by omega) (by omega)]
theorem swG_sc {N : Nat} {g g' : gT} (h : kpS g g') (f i : Nat) (x : Int32) : swG N g' f i x = swG N g f i x := by
  rw [swG, swG, sdG_sc h, h 17 f i (by omega) (by omega) (by omega) (by omega) (by omega)]
theorem svF_sc {N : Nat} {g g' : gT} (h : kpS g g') (f : Nat) (x : Int32) : svF N g' f x = svF N g f x := by
  funext s
  rw [svF, svF, sdG_sc h, h 17 f s (by omega) (by omega) (by omega) (by omega) (by omega), h 1 0 0 (by omega) (by omega) (by omega) (by omega) (by omega)]
theorem svF_0 {N : Nat} {g : gT} {f s : Nat} {x : Int32} : svF N g f x s = 0 ↔ g 1 0 0 s = 0 ∨ swG N g f s x = 0 := by
  rw [svF, swG]
  by_cases h1 : g 1 0 0 s = 0
  · simp [h1]
  · by_cases h2 : g 17 f s 2 = x
    · by_cases h3 : sdG N g f s = 0
      · simp [h1, h2, h3]
      · simp [h1, h2, h3]
    · simp [h1, h2]
def dcV (K N : Nat) (g : gT) (f : Nat) (x : Int32) (j : Nat) : Int32 := dcS K (fun i => nI (plF N (svF N g f x) i) + 1) (fun i => g 17 f (plF N (svF N g f x) i) 1) j
set_option maxHeartbeats 4000000 in
set_option maxRecDepth 100000 in
theorem c_G_decodeVersion (l : Launch) (D : va_G) (T : Nat → ClassId) (A : Nat → Prop) (M : xM) (ad : Nat → Nat → Nat → Nat) (K N : Nat) (g : gT) (hz : zB K N) (hG : gG T ad K N g M) (f w : Nat) (hf : f < 6) (hw : g 12 f 0 1 = nI w) (hw30 : w ≤ 30) (x : Int32) (hcn : K ≤ cuF (svF N g f x) N) : Met l y_G_decodeVersion (Cond.code y_G_decodeVersion b_G_decodeVersion 5 (some .int) :: gw) (rmH 5) (xPc D T A M [.ref (ad 0 0 0), .ref (ad 12 f 0), .int x]) (xQ D A (fun r M1 => ∃ g', r = some (.int (nI (plF N (svF N g f x) 0))) ∧ gR T ad K N M g' M1 ∧ (∀ k f s, k ≠ 7 → k ≠ 8 → g' k f s = g k f s) ∧ ∀ j, j < K → g' 7 0 0 j = dcV K N g f x j)) 0 0 A := by
  refine xMetQi (by decide) (Nat.le_of_ble_eq_true rfl) ?_
  intro p e s m below meth c Q ls hB hP hS hl hret
  obtain ⟨hx, hb, hml, hown, hg, hK0, hnm⟩ := hB
  have hown : s.vm.findClass "ShareGrid" = some m.cls := hown
  have hK := hK0.1
  have hN := hK0.2.1
  obtain ⟨hz1, hz4, hzn, hz7⟩ := id hz
  have hR := hG.rf
  have hl : lv_has ls 5 [(0, .ref (ad 0 0 0)), (1, .ref (ad 12 f 0)), (2, .int x)] := hl
  refine lv_iconst (v := nI 0) hx hb d_G_decodeVersion_0 (by decide) ?_
  refine lv_istore_n (lv' := [(3, .int (nI 0)), (0, .ref (ad 0 0 0)), (1, .ref (ad 12 f 0)), (2, .int x)]) hx hb d_G_decodeVersion_1 rfl hl (by decide) rfl (fun ls hl => ?_)
  refine lv_iconst (v := nI 0) hx hb d_G_decodeVersion_2 (by decide) ?_
  refine lv_istore (lv' := [(4, .int (nI 0)), (3, .int (nI 0)), (0, .ref (ad 0 0 0)), (1, .ref (ad 12 f 0)), (2, .int x)]) hx hb d_G_decodeVersion_3 hl (by decide) rfl (fun ls hl => ?_)
  have loop : ∀ (n : Nat) (i : Nat) (gx : gT), N + 1 ≤ i + n → i ≤ N → cuF (svF N g f x) i ≤ K → (∀ k f s, k ≠ 7 → k ≠ 8 → gx k f s = g k f s) → (∀ s, s < i → ¬ svF N g f x s = 0 → gx 8 0 0 (cuF (svF N g f x) s) = nI s + 1 ∧ gx 7 0 0 (cuF (svF N g f x) s) = g 17 f s 1) → ∀ (Mx : xM) (Hx : Heap) (Lx : List Loc), xW D classes A Mx Hx → va_S A s.heap Hx Lx → gR T ad K N M gx Mx → ∀ (ls : Array Slot), lv_has ls 5 [(0, .ref (ad 0 0 0)), (1, .ref (ad 12 f 0)), (2, .int x), (3, .int (nI (cuF (svF N g f x) i))), (4, .int (nI i))] → W p l e (rmH 5) s m [.ref (ad 0 0 0), .ref (ad 12 f 0), .int x].toArray below meth c Hx Lx 0 0 Q (F0 m 5 ls []) := by
    intro n
    induction n with
    | zero =>
      intro i gx h2 h1 h3 r1 r2
      exact absurd h2 (by omega)
    | succ n ih =>
      intro i gx h2 h1 h3 r1 r2 Mx Hx Lx hP hS hR ls hl
      have hG := hR.1
      have hsc : kpS g gx := fun k f s a b _ _ _ => r1 k f s a b
      refine lv_iload hx hb d_G_decodeVersion_5 (lv_at hl 4 rfl) ?_
      refine lv_aload_n hx hb d_G_decodeVersion_7 rfl (lv_at hl 0 rfl) ?_
      refine x_get (v := .int (nI N)) (C := R_G) (T := F_G) (N := 12) hx hb hg i_G hown hK hP (ga_0 hG) rfl 1 (by decide) (hg _ w_111) (fun _ h9 => h9) rfl d_G_decodeVersion_8 ?_
      refine x_nc_ge (tgt := 84) hx hb d_G_decodeVersion_11 (by decide) (by omega) (by omega) (fun c1 => ?_) (fun c1 => ?_)
      · have hiK : cuF (svF N g f x) i = K := by rw [show i = N by omega] at h3 ⊢; omega
        refine lv_aload_n hx hb d_G_decodeVersion_84 rfl (lv_at hl 0 rfl) ?_
        refine x_get (v := .ref (ad 6 0 0)) (C := R_G) (T := F_G) (N := 12) hx hb hg i_G hown hK hP (ga_0 hG) rfl 7 (by decide) (hg _ w_117) (fun _ h9 => h9) rfl d_G_decodeVersion_85 ?_
        refine xvn_Q (n := 0) (As := []) (rest := []) hx hb hml hown hg hK0 hP hN (c_C_decodeShares l D T A _ ad K N gx hz hG) w_265 w_5 e_262 w_264 s_14 (ga_6 hG) rfl rfl (by decide +kernel) ⟨Nat.le_of_ble_eq_true rfl, Nat.le_of_ble_eq_true rfl⟩ rfl hl.1 rfl (Nat.le_of_ble_eq_true rfl) hS ⟨Nat.zero_le _, Nat.zero_le _⟩ rfl rfl d_G_decodeVersion_88 (fun r M1 H_133 L_134 hr hP hS => ?_)
        obtain ⟨rfl, hR1⟩ := hr
        obtain ⟨g_135, hg_135⟩ : ∃ z, z = upS gx 7 0 0 (dcS K (gx 8 0 0) (gx 7 0 0)) := ⟨_, rfl⟩
        rw [← hg_135] at hR1
        have hR := hR.tr hR1
        have hG := hR.1
        refine x_fr (pc := 91) [] rfl rfl ?_
        refine lv_aload_n hx hb d_G_decodeVersion_91 rfl (lv_at hl 0 rfl) ?_
        refine x_get (v := .ref (ad 6 0 0)) (C := R_G) (T := F_G) (N := 12) hx hb hg i_G hown hK hP (ga_0 hG) rfl 7 (by decide) (hg _ w_117) (fun _ h9 => h9) rfl d_G_decodeVersion_92 ?_
        refine x_getN (v := .ref (ad 8 0 0)) (C := R_C) (T := F_C) (N := 3) hx hb hg i_C hown hK hP (ga_6 hG) rfl 2 (by decide) (va_Nw.use rfl (hN _ e_100)) (fun _ h9 => h9) rfl d_G_decodeVersion_95 ?_
        refine lv_iconst (v := nI 0) hx hb d_G_decodeVersion_98 (by decide) ?_
        have hpl : ∀ j, j < K → gx 8 0 0 j = nI (plF N (svF N g f x) j) + 1 ∧ gx 7 0 0 j = g 17 f (plF N (svF N g f x) j) 1 := by
          intro j hj
          obtain ⟨p1, p2, p3⟩ := plF_ok (N := N) (n := i) (j := j) (u := svF N g f x) h1 (by omega)
          have := r2 _ p1 p2
          rw [p3] at this
          exact this
        refine x_iald (v := g_135 8 0 0 0) hx hb hK hP 0 (ga_8 hG) rfl (vp_in_nI (by omega) (by omega)) (by rw [nI_clamp (by omega)]) d_G_decodeVersion_99 ?_
        refine xs_R (n := 1) (As := [.int (g_135 8 0 0 0)]) (rest := []) hx hb hml hown hg hK0 hP (c_G_placeOf l D T A _ (g_135 8 0 0 0)) w_280 w_1 w_278 w_279 (by decide +kernel) ⟨Nat.le_of_ble_eq_true rfl, Nat.le_of_ble_eq_true rfl⟩ rfl hl.1 rfl (Nat.le_of_ble_eq_true rfl) ⟨Nat.zero_le _, Nat.zero_le _⟩ rfl rfl d_G_decodeVersion_100 (fun r hr => ?_)
        subst hr
        refine x_fr (pc := 103) [.int ((g_135 8 0 0 0) - 1)] rfl rfl ?_
        refine hret _ _ _ _ _ _ d_G_decodeVersion_103 hP hS ⟨g_135, ?_, hR, ?_, ?_⟩
        · have e0 : g_135 8 0 0 0 = nI (plF N (svF N g f x) 0) + 1 := by rw [hg_135, upS_n (by omega)]; exact (hpl 0 (by omega)).1
          rw [e0, Int32.add_sub_cancel]
        · intro k f s q1 q2; rw [hg_135, upS_n (by omega)]; exact r1 k f s q1 q2
        · intro j hj; rw [hg_135, upS_s]; exact dcS_congr hz1 (fun i hi => (hpl i hi).1) (fun i hi => (hpl i hi).2) j hj
      · refine lv_iload_n hx hb d_G_decodeVersion_14 rfl (lv_at hl 3 rfl) ?_
        refine lv_aload_n hx hb d_G_decodeVersion_15 rfl (lv_at hl 0 rfl) ?_
        refine x_get (v := .int (nI K)) (C := R_G) (T := F_G) (N := 12) hx hb hg i_G hown hK hP (ga_0 hG) rfl 0 (by decide) (hg _ w_110) (fun _ h9 => h9) rfl d_G_decodeVersion_16 ?_
        refine x_nc_ge (tgt := 84) hx hb d_G_decodeVersion_19 (by decide) (by omega) (by omega) (fun c2 => ?_) (fun c2 => ?_)
        · have hiK : cuF (svF N g f x) i = K := by omega
          refine lv_aload_n hx hb d_G_decodeVersion_84 rfl (lv_at hl 0 rfl) ?_
          refine x_get (v := .ref (ad 6 0 0)) (C := R_G) (T := F_G) (N := 12) hx hb hg i_G hown hK hP (ga_0 hG) rfl 7 (by decide) (hg _ w_117) (fun _ h9 => h9) rfl d_G_decodeVersion_85 ?_
          refine xvn_Q (n := 0) (As := []) (rest := []) hx hb hml hown hg hK0 hP hN (c_C_decodeShares l D T A _ ad K N gx hz hG) w_265 w_5 e_262 w_264 s_14 (ga_6 hG) rfl rfl (by decide +kernel) ⟨Nat.le_of_ble_eq_true rfl, Nat.le_of_ble_eq_true rfl⟩ rfl hl.1 rfl (Nat.le_of_ble_eq_true rfl) hS ⟨Nat.zero_le _, Nat.zero_le _⟩ rfl rfl d_G_decodeVersion_88 (fun r M1 H_136 L_137 hr hP hS => ?_)
          obtain ⟨rfl, hR1⟩ := hr
          obtain ⟨g_138, hg_138⟩ : ∃ z, z = upS gx 7 0 0 (dcS K (gx 8 0 0) (gx 7 0 0)) := ⟨_, rfl⟩
          rw [← hg_138] at hR1
          have hR := hR.tr hR1
          have hG := hR.1
          refine x_fr (pc := 91) [] rfl rfl ?_
          refine lv_aload_n hx hb d_G_decodeVersion_91 rfl (lv_at hl 0 rfl) ?_
          refine x_get (v := .ref (ad 6 0 0)) (C := R_G) (T := F_G) (N := 12) hx hb hg i_G hown hK hP (ga_0 hG) rfl 7 (by decide) (hg _ w_117) (fun _ h9 => h9) rfl d_G_decodeVersion_92 ?_
          refine x_getN (v := .ref (ad 8 0 0)) (C := R_C) (T := F_C) (N := 3) hx hb hg i_C hown hK hP (ga_6 hG) rfl 2 (by decide) (va_Nw.use rfl (hN _ e_100)) (fun _ h9 => h9) rfl d_G_decodeVersion_95 ?_
          refine lv_iconst (v := nI 0) hx hb d_G_decodeVersion_98 (by decide) ?_
          have hpl : ∀ j, j < K → gx 8 0 0 j = nI (plF N (svF N g f x) j) + 1 ∧ gx 7 0 0 j = g 17 f (plF N (svF N g f x) j) 1 := by
            intro j hj
            obtain ⟨p1, p2, p3⟩ := plF_ok (N := N) (n := i) (j := j) (u := svF N g f x) h1 (by omega)
            have := r2 _ p1 p2
            rw [p3] at this
            exact this
          refine x_iald (v := g_138 8 0 0 0) hx hb hK hP 0 (ga_8 hG) rfl (vp_in_nI (by omega) (by omega)) (by rw [nI_clamp (by omega)]) d_G_decodeVersion_99 ?_
          refine xs_R (n := 1) (As := [.int (g_138 8 0 0 0)]) (rest := []) hx hb hml hown hg hK0 hP (c_G_placeOf l D T A _ (g_138 8 0 0 0)) w_280 w_1 w_278 w_279 (by decide +kernel) ⟨Nat.le_of_ble_eq_true rfl, Nat.le_of_ble_eq_true rfl⟩ rfl hl.1 rfl (Nat.le_of_ble_eq_true rfl) ⟨Nat.zero_le _, Nat.zero_le _⟩ rfl rfl d_G_decodeVersion_100 (fun r hr => ?_)
          subst hr
          refine x_fr (pc := 103) [.int ((g_138 8 0 0 0) - 1)] rfl rfl ?_
          refine hret _ _ _ _ _ _ d_G_decodeVersion_103 hP hS ⟨g_138, ?_, hR, ?_, ?_⟩
          · have e0 : g_138 8 0 0 0 = nI (plF N (svF N g f x) 0) + 1 := by rw [hg_138, upS_n (by omega)]; exact (hpl 0 (by omega)).1
            rw [e0, Int32.add_sub_cancel]
          · intro k f s q1 q2; rw [hg_138, upS_n (by omega)]; exact r1 k f s q1 q2
          · intro j hj; rw [hg_138, upS_s]; exact dcS_congr hz1 (fun i hi => (hpl i hi).1) (fun i hi => (hpl i hi).2) j hj
        · refine lv_aload_n hx hb d_G_decodeVersion_22 rfl (lv_at hl 0 rfl) ?_
          refine x_get (v := .ref (ad 1 0 0)) (C := R_G) (T := F_G) (N := 12) hx hb hg i_G hown hK hP (ga_0 hG) rfl 2 (by decide) (hg _ w_112) (fun _ h9 => h9) rfl d_G_decodeVersion_23 ?_
          refine lv_iload hx hb d_G_decodeVersion_26 (lv_at hl 4 rfl) ?_
          refine x_zald (v := gx 1 0 0 i) hx hb hK hP 1 (ga_1 hG) rfl (vp_in_nI (by omega) (by omega)) (by rw [nI_clamp (by omega)]) d_G_decodeVersion_28 ?_
          refine lv_if_eq (tgt := 78) hx hb d_G_decodeVersion_29 (by decide) (fun c3 => ?_) (fun c3 => ?_)
          · have hz0 : svF N g f x i = 0 := svF_0.mpr (Or.inl (by rw [← r1 1 0 0 (by omega) (by omega)]; exact c3))
            have ecu := cuF_z hz0
            refine lv_iinc (v := nI (i + 1)) (lv' := [(4, .int (nI (i + 1))), (0, .ref (ad 0 0 0)), (1, .ref (ad 12 f 0)), (2, .int x), (3, .int (nI (cuF (svF N g f x) i)))]) hx hb d_G_decodeVersion_78 hl (k := 4) rfl (nI_1 _) (by decide) rfl (fun ls hl => ?_)
            refine lv_goto (tgt := 5) hx hb d_G_decodeVersion_81 (by decide) ?_
            exact ih (i + 1) gx (by omega) (by omega) (by rw [ecu]; exact h3) r1 (fun s hs ht => (Nat.lt_succ_iff_lt_or_eq.mp hs).elim (fun z => r2 s z ht) (fun z => absurd (by rw [z]; exact hz0) ht)) _ _ _ hP hS hR ls (by rw [ecu]; exact (lv_sub hl [1, 2, 3, 4, 0] rfl))
          · refine lv_aload_n hx hb d_G_decodeVersion_32 rfl (lv_at hl 1 rfl) ?_
            refine lv_iload hx hb d_G_decodeVersion_33 (lv_at hl 4 rfl) ?_
            refine lv_iload_n hx hb d_G_decodeVersion_35 rfl (lv_at hl 2 rfl) ?_
            refine xvn_R (n := 2) (As := [.int (nI i), .int x]) (rest := []) hx hb hml hown hg hK0 hP hN (c_F_isSoundWith l D T A _ ad K N gx hz hG f i w (by omega) (by omega) (by rw [r1 12 f 0 (by omega) (by omega)]; exact hw) hw30 x) w_259 w_3 e_256 w_258 s_13 (ga_12 hG (show f < 6 by omega)) rfl rfl (by decide +kernel) ⟨Nat.le_of_ble_eq_true rfl, Nat.le_of_ble_eq_true rfl⟩ rfl hl.1 rfl (Nat.le_of_ble_eq_true rfl) ⟨Nat.zero_le _, Nat.zero_le _⟩ rfl rfl d_G_decodeVersion_36 (fun r hr => ?_)
            subst hr
            refine x_fr (pc := 39) [.int (swG N gx f i x)] rfl rfl ?_
            refine lv_if_eq (tgt := 78) hx hb d_G_decodeVersion_39 (by decide) (fun c4 => ?_) (fun c4 => ?_)
            · have hz0 : svF N g f x i = 0 := svF_0.mpr (Or.inr (by rw [← swG_sc hsc]; exact c4))
              have ecu := cuF_z hz0
              refine lv_iinc (v := nI (i + 1)) (lv' := [(4, .int (nI (i + 1))), (0, .ref (ad 0 0 0)), (1, .ref (ad 12 f 0)), (2, .int x), (3, .int (nI (cuF (svF N g f x) i)))]) hx hb d_G_decodeVersion_78 hl (k := 4) rfl (nI_1 _) (by decide) rfl (fun ls hl => ?_)
              refine lv_goto (tgt := 5) hx hb d_G_decodeVersion_81 (by decide) ?_
              exact ih (i + 1) gx (by omega) (by omega) (by rw [ecu]; exact h3) r1 (fun s hs ht => (Nat.lt_succ_iff_lt_or_eq.mp hs).elim (fun z => r2 s z ht) (fun z => absurd (by rw [z]; exact hz0) ht)) _ _ _ hP hS hR ls (by rw [ecu]; exact (lv_sub hl [1, 2, 3, 4, 0] rfl))
            · have hz0 : ¬ svF N g f x i = 0 := fun z => (svF_0.mp z).elim (fun z => c3 (by rw [r1 1 0 0 (by omega) (by omega)]; exact z)) (fun z => c4 (by rw [swG_sc hsc]; exact z))
              have ecu := cuF_s hz0
              refine lv_aload_n hx hb d_G_decodeVersion_42 rfl (lv_at hl 0 rfl) ?_
              refine x_get (v := .ref (ad 6 0 0)) (C := R_G) (T := F_G) (N := 12) hx hb hg i_G hown hK hP (ga_0 hG) rfl 7 (by decide) (hg _ w_117) (fun _ h9 => h9) rfl d_G_decodeVersion_43 ?_
              refine x_getN (v := .ref (ad 8 0 0)) (C := R_C) (T := F_C) (N := 3) hx hb hg i_C hown hK hP (ga_6 hG) rfl 2 (by decide) (va_Nw.use rfl (hN _ e_100)) (fun _ h9 => h9) rfl d_G_decodeVersion_46 ?_
              refine lv_iload_n hx hb d_G_decodeVersion_49 rfl (lv_at hl 3 rfl) ?_
              refine lv_iload hx hb d_G_decodeVersion_50 (lv_at hl 4 rfl) ?_
              refine xs_R (n := 1) (As := [.int (nI i)]) (rest := [.int (nI (cuF (svF N g f x) i)), .ref (ad 8 0 0)]) hx hb hml hown hg hK0 hP (c_G_pointOf l D T A _ (nI i)) w_199 w_1 w_261 w_198 (by decide +kernel) ⟨Nat.le_of_ble_eq_true rfl, Nat.le_of_ble_eq_true rfl⟩ rfl hl.1 rfl (Nat.le_of_ble_eq_true rfl) ⟨Nat.zero_le _, Nat.zero_le _⟩ rfl rfl d_G_decodeVersion_52 (fun r hr => ?_)
              subst hr
              refine x_fr (pc := 55) [.int ((nI i) + 1), .int (nI (cuF (svF N g f x) i)), .ref (ad 8 0 0)] rfl rfl ?_
              refine x_iast hx hb hK hP hS 0 (ga_8 hG) rfl (vp_in_nI (by omega) (by omega)) d_G_decodeVersion_55 (fun H_139 L_140 hP hS => ?_)
              rw [nI_clamp (by omega)] at hP
              obtain ⟨g_141, hg_141⟩ : ∃ z, z = upS gx 8 0 0 (upd (gx 8 0 0) (cuF (svF N g f x) i) ((nI i) + 1)) := ⟨_, rfl⟩
              obtain ⟨M_142, hP, hR⟩ : ∃ z, xW D classes A z H_139 ∧ gR T ad K N M g_141 z := ⟨_, hP, by rw [hg_141]; exact hR.set (Or.inl ⟨by omega, rfl, rfl⟩) rfl⟩
              have hG := hR.1
              refine lv_aload_n hx hb d_G_decodeVersion_56 rfl (lv_at hl 0 rfl) ?_
              refine x_get (v := .ref (ad 6 0 0)) (C := R_G) (T := F_G) (N := 12) hx hb hg i_G hown hK hP (ga_0 hG) rfl 7 (by decide) (hg _ w_117) (fun _ h9 => h9) rfl d_G_decodeVersion_57 ?_
              refine x_getN (v := .ref (ad 7 0 0)) (C := R_C) (T := F_C) (N := 3) hx hb hg i_C hown hK hP (ga_6 hG) rfl 1 (by decide) (va_Nw.use rfl (hN _ e_98)) (fun _ h9 => h9) rfl d_G_decodeVersion_60 ?_
              refine lv_iload_n hx hb d_G_decodeVersion_63 rfl (lv_at hl 3 rfl) ?_
              refine lv_aload_n hx hb d_G_decodeVersion_64 rfl (lv_at hl 1 rfl) ?_
              refine x_getN (v := .ref (ad 13 f 0)) (C := R_F) (T := F_F) (N := 6) hx hb hg i_F hown hK hP (ga_12 hG (show f < 6 by omega)) rfl 0 (by decide) (va_Nw.use rfl (hN _ e_69)) (fun _ h9 => h9) rfl d_G_decodeVersion_65 ?_
              refine lv_iload hx hb d_G_decodeVersion_68 (lv_at hl 4 rfl) ?_
              refine x_aldq (v := .ref (ad 17 f i)) hx hb hK hP 2 (ga_13 hG (show f < 6 by omega)) rfl (vp_in_nI (by omega) (by omega)) (by rw [nI_clamp (by omega)]; rfl) d_G_decodeVersion_70 ?_
              refine x_getN (v := .int (g_141 17 f i 1)) (C := R_R) (T := F_R) (N := 5) hx hb hg i_R hown hK hP (ga_17 hG (show f < 6 by omega) (show i < N by omega)) rfl 2 (by decide) (va_Nw.use rfl (hN _ e_48)) (fun _ h9 => h9) rfl d_G_decodeVersion_71 ?_
              refine x_iast hx hb hK hP hS 0 (ga_7 hG) rfl (vp_in_nI (by omega) (by omega)) d_G_decodeVersion_74 (fun H_143 L_144 hP hS => ?_)
              rw [nI_clamp (by omega)] at hP
              obtain ⟨g_145, hg_145⟩ : ∃ z, z = upS g_141 7 0 0 (upd (g_141 7 0 0) (cuF (svF N g f x) i) (g_141 17 f i 1)) := ⟨_, rfl⟩
              obtain ⟨M_146, hP, hR⟩ : ∃ z, xW D classes A z H_143 ∧ gR T ad K N M g_145 z := ⟨_, hP, by rw [hg_145]; exact hR.set (Or.inl ⟨by omega, rfl, rfl⟩) rfl⟩
              have hG := hR.1
              have ra : ∀ k f s, k ≠ 7 → k ≠ 8 → g_145 k f s = g k f s := fun k f s q1 q2 => by rw [hg_145, upS_n (by omega), hg_141, upS_n (by omega)]; exact r1 k f s q1 q2
              have rb : ∀ s, s < i + 1 → ¬ svF N g f x s = 0 → g_145 8 0 0 (cuF (svF N g f x) s) = nI s + 1 ∧ g_145 7 0 0 (cuF (svF N g f x) s) = g 17 f s 1 := by
                intro s hs ht
                have e8 : g_145 8 0 0 = g_141 8 0 0 := by rw [hg_145, upS_n (by omega)]
                have e7 : g_141 7 0 0 = gx 7 0 0 := by rw [hg_141, upS_n (by omega)]
                rw [e8]
                rcases Nat.lt_succ_iff_lt_or_eq.mp hs with z | z
                · have hlt : cuF (svF N g f x) s ≠ cuF (svF N g f x) i := fun q => by have := cuF_inj ht hz0 q; omega
                  refine ⟨?_, ?_⟩
                  · rw [hg_141, upS_s, upd_n hlt]; exact (r2 s z ht).1
                  · rw [hg_145, upS_s, upd_n hlt, e7]; exact (r2 s z ht).2
                · subst z
                  refine ⟨?_, ?_⟩
                  · rw [hg_141, upS_s, upd_s]
                  · rw [hg_145, upS_s, upd_s, hg_141, upS_n (by omega), r1 17 f s (by omega) (by omega)]
              refine lv_iinc (v := nI ((cuF (svF N g f x) i) + 1)) (lv' := [(3, .int (nI ((cuF (svF N g f x) i) + 1))), (0, .ref (ad 0 0 0)), (1, .ref (ad 12 f 0)), (2, .int x), (4, .int (nI i))]) hx hb d_G_decodeVersion_75 hl (k := 3) rfl (nI_1 _) (by decide) rfl (fun ls hl => ?_)
              refine lv_iinc (v := nI (i + 1)) (lv' := [(4, .int (nI (i + 1))), (3, .int (nI ((cuF (svF N g f x) i) + 1))), (0, .ref (ad 0 0 0)), (1, .ref (ad 12 f 0)), (2, .int x)]) hx hb d_G_decodeVersion_78 hl (k := 4) rfl (nI_1 _) (by decide) rfl (fun ls hl => ?_)
              refine lv_goto (tgt := 5) hx hb d_G_decodeVersion_81 (by decide) ?_
              exact ih (i + 1) g_145 (by omega) (by omega) (by rw [ecu]; omega) ra rb _ _ _ hP hS hR ls (by rw [ecu]; exact (lv_sub hl [2, 3, 4, 1, 0] rfl))
  exact loop (N + 1) 0 g (by omega) (by omega) (Nat.zero_le _) (fun _ _ _ _ _ => rfl) (fun s hs => absurd hs (by omega)) _ _ _ hP hS hR ls (lv_sub hl [2, 3, 4, 1, 0] rfl)
end
section
/-! read and repair -/
theorem bdF_le (cn : Nat → Nat) (K : Nat) : ∀ w, bdF cn K w ≤ w := by
  intro w
  induction w with
  | zero => exact Nat.le_refl _
  | succ w ih => rw [bdF]; split <;> omega
theorem bdF_pos {cn : Nat → Nat} {K : Nat} : ∀ w, bdF cn K w ≠ 0 → K ≤ cn (bdF cn K w) := by
  intro w
  induction w with
  | zero => intro h; exact absurd rfl h
  | succ w ih =>
    intro h
    rw [bdF] at h ⊢
    by_cases q : K ≤ cn (w + 1)
    · rw [if_pos q]; exact q
    · rw [if_neg q] at h ⊢; exact ih h
theorem beF_le {K N : Nat} {g : gT} {f w : Nat} (hw : g 12 f 0 1 = nI w) (h30 : w ≤ 30) : beF K N g f ≤ 30 := by
  have := bdF_le (fun j => cuF (svF N g f (nI j)) N) K (g 12 f 0 1).toNatClampNeg
  rw [beF]
  rw [hw, nI_clamp (by omega)] at this ⊢
  omega
theorem beF_pos {K N : Nat} {g : gT} {f : Nat} (h : beF K N g f ≠ 0) : K ≤ cuF (svF N g f (nI (beF K N g f))) N := bdF_pos _ h
def aRead (K N : Nat) (g : gT) (q : Nat) (x : Int32) : Int32 := if 0 ≤ fuF g q (mixF x 2) then (if beF K N g (fuF g q (mixF x 2)).toNatClampNeg = 0 then -3 else nI (beF K N g (fuF g q (mixF x 2)).toNatClampNeg)) else -1
def okR (K N : Nat) (g : gT) (q : Nat) (v : Int32) : Prop := 0 ≤ fuF g q v ∧ beF K N g (fuF g q v).toNatClampNeg ≠ 0
def rdR (K N : Nat) (g g' : gT) (f : Nat) (x : Int32) : Prop := (∀ k f1 s, k ≠ 0 → k ≠ 5 → k ≠ 7 → k ≠ 8 → k ≠ 9 → k ≠ 10 → k ≠ 11 → g' k f1 s = g k f1 s) ∧ g' 0 0 0 0 = g 0 0 0 0 ∧ g' 0 0 0 1 = 1 ∧ ∀ j, j < K → g' 5 0 0 j = dcV K N g f (nI (beF K N g f)) j ^^^ mixF x (nI (beF K N g f) * 8 + nI j)
def stR (K N : Nat) (g g' : gT) (q : Nat) (x : Int32) : Prop := (okR K N g q (mixF x 2) → rdR K N g g' (fuF g q (mixF x 2)).toNatClampNeg x) ∧ (¬ okR K N g q (mixF x 2) → kpS g g')
def aRepair (K N : Nat) (g : gT) (q : Nat) (x : Int32) (cn : Nat) : Int32 := if 0 ≤ fuF g q x then (if beF K N g (fuF g q x).toNatClampNeg = 0 then -3 else nI cn) else -1
def rpV (N : Nat) (g : gT) (f : Nat) (nu : Int32) (s : Nat) : Int32 := if tkV g s = 0 then 0 else if swG N g f s nu = 0 then 1 else 0
def rpR (K N : Nat) (g g' : gT) (f : Nat) (nu : Int32) : Prop :=
  (∀ k f1 s, k ≠ 7 → k ≠ 8 → k ≠ 9 → k ≠ 10 → k ≠ 11 → k ≠ 17 → k ≠ 18 → g' k f1 s = g k f1 s) ∧
  (∀ f1 s, (f1 ≠ f ∨ rpV N g f nu s = 0) → g' 17 f1 s = g 17 f1 s ∧ g' 18 f1 s = g 18 f1 s) ∧
  ∀ s, s < N → ¬ rpV N g f nu s = 0 → g' 17 f s 0 = g 17 f (plF N (svF N g f nu) 0) 0 ∧ g' 17 f s 1 = shG (dcV K N g f nu) (nI s + 1) 0 K ∧ g' 17 f s 2 = g 17 f (plF N (svF N g f nu) 0) 2 ∧ g' 17 f s 3 = g 17 f (plF N (svF N g f nu) 0) 3 ∧ g' 18 f s = g 18 f (plF N (svF N g f nu) 0)
def stP (K N : Nat) (g g' : gT) (q : Nat) (x : Int32) : Prop := (okR K N g q x → rpR K N g g' (fuF g q x).toNatClampNeg (nI (beF K N g (fuF g q x).toNatClampNeg))) ∧ (¬ okR K N g q x → kpS g g')
/-- repair on its way -/
def rpI (K N : Nat) (g gy : gT) (f : Nat) (nu : Int32) (i : Nat) : Prop :=
  (∀ k f1 s, k ≠ 7 → k ≠ 8 → k ≠ 9 → k ≠ 10 → k ≠ 11 → k ≠ 17 → k ≠ 18 → gy k f1 s = g k f1 s) ∧ (∀ j, j < K → gy 7 0 0 j = dcV K N g f nu j) ∧
  gy 9 0 0 0 = g 17 f (plF N (svF N g f nu) 0) 0 ∧ gy 9 0 0 2 = g 17 f (plF N (svF N g f nu) 0) 2 ∧ gy 9 0 0 3 = g 17 f (plF N (svF N g f nu) 0) 3 ∧ gy 10 0 0 = g 18 f (plF N (svF N g f nu) 0) ∧
  (∀ f1 s, (f1 ≠ f ∨ i ≤ s ∨ rpV N g f nu s = 0) → gy 17 f1 s = g 17 f1 s ∧ gy 18 f1 s = g 18 f1 s) ∧
  ∀ s, s < i → ¬ rpV N g f nu s = 0 → gy 17 f s 0 = g 17 f (plF N (svF N g f nu) 0) 0 ∧ gy 17 f s 1 = shG (dcV K N g f nu) (nI s + 1) 0 K ∧ gy 17 f s 2 = g 17 f (plF N (svF N g f nu) 0) 2 ∧ gy 17 f s 3 = g 17 f (plF N (svF N g f nu) 0) 3 ∧ gy 18 f s = g 18 f (plF N (svF N g f nu) 0)
theorem rpI_step {K N : Nat} {g gy : gT} {f : Nat} {nu : Int32} {i : Nat} (ht : ¬ rpV N g f nu i = 0) (h : rpI K N g gy f nu i) : rpI K N g (gvS K gy f i) f nu (i + 1) := by
  obtain ⟨a1, a7, b0, b2, b3, b10, a6, a8⟩ := h
  have esh : shG (gy 7 0 0) (nI i + 1) 0 K = shG (dcV K N g f nu) (nI i + 1) 0 K := shG_congr0 a7
  refine ⟨fun k f' s q1 q2 q3 q4 q5 q6 q7 => ?_, fun j hj => ?_, ?_, ?_, ?_, ?_, fun f' s q => ?_, fun s q1 q2 => ?_⟩
  · rw [gvS, cpS, upS_n (by omega), upS_n (by omega), upS_n (by omega)]; exact a1 k f' s q1 q2 q3 q4 q5 q6 q7
  · rw [gvS, cpS, upS_n (by omega), upS_n (by omega), upS_n (by omega)]; exact a7 j hj
  · rw [gvS, cpS, upS_n (by omega), upS_n (by omega), upS_s]; exact b0
  · rw [gvS, cpS, upS_n (by omega), upS_n (by omega), upS_s]; exact b2
  · rw [gvS, cpS, upS_n (by omega), upS_n (by omega), upS_s]; exact b3
  · rw [gvS, cpS, upS_n (by omega), upS_n (by omega), upS_n (by omega)]; exact b10
  · by_cases hk : f' = f ∧ s = i
    · obtain ⟨rfl, rfl⟩ := hk
      rcases q with q | q | q
      · exact absurd rfl q
      · omega
      · exact absurd q ht
    · have z := a6 f' s (q.elim Or.inl fun q => q.elim (fun q => Or.inr (Or.inl (by omega))) fun q => Or.inr (Or.inr q))
      rw [gvS, cpS]
      refine ⟨?_, ?_⟩
      · rw [upS_n (by omega), upS_n (by omega), upS_n (by omega)]; exact z.1
      · rw [upS_n (by omega), upS_n (by omega), upS_n (by omega)]; exact z.2
  · by_cases hk : s = i
    · subst hk
      rw [gvS, cpS]
      refine ⟨?_, ?_, ?_, ?_, ?_⟩
      · rw [upS_n (by omega), upS_s, upS_s]; exact b0
      · rw [upS_n (by omega), upS_s, upS_s, upd_s]; exact esh
      · rw [upS_n (by omega), upS_s, upS_s]; exact b2
      · rw [upS_n (by omega), upS_s, upS_s]; exact b3
      · rw [upS_s, upS_n (by omega)]; exact b10
    · obtain ⟨e1, e2, e3, e4, e5⟩ := a8 s (by omega) q2
      rw [gvS, cpS]
      refine ⟨?_, ?_, ?_, ?_, ?_⟩
      · rw [upS_n (by omega), upS_n (by omega), upS_n (by omega)]; exact e1
      · rw [upS_n (by omega), upS_n (by omega), upS_n (by omega)]; exact e2
      · rw [upS_n (by omega), upS_n (by omega), upS_n (by omega)]; exact e3
      · rw [upS_n (by omega), upS_n (by omega), upS_n (by omega)]; exact e4
      · rw [upS_n (by omega), upS_n (by omega), upS_n (by omega)]; exact e5
theorem nI_nz {n : Nat} (h : ¬ nI n = 0) : n ≠ 0 := fun q => h (by rw [q]; rfl)
theorem nI_z {n : Nat} (hn : n < 2 ^ 31) (h : nI n = 0) : n = 0 := (nI_eq hn (by decide)).mp (h.trans nI_0.symm)
set_option maxHeartbeats 4000000 in
set_option maxRecDepth 100000 in
theorem c_G_read (l : Launch) (D : va_G) (T : Nat → ClassId) (A : Nat → Prop) (M : xM) (ad : Nat → Nat → Nat → Nat) (K N : Nat) (g : gT) (hz : zB K N) (hG : gG T ad K N g M) (q : Nat) (w : Nat → Nat) (hI : iG N g q w) (x : Int32) : Met l y_G_read (Cond.code y_G_read b_G_read 5 (some .int) :: gw) (rmH 6) (xPc D T A M [.ref (ad 0 0 0), .int x]) (xQ D A (fun r M1 => ∃ g', r = some (.int (aRead K N g q x)) ∧ gR T ad K N M g' M1 ∧ stR K N g g' q x)) 0 0 A := by
  refine xMetQi (by decide) (Nat.le_of_ble_eq_true rfl) ?_
  intro p e s m below meth c Q ls hB hP hS hl hret
  obtain ⟨hx, hb, hml, hown, hg, hK0, hnm⟩ := hB
  have hown : s.vm.findClass "ShareGrid" = some m.cls := hown
  have hK := hK0.1
  have hN := hK0.2.1
  obtain ⟨hz1, hz4, hzn, hz7⟩ := id hz
  have hR := hG.rf
  obtain ⟨hq, hq6, hwr, hbo⟩ := id hI
  have hl : lv_has ls 5 [(0, .ref (ad 0 0 0)), (1, .int x)] := hl
  refine lv_aload_n hx hb d_G_read_0 rfl (lv_at hl 0 rfl) ?_
  refine lv_iload_n hx hb d_G_read_1 rfl (lv_at hl 1 rfl) ?_
  refine xs_R (n := 1) (As := [.int x]) (rest := [.ref (ad 0 0 0)]) hx hb hml hown hg hK0 hP (c_G_verifyKeyOf l D T A _ x) w_161 w_1 w_159 w_160 (by decide +kernel) ⟨Nat.le_of_ble_eq_true rfl, Nat.le_of_ble_eq_true rfl⟩ rfl hl.1 rfl (Nat.le_of_ble_eq_true rfl) ⟨Nat.zero_le _, Nat.zero_le _⟩ rfl rfl d_G_read_2 (fun r hr => ?_)
  subst hr
  refine x_fr (pc := 5) [.int (mixF x 2), .ref (ad 0 0 0)] rfl rfl ?_
  refine xv_R (n := 1) (As := [.int (mixF x 2)]) (rest := []) hx hb hml hown hg hK0 hP (c_G_fileUnder l D T A _ ad K N g hz hG q hq hq6 (mixF x 2)) w_169 w_1 w_166 w_168 s_0 (ga_0 hG) rfl rfl (by decide +kernel) ⟨Nat.le_of_ble_eq_true rfl, Nat.le_of_ble_eq_true rfl⟩ rfl hl.1 rfl (Nat.le_of_ble_eq_true rfl) ⟨Nat.zero_le _, Nat.zero_le _⟩ rfl rfl d_G_read_5 (fun r hr => ?_)
  subst hr
  refine x_fr (pc := 8) [.int (fdF (fun f => g 12 f 0 0) (mixF x 2) 0 q)] rfl rfl ?_
  refine lv_istore_n (lv' := [(2, .int (fdF (fun f => g 12 f 0 0) (mixF x 2) 0 q)), (0, .ref (ad 0 0 0)), (1, .int x)]) hx hb d_G_read_8 rfl hl (by decide) rfl (fun ls hl => ?_)
  refine lv_iload_n hx hb d_G_read_9 rfl (lv_at hl 0 rfl) ?_
  refine lv_if_ge (tgt := 15) hx hb d_G_read_10 (by decide) (fun c7 => ?_) (fun c7 => ?_)
  · have c7 : 0 ≤ fuF g q (mixF x 2) := c7
    obtain ⟨f, hf, hfe⟩ := fuF_ge (g := g) (q := q) (x := mixF x 2) c7
    have hfe2 : (fdF (fun f => g 12 f 0 0) (mixF x 2) 0 q) = nI f := hfe
    rw [hfe2] at hl
    have ef : (fuF g q (mixF x 2)).toNatClampNeg = f := by rw [hfe, nI_clamp (by omega)]
    obtain ⟨hw0, hw30⟩ := hwr f (by omega)
    have hbe := beF_le (K := K) (N := N) hw0 hw30
    refine lv_aload_n hx hb d_G_read_15 rfl (lv_at hl 1 rfl) ?_
    refine lv_aload_n hx hb d_G_read_16 rfl (lv_at hl 1 rfl) ?_
    refine x_get (v := .ref (ad 3 0 0)) (C := R_G) (T := F_G) (N := 12) hx hb hg i_G hown hK hP (ga_0 hG) rfl 4 (by decide) (hg _ w_114) (fun _ h9 => h9) rfl d_G_read_17 ?_
    refine lv_iload_n hx hb d_G_read_20 rfl (lv_at hl 0 rfl) ?_
    refine x_aldq (v := .ref (ad 12 f 0)) hx hb hK hP 3 (ga_3 hG) rfl (vp_in_nI (by omega) (by omega)) (by rw [nI_clamp (by omega)]; rfl) d_G_read_21 ?_
    refine xv_Q (n := 1) (As := [.ref (ad 12 f 0)]) (rest := []) hx hb hml hown hg hK0 hP (c_G_bestNumber l D T A _ ad K N g hz hG f (w f) (by omega) hw0 hw30) w_242 w_1 w_239 w_241 s_10 (ga_0 hG) rfl rfl (by decide +kernel) ⟨Nat.le_of_ble_eq_true rfl, Nat.le_of_ble_eq_true rfl⟩ rfl hl.1 rfl (Nat.le_of_ble_eq_true rfl) hS ⟨Nat.zero_le _, Nat.zero_le _⟩ rfl rfl d_G_read_22 (fun r M1 H_147 L_148 hr hP hS => ?_)
    obtain ⟨h11, rfl, hR1⟩ := hr
    obtain ⟨g_149, hg_149⟩ : ∃ z, z = upS g 11 0 0 h11 := ⟨_, rfl⟩
    rw [← hg_149] at hR1
    have hR := hR.tr hR1
    have hG := hR.1
    refine x_fr (pc := 25) [.int (nI (beF K N g f))] rfl rfl ?_
    refine lv_istore_n (lv' := [(3, .int (nI (beF K N g f))), (2, .int (nI f)), (0, .ref (ad 0 0 0)), (1, .int x)]) hx hb d_G_read_25 rfl hl (by decide) rfl (fun ls hl => ?_)
    refine lv_iload_n hx hb d_G_read_26 rfl (lv_at hl 0 rfl) ?_
    have hk1 : kpS g g_149 := by rw [hg_149]; exact kpS.up (by omega)
    refine lv_if_ne (tgt := 33) hx hb d_G_read_27 (by decide) (fun c27 => ?_) (fun c27 => ?_)
    · have hbn : beF K N g f ≠ 0 := nI_nz c27
      have ehc : K ≤ cuF (svF N g_149 f (nI (beF K N g f))) N := by rw [svF_sc hk1]; exact beF_pos hbn
      refine lv_aload_n hx hb d_G_read_33 rfl (lv_at hl 2 rfl) ?_
      refine lv_aload_n hx hb d_G_read_34 rfl (lv_at hl 2 rfl) ?_
      refine x_get (v := .ref (ad 3 0 0)) (C := R_G) (T := F_G) (N := 12) hx hb hg i_G hown hK hP (ga_0 hG) rfl 4 (by decide) (hg _ w_114) (fun _ h9 => h9) rfl d_G_read_35 ?_
      refine lv_iload_n hx hb d_G_read_38 rfl (lv_at hl 1 rfl) ?_
      refine x_aldq (v := .ref (ad 12 f 0)) hx hb hK hP 3 (ga_3 hG) rfl (vp_in_nI (by omega) (by omega)) (by rw [nI_clamp (by omega)]; rfl) d_G_read_39 ?_
      refine lv_iload_n hx hb d_G_read_40 rfl (lv_at hl 0 rfl) ?_
      refine xv_Q (n := 2) (As := [.ref (ad 12 f 0), .int (nI (beF K N g f))]) (rest := []) hx hb hml hown hg hK0 hP (c_G_decodeVersion l D T A _ ad K N g_149 hz hG f (w f) (by omega) (by rw [hk1 12 f 0 (by omega) (by omega) (by omega) (by omega) (by omega)]; exact hw0) hw30 (nI (beF K N g f)) ehc) w_255 w_1 w_252 w_254 s_12 (ga_0 hG) rfl rfl (by decide +kernel) ⟨Nat.le_of_ble_eq_true rfl, Nat.le_of_ble_eq_true rfl⟩ rfl hl.1 rfl (Nat.le_of_ble_eq_true rfl) hS ⟨Nat.zero_le _, Nat.zero_le _⟩ rfl rfl d_G_read_41 (fun r M1 H_150 L_151 hr hP hS => ?_)
      obtain ⟨g_152, rfl, hR1, hdv1, hdv2⟩ := hr
      have hR := hR.tr hR1
      have hG := hR.1
      refine x_fr (pc := 44) [.int (nI (plF N (svF N g_149 f (nI (beF K N g f))) 0))] rfl rfl ?_
      refine lv_pop hx hb d_G_read_44 rfl ?_
      refine lv_iconst (v := nI 0) hx hb d_G_read_45 (by decide) ?_
      refine lv_istore (lv' := [(4, .int (nI 0)), (3, .int (nI (beF K N g f))), (2, .int (nI f)), (0, .ref (ad 0 0 0)), (1, .int x)]) hx hb d_G_read_46 hl (by decide) rfl (fun ls hl => ?_)
      have hk2 : kpS g g_152 := hk1.tr (fun k f s a b _ _ _ => hdv1 k f s a b)
      have edc : ∀ j, j < K → g_152 7 0 0 j = dcV K N g f (nI (beF K N g f)) j := by
        intro j hj
        rw [hdv2 j hj, dcV, dcV, svF_sc hk1]
        exact dcS_congr hz1 (fun _ _ => rfl) (fun i _ => by rw [hk1 17 f _ (by omega) (by omega) (by omega) (by omega) (by omega)]) j hj
      have loop : ∀ (n : Nat) (i : Nat) (gx : gT), K + 1 ≤ i + n → i ≤ K → (∀ k f s, k ≠ 5 → k ≠ 8 → k ≠ 11 → k ≠ 7 → k ≠ 9 → k ≠ 10 → gx k f s = g k f s) → (∀ j, j < i → gx 5 0 0 j = dcV K N g f (nI (beF K N g f)) j ^^^ mixF x (nI (beF K N g f) * 8 + nI j)) → (∀ j, j < K → gx 7 0 0 j = dcV K N g f (nI (beF K N g f)) j) → ∀ (Mx : xM) (Hx : Heap) (Lx : List Loc), xW D classes A Mx Hx → va_S A s.heap Hx Lx → gR T ad K N M gx Mx → ∀ (ls : Array Slot), lv_has ls 5 [(0, .ref (ad 0 0 0)), (1, .int x), (2, .int (nI f)), (3, .int (nI (beF K N g f))), (4, .int (nI i))] → W p l e (rmH 6) s m [.ref (ad 0 0 0), .int x].toArray below meth c Hx Lx 0 0 Q (F0 m 48 ls []) := by
        intro n
        induction n with
        | zero =>
          intro i gx h2 h1 r1 r2 r3
          exact absurd h2 (by omega)
        | succ n ih =>
          intro i gx h2 h1 r1 r2 r3 Mx Hx Lx hP hS hR ls hl
          have hG := hR.1
          refine lv_iload hx hb d_G_read_48 (lv_at hl 4 rfl) ?_
          refine lv_aload_n hx hb d_G_read_50 rfl (lv_at hl 0 rfl) ?_
          refine x_get (v := .int (nI K)) (C := R_G) (T := F_G) (N := 12) hx hb hg i_G hown hK hP (ga_0 hG) rfl 0 (by decide) (hg _ w_110) (fun _ h9 => h9) rfl d_G_read_51 ?_
          refine x_nc_ge (tgt := 88) hx hb d_G_read_54 (by decide) (by omega) (by omega) (fun c54 => ?_) (fun c54 => ?_)
          · have hiK : i = K := by omega
            rw [hiK] at r2
            refine lv_aload_n hx hb d_G_read_88 rfl (lv_at hl 0 rfl) ?_
            refine lv_iconst (v := 1) hx hb d_G_read_89 (by decide) ?_
            refine x_put (v := .int 1) (ty := .boolean) (C := R_G) (T := F_G) (N := 12) hx hb hg i_G t_G t_G_ok n_G hown hK hP hS (ga_0 hG) rfl 11 (by decide) (hg _ w_121) (fun _ h9 => h9) rfl (by decide +kernel) (by rfl) (by rfl) (Nat.le_of_ble_eq_true rfl) d_G_read_90 (fun H_153 L_154 hP hS => ?_)
            obtain ⟨g_155, hg_155⟩ : ∃ z, z = upS gx 0 0 0 (upd (gx 0 0 0) 1 1) := ⟨_, rfl⟩
            obtain ⟨M_156, hP, hR⟩ : ∃ z, xW D classes A z H_153 ∧ gR T ad K N M g_155 z := ⟨_, hP, by rw [hg_155]; exact hR.set (Or.inl ⟨by omega, rfl, rfl⟩) rfl⟩
            have hG := hR.1
            refine lv_iload_n hx hb d_G_read_93 rfl (lv_at hl 3 rfl) ?_
            refine hret _ _ _ _ _ _ d_G_read_94 hP hS ⟨g_155, by rw [aRead, if_pos c7, ef, if_neg hbn], hR, fun _ => ?_, fun z => absurd ⟨c7, by rw [ef]; exact hbn⟩ z⟩
            rw [ef]
            refine ⟨fun k f1 s1 q0 q5 q7 q8 q9 q10 q11 => ?_, ?_, ?_, fun j hj => ?_⟩
            · rw [hg_155, upS_n (by omega)]; exact r1 k f1 s1 q5 q8 q11 q7 q9 q10
            · rw [hg_155, upS_s, upd_n (by omega), r1 0 0 0 (by omega) (by omega) (by omega) (by omega) (by omega) (by omega)]
            · rw [hg_155, upS_s, upd_s]
            · rw [hg_155, upS_n (by omega)]; exact r2 j hj
          · refine lv_aload_n hx hb d_G_read_57 rfl (lv_at hl 0 rfl) ?_
            refine x_get (v := .ref (ad 5 0 0)) (C := R_G) (T := F_G) (N := 12) hx hb hg i_G hown hK hP (ga_0 hG) rfl 6 (by decide) (hg _ w_116) (fun _ h9 => h9) rfl d_G_read_58 ?_
            refine lv_iload hx hb d_G_read_61 (lv_at hl 4 rfl) ?_
            refine lv_aload_n hx hb d_G_read_63 rfl (lv_at hl 0 rfl) ?_
            refine x_get (v := .ref (ad 6 0 0)) (C := R_G) (T := F_G) (N := 12) hx hb hg i_G hown hK hP (ga_0 hG) rfl 7 (by decide) (hg _ w_117) (fun _ h9 => h9) rfl d_G_read_64 ?_
            refine x_getN (v := .ref (ad 7 0 0)) (C := R_C) (T := F_C) (N := 3) hx hb hg i_C hown hK hP (ga_6 hG) rfl 1 (by decide) (va_Nw.use rfl (hN _ e_98)) (fun _ h9 => h9) rfl d_G_read_67 ?_
            refine lv_iload hx hb d_G_read_70 (lv_at hl 4 rfl) ?_
            refine x_iald (v := gx 7 0 0 i) hx hb hK hP 0 (ga_7 hG) rfl (vp_in_nI (by omega) (by omega)) (by rw [nI_clamp (by omega)]) d_G_read_72 ?_
            refine lv_iload_n hx hb d_G_read_73 rfl (lv_at hl 1 rfl) ?_
            refine lv_iload_n hx hb d_G_read_74 rfl (lv_at hl 3 rfl) ?_
            refine lv_iload hx hb d_G_read_75 (lv_at hl 4 rfl) ?_
            refine xs_R (n := 3) (As := [.int x, .int (nI (beF K N g f)), .int (nI i)]) (rest := [.int (gx 7 0 0 i), .int (nI i), .ref (ad 5 0 0)]) hx hb hml hown hg hK0 hP (c_G_cipherMask l D T A _ x (nI (beF K N g f)) (nI i)) w_188 w_1 w_186 w_187 (by decide +kernel) ⟨Nat.le_of_ble_eq_true rfl, Nat.le_of_ble_eq_true rfl⟩ rfl hl.1 rfl (Nat.le_of_ble_eq_true rfl) ⟨Nat.zero_le _, Nat.zero_le _⟩ rfl rfl d_G_read_77 (fun r hr => ?_)
            subst hr
            refine x_fr (pc := 80) [.int (mixF x ((nI (beF K N g f)) * 8 + (nI i))), .int (gx 7 0 0 i), .int (nI i), .ref (ad 5 0 0)] rfl rfl ?_
            refine lv_ixor hx hb d_G_read_80 ?_
            refine x_iast hx hb hK hP hS 0 (ga_5 hG) rfl (vp_in_nI (by omega) (by omega)) d_G_read_81 (fun H_157 L_158 hP hS => ?_)
            rw [nI_clamp (by omega)] at hP
            obtain ⟨g_159, hg_159⟩ : ∃ z, z = upS gx 5 0 0 (upd (gx 5 0 0) i ((gx 7 0 0 i) ^^^ (mixF x ((nI (beF K N g f)) * 8 + (nI i))))) := ⟨_, rfl⟩
            obtain ⟨M_160, hP, hR⟩ : ∃ z, xW D classes A z H_157 ∧ gR T ad K N M g_159 z := ⟨_, hP, by rw [hg_159]; exact hR.set (Or.inl ⟨by omega, rfl, rfl⟩) rfl⟩
            have hG := hR.1
            have ra : ∀ k f s, k ≠ 5 → k ≠ 8 → k ≠ 11 → k ≠ 7 → k ≠ 9 → k ≠ 10 → g_159 k f s = g k f s := fun k f s q1 q2 q3 q4 q5 q6 => by rw [hg_159, upS_n (by omega)]; exact r1 k f s q1 q2 q3 q4 q5 q6
            have rb : ∀ j, j < i + 1 → g_159 5 0 0 j = dcV K N g f (nI (beF K N g f)) j ^^^ mixF x (nI (beF K N g f) * 8 + nI j) := by
              intro j hj
              rw [hg_159, upS_s]
              by_cases hji : j = i
              · subst hji; rw [upd_s, r3 j (by omega)]
              · rw [upd_n hji]; exact r2 j (by omega)
            have rc : ∀ j, j < K → g_159 7 0 0 j = dcV K N g f (nI (beF K N g f)) j := fun j hj => by rw [hg_159, upS_n (by omega)]; exact r3 j hj
            refine lv_iinc (v := nI (i + 1)) (lv' := [(4, .int (nI (i + 1))), (0, .ref (ad 0 0 0)), (1, .int x), (2, .int (nI f)), (3, .int (nI (beF K N g f)))]) hx hb d_G_read_82 hl (k := 4) rfl (nI_1 _) (by decide) rfl (fun ls hl => ?_)
            refine lv_goto (tgt := 48) hx hb d_G_read_85 (by decide) ?_
            exact ih (i + 1) g_159 (by omega) (by omega) ra rb rc _ _ _ hP hS hR ls (lv_sub hl [1, 2, 3, 4, 0] rfl)
      exact loop (K + 1) 0 g_152 (by omega) (by omega) (fun k f s _ q2 q3 q4 q5 q6 => hk2 k f s q4 q2 q5 q6 q3) (fun j hj => absurd hj (by omega)) edc _ _ _ hP hS hR ls (lv_sub hl [3, 4, 2, 1, 0] rfl)
    · have hbn : beF K N g f = 0 := nI_z (by omega) c27
      refine lv_bipush (v := (-3)) hx hb d_G_read_30 (by decide) ?_
      exact hret _ _ _ _ _ _ d_G_read_32 hP hS ⟨g_149, by rw [aRead, if_pos c7, ef, if_pos hbn], hR, fun z => absurd (by rw [ef]; exact hbn) z.2, fun _ => hk1⟩
  · have c7 : ¬ 0 ≤ fuF g q (mixF x 2) := c7
    refine lv_iconst (v := (-1)) hx hb d_G_read_13 (by decide) ?_
    exact hret _ _ _ _ _ _ d_G_read_14 hP hS ⟨g, by rw [aRead, if_neg c7], hR, fun z => absurd z.1 c7, fun _ => kpS.rf⟩
set_option maxHeartbeats 4000000 in
set_option maxRecDepth 100000 in
theorem c_G_repair (l : Launch) (D : va_G) (T : Nat → ClassId) (A : Nat → Prop) (M : xM) (ad : Nat → Nat → Nat → Nat) (K N : Nat) (g : gT) (hz : zB K N) (hG : gG T ad K N g M) (q : Nat) (w : Nat → Nat) (hI : iG N g q w) (x : Int32) : Met l y_G_repair (Cond.code y_G_repair b_G_repair 8 (some .int) :: gw) (rmH 6) (xPc D T A M [.ref (ad 0 0 0), .int x]) (xQ D A (fun r M1 => ∃ g', r = some (.int (aRepair K N g q x (cuF (rpV N g (fuF g q x).toNatClampNeg (nI (beF K N g (fuF g q x).toNatClampNeg))) N))) ∧ gR T ad K N M g' M1 ∧ stP K N g g' q x)) 0 0 A := by
  refine xMetQi (by decide) (Nat.le_of_ble_eq_true rfl) ?_
  intro p e s m below meth c Q ls hB hP hS hl hret
  obtain ⟨hx, hb, hml, hown, hg, hK0, hnm⟩ := hB
  have hown : s.vm.findClass "ShareGrid" = some m.cls := hown
  have hK := hK0.1
  have hN := hK0.2.1
  obtain ⟨hz1, hz4, hzn, hz7⟩ := id hz
  have hR := hG.rf
  obtain ⟨hq, hq6, hwr, hbo⟩ := id hI
  have hl : lv_has ls 8 [(0, .ref (ad 0 0 0)), (1, .int x)] := hl
  refine lv_aload_n hx hb d_G_repair_0 rfl (lv_at hl 0 rfl) ?_
  refine lv_iload_n hx hb d_G_repair_1 rfl (lv_at hl 1 rfl) ?_
  refine xv_R (n := 1) (As := [.int x]) (rest := []) hx hb hml hown hg hK0 hP (c_G_fileUnder l D T A _ ad K N g hz hG q hq hq6 x) w_169 w_1 w_166 w_168 s_0 (ga_0 hG) rfl rfl (by decide +kernel) ⟨Nat.le_of_ble_eq_true rfl, Nat.le_of_ble_eq_true rfl⟩ rfl hl.1 rfl (Nat.le_of_ble_eq_true rfl) ⟨Nat.zero_le _, Nat.zero_le _⟩ rfl rfl d_G_repair_2 (fun r hr => ?_)
  subst hr
  refine x_fr (pc := 5) [.int (fdF (fun f => g 12 f 0 0) x 0 q)] rfl rfl ?_
  refine lv_istore_n (lv' := [(2, .int (fdF (fun f => g 12 f 0 0) x 0 q)), (0, .ref (ad 0 0 0)), (1, .int x)]) hx hb d_G_repair_5 rfl hl (by decide) rfl (fun ls hl => ?_)
  refine lv_iload_n hx hb d_G_repair_6 rfl (lv_at hl 0 rfl) ?_
  refine lv_if_ge (tgt := 12) hx hb d_G_repair_7 (by decide) (fun c7 => ?_) (fun c7 => ?_)
  · have c7 : 0 ≤ fuF g q (x) := c7
    obtain ⟨f, hf, hfe⟩ := fuF_ge (g := g) (q := q) (x := x) c7
    have hfe2 : (fdF (fun f => g 12 f 0 0) x 0 q) = nI f := hfe
    rw [hfe2] at hl
    have ef : (fuF g q (x)).toNatClampNeg = f := by rw [hfe, nI_clamp (by omega)]
    obtain ⟨hw0, hw30⟩ := hwr f (by omega)
    have hbe := beF_le (K := K) (N := N) hw0 hw30
    refine lv_aload_n hx hb d_G_repair_12 rfl (lv_at hl 1 rfl) ?_
    refine x_get (v := .ref (ad 3 0 0)) (C := R_G) (T := F_G) (N := 12) hx hb hg i_G hown hK hP (ga_0 hG) rfl 4 (by decide) (hg _ w_114) (fun _ h9 => h9) rfl d_G_repair_13 ?_
    refine lv_iload_n hx hb d_G_repair_16 rfl (lv_at hl 0 rfl) ?_
    refine x_aldq (v := .ref (ad 12 f 0)) hx hb hK hP 3 (ga_3 hG) rfl (vp_in_nI (by omega) (by omega)) (by rw [nI_clamp (by omega)]; rfl) d_G_repair_17 ?_
    refine lv_astore_n (lv' := [(3, .ref (ad 12 f 0)), (2, .int (nI f)), (0, .ref (ad 0 0 0)), (1, .int x)]) hx hb d_G_repair_18 rfl hl (by decide) rfl (fun ls hl => ?_)
    refine lv_aload_n hx hb d_G_repair_19 rfl (lv_at hl 2 rfl) ?_
    refine lv_aload_n hx hb d_G_repair_20 rfl (lv_at hl 0 rfl) ?_
    refine xv_Q (n := 1) (As := [.ref (ad 12 f 0)]) (rest := []) hx hb hml hown hg hK0 hP (c_G_bestNumber l D T A _ ad K N g hz hG f (w f) (by omega) hw0 hw30) w_242 w_1 w_239 w_241 s_10 (ga_0 hG) rfl rfl (by decide +kernel) ⟨Nat.le_of_ble_eq_true rfl, Nat.le_of_ble_eq_true rfl⟩ rfl hl.1 rfl (Nat.le_of_ble_eq_true rfl) hS ⟨Nat.zero_le _, Nat.zero_le _⟩ rfl rfl d_G_repair_21 (fun r M1 H_161 L_162 hr hP hS => ?_)
    obtain ⟨h11, rfl, hR1⟩ := hr
    obtain ⟨g_163, hg_163⟩ : ∃ z, z = upS g 11 0 0 h11 := ⟨_, rfl⟩
    rw [← hg_163] at hR1
    have hR := hR.tr hR1
    have hG := hR.1
    refine x_fr (pc := 24) [.int (nI (beF K N g f))] rfl rfl ?_
    refine lv_istore (lv' := [(4, .int (nI (beF K N g f))), (3, .ref (ad 12 f 0)), (2, .int (nI f)), (0, .ref (ad 0 0 0)), (1, .int x)]) hx hb d_G_repair_24 hl (by decide) rfl (fun ls hl => ?_)
    refine lv_iload hx hb d_G_repair_26 (lv_at hl 0 rfl) ?_
    have hk1 : kpS g g_163 := by rw [hg_163]; exact kpS.up (by omega)
    refine lv_if_ne (tgt := 34) hx hb d_G_repair_28 (by decide) (fun c28 => ?_) (fun c28 => ?_)
    · have hbn : beF K N g f ≠ 0 := nI_nz c28
      have ehc : K ≤ cuF (svF N g_163 f (nI (beF K N g f))) N := by rw [svF_sc hk1]; exact beF_pos hbn
      refine lv_aload_n hx hb d_G_repair_34 rfl (lv_at hl 3 rfl) ?_
      refine lv_aload_n hx hb d_G_repair_35 rfl (lv_at hl 1 rfl) ?_
      refine lv_iload hx hb d_G_repair_36 (lv_at hl 0 rfl) ?_
      refine xv_Q (n := 2) (As := [.ref (ad 12 f 0), .int (nI (beF K N g f))]) (rest := []) hx hb hml hown hg hK0 hP (c_G_decodeVersion l D T A _ ad K N g_163 hz hG f (w f) (by omega) (by rw [hk1 12 f 0 (by omega) (by omega) (by omega) (by omega) (by omega)]; exact hw0) hw30 (nI (beF K N g f)) ehc) w_255 w_1 w_252 w_254 s_12 (ga_0 hG) rfl rfl (by decide +kernel) ⟨Nat.le_of_ble_eq_true rfl, Nat.le_of_ble_eq_true rfl⟩ rfl hl.1 rfl (Nat.le_of_ble_eq_true rfl) hS ⟨Nat.zero_le _, Nat.zero_le _⟩ rfl rfl d_G_repair_38 (fun r M1 H_164 L_165 hr hP hS => ?_)
      obtain ⟨g_166, rfl, hR1, hdv1, hdv2⟩ := hr
      have hR := hR.tr hR1
      have hG := hR.1
      refine x_fr (pc := 41) [.int (nI (plF N (svF N g_163 f (nI (beF K N g f))) 0))] rfl rfl ?_
      have esv := svF_sc (N := N) hk1 f (nI (beF K N g f))
      have hk2 : kpS g g_166 := hk1.tr (fun k f s a b _ _ _ => hdv1 k f s a b)
      have edc : ∀ j, j < K → g_166 7 0 0 j = dcV K N g f (nI (beF K N g f)) j := by
        intro j hj
        rw [hdv2 j hj, dcV, dcV, esv]
        exact dcS_congr hz1 (fun _ _ => rfl) (fun i _ => by rw [hk1 17 f _ (by omega) (by omega) (by omega) (by omega) (by omega)]) j hj
      have hpl := plF_ok (N := N) (n := N) (j := 0) (u := svF N g f (nI (beF K N g f))) (Nat.le_refl N) (by have := beF_pos hbn; omega)
      obtain ⟨p0, hp0⟩ : ∃ z, z = plF N (svF N g f (nI (beF K N g f))) 0 := ⟨_, rfl⟩
      rw [← hp0] at hpl
      refine x_top (y := nI p0) (by rw [esv, hp0]) ?_
      have hp0N := hpl.1
      refine lv_istore (lv' := [(5, .int (nI p0)), (4, .int (nI (beF K N g f))), (3, .ref (ad 12 f 0)), (2, .int (nI f)), (0, .ref (ad 0 0 0)), (1, .int x)]) hx hb d_G_repair_41 hl (by decide) rfl (fun ls hl => ?_)
      refine lv_aload_n hx hb d_G_repair_43 rfl (lv_at hl 4 rfl) ?_
      refine x_get (v := .ref (ad 9 0 0)) (C := R_G) (T := F_G) (N := 12) hx hb hg i_G hown hK hP (ga_0 hG) rfl 8 (by decide) (hg _ w_118) (fun _ h9 => h9) rfl d_G_repair_44 ?_
      refine lv_aload_n hx hb d_G_repair_47 rfl (lv_at hl 2 rfl) ?_
      refine x_getN (v := .ref (ad 13 f 0)) (C := R_F) (T := F_F) (N := 6) hx hb hg i_F hown hK hP (ga_12 hG (show f < 6 by omega)) rfl 0 (by decide) (va_Nw.use rfl (hN _ e_69)) (fun _ h9 => h9) rfl d_G_repair_48 ?_
      refine lv_iload hx hb d_G_repair_51 (lv_at hl 0 rfl) ?_
      refine x_aldq (v := .ref (ad 17 f p0)) hx hb hK hP 2 (ga_13 hG (show f < 6 by omega)) rfl (vp_in_nI (by omega) (by omega)) (by rw [nI_clamp (by omega)]; rfl) d_G_repair_53 ?_
      refine xvn_Q (n := 1) (As := [.ref (ad 17 f p0)]) (rest := []) hx hb hml hown hg hK0 hP hN (c_R_copyFrom l D T A _ (ad 9 0 0) (ad 17 f p0) (ad 10 0 0) (ad 18 f p0) N (g_166 18 f p0) (g_166 10 0 0) (g_166 17 f p0 0) (g_166 17 f p0 1) (g_166 17 f p0 2) (g_166 17 f p0 3) (g_166 9 0 0 0) (g_166 9 0 0 1) (g_166 9 0 0 2) (g_166 9 0 0 3) (by omega) (by rw [hk2 17 f p0 (by omega) (by omega) (by omega) (by omega) (by omega)]; exact (hbo f p0 (by omega) (by omega)).1) (ga_9 hG) (ga_17 hG (show f < 6 by omega) (show p0 < N by omega)) (ga_10 hG) (ga_18 hG (show f < 6 by omega) (show p0 < N by omega)) (hG.ne (Or.inr (Or.inr ⟨by omega, by omega, by omega, by omega⟩)) (Or.inl ⟨by omega, rfl, rfl⟩) (by omega))) w_231 w_4 e_228 w_230 s_9 (ga_9 hG) rfl rfl (by decide +kernel) ⟨Nat.le_of_ble_eq_true rfl, Nat.le_of_ble_eq_true rfl⟩ rfl hl.1 rfl (Nat.le_of_ble_eq_true rfl) hS ⟨Nat.zero_le _, Nat.zero_le _⟩ rfl rfl d_G_repair_54 (fun r M1 H_167 L_168 hr hP hS => ?_)
      obtain ⟨rfl, rfl⟩ := hr
      obtain ⟨g_169, hg_169⟩ : ∃ z, z = cpS g_166 17 f p0 9 0 0 := ⟨_, rfl⟩
      obtain ⟨M_170, hP, hR⟩ : ∃ z, xW D classes A z H_167 ∧ gR T ad K N M g_169 z := ⟨_, hP, by rw [hg_169]; exact (hR.set (Or.inl ⟨by omega, rfl, rfl⟩) rfl).set (Or.inl ⟨by omega, rfl, rfl⟩) rfl⟩
      have hG := hR.1
      refine x_fr (pc := 57) [] rfl rfl ?_
      refine lv_iconst (v := nI 0) hx hb d_G_repair_57 (by decide) ?_
      refine lv_istore (lv' := [(6, .int (nI 0)), (5, .int (nI p0)), (4, .int (nI (beF K N g f))), (3, .ref (ad 12 f 0)), (2, .int (nI f)), (0, .ref (ad 0 0 0)), (1, .int x)]) hx hb d_G_repair_58 hl (by decide) rfl (fun ls hl => ?_)
      refine lv_iconst (v := nI 0) hx hb d_G_repair_60 (by decide) ?_
      refine lv_istore (lv' := [(7, .int (nI 0)), (6, .int (nI 0)), (5, .int (nI p0)), (4, .int (nI (beF K N g f))), (3, .ref (ad 12 f 0)), (2, .int (nI f)), (0, .ref (ad 0 0 0)), (1, .int x)]) hx hb d_G_repair_61 hl (by decide) rfl (fun ls hl => ?_)
      have loop : ∀ (n : Nat) (i : Nat) (gy : gT), N + 1 ≤ i + n → i ≤ N → rpI K N g gy f (nI (beF K N g f)) i → ∀ (Mx : xM) (Hx : Heap) (Lx : List Loc), xW D classes A Mx Hx → va_S A s.heap Hx Lx → gR T ad K N M gy Mx → ∀ (ls : Array Slot), lv_has ls 8 [(0, .ref (ad 0 0 0)), (1, .int x), (2, .int (nI f)), (3, .ref (ad 12 f 0)), (4, .int (nI (beF K N g f))), (5, .int (nI p0)), (6, .int (nI (cuF (rpV N g f (nI (beF K N g f))) i))), (7, .int (nI i))] → W p l e (rmH 6) s m [.ref (ad 0 0 0), .int x].toArray below meth c Hx Lx 0 0 Q (F0 m 63 ls []) := by
        intro n
        induction n with
        | zero =>
          intro i gy h2 h1 r1
          exact absurd h2 (by omega)
        | succ n ih =>
          intro i gy h2 h1 r1 Mx Hx Lx hP hS hR ls hl
          have hG := hR.1
          obtain ⟨a1, a7, b0, b2, b3, b10, a6, a8⟩ := id r1
          have hcl2 := cuF_le (rpV N g f (nI (beF K N g f))) i
          refine lv_iload hx hb d_G_repair_63 (lv_at hl 7 rfl) ?_
          refine lv_aload_n hx hb d_G_repair_65 rfl (lv_at hl 0 rfl) ?_
          refine x_get (v := .int (nI N)) (C := R_G) (T := F_G) (N := 12) hx hb hg i_G hown hK hP (ga_0 hG) rfl 1 (by decide) (hg _ w_111) (fun _ h9 => h9) rfl d_G_repair_66 ?_
          refine x_nc_ge (tgt := 108) hx hb d_G_repair_69 (by decide) (by omega) (by omega) (fun c69 => ?_) (fun c69 => ?_)
          · have hiN : i = N := by omega
            refine lv_iload hx hb d_G_repair_108 (lv_at hl 6 rfl) ?_
            rw [hiN] at a6 a8
            exact hret _ _ _ _ _ _ d_G_repair_110 hP hS ⟨gy, by rw [aRepair, if_pos c7, ef, if_neg hbn, hiN], hR, fun _ => by rw [ef]; exact ⟨a1, fun f1 s1 hk => a6 f1 s1 (hk.elim Or.inl fun z => Or.inr (Or.inr z)), a8⟩, fun z => absurd ⟨c7, by rw [ef]; exact hbn⟩ z⟩
          · have etk : tkF (gy 1 0 0 i) (gy 2 0 0 i) = tkV g i := by rw [tkV, a1 1 0 0 (by omega) (by omega) (by omega) (by omega) (by omega) (by omega) (by omega), a1 2 0 0 (by omega) (by omega) (by omega) (by omega) (by omega) (by omega) (by omega)]
            have esw : swG N gy f i (nI (beF K N g f)) = swG N g f i (nI (beF K N g f)) := by
              have z := a6 f i (Or.inr (Or.inl (Nat.le_refl i)))
              rw [swG, swG]
              show (if gy 17 f i 2 = _ then sdF N (gy 17 f i) (gy 18 f i) (gy 15 f 0) (gy 16 f 0) (gy 12 f 0 1) i else 0) = _
              rw [z.1, z.2, a1 15 f 0 (by omega) (by omega) (by omega) (by omega) (by omega) (by omega) (by omega), a1 16 f 0 (by omega) (by omega) (by omega) (by omega) (by omega) (by omega) (by omega), a1 12 f 0 (by omega) (by omega) (by omega) (by omega) (by omega) (by omega) (by omega)]
            refine lv_aload_n hx hb d_G_repair_72 rfl (lv_at hl 0 rfl) ?_
            refine lv_iload hx hb d_G_repair_73 (lv_at hl 7 rfl) ?_
            refine xv_R (n := 1) (As := [.int (nI i)]) (rest := []) hx hb hml hown hg hK0 hP (c_G_takesRecords l D T A _ ad K N gy hz hG i (by omega)) w_223 w_1 w_220 w_222 s_7 (ga_0 hG) rfl rfl (by decide +kernel) ⟨Nat.le_of_ble_eq_true rfl, Nat.le_of_ble_eq_true rfl⟩ rfl hl.1 rfl (Nat.le_of_ble_eq_true rfl) ⟨Nat.zero_le _, Nat.zero_le _⟩ rfl rfl d_G_repair_75 (fun r hr => ?_)
            subst hr
            refine x_fr (pc := 78) [.int (tkF (gy 1 0 0 i) (gy 2 0 0 i))] rfl rfl ?_
            refine lv_if_eq (tgt := 102) hx hb d_G_repair_78 (by decide) (fun c78 => ?_) (fun c78 => ?_)
            · have hz0 : rpV N g f (nI (beF K N g f)) i = 0 := by rw [rpV, if_pos (by rw [← etk]; exact c78)]
              have ecu := cuF_z hz0
              refine lv_iinc (v := nI (i + 1)) (lv' := [(7, .int (nI (i + 1))), (0, .ref (ad 0 0 0)), (1, .int x), (2, .int (nI f)), (3, .ref (ad 12 f 0)), (4, .int (nI (beF K N g f))), (5, .int (nI p0)), (6, .int (nI (cuF (rpV N g f (nI (beF K N g f))) i)))]) hx hb d_G_repair_102 hl (k := 7) rfl (nI_1 _) (by decide) rfl (fun ls hl => ?_)
              refine lv_goto (tgt := 63) hx hb d_G_repair_105 (by decide) ?_
              exact ih (i + 1) gy (by omega) (by omega) ⟨a1, a7, b0, b2, b3, b10, fun f1 s1 hk => a6 f1 s1 (hk.elim Or.inl fun z => z.elim (fun z => Or.inr (Or.inl (by omega))) fun z => Or.inr (Or.inr z)), fun s1 hs1 ht => a8 s1 ((Nat.lt_succ_iff_lt_or_eq.mp hs1).elim id fun z => absurd (by rw [z]; exact hz0) ht) ht⟩ _ _ _ hP hS hR ls (by rw [ecu]; exact (lv_sub hl [1, 2, 3, 4, 5, 6, 7, 0] rfl))
            · refine lv_aload_n hx hb d_G_repair_81 rfl (lv_at hl 3 rfl) ?_
              refine lv_iload hx hb d_G_repair_82 (lv_at hl 7 rfl) ?_
              refine lv_iload hx hb d_G_repair_84 (lv_at hl 4 rfl) ?_
              refine xvn_R (n := 2) (As := [.int (nI i), .int (nI (beF K N g f))]) (rest := []) hx hb hml hown hg hK0 hP hN (c_F_isSoundWith l D T A _ ad K N gy hz hG f i (w f) (by omega) (by omega) (by rw [a1 12 f 0 (by omega) (by omega) (by omega) (by omega) (by omega) (by omega) (by omega)]; exact hw0) hw30 (nI (beF K N g f))) w_259 w_3 e_256 w_258 s_13 (ga_12 hG (show f < 6 by omega)) rfl rfl (by decide +kernel) ⟨Nat.le_of_ble_eq_true rfl, Nat.le_of_ble_eq_true rfl⟩ rfl hl.1 rfl (Nat.le_of_ble_eq_true rfl) ⟨Nat.zero_le _, Nat.zero_le _⟩ rfl rfl d_G_repair_86 (fun r hr => ?_)
              subst hr
              refine x_fr (pc := 89) [.int (swG N gy f i (nI (beF K N g f)))] rfl rfl ?_
              refine lv_if_ne (tgt := 102) hx hb d_G_repair_89 (by decide) (fun c89 => ?_) (fun c89 => ?_)
              · have hz0 : rpV N g f (nI (beF K N g f)) i = 0 := by rw [rpV, if_neg (by rw [← etk]; exact c78), if_neg (by rw [← esw]; exact c89)]
                have ecu := cuF_z hz0
                refine lv_iinc (v := nI (i + 1)) (lv' := [(7, .int (nI (i + 1))), (0, .ref (ad 0 0 0)), (1, .int x), (2, .int (nI f)), (3, .ref (ad 12 f 0)), (4, .int (nI (beF K N g f))), (5, .int (nI p0)), (6, .int (nI (cuF (rpV N g f (nI (beF K N g f))) i)))]) hx hb d_G_repair_102 hl (k := 7) rfl (nI_1 _) (by decide) rfl (fun ls hl => ?_)
                refine lv_goto (tgt := 63) hx hb d_G_repair_105 (by decide) ?_
                exact ih (i + 1) gy (by omega) (by omega) ⟨a1, a7, b0, b2, b3, b10, fun f1 s1 hk => a6 f1 s1 (hk.elim Or.inl fun z => z.elim (fun z => Or.inr (Or.inl (by omega))) fun z => Or.inr (Or.inr z)), fun s1 hs1 ht => a8 s1 ((Nat.lt_succ_iff_lt_or_eq.mp hs1).elim id fun z => absurd (by rw [z]; exact hz0) ht) ht⟩ _ _ _ hP hS hR ls (by rw [ecu]; exact (lv_sub hl [1, 2, 3, 4, 5, 6, 7, 0] rfl))
              · have hz0 : ¬ rpV N g f (nI (beF K N g f)) i = 0 := by rw [rpV, if_neg (by rw [← etk]; exact c78), if_pos (by rw [← esw]; exact c89)]; decide
                have ecu := cuF_s hz0
                refine lv_aload_n hx hb d_G_repair_92 rfl (lv_at hl 0 rfl) ?_
                refine lv_aload_n hx hb d_G_repair_93 rfl (lv_at hl 3 rfl) ?_
                refine lv_iload hx hb d_G_repair_94 (lv_at hl 7 rfl) ?_
                refine xv_Q (n := 2) (As := [.ref (ad 12 f 0), .int (nI i)]) (rest := []) hx hb hml hown hg hK0 hP (c_G_giveFreshRecord l D T A _ ad K N gy hz hG f i (by omega) (by omega) (by rw [b0, ← hp0]; exact (hbo f p0 (by omega) (by omega)).1)) w_227 w_1 w_224 w_226 s_8 (ga_0 hG) rfl rfl (by decide +kernel) ⟨Nat.le_of_ble_eq_true rfl, Nat.le_of_ble_eq_true rfl⟩ rfl hl.1 rfl (Nat.le_of_ble_eq_true rfl) hS ⟨Nat.zero_le _, Nat.zero_le _⟩ rfl rfl d_G_repair_96 (fun r M1 H_171 L_172 hr hP hS => ?_)
                obtain ⟨rfl, hR1⟩ := hr
                obtain ⟨g_173, hg_173⟩ : ∃ z, z = gvS K gy f i := ⟨_, rfl⟩
                rw [← hg_173] at hR1
                have hR := hR.tr hR1
                have hG := hR.1
                refine x_fr (pc := 99) [] rfl rfl ?_
                refine lv_iinc (v := nI ((cuF (rpV N g f (nI (beF K N g f))) i) + 1)) (lv' := [(6, .int (nI ((cuF (rpV N g f (nI (beF K N g f))) i) + 1))), (0, .ref (ad 0 0 0)), (1, .int x), (2, .int (nI f)), (3, .ref (ad 12 f 0)), (4, .int (nI (beF K N g f))), (5, .int (nI p0)), (7, .int (nI i))]) hx hb d_G_repair_99 hl (k := 6) rfl (nI_1 _) (by decide) rfl (fun ls hl => ?_)
                refine lv_iinc (v := nI (i + 1)) (lv' := [(7, .int (nI (i + 1))), (6, .int (nI ((cuF (rpV N g f (nI (beF K N g f))) i) + 1))), (0, .ref (ad 0 0 0)), (1, .int x), (2, .int (nI f)), (3, .ref (ad 12 f 0)), (4, .int (nI (beF K N g f))), (5, .int (nI p0))]) hx hb d_G_repair_102 hl (k := 7) rfl (nI_1 _) (by decide) rfl (fun ls hl => ?_)
                refine lv_goto (tgt := 63) hx hb d_G_repair_105 (by decide) ?_
                exact ih (i + 1) g_173 (by omega) (by omega) (by rw [hg_173]; exact rpI_step hz0 r1) _ _ _ hP hS hR ls (by rw [ecu]; exact (lv_sub hl [2, 3, 4, 5, 6, 7, 1, 0] rfl))
      refine loop (N + 1) 0 g_169 (by omega) (by omega) ⟨?_, ?_, ?_, ?_, ?_, ?_, ?_, fun s1 hs1 => absurd hs1 (by omega)⟩ _ _ _ hP hS hR ls (lv_sub hl [6, 7, 5, 4, 3, 2, 1, 0] rfl)
      · intro k f1 s1 q1 q2 q3 q4 q5 q6 q7; rw [hg_169, cpS, upS_n (by omega), upS_n (by omega)]; exact hk2 k f1 s1 q1 q2 q3 q4 q5
      · intro j hj; rw [hg_169, cpS, upS_n (by omega), upS_n (by omega)]; exact edc j hj
      · rw [hg_169, cpS, upS_n (by omega), upS_s, hk2 17 f p0 (by omega) (by omega) (by omega) (by omega) (by omega), hp0]
      · rw [hg_169, cpS, upS_n (by omega), upS_s, hk2 17 f p0 (by omega) (by omega) (by omega) (by omega) (by omega), hp0]
      · rw [hg_169, cpS, upS_n (by omega), upS_s, hk2 17 f p0 (by omega) (by omega) (by omega) (by omega) (by omega), hp0]
      · rw [hg_169, cpS, upS_s, hk2 18 f p0 (by omega) (by omega) (by omega) (by omega) (by omega), hp0]
      · intro f1 s1 _; rw [hg_169, cpS]; refine ⟨?_, ?_⟩
        · rw [upS_n (by omega), upS_n (by omega), hk2 17 f1 s1 (by omega) (by omega) (by omega) (by omega) (by omega)]
        · rw [upS_n (by omega), upS_n (by omega), hk2 18 f1 s1 (by omega) (by omega) (by omega) (by omega) (by omega)]
    · have hbn : beF K N g f = 0 := nI_z (by omega) c28
      refine lv_bipush (v := (-3)) hx hb d_G_repair_31 (by decide) ?_
      exact hret _ _ _ _ _ _ d_G_repair_33 hP hS ⟨g_163, by rw [aRepair, if_pos c7, ef, if_pos hbn], hR, fun z => absurd (by rw [ef]; exact hbn) z.2, fun _ => hk1⟩
  · have c7 : ¬ 0 ≤ fuF g q x := c7
    refine lv_iconst (v := (-1)) hx hb d_G_repair_10 (by decide) ?_
    exact hret _ _ _ _ _ _ d_G_repair_11 hP hS ⟨g, by rw [aRepair, if_neg c7], hR, fun z => absurd z.1 c7, fun _ => kpS.rf⟩
end
section
/-! the reference: its memory, and what ties it to the class's -/
abbrev qT : Type := Nat → Nat → Int32
def cM (T : Nat → ClassId) (bd : Nat → Nat) (K N : Nat) (h : Nat → Int32) (k : Nat) : va_E := match k with
  | 0 => .inr (4, [.int (nI K), .int (nI N), .ref (bd 1), .ref (bd 2), .ref (bd 3), .ref (bd 4), .int (h 0), .ref (bd 5), .ref (bd 6), .ref (bd 7), .ref (bd 8), .ref (bd 9), .ref (bd 10), .int (h 1), .ref (bd 11), .ref (bd 12), .ref (bd 13)])
  | 1 => eI (T 1) 7 h
  | 2 => eI (T 1) 7 h
  | 3 => eI (T 0) 6 h
  | 4 => eI (T 0) 6 h
  | 5 => eI (T 0) 186 h
  | 6 => eI (T 0) 186 h
  | 7 => eI (T 0) 840 h
  | 8 => eI (T 1) 84 h
  | 9 => eI (T 0) 4 h
  | 10 => eI (T 0) 4 h
  | 11 => eI (T 0) 4 h
  | 12 => eI (T 0) 16 h
  | _ => eI (T 0) 4 h
def mG (T : Nat → ClassId) (bd : Nat → Nat) (K N : Nat) (q : qT) (M : xM) : Prop := (∀ k, k < 14 → M (bd k) = some (cM T bd K N (q k) k)) ∧ ∀ k k', k < 14 → k' < 14 → bd k = bd k' → k = k'
def mR (T : Nat → ClassId) (bd : Nat → Nat) (K N : Nat) (M : xM) (q : qT) (M1 : xM) : Prop := mG T bd K N q M1 ∧ ∀ a, (∀ k, k < 14 → bd k ≠ a) → M1 a = M a
def upQ (q : qT) (k : Nat) (h : Nat → Int32) : qT := fun k1 => if k1 = k then h else q k1
theorem upQ_s {q : qT} {k : Nat} {h : Nat → Int32} : upQ q k h k = h := by simp [upQ]
theorem upQ_n {q : qT} {k k1 : Nat} {h : Nat → Int32} (e : k1 ≠ k) : upQ q k h k1 = q k1 := by simp [upQ, e]
section MM
variable {T : Nat → ClassId} {bd : Nat → Nat} {K N : Nat} {q : qT} {M M0 M1 : xM}
theorem mG.rf (h : mG T bd K N q M) : mR T bd K N M q M := ⟨h, fun _ _ => rfl⟩
theorem mR.tr {q1 : qT} (h : mR T bd K N M0 q M) (h1 : mR T bd K N M q1 M1) : mR T bd K N M0 q1 M1 := ⟨h1.1, fun a z => (h1.2 a z).trans (h.2 a z)⟩
theorem mR.set {k : Nat} {h' : Nat → Int32} {e : va_E} (h : mR T bd K N M0 q M) (v : k < 14) (he : e = cM T bd K N h' k) : mR T bd K N M0 (upQ q k h') (xU M (bd k) e) := by
  subst he
  refine ⟨⟨fun k1 v1 => ?_, h.1.2⟩, fun a z => ?_⟩
  · by_cases hq : k1 = k
    · subst hq; rw [xU_s, upQ_s]
    · rw [xU_n (fun z => hq (h.1.2 k1 k v1 v z)), upQ_n hq]; exact h.1.1 k1 v1
  · rw [xU_n (fun y => z k v y.symm)]; exact h.2 a z
theorem ma_0 (h : mG T bd K N q M) : M (bd 0) = some (cM T bd K N (q 0) 0) := h.1 0 (by omega)
theorem ma_1 (h : mG T bd K N q M) : M (bd 1) = some (cM T bd K N (q 1) 1) := h.1 1 (by omega)
theorem ma_2 (h : mG T bd K N q M) : M (bd 2) = some (cM T bd K N (q 2) 2) := h.1 2 (by omega)
theorem ma_3 (h : mG T bd K N q M) : M (bd 3) = some (cM T bd K N (q 3) 3) := h.1 3 (by omega)
theorem ma_4 (h : mG T bd K N q M) : M (bd 4) = some (cM T bd K N (q 4) 4) := h.1 4 (by omega)
theorem ma_5 (h : mG T bd K N q M) : M (bd 5) = some (cM T bd K N (q 5) 5) := h.1 5 (by omega)
theorem ma_6 (h : mG T bd K N q M) : M (bd 6) = some (cM T bd K N (q 6) 6) := h.1 6 (by omega)
theorem ma_7 (h : mG T bd K N q M) : M (bd 7) = some (cM T bd K N (q 7) 7) := h.1 7 (by omega)
theorem ma_8 (h : mG T bd K N q M) : M (bd 8) = some (cM T bd K N (q 8) 8) := h.1 8 (by omega)
theorem ma_9 (h : mG T bd K N q M) : M (bd 9) = some (cM T bd K N (q 9) 9) := h.1 9 (by omega)
theorem ma_10 (h : mG T bd K N q M) : M (bd 10) = some (cM T bd K N (q 10) 10) := h.1 10 (by omega)
theorem ma_11 (h : mG T bd K N q M) : M (bd 11) = some (cM T bd K N (q 11) 11) := h.1 11 (by omega)
theorem ma_12 (h : mG T bd K N q M) : M (bd 12) = some (cM T bd K N (q 12) 12) := h.1 12 (by omega)
theorem ma_13 (h : mG T bd K N q M) : M (bd 13) = some (cM T bd K N (q 13) 13) := h.1 13 (by omega)
end MM
def rwS (N : Nat) (q : qT) (at0 : Nat) (h h2 : Nat → Int32) : Prop := q 8 at0 = h 0 ∧ q 7 (at0 * 10) = h 1 ∧ q 7 (at0 * 10 + 1) = h 2 ∧ q 7 (at0 * 10 + 2) = h 3 ∧ ∀ j, j < N → q 7 (at0 * 10 + 3 + j) = h2 j
def sM (K N : Nat) (g : gT) (q : qT) : Prop := q 0 0 = g 0 0 0 0 ∧ q 0 1 = g 0 0 0 1 ∧ (∀ s, s < N → q 1 s = g 1 0 0 s ∧ q 2 s = g 2 0 0 s) ∧ (∀ f, f < 6 → q 3 f = g 12 f 0 0 ∧ q 4 f = g 12 f 0 1) ∧ (∀ f j, f < 6 → j < 31 → q 5 (f * 31 + j) = g 15 f 0 j ∧ q 6 (f * 31 + j) = g 16 f 0 j) ∧ (∀ f s, f < 6 → s < N → rwS N q (f * 7 + s) (g 17 f s) (g 18 f s) ∧ rwS N q (42 + f * 7 + s) (g 19 f s) (g 20 f s)) ∧ ∀ i, i < K → q 9 i = g 4 0 0 i ∧ q 10 i = g 5 0 0 i
section SS
variable {K N : Nat} {g : gT} {q : qT}
theorem sM.n (h : sM K N g q) : q 0 0 = g 0 0 0 0 := h.1
theorem sM.hr (h : sM K N g q) : q 0 1 = g 0 0 0 1 := h.2.1
theorem sM.up (h : sM K N g q) {s : Nat} (hs : s < N) : q 1 s = g 1 0 0 s := (h.2.2.1 s hs).1
theorem sM.st (h : sM K N g q) {s : Nat} (hs : s < N) : q 2 s = g 2 0 0 s := (h.2.2.1 s hs).2
theorem sM.vk (h : sM K N g q) {f : Nat} (hf : f < 6) : q 3 f = g 12 f 0 0 := (h.2.2.2.1 f hf).1
theorem sM.wr (h : sM K N g q) {f : Nat} (hf : f < 6) : q 4 f = g 12 f 0 1 := (h.2.2.2.1 f hf).2
theorem sM.ro (h : sM K N g q) {f j : Nat} (hf : f < 6) (hj : j < 31) : q 5 (f * 31 + j) = g 15 f 0 j := (h.2.2.2.2.1 f j hf hj).1
theorem sM.se (h : sM K N g q) {f j : Nat} (hf : f < 6) (hj : j < 31) : q 6 (f * 31 + j) = g 16 f 0 j := (h.2.2.2.2.1 f j hf hj).2
theorem sM.rc (h : sM K N g q) {f s : Nat} (hf : f < 6) (hs : s < N) : rwS N q (f * 7 + s) (g 17 f s) (g 18 f s) := (h.2.2.2.2.2.1 f s hf hs).1
theorem sM.pi (h : sM K N g q) {f s : Nat} (hf : f < 6) (hs : s < N) : rwS N q (42 + f * 7 + s) (g 19 f s) (g 20 f s) := (h.2.2.2.2.2.1 f s hf hs).2
theorem sM.dr (h : sM K N g q) {i : Nat} (hi : i < K) : q 9 i = g 4 0 0 i := (h.2.2.2.2.2.2 i hi).1
theorem sM.wo (h : sM K N g q) {i : Nat} (hi : i < K) : q 10 i = g 5 0 0 i := (h.2.2.2.2.2.2 i hi).2
end SS
def stp (a b : Int32) (r : Nat) (acc : Int32) : Int32 := if (b >>> (nI r &&& 31)) &&& 1 = 0 then (if acc <<< ((1 : Int32) &&& 31) ≤ 255 then acc <<< ((1 : Int32) &&& 31) else (acc <<< ((1 : Int32) &&& 31)) ^^^ 285) else (if acc <<< ((1 : Int32) &&& 31) ≤ 255 then acc <<< ((1 : Int32) &&& 31) else (acc <<< ((1 : Int32) &&& 31)) ^^^ 285) ^^^ a
def prG (a b : Int32) : Nat → Int32 → Int32
  | 0, acc => acc
  | r + 1, acc => prG a b r (stp a b r acc)
def prF (a b : Int32) : Int32 := prG a b 8 0
def smS (x k : Int32) : Nat → Int32
  | 0 => 0
  | b + 1 => smS x k b ||| (prF (ushF x (nI (8 * b)) &&& 255) k <<< (nI (8 * b) &&& 31))
def smF (x k : Int32) : Int32 := smS x k 4
def pwF (x : Int32) : Nat → Int32
  | 0 => 1
  | n + 1 => prF (pwF x n) x
def shM (cw : Nat → Int32) (pt : Int32) : Nat → Int32
  | 0 => 0
  | i + 1 => shM cw pt i ^^^ smF (cw i) (pwF pt i)
set_option maxHeartbeats 4000000 in
set_option maxRecDepth 100000 in
theorem c_M_mix (l : Launch) (D : va_G) (T : Nat → ClassId) (A : Nat → Prop) (M : xM) (bd : Nat → Nat) (K N : Nat) (q : Nat → Nat → Int32) (hz : zB K N) (hM : mG T bd K N q M) (x y : Int32) : Met l y_M_mix (Cond.code y_M_mix b_M_mix 4 (some .int) :: gw) (rmH 0) (xPc D T A M [.ref (bd 0), .int x, .int y]) (xR (fun r => r = some (.int (mixF x y)))) 0 0 (fun _ => False) := by
  refine xMetRi (by decide) (Nat.le_of_ble_eq_true rfl) ?_
  intro p e s m below meth c Q ls hB hP hl hret
  obtain ⟨hx, hb, hml, hown, hg, hK0, hnm⟩ := hB
  have hown : s.vm.findClass "ShareGridModel" = some m.cls := hown
  have hK := hK0.1
  have hN := hK0.2.1
  obtain ⟨hz1, hz4, hzn, hz7⟩ := id hz
  have hl : lv_has ls 4 [(0, .ref (bd 0)), (1, .int x), (2, .int y)] := hl
  refine lv_iload_n hx hb d_M_mix_0 rfl (lv_at hl 1 rfl) ?_
  refine lv_iload_n hx hb d_M_mix_1 rfl (lv_at hl 2 rfl) ?_
  refine lv_ldc (v := 40503) hx hb hown (hg _ w_414) d_M_mix_2 ?_
  refine lv_imul hx hb d_M_mix_4 ?_
  refine lv_sipush (v := 12345) hx hb d_M_mix_5 (by decide) ?_
  refine lv_iadd hx hb d_M_mix_8 ?_
  refine lv_ixor hx hb d_M_mix_9 ?_
  refine lv_ldc (v := 1640531527) hx hb hown (hg _ w_415) d_M_mix_10 ?_
  refine lv_imul hx hb d_M_mix_12 ?_
  refine lv_istore_n (lv' := [(3, .int ((x ^^^ ((y * 40503) + 12345)) * 1640531527)), (0, .ref (bd 0)), (1, .int x), (2, .int y)]) hx hb d_M_mix_13 rfl hl (by decide) rfl (fun ls hl => ?_)
  refine lv_iload_n hx hb d_M_mix_14 rfl (lv_at hl 0 rfl) ?_
  refine lv_iload_n hx hb d_M_mix_15 rfl (lv_at hl 0 rfl) ?_
  refine lv_bipush (v := 15) hx hb d_M_mix_16 (by decide) ?_
  refine lv_iushr (v := ushF ((x ^^^ ((y * 40503) + 12345)) * 1640531527) 15) hx hb d_M_mix_18 rfl ?_
  refine lv_ixor hx hb d_M_mix_19 ?_
  exact hret _ _ _ d_M_mix_20 rfl
set_option maxHeartbeats 4000000 in
set_option maxRecDepth 100000 in
theorem c_M_key (l : Launch) (D : va_G) (T : Nat → ClassId) (A : Nat → Prop) (M : xM) (bd : Nat → Nat) (K N : Nat) (q : Nat → Nat → Int32) (hz : zB K N) (hM : mG T bd K N q M) (x y : Int32) : Met l y_M_key (Cond.code y_M_key b_M_key 3 (some .int) :: gw) (rmH 1) (xPc D T A M [.ref (bd 0), .int x, .int y]) (xR (fun r => r = some (.int (aKey x y)))) 0 0 (fun _ => False) := by
  refine xMetRi (by decide) (Nat.le_of_ble_eq_true rfl) ?_
  intro p e s m below meth c Q ls hB hP hl hret
  obtain ⟨hx, hb, hml, hown, hg, hK0, hnm⟩ := hB
  have hown : s.vm.findClass "ShareGridModel" = some m.cls := hown
  have hK := hK0.1
  have hN := hK0.2.1
  obtain ⟨hz1, hz4, hzn, hz7⟩ := id hz
  have hl : lv_has ls 3 [(0, .ref (bd 0)), (1, .int x), (2, .int y)] := hl
  refine lv_iload_n hx hb d_M_key_0 rfl (lv_at hl 2 rfl) ?_
  refine lv_iconst (v := 1) hx hb d_M_key_1 (by decide) ?_
  refine lv_icmp_ne (tgt := 12) hx hb d_M_key_2 (by decide) (fun c_2 => ?_) (fun c_2 => ?_)
  · refine lv_iload_n hx hb d_M_key_12 rfl (lv_at hl 2 rfl) ?_
    refine lv_iconst (v := 2) hx hb d_M_key_13 (by decide) ?_
    refine lv_icmp_ne (tgt := 24) hx hb d_M_key_14 (by decide) (fun c_14 => ?_) (fun c_14 => ?_)
    · refine lv_iload_n hx hb d_M_key_24 rfl (lv_at hl 2 rfl) ?_
      refine lv_iconst (v := 3) hx hb d_M_key_25 (by decide) ?_
      refine lv_icmp_ne (tgt := 43) hx hb d_M_key_26 (by decide) (fun c_26 => ?_) (fun c_26 => ?_)
      · refine lv_iconst (v := 0) hx hb d_M_key_43 (by decide) ?_
        exact hret _ _ _ d_M_key_44 (by simp [aKey, c_2, c_14, c_26])
      · refine lv_aload_n hx hb d_M_key_29 rfl (lv_at hl 0 rfl) ?_
        refine lv_aload_n hx hb d_M_key_30 rfl (lv_at hl 0 rfl) ?_
        refine lv_iload_n hx hb d_M_key_31 rfl (lv_at hl 1 rfl) ?_
        refine lv_iconst (v := 1) hx hb d_M_key_32 (by decide) ?_
        refine xv_R (n := 2) (As := [.int x, .int 1]) (rest := [.ref (bd 0)]) hx hb hml hown hg hK0 hP (c_M_mix l D T A _ bd K N q hz hM x 1) w_413 w_6 w_410 w_412 s_20 (ma_0 hM) rfl rfl (by decide +kernel) ⟨Nat.le_of_ble_eq_true rfl, Nat.le_of_ble_eq_true rfl⟩ rfl hl.1 rfl (Nat.le_of_ble_eq_true rfl) ⟨Nat.zero_le _, Nat.zero_le _⟩ rfl rfl d_M_key_33 (fun r hr => ?_)
        subst hr
        refine x_fr (pc := 36) [.int (mixF x 1), .ref (bd 0)] rfl rfl ?_
        refine lv_iconst (v := 2) hx hb d_M_key_36 (by decide) ?_
        refine xv_R (n := 2) (As := [.int (mixF x 1), .int 2]) (rest := []) hx hb hml hown hg hK0 hP (c_M_mix l D T A _ bd K N q hz hM (mixF x 1) 2) w_413 w_6 w_410 w_412 s_20 (ma_0 hM) rfl rfl (by decide +kernel) ⟨Nat.le_of_ble_eq_true rfl, Nat.le_of_ble_eq_true rfl⟩ rfl hl.1 rfl (Nat.le_of_ble_eq_true rfl) ⟨Nat.zero_le _, Nat.zero_le _⟩ rfl rfl d_M_key_37 (fun r hr => ?_)
        subst hr
        refine x_fr (pc := 40) [.int (mixF (mixF x 1) 2)] rfl rfl ?_
        refine lv_goto (tgt := 44) hx hb d_M_key_40 (by decide) ?_
        exact hret _ _ _ d_M_key_44 (by simp [aKey, c_2, c_14, c_26])
    · refine lv_aload_n hx hb d_M_key_17 rfl (lv_at hl 0 rfl) ?_
      refine lv_iload_n hx hb d_M_key_18 rfl (lv_at hl 1 rfl) ?_
      refine lv_iconst (v := 2) hx hb d_M_key_19 (by decide) ?_
      refine xv_R (n := 2) (As := [.int x, .int 2]) (rest := []) hx hb hml hown hg hK0 hP (c_M_mix l D T A _ bd K N q hz hM x 2) w_413 w_6 w_410 w_412 s_20 (ma_0 hM) rfl rfl (by decide +kernel) ⟨Nat.le_of_ble_eq_true rfl, Nat.le_of_ble_eq_true rfl⟩ rfl hl.1 rfl (Nat.le_of_ble_eq_true rfl) ⟨Nat.zero_le _, Nat.zero_le _⟩ rfl rfl d_M_key_20 (fun r hr => ?_)
      subst hr
      refine x_fr (pc := 23) [.int (mixF x 2)] rfl rfl ?_
      exact hret _ _ _ d_M_key_23 (by simp [aKey, c_2, c_14])
  · refine lv_aload_n hx hb d_M_key_5 rfl (lv_at hl 0 rfl) ?_
    refine lv_iload_n hx hb d_M_key_6 rfl (lv_at hl 1 rfl) ?_
    refine lv_iconst (v := 1) hx hb d_M_key_7 (by decide) ?_
    refine xv_R (n := 2) (As := [.int x, .int 1]) (rest := []) hx hb hml hown hg hK0 hP (c_M_mix l D T A _ bd K N q hz hM x 1) w_413 w_6 w_410 w_412 s_20 (ma_0 hM) rfl rfl (by decide +kernel) ⟨Nat.le_of_ble_eq_true rfl, Nat.le_of_ble_eq_true rfl⟩ rfl hl.1 rfl (Nat.le_of_ble_eq_true rfl) ⟨Nat.zero_le _, Nat.zero_le _⟩ rfl rfl d_M_key_8 (fun r hr => ?_)
    subst hr
    refine x_fr (pc := 11) [.int (mixF x 1)] rfl rfl ?_
    exact hret _ _ _ d_M_key_11 (by simp [aKey, c_2])
set_option maxHeartbeats 4000000 in
set_option maxRecDepth 100000 in
theorem c_M_product (l : Launch) (D : va_G) (T : Nat → ClassId) (A : Nat → Prop) (M : xM) (bd : Nat → Nat) (K N : Nat) (q : Nat → Nat → Int32) (hz : zB K N) (hM : mG T bd K N q M) (x y : Int32) : Met l y_M_product (Cond.code y_M_product b_M_product 5 (some .int) :: gw) (rmH 0) (xPc D T A M [.ref (bd 0), .int x, .int y]) (xR (fun r => r = some (.int (prF x y)))) 0 0 (fun _ => False) := by
  refine xMetRi (by decide) (Nat.le_of_ble_eq_true rfl) ?_
  intro p e s m below meth c Q ls hB hP hl hret
  obtain ⟨hx, hb, hml, hown, hg, hK0, hnm⟩ := hB
  have hown : s.vm.findClass "ShareGridModel" = some m.cls := hown
  have hK := hK0.1
  have hN := hK0.2.1
  obtain ⟨hz1, hz4, hzn, hz7⟩ := id hz
  have hl : lv_has ls 5 [(0, .ref (bd 0)), (1, .int x), (2, .int y)] := hl
  refine lv_iconst (v := 0) hx hb d_M_product_0 (by decide) ?_
  refine lv_istore_n (lv' := [(3, .int 0), (0, .ref (bd 0)), (1, .int x), (2, .int y)]) hx hb d_M_product_1 rfl hl (by decide) rfl (fun ls hl => ?_)
  refine lv_bipush (v := nI 7) hx hb d_M_product_2 (by decide) ?_
  refine lv_istore (lv' := [(4, .int (nI 7)), (3, .int 0), (0, .ref (bd 0)), (1, .int x), (2, .int y)]) hx hb d_M_product_4 hl (by decide) rfl (fun ls hl => ?_)
  have loop : ∀ (r : Nat) (x3 : Int32), r ≤ 8 → prF x y = prG x y r x3 → ∀ (ls : Array Slot), lv_has ls 5 [(0, .ref (bd 0)), (1, .int x), (2, .int y), (3, .int x3), (4, .int (dnI r))] → W p l e (rmH 0) s m [.ref (bd 0), .int x, .int y].toArray below meth c s.heap [] 0 0 Q (F0 m 6 ls []) := by
    intro r
    induction r with
    | zero =>
      intro x3 hr he ls hl
      have hl : lv_has ls 5 [(0, .ref (bd 0)), (1, .int x), (2, .int y), (3, .int x3), (4, .int (-1))] := hl
      refine lv_iload hx hb d_M_product_6 (lv_at hl 4 rfl) ?_
      refine lv_if_lt (tgt := 47) hx hb d_M_product_8 (by decide) (fun c1 => ?_) (fun c1 => ?_)
      · refine lv_iload_n hx hb d_M_product_47 rfl (lv_at hl 3 rfl) ?_
        exact hret _ _ _ d_M_product_48 (by rw [he]; rfl)
      · exact absurd (by decide) c1
    | succ r ih =>
      intro x3 hr he ls hl
      have hl : lv_has ls 5 [(0, .ref (bd 0)), (1, .int x), (2, .int y), (3, .int x3), (4, .int (nI r))] := hl
      refine lv_iload hx hb d_M_product_6 (lv_at hl 4 rfl) ?_
      refine lv_if_lt (tgt := 47) hx hb d_M_product_8 (by decide) (fun c1 => ?_) (fun c1 => ?_)
      · exact absurd c1 (nI_pos (by omega))
      · refine lv_iload_n hx hb d_M_product_11 rfl (lv_at hl 3 rfl) ?_
        refine lv_iconst (v := 1) hx hb d_M_product_12 (by decide) ?_
        refine lv_ishl hx hb d_M_product_13 ?_
        refine lv_istore_n (lv' := [(3, .int (x3 <<< (1 &&& 31))), (0, .ref (bd 0)), (1, .int x), (2, .int y), (4, .int (nI r))]) hx hb d_M_product_14 rfl hl (by decide) rfl (fun ls hl => ?_)
        refine lv_iload_n hx hb d_M_product_15 rfl (lv_at hl 0 rfl) ?_
        refine lv_sipush (v := 255) hx hb d_M_product_16 (by decide) ?_
        refine lv_icmp_le (tgt := 28) hx hb d_M_product_19 (by decide) (fun c2 => ?_) (fun c2 => ?_)
        · refine lv_iload_n hx hb d_M_product_28 rfl (lv_at hl 3 rfl) ?_
          refine lv_iload hx hb d_M_product_29 (lv_at hl 4 rfl) ?_
          refine lv_ishr hx hb d_M_product_31 ?_
          refine lv_iconst (v := 1) hx hb d_M_product_32 (by decide) ?_
          refine lv_iand hx hb d_M_product_33 ?_
          refine lv_if_eq (tgt := 41) hx hb d_M_product_34 (by decide) (fun c3 => ?_) (fun c3 => ?_)
          · refine lv_iinc (v := dnI r) (lv' := [(4, .int (dnI r)), (3, .int (x3 <<< (1 &&& 31))), (0, .ref (bd 0)), (1, .int x), (2, .int y)]) hx hb d_M_product_41 hl (k := 4) rfl (dnI_dec r) (by decide) rfl (fun ls hl => ?_)
            refine lv_goto (tgt := 6) hx hb d_M_product_44 (by decide) ?_
            exact ih _ (by omega) (by rw [he, prG, stp, if_pos c3, if_pos c2]) ls (lv_sub hl [2, 3, 4, 1, 0] rfl)
          · refine lv_iload_n hx hb d_M_product_37 rfl (lv_at hl 0 rfl) ?_
            refine lv_iload_n hx hb d_M_product_38 rfl (lv_at hl 2 rfl) ?_
            refine lv_ixor hx hb d_M_product_39 ?_
            refine lv_istore_n (lv' := [(3, .int ((x3 <<< (1 &&& 31)) ^^^ x)), (0, .ref (bd 0)), (1, .int x), (2, .int y), (4, .int (nI r))]) hx hb d_M_product_40 rfl hl (by decide) rfl (fun ls hl => ?_)
            refine lv_iinc (v := dnI r) (lv' := [(4, .int (dnI r)), (3, .int ((x3 <<< (1 &&& 31)) ^^^ x)), (0, .ref (bd 0)), (1, .int x), (2, .int y)]) hx hb d_M_product_41 hl (k := 4) rfl (dnI_dec r) (by decide) rfl (fun ls hl => ?_)
            refine lv_goto (tgt := 6) hx hb d_M_product_44 (by decide) ?_
            exact ih _ (by omega) (by rw [he, prG, stp, if_neg c3, if_pos c2]) ls (lv_sub hl [2, 3, 4, 1, 0] rfl)
        · refine lv_iload_n hx hb d_M_product_22 rfl (lv_at hl 0 rfl) ?_
          refine lv_sipush (v := 285) hx hb d_M_product_23 (by decide) ?_
          refine lv_ixor hx hb d_M_product_26 ?_
          refine lv_istore_n (lv' := [(3, .int ((x3 <<< (1 &&& 31)) ^^^ 285)), (0, .ref (bd 0)), (1, .int x), (2, .int y), (4, .int (nI r))]) hx hb d_M_product_27 rfl hl (by decide) rfl (fun ls hl => ?_)
          refine lv_iload_n hx hb d_M_product_28 rfl (lv_at hl 3 rfl) ?_
          refine lv_iload hx hb d_M_product_29 (lv_at hl 4 rfl) ?_
          refine lv_ishr hx hb d_M_product_31 ?_
          refine lv_iconst (v := 1) hx hb d_M_product_32 (by decide) ?_
          refine lv_iand hx hb d_M_product_33 ?_
          refine lv_if_eq (tgt := 41) hx hb d_M_product_34 (by decide) (fun c3 => ?_) (fun c3 => ?_)
          · refine lv_iinc (v := dnI r) (lv' := [(4, .int (dnI r)), (3, .int ((x3 <<< (1 &&& 31)) ^^^ 285)), (0, .ref (bd 0)), (1, .int x), (2, .int y)]) hx hb d_M_product_41 hl (k := 4) rfl (dnI_dec r) (by decide) rfl (fun ls hl => ?_)
            refine lv_goto (tgt := 6) hx hb d_M_product_44 (by decide) ?_
            exact ih _ (by omega) (by rw [he, prG, stp, if_pos c3, if_neg c2]) ls (lv_sub hl [2, 3, 4, 1, 0] rfl)
          · refine lv_iload_n hx hb d_M_product_37 rfl (lv_at hl 0 rfl) ?_
            refine lv_iload_n hx hb d_M_product_38 rfl (lv_at hl 2 rfl) ?_
            refine lv_ixor hx hb d_M_product_39 ?_
            refine lv_istore_n (lv' := [(3, .int (((x3 <<< (1 &&& 31)) ^^^ 285) ^^^ x)), (0, .ref (bd 0)), (1, .int x), (2, .int y), (4, .int (nI r))]) hx hb d_M_product_40 rfl hl (by decide) rfl (fun ls hl => ?_)
            refine lv_iinc (v := dnI r) (lv' := [(4, .int (dnI r)), (3, .int (((x3 <<< (1 &&& 31)) ^^^ 285) ^^^ x)), (0, .ref (bd 0)), (1, .int x), (2, .int y)]) hx hb d_M_product_41 hl (k := 4) rfl (dnI_dec r) (by decide) rfl (fun ls hl => ?_)
            refine lv_goto (tgt := 6) hx hb d_M_product_44 (by decide) ?_
            exact ih _ (by omega) (by rw [he, prG, stp, if_neg c3, if_neg c2]) ls (lv_sub hl [2, 3, 4, 1, 0] rfl)
  exact loop 8 _ (by omega) rfl ls (lv_sub hl [2, 3, 4, 1, 0] rfl)
set_option maxHeartbeats 4000000 in
set_option maxRecDepth 100000 in
theorem c_M_scaled (l : Launch) (D : va_G) (T : Nat → ClassId) (A : Nat → Prop) (M : xM) (bd : Nat → Nat) (K N : Nat) (q : Nat → Nat → Int32) (hz : zB K N) (hM : mG T bd K N q M) (x y : Int32) : Met l y_M_scaled (Cond.code y_M_scaled b_M_scaled 5 (some .int) :: gw) (rmH 1) (xPc D T A M [.ref (bd 0), .int x, .int y]) (xR (fun r => r = some (.int (smF x y)))) 0 0 (fun _ => False) := by
  refine xMetRi (by decide) (Nat.le_of_ble_eq_true rfl) ?_
  intro p e s m below meth c Q ls hB hP hl hret
  obtain ⟨hx, hb, hml, hown, hg, hK0, hnm⟩ := hB
  have hown : s.vm.findClass "ShareGridModel" = some m.cls := hown
  have hK := hK0.1
  have hN := hK0.2.1
  obtain ⟨hz1, hz4, hzn, hz7⟩ := id hz
  have hl : lv_has ls 5 [(0, .ref (bd 0)), (1, .int x), (2, .int y)] := hl
  refine lv_iconst (v := 0) hx hb d_M_scaled_0 (by decide) ?_
  refine lv_istore_n (lv' := [(3, .int 0), (0, .ref (bd 0)), (1, .int x), (2, .int y)]) hx hb d_M_scaled_1 rfl hl (by decide) rfl (fun ls hl => ?_)
  refine lv_iconst (v := nI 0) hx hb d_M_scaled_2 (by decide) ?_
  refine lv_istore (lv' := [(4, .int (nI 0)), (3, .int 0), (0, .ref (bd 0)), (1, .int x), (2, .int y)]) hx hb d_M_scaled_3 hl (by decide) rfl (fun ls hl => ?_)
  have loop : ∀ (n : Nat) (i : Nat), 5 ≤ i + n → i ≤ 4 → ∀ (ls : Array Slot), lv_has ls 5 [(0, .ref (bd 0)), (1, .int x), (2, .int y), (3, .int (smS x y i)), (4, .int (nI i))] → W p l e (rmH 1) s m [.ref (bd 0), .int x, .int y].toArray below meth c s.heap [] 0 0 Q (F0 m 5 ls []) := by
    intro n
    induction n with
    | zero =>
      intro i h2 h1
      exact absurd h2 (by omega)
    | succ n ih =>
      intro i h2 h1 ls hl
      refine lv_iload hx hb d_M_scaled_5 (lv_at hl 4 rfl) ?_
      refine lv_iconst (v := nI 4) hx hb d_M_scaled_7 (by decide) ?_
      refine x_nc_ge (tgt := 42) hx hb d_M_scaled_8 (by decide) (by omega) (by omega) (fun c1 => ?_) (fun c1 => ?_)
      · have hi4 : i = 4 := by omega
        subst hi4
        refine lv_iload_n hx hb d_M_scaled_42 rfl (lv_at hl 3 rfl) ?_
        exact hret _ _ _ d_M_scaled_43 rfl
      · refine lv_iload_n hx hb d_M_scaled_11 rfl (lv_at hl 3 rfl) ?_
        refine lv_aload_n hx hb d_M_scaled_12 rfl (lv_at hl 0 rfl) ?_
        refine lv_iload_n hx hb d_M_scaled_13 rfl (lv_at hl 1 rfl) ?_
        refine lv_bipush (v := nI 8) hx hb d_M_scaled_14 (by decide) ?_
        refine lv_iload hx hb d_M_scaled_16 (lv_at hl 4 rfl) ?_
        refine lv_imul hx hb d_M_scaled_18 ?_
        refine x_top (y := nI (8 * i)) (pk_mul _ _) ?_
        refine lv_iushr (v := ushF x (nI (8 * i))) hx hb d_M_scaled_19 rfl ?_
        refine lv_sipush (v := 255) hx hb d_M_scaled_20 (by decide) ?_
        refine lv_iand hx hb d_M_scaled_23 ?_
        refine lv_iload_n hx hb d_M_scaled_24 rfl (lv_at hl 2 rfl) ?_
        refine xv_R (n := 2) (As := [.int ((ushF x (nI (8 * i))) &&& 255), .int y]) (rest := [.int (smS x y i)]) hx hb hml hown hg hK0 hP (c_M_product l D T A _ bd K N q hz hM ((ushF x (nI (8 * i))) &&& 255) y) w_448 w_6 w_445 w_447 s_25 (ma_0 hM) rfl rfl (by decide +kernel) ⟨Nat.le_of_ble_eq_true rfl, Nat.le_of_ble_eq_true rfl⟩ rfl hl.1 rfl (Nat.le_of_ble_eq_true rfl) ⟨Nat.zero_le _, Nat.zero_le _⟩ rfl rfl d_M_scaled_25 (fun r hr => ?_)
        subst hr
        refine x_fr (pc := 28) [.int (prF ((ushF x (nI (8 * i))) &&& 255) y), .int (smS x y i)] rfl rfl ?_
        refine lv_bipush (v := nI 8) hx hb d_M_scaled_28 (by decide) ?_
        refine lv_iload hx hb d_M_scaled_30 (lv_at hl 4 rfl) ?_
        refine lv_imul hx hb d_M_scaled_32 ?_
        refine x_top (y := nI (8 * i)) (pk_mul _ _) ?_
        refine lv_ishl hx hb d_M_scaled_33 ?_
        refine lv_ior hx hb d_M_scaled_34 ?_
        refine lv_istore_n (lv' := [(3, .int ((smS x y i) ||| ((prF ((ushF x (nI (8 * i))) &&& 255) y) <<< ((nI (8 * i)) &&& 31)))), (0, .ref (bd 0)), (1, .int x), (2, .int y), (4, .int (nI i))]) hx hb d_M_scaled_35 rfl hl (by decide) rfl (fun ls hl => ?_)
        refine lv_iinc (v := nI (i + 1)) (lv' := [(4, .int (nI (i + 1))), (3, .int ((smS x y i) ||| ((prF ((ushF x (nI (8 * i))) &&& 255) y) <<< ((nI (8 * i)) &&& 31)))), (0, .ref (bd 0)), (1, .int x), (2, .int y)]) hx hb d_M_scaled_36 hl (k := 4) rfl (nI_1 _) (by decide) rfl (fun ls hl => ?_)
        refine lv_goto (tgt := 5) hx hb d_M_scaled_39 (by decide) ?_
        exact ih (i + 1) (by omega) (by omega) ls (lv_sub hl [2, 3, 4, 1, 0] rfl)
  exact loop 5 0 (by omega) (by omega) ls (lv_sub hl [2, 3, 4, 1, 0] rfl)
set_option maxHeartbeats 4000000 in
set_option maxRecDepth 100000 in
theorem c_M_power (l : Launch) (D : va_G) (T : Nat → ClassId) (A : Nat → Prop) (M : xM) (bd : Nat → Nat) (K N : Nat) (q : Nat → Nat → Int32) (hz : zB K N) (hM : mG T bd K N q M) (x : Int32) (k : Nat) (hk : k ≤ 254) : Met l y_M_power (Cond.code y_M_power b_M_power 5 (some .int) :: gw) (rmH 1) (xPc D T A M [.ref (bd 0), .int x, .int (nI k)]) (xR (fun r => r = some (.int (pwF x k)))) 0 0 (fun _ => False) := by
  refine xMetRi (by decide) (Nat.le_of_ble_eq_true rfl) ?_
  intro p e s m below meth c Q ls hB hP hl hret
  obtain ⟨hx, hb, hml, hown, hg, hK0, hnm⟩ := hB
  have hown : s.vm.findClass "ShareGridModel" = some m.cls := hown
  have hK := hK0.1
  have hN := hK0.2.1
  obtain ⟨hz1, hz4, hzn, hz7⟩ := id hz
  have hl : lv_has ls 5 [(0, .ref (bd 0)), (1, .int x), (2, .int (nI k))] := hl
  refine lv_iconst (v := 1) hx hb d_M_power_0 (by decide) ?_
  refine lv_istore_n (lv' := [(3, .int 1), (0, .ref (bd 0)), (1, .int x), (2, .int (nI k))]) hx hb d_M_power_1 rfl hl (by decide) rfl (fun ls hl => ?_)
  refine lv_iconst (v := nI 0) hx hb d_M_power_2 (by decide) ?_
  refine lv_istore (lv' := [(4, .int (nI 0)), (3, .int 1), (0, .ref (bd 0)), (1, .int x), (2, .int (nI k))]) hx hb d_M_power_3 hl (by decide) rfl (fun ls hl => ?_)
  have loop : ∀ (n : Nat) (i : Nat), k + 1 ≤ i + n → i ≤ k → ∀ (ls : Array Slot), lv_has ls 5 [(0, .ref (bd 0)), (1, .int x), (2, .int (nI k)), (3, .int (pwF x i)), (4, .int (nI i))] → W p l e (rmH 1) s m [.ref (bd 0), .int x, .int (nI k)].toArray below meth c s.heap [] 0 0 Q (F0 m 5 ls []) := by
    intro n
    induction n with
    | zero =>
      intro i h2 h1
      exact absurd h2 (by omega)
    | succ n ih =>
      intro i h2 h1 ls hl
      refine lv_iload hx hb d_M_power_5 (lv_at hl 4 rfl) ?_
      refine lv_iload_n hx hb d_M_power_7 rfl (lv_at hl 2 rfl) ?_
      refine x_nc_ge (tgt := 24) hx hb d_M_power_8 (by decide) (by omega) (by omega) (fun c1 => ?_) (fun c1 => ?_)
      · have hi4 : i = k := by omega
        subst hi4
        refine lv_iload_n hx hb d_M_power_24 rfl (lv_at hl 3 rfl) ?_
        exact hret _ _ _ d_M_power_25 rfl
      · refine lv_aload_n hx hb d_M_power_11 rfl (lv_at hl 0 rfl) ?_
        refine lv_iload_n hx hb d_M_power_12 rfl (lv_at hl 3 rfl) ?_
        refine lv_iload_n hx hb d_M_power_13 rfl (lv_at hl 1 rfl) ?_
        refine xv_R (n := 2) (As := [.int (pwF x i), .int x]) (rest := []) hx hb hml hown hg hK0 hP (c_M_product l D T A _ bd K N q hz hM (pwF x i) x) w_448 w_6 w_445 w_447 s_25 (ma_0 hM) rfl rfl (by decide +kernel) ⟨Nat.le_of_ble_eq_true rfl, Nat.le_of_ble_eq_true rfl⟩ rfl hl.1 rfl (Nat.le_of_ble_eq_true rfl) ⟨Nat.zero_le _, Nat.zero_le _⟩ rfl rfl d_M_power_14 (fun r hr => ?_)
        subst hr
        refine x_fr (pc := 17) [.int (prF (pwF x i) x)] rfl rfl ?_
        refine lv_istore_n (lv' := [(3, .int (prF (pwF x i) x)), (0, .ref (bd 0)), (1, .int x), (2, .int (nI k)), (4, .int (nI i))]) hx hb d_M_power_17 rfl hl (by decide) rfl (fun ls hl => ?_)
        refine lv_iinc (v := nI (i + 1)) (lv' := [(4, .int (nI (i + 1))), (3, .int (prF (pwF x i) x)), (0, .ref (bd 0)), (1, .int x), (2, .int (nI k))]) hx hb d_M_power_18 hl (k := 4) rfl (nI_1 _) (by decide) rfl (fun ls hl => ?_)
        refine lv_goto (tgt := 5) hx hb d_M_power_21 (by decide) ?_
        exact ih (i + 1) (by omega) (by omega) ls (lv_sub hl [2, 3, 4, 1, 0] rfl)
  exact loop (k + 1) 0 (by omega) (by omega) ls (lv_sub hl [2, 3, 4, 1, 0] rfl)
set_option maxHeartbeats 4000000 in
set_option maxRecDepth 100000 in
theorem c_M_shareAt (l : Launch) (D : va_G) (T : Nat → ClassId) (A : Nat → Prop) (M : xM) (bd : Nat → Nat) (K N : Nat) (q : Nat → Nat → Int32) (hz : zB K N) (hM : mG T bd K N q M) (x : Int32) : Met l y_M_shareAt (Cond.code y_M_shareAt b_M_shareAt 4 (some .int) :: gw) (rmH 2) (xPc D T A M [.ref (bd 0), .int x]) (xR (fun r => r = some (.int (shM (q 11) (x + 1) K)))) 0 0 (fun _ => False) := by
  refine xMetRi (by decide) (Nat.le_of_ble_eq_true rfl) ?_
  intro p e s m below meth c Q ls hB hP hl hret
  obtain ⟨hx, hb, hml, hown, hg, hK0, hnm⟩ := hB
  have hown : s.vm.findClass "ShareGridModel" = some m.cls := hown
  have hK := hK0.1
  have hN := hK0.2.1
  obtain ⟨hz1, hz4, hzn, hz7⟩ := id hz
  have hl : lv_has ls 4 [(0, .ref (bd 0)), (1, .int x)] := hl
  refine lv_iconst (v := 0) hx hb d_M_shareAt_0 (by decide) ?_
  refine lv_istore_n (lv' := [(2, .int 0), (0, .ref (bd 0)), (1, .int x)]) hx hb d_M_shareAt_1 rfl hl (by decide) rfl (fun ls hl => ?_)
  refine lv_iconst (v := nI 0) hx hb d_M_shareAt_2 (by decide) ?_
  refine lv_istore_n (lv' := [(3, .int (nI 0)), (2, .int 0), (0, .ref (bd 0)), (1, .int x)]) hx hb d_M_shareAt_3 rfl hl (by decide) rfl (fun ls hl => ?_)
  have loop : ∀ (n : Nat) (i : Nat), K + 1 ≤ i + n → i ≤ K → ∀ (ls : Array Slot), lv_has ls 4 [(0, .ref (bd 0)), (1, .int x), (2, .int (shM (q 11) (x + 1) i)), (3, .int (nI i))] → W p l e (rmH 2) s m [.ref (bd 0), .int x].toArray below meth c s.heap [] 0 0 Q (F0 m 4 ls []) := by
    intro n
    induction n with
    | zero =>
      intro i h2 h1
      exact absurd h2 (by omega)
    | succ n ih =>
      intro i h2 h1 ls hl
      refine lv_iload_n hx hb d_M_shareAt_4 rfl (lv_at hl 3 rfl) ?_
      refine lv_aload_n hx hb d_M_shareAt_5 rfl (lv_at hl 0 rfl) ?_
      refine x_get (v := .int (nI K)) (C := R_M) (T := F_M) (N := 17) hx hb hg i_M hown hK hP (ma_0 hM) rfl 0 (by decide) (hg _ w_354) (fun _ h9 => h9) rfl d_M_shareAt_6 ?_
      refine x_nc_ge (tgt := 39) hx hb d_M_shareAt_9 (by decide) (by omega) (by omega) (fun c1 => ?_) (fun c1 => ?_)
      · have hi4 : i = K := by omega
        subst hi4
        refine lv_iload_n hx hb d_M_shareAt_39 rfl (lv_at hl 2 rfl) ?_
        exact hret _ _ _ d_M_shareAt_40 rfl
      · refine lv_iload_n hx hb d_M_shareAt_12 rfl (lv_at hl 2 rfl) ?_
        refine lv_aload_n hx hb d_M_shareAt_13 rfl (lv_at hl 0 rfl) ?_
        refine lv_aload_n hx hb d_M_shareAt_14 rfl (lv_at hl 0 rfl) ?_
        refine x_get (v := .ref (bd 11)) (C := R_M) (T := F_M) (N := 17) hx hb hg i_M hown hK hP (ma_0 hM) rfl 14 (by decide) (hg _ w_368) (fun _ h9 => h9) rfl d_M_shareAt_15 ?_
        refine lv_iload_n hx hb d_M_shareAt_18 rfl (lv_at hl 3 rfl) ?_
        refine x_iald (v := q 11 i) hx hb hK hP 0 (ma_11 hM) rfl (vp_in_nI (by omega) (by omega)) (by rw [nI_clamp (by omega)]) d_M_shareAt_19 ?_
        refine lv_aload_n hx hb d_M_shareAt_20 rfl (lv_at hl 0 rfl) ?_
        refine lv_iload_n hx hb d_M_shareAt_21 rfl (lv_at hl 1 rfl) ?_
        refine lv_iconst (v := 1) hx hb d_M_shareAt_22 (by decide) ?_
        refine lv_iadd hx hb d_M_shareAt_23 ?_
        refine lv_iload_n hx hb d_M_shareAt_24 rfl (lv_at hl 3 rfl) ?_
        refine xv_R (n := 2) (As := [.int (x + 1), .int (nI i)]) (rest := [.int (q 11 i), .ref (bd 0), .int (shM (q 11) (x + 1) i)]) hx hb hml hown hg hK0 hP (c_M_power l D T A _ bd K N q hz hM (x + 1) i (by omega)) w_444 w_6 w_441 w_443 s_24 (ma_0 hM) rfl rfl (by decide +kernel) ⟨Nat.le_of_ble_eq_true rfl, Nat.le_of_ble_eq_true rfl⟩ rfl hl.1 rfl (Nat.le_of_ble_eq_true rfl) ⟨Nat.zero_le _, Nat.zero_le _⟩ rfl rfl d_M_shareAt_25 (fun r hr => ?_)
        subst hr
        refine x_fr (pc := 28) [.int (pwF (x + 1) i), .int (q 11 i), .ref (bd 0), .int (shM (q 11) (x + 1) i)] rfl rfl ?_
        refine xv_R (n := 2) (As := [.int (q 11 i), .int (pwF (x + 1) i)]) (rest := [.int (shM (q 11) (x + 1) i)]) hx hb hml hown hg hK0 hP (c_M_scaled l D T A _ bd K N q hz hM (q 11 i) (pwF (x + 1) i)) w_452 w_6 w_449 w_451 s_26 (ma_0 hM) rfl rfl (by decide +kernel) ⟨Nat.le_of_ble_eq_true rfl, Nat.le_of_ble_eq_true rfl⟩ rfl hl.1 rfl (Nat.le_of_ble_eq_true rfl) ⟨Nat.zero_le _, Nat.zero_le _⟩ rfl rfl d_M_shareAt_28 (fun r hr => ?_)
        subst hr
        refine x_fr (pc := 31) [.int (smF (q 11 i) (pwF (x + 1) i)), .int (shM (q 11) (x + 1) i)] rfl rfl ?_
        refine lv_ixor hx hb d_M_shareAt_31 ?_
        refine lv_istore_n (lv' := [(2, .int ((shM (q 11) (x + 1) i) ^^^ (smF (q 11 i) (pwF (x + 1) i)))), (0, .ref (bd 0)), (1, .int x), (3, .int (nI i))]) hx hb d_M_shareAt_32 rfl hl (by decide) rfl (fun ls hl => ?_)
        refine lv_iinc (v := nI (i + 1)) (lv' := [(3, .int (nI (i + 1))), (2, .int ((shM (q 11) (x + 1) i) ^^^ (smF (q 11 i) (pwF (x + 1) i)))), (0, .ref (bd 0)), (1, .int x)]) hx hb d_M_shareAt_33 hl (k := 3) rfl (nI_1 _) (by decide) rfl (fun ls hl => ?_)
        refine lv_goto (tgt := 4) hx hb d_M_shareAt_36 (by decide) ?_
        exact ih (i + 1) (by omega) (by omega) ls (lv_sub hl [2, 3, 1, 0] rfl)
  exact loop (K + 1) 0 (by omega) (by omega) ls (lv_sub hl [2, 3, 1, 0] rfl)
set_option maxHeartbeats 4000000 in
set_option maxRecDepth 100000 in
theorem c_M_rootOf (l : Launch) (D : va_G) (T : Nat → ClassId) (A : Nat → Prop) (M : xM) (bd : Nat → Nat) (K N : Nat) (q : Nat → Nat → Int32) (hz : zB K N) (hM : mG T bd K N q M) (k : Nat) (hk : k < 84) (x : Int32) : Met l y_M_rootOf (Cond.code y_M_rootOf b_M_rootOf 5 (some .int) :: gw) (rmH 1) (xPc D T A M [.ref (bd 0), .int (nI k), .int x]) (xR (fun r => r = some (.int (rtF (fun j => q 7 (k * 10 + 3 + j)) N x)))) 0 0 (fun _ => False) := by
  refine xMetRi (by decide) (Nat.le_of_ble_eq_true rfl) ?_
  intro p e s m below meth c Q ls hB hP hl hret
  obtain ⟨hx, hb, hml, hown, hg, hK0, hnm⟩ := hB
  have hown : s.vm.findClass "ShareGridModel" = some m.cls := hown
  have hK := hK0.1
  have hN := hK0.2.1
  obtain ⟨hz1, hz4, hzn, hz7⟩ := id hz
  have hl : lv_has ls 5 [(0, .ref (bd 0)), (1, .int (nI k)), (2, .int x)] := hl
  refine lv_bipush (v := 7) hx hb d_M_rootOf_0 (by decide) ?_
  refine lv_istore_n (lv' := [(3, .int 7), (0, .ref (bd 0)), (1, .int (nI k)), (2, .int x)]) hx hb d_M_rootOf_2 rfl hl (by decide) rfl (fun ls hl => ?_)
  refine lv_iconst (v := nI 0) hx hb d_M_rootOf_3 (by decide) ?_
  refine lv_istore (lv' := [(4, .int (nI 0)), (3, .int 7), (0, .ref (bd 0)), (1, .int (nI k)), (2, .int x)]) hx hb d_M_rootOf_4 hl (by decide) rfl (fun ls hl => ?_)
  have loop : ∀ (n : Nat) (i : Nat), N + 1 ≤ i + n → i ≤ N → ∀ (ls : Array Slot), lv_has ls 5 [(0, .ref (bd 0)), (1, .int (nI k)), (2, .int x), (3, .int (rtI (fun j => q 7 (k * 10 + 3 + j)) i)), (4, .int (nI i))] → W p l e (rmH 1) s m [.ref (bd 0), .int (nI k), .int x].toArray below meth c s.heap [] 0 0 Q (F0 m 6 ls []) := by
    intro n
    induction n with
    | zero =>
      intro i h2 h1
      exact absurd h2 (by omega)
    | succ n ih =>
      intro i h2 h1 ls hl
      refine lv_iload hx hb d_M_rootOf_6 (lv_at hl 4 rfl) ?_
      refine lv_aload_n hx hb d_M_rootOf_8 rfl (lv_at hl 0 rfl) ?_
      refine x_get (v := .int (nI N)) (C := R_M) (T := F_M) (N := 17) hx hb hg i_M hown hK hP (ma_0 hM) rfl 1 (by decide) (hg _ w_355) (fun _ h9 => h9) rfl d_M_rootOf_9 ?_
      refine x_nc_ge (tgt := 41) hx hb d_M_rootOf_12 (by decide) (by omega) (by omega) (fun c1 => ?_) (fun c1 => ?_)
      · have hi4 : i = N := by omega
        rw [hi4] at hl
        refine lv_aload_n hx hb d_M_rootOf_41 rfl (lv_at hl 0 rfl) ?_
        refine lv_iload_n hx hb d_M_rootOf_42 rfl (lv_at hl 3 rfl) ?_
        refine lv_iload_n hx hb d_M_rootOf_43 rfl (lv_at hl 2 rfl) ?_
        refine xv_R (n := 2) (As := [.int (rtI (fun j => q 7 (k * 10 + 3 + j)) N), .int x]) (rest := []) hx hb hml hown hg hK0 hP (c_M_mix l D T A _ bd K N q hz hM (rtI (fun j => q 7 (k * 10 + 3 + j)) N) x) w_413 w_6 w_410 w_412 s_20 (ma_0 hM) rfl rfl (by decide +kernel) ⟨Nat.le_of_ble_eq_true rfl, Nat.le_of_ble_eq_true rfl⟩ rfl hl.1 rfl (Nat.le_of_ble_eq_true rfl) ⟨Nat.zero_le _, Nat.zero_le _⟩ rfl rfl d_M_rootOf_44 (fun r hr => ?_)
        subst hr
        refine x_fr (pc := 47) [.int (mixF (rtI (fun j => q 7 (k * 10 + 3 + j)) N) x)] rfl rfl ?_
        exact hret _ _ _ d_M_rootOf_47 rfl
      · refine lv_aload_n hx hb d_M_rootOf_15 rfl (lv_at hl 0 rfl) ?_
        refine lv_iload_n hx hb d_M_rootOf_16 rfl (lv_at hl 3 rfl) ?_
        refine lv_aload_n hx hb d_M_rootOf_17 rfl (lv_at hl 0 rfl) ?_
        refine x_get (v := .ref (bd 7)) (C := R_M) (T := F_M) (N := 17) hx hb hg i_M hown hK hP (ma_0 hM) rfl 9 (by decide) (hg _ w_363) (fun _ h9 => h9) rfl d_M_rootOf_18 ?_
        refine lv_iload_n hx hb d_M_rootOf_21 rfl (lv_at hl 1 rfl) ?_
        refine lv_bipush (v := nI 10) hx hb d_M_rootOf_22 (by decide) ?_
        refine lv_imul hx hb d_M_rootOf_24 ?_
        refine x_top (y := nI (k * 10)) (pk_mul _ _) ?_
        refine lv_iconst (v := nI 3) hx hb d_M_rootOf_25 (by decide) ?_
        refine lv_iadd hx hb d_M_rootOf_26 ?_
        refine x_top (y := nI ((k * 10) + 3)) (nI_add _ _) ?_
        refine lv_iload hx hb d_M_rootOf_27 (lv_at hl 4 rfl) ?_
        refine lv_iadd hx hb d_M_rootOf_29 ?_
        refine x_top (y := nI (((k * 10) + 3) + i)) (nI_add _ _) ?_
        refine x_iald (v := q 7 (((k * 10) + 3) + i)) hx hb hK hP 0 (ma_7 hM) rfl (vp_in_nI (by omega) (by omega)) (by rw [nI_clamp (by omega)]) d_M_rootOf_30 ?_
        refine xv_R (n := 2) (As := [.int (rtI (fun j => q 7 (k * 10 + 3 + j)) i), .int (q 7 (((k * 10) + 3) + i))]) (rest := []) hx hb hml hown hg hK0 hP (c_M_mix l D T A _ bd K N q hz hM (rtI (fun j => q 7 (k * 10 + 3 + j)) i) (q 7 (((k * 10) + 3) + i))) w_413 w_6 w_410 w_412 s_20 (ma_0 hM) rfl rfl (by decide +kernel) ⟨Nat.le_of_ble_eq_true rfl, Nat.le_of_ble_eq_true rfl⟩ rfl hl.1 rfl (Nat.le_of_ble_eq_true rfl) ⟨Nat.zero_le _, Nat.zero_le _⟩ rfl rfl d_M_rootOf_31 (fun r hr => ?_)
        subst hr
        refine x_fr (pc := 34) [.int (mixF (rtI (fun j => q 7 (k * 10 + 3 + j)) i) (q 7 (((k * 10) + 3) + i)))] rfl rfl ?_
        refine lv_istore_n (lv' := [(3, .int (mixF (rtI (fun j => q 7 (k * 10 + 3 + j)) i) (q 7 (((k * 10) + 3) + i)))), (0, .ref (bd 0)), (1, .int (nI k)), (2, .int x), (4, .int (nI i))]) hx hb d_M_rootOf_34 rfl hl (by decide) rfl (fun ls hl => ?_)
        refine lv_iinc (v := nI (i + 1)) (lv' := [(4, .int (nI (i + 1))), (3, .int (mixF (rtI (fun j => q 7 (k * 10 + 3 + j)) i) (q 7 (((k * 10) + 3) + i)))), (0, .ref (bd 0)), (1, .int (nI k)), (2, .int x)]) hx hb d_M_rootOf_35 hl (k := 4) rfl (nI_1 _) (by decide) rfl (fun ls hl => ?_)
        refine lv_goto (tgt := 6) hx hb d_M_rootOf_38 (by decide) ?_
        exact ih (i + 1) (by omega) (by omega) ls (lv_sub hl [2, 3, 4, 1, 0] rfl)
  exact loop (N + 1) 0 (by omega) (by omega) ls (lv_sub hl [2, 3, 4, 1, 0] rfl)
set_option maxHeartbeats 4000000 in
set_option maxRecDepth 100000 in
theorem c_M_upCount (l : Launch) (D : va_G) (T : Nat → ClassId) (A : Nat → Prop) (M : xM) (bd : Nat → Nat) (K N : Nat) (q : Nat → Nat → Int32) (hz : zB K N) (hM : mG T bd K N q M) (g : gT) (hs : sM K N g q) (c0 : Nat) (w : Nat → Nat) (hI : iG N g c0 w) : Met l y_M_upCount (Cond.code y_M_upCount b_M_upCount 3 (some .int) :: gw) (rmH 0) (xPc D T A M [.ref (bd 0)]) (xR (fun r => r = some (.int (nI (cuF (g 1 0 0) N))))) 0 0 (fun _ => False) := by
  refine xMetRi (by decide) (Nat.le_of_ble_eq_true rfl) ?_
  intro p e s m below meth c Q ls hB hP hl hret
  obtain ⟨hx, hb, hml, hown, hg, hK0, hnm⟩ := hB
  have hown : s.vm.findClass "ShareGridModel" = some m.cls := hown
  have hK := hK0.1
  have hN := hK0.2.1
  obtain ⟨hz1, hz4, hzn, hz7⟩ := id hz
  obtain ⟨hq, hq6, hwr, hbo⟩ := id hI
  have hl : lv_has ls 3 [(0, .ref (bd 0))] := hl
  refine lv_iconst (v := nI 0) hx hb d_M_upCount_0 (by decide) ?_
  refine lv_istore_n (lv' := [(1, .int (nI 0)), (0, .ref (bd 0))]) hx hb d_M_upCount_1 rfl hl (by decide) rfl (fun ls hl => ?_)
  refine lv_iconst (v := nI 0) hx hb d_M_upCount_2 (by decide) ?_
  refine lv_istore_n (lv' := [(2, .int (nI 0)), (1, .int (nI 0)), (0, .ref (bd 0))]) hx hb d_M_upCount_3 rfl hl (by decide) rfl (fun ls hl => ?_)
  have loop : ∀ (n : Nat) (i : Nat), N + 1 ≤ i + n → i ≤ N → ∀ (ls : Array Slot), lv_has ls 3 [(0, .ref (bd 0)), (1, .int (nI (cuF (g 1 0 0) i))), (2, .int (nI i))] → W p l e (rmH 0) s m [.ref (bd 0)].toArray below meth c s.heap [] 0 0 Q (F0 m 4 ls []) := by
    intro n
    induction n with
    | zero =>
      intro i h2 h1
      exact absurd h2 (by omega)
    | succ n ih =>
      intro i h2 h1 ls hl
      refine lv_iload_n hx hb d_M_upCount_4 rfl (lv_at hl 2 rfl) ?_
      refine lv_aload_n hx hb d_M_upCount_5 rfl (lv_at hl 0 rfl) ?_
      refine x_get (v := .int (nI N)) (C := R_M) (T := F_M) (N := 17) hx hb hg i_M hown hK hP (ma_0 hM) rfl 1 (by decide) (hg _ w_355) (fun _ h9 => h9) rfl d_M_upCount_6 ?_
      refine x_nc_ge (tgt := 30) hx hb d_M_upCount_9 (by decide) (by omega) (by omega) (fun c1 => ?_) (fun c1 => ?_)
      · have hiN : i = N := by omega
        subst hiN
        refine lv_iload_n hx hb d_M_upCount_30 rfl (lv_at hl 1 rfl) ?_
        exact hret _ _ _ d_M_upCount_31 rfl
      · refine lv_aload_n hx hb d_M_upCount_12 rfl (lv_at hl 0 rfl) ?_
        refine x_get (v := .ref (bd 1)) (C := R_M) (T := F_M) (N := 17) hx hb hg i_M hown hK hP (ma_0 hM) rfl 2 (by decide) (hg _ w_356) (fun _ h9 => h9) rfl d_M_upCount_13 ?_
        refine lv_iload_n hx hb d_M_upCount_16 rfl (lv_at hl 2 rfl) ?_
        refine x_zald (v := q 1 i) hx hb hK hP 1 (ma_1 hM) rfl (vp_in_nI (by omega) (by omega)) (by rw [nI_clamp (by omega)]) d_M_upCount_17 ?_
        refine x_top (y := (g 1 0 0 i)) (hs.up (by omega)) ?_
        refine lv_if_eq (tgt := 24) hx hb d_M_upCount_18 (by decide) (fun c2 => ?_) (fun c2 => ?_)
        · have ecu : cuF (g 1 0 0) (i + 1) = cuF (g 1 0 0) i := cuF_z c2
          refine lv_iinc (v := nI (i + 1)) (lv' := [(2, .int (nI (i + 1))), (0, .ref (bd 0)), (1, .int (nI (cuF (g 1 0 0) i)))]) hx hb d_M_upCount_24 hl (k := 2) rfl (nI_1 _) (by decide) rfl (fun ls hl => ?_)
          refine lv_goto (tgt := 4) hx hb d_M_upCount_27 (by decide) ?_
          exact ih (i + 1) (by omega) (by omega) ls (by rw [ecu]; exact (lv_sub hl [1, 2, 0] rfl))
        · have ecu : cuF (g 1 0 0) (i + 1) = cuF (g 1 0 0) i + 1 := cuF_s c2
          refine lv_iinc (v := nI ((cuF (g 1 0 0) i) + 1)) (lv' := [(1, .int (nI ((cuF (g 1 0 0) i) + 1))), (0, .ref (bd 0)), (2, .int (nI i))]) hx hb d_M_upCount_21 hl (k := 1) rfl (nI_1 _) (by decide) rfl (fun ls hl => ?_)
          refine lv_iinc (v := nI (i + 1)) (lv' := [(2, .int (nI (i + 1))), (1, .int (nI ((cuF (g 1 0 0) i) + 1))), (0, .ref (bd 0))]) hx hb d_M_upCount_24 hl (k := 2) rfl (nI_1 _) (by decide) rfl (fun ls hl => ?_)
          refine lv_goto (tgt := 4) hx hb d_M_upCount_27 (by decide) ?_
          exact ih (i + 1) (by omega) (by omega) ls (by rw [ecu]; exact (lv_sub hl [2, 1, 0] rfl))
  exact loop (N + 1) 0 (by omega) (by omega) ls (lv_sub hl [2, 1, 0] rfl)
set_option maxHeartbeats 4000000 in
set_option maxRecDepth 100000 in
theorem c_M_fileOf (l : Launch) (D : va_G) (T : Nat → ClassId) (A : Nat → Prop) (M : xM) (bd : Nat → Nat) (K N : Nat) (q : Nat → Nat → Int32) (hz : zB K N) (hM : mG T bd K N q M) (g : gT) (hs : sM K N g q) (c0 : Nat) (w : Nat → Nat) (hI : iG N g c0 w) (x : Int32) : Met l y_M_fileOf (Cond.code y_M_fileOf b_M_fileOf 3 (some .int) :: gw) (rmH 0) (xPc D T A M [.ref (bd 0), .int x]) (xR (fun r => r = some (.int (fuF g c0 x)))) 0 0 (fun _ => False) := by
  refine xMetRi (by decide) (Nat.le_of_ble_eq_true rfl) ?_
  intro p e s m below meth c Q ls hB hP hl hret
  obtain ⟨hx, hb, hml, hown, hg, hK0, hnm⟩ := hB
  have hown : s.vm.findClass "ShareGridModel" = some m.cls := hown
  have hK := hK0.1
  have hN := hK0.2.1
  obtain ⟨hz1, hz4, hzn, hz7⟩ := id hz
  obtain ⟨hq, hq6, hwr, hbo⟩ := id hI
  have hl : lv_has ls 3 [(0, .ref (bd 0)), (1, .int x)] := hl
  refine lv_iconst (v := nI 0) hx hb d_M_fileOf_0 (by decide) ?_
  refine lv_istore_n (lv' := [(2, .int (nI 0)), (0, .ref (bd 0)), (1, .int x)]) hx hb d_M_fileOf_1 rfl hl (by decide) rfl (fun ls hl => ?_)
  have loop : ∀ (n : Nat) (i : Nat), c0 + 1 ≤ i + n → i ≤ c0 → fuF g c0 x = fdF (fun f => g 12 f 0 0) x i (c0 - i) → ∀ (ls : Array Slot), lv_has ls 3 [(0, .ref (bd 0)), (1, .int x), (2, .int (nI i))] → W p l e (rmH 0) s m [.ref (bd 0), .int x].toArray below meth c s.heap [] 0 0 Q (F0 m 2 ls []) := by
    intro n
    induction n with
    | zero =>
      intro i h2 h1 h3
      exact absurd h2 (by omega)
    | succ n ih =>
      intro i h2 h1 h3 ls hl
      refine lv_iload_n hx hb d_M_fileOf_2 rfl (lv_at hl 2 rfl) ?_
      refine lv_aload_n hx hb d_M_fileOf_3 rfl (lv_at hl 0 rfl) ?_
      refine x_get (v := .int (q 0 0)) (C := R_M) (T := F_M) (N := 17) hx hb hg i_M hown hK hP (ma_0 hM) rfl 6 (by decide) (hg _ w_360) (fun _ h9 => h9) rfl d_M_fileOf_4 ?_
      refine x_top (y := nI c0) (hs.n.trans hq) ?_
      refine x_nc_ge (tgt := 28) hx hb d_M_fileOf_7 (by decide) (by omega) (by omega) (fun c1 => ?_) (fun c1 => ?_)
      · have hiN : i = c0 := by omega
        subst hiN
        refine lv_iconst (v := (-1)) hx hb d_M_fileOf_28 (by decide) ?_
        exact hret _ _ _ d_M_fileOf_29 (by rw [h3, Nat.sub_self]; rfl)
      · have hqi : c0 - i = (c0 - (i + 1)) + 1 := by omega
        refine lv_aload_n hx hb d_M_fileOf_10 rfl (lv_at hl 0 rfl) ?_
        refine x_get (v := .ref (bd 3)) (C := R_M) (T := F_M) (N := 17) hx hb hg i_M hown hK hP (ma_0 hM) rfl 4 (by decide) (hg _ w_358) (fun _ h9 => h9) rfl d_M_fileOf_11 ?_
        refine lv_iload_n hx hb d_M_fileOf_14 rfl (lv_at hl 2 rfl) ?_
        refine x_iald (v := q 3 i) hx hb hK hP 0 (ma_3 hM) rfl (vp_in_nI (by omega) (by omega)) (by rw [nI_clamp (by omega)]) d_M_fileOf_15 ?_
        refine x_top (y := (g 12 i 0 0)) (hs.vk (by omega)) ?_
        refine lv_iload_n hx hb d_M_fileOf_16 rfl (lv_at hl 1 rfl) ?_
        refine lv_icmp_ne (tgt := 22) hx hb d_M_fileOf_17 (by decide) (fun c2 => ?_) (fun c2 => ?_)
        · refine lv_iinc (v := nI (i + 1)) (lv' := [(2, .int (nI (i + 1))), (0, .ref (bd 0)), (1, .int x)]) hx hb d_M_fileOf_22 hl (k := 2) rfl (nI_1 _) (by decide) rfl (fun ls hl => ?_)
          refine lv_goto (tgt := 2) hx hb d_M_fileOf_25 (by decide) ?_
          exact ih (i + 1) (by omega) (by omega) (by rw [h3, hqi, fdF, if_neg c2]) ls (lv_sub hl [1, 2, 0] rfl)
        · refine lv_iload_n hx hb d_M_fileOf_20 rfl (lv_at hl 2 rfl) ?_
          exact hret _ _ _ d_M_fileOf_21 (by rw [h3, hqi, fdF, if_pos c2])
  exact loop (c0 + 1) 0 (by omega) (by omega) rfl ls (lv_sub hl [1, 2, 0] rfl)
end
section
/-! bytes as a field of 256, in words of four: rows on bits (pasted from the laws), then additive functions -/
def bt (x : Int32) (i : Nat) : Bool := x.toBitVec.getLsbD i
theorem b_ext {x y : Int32} (h : ∀ i, i < 32 → bt x i = bt y i) : x = y := Int32.toBitVec_inj.mp (BitVec.eq_of_getLsbD_eq (fun i hi => h i hi))
theorem b_or (x y : Int32) (i : Nat) : bt (x ||| y) i = (bt x i || bt y i) := by unfold bt; rw [Int32.toBitVec_or, BitVec.getLsbD_or]
theorem b_and (x y : Int32) (i : Nat) : bt (x &&& y) i = (bt x i && bt y i) := by unfold bt; rw [Int32.toBitVec_and, BitVec.getLsbD_and]
theorem b_xor (x y : Int32) (i : Nat) : bt (x ^^^ y) i = (bt x i ^^ bt y i) := by unfold bt; rw [Int32.toBitVec_xor, BitVec.getLsbD_xor]
theorem b_big {x : Int32} {i : Nat} (h : 32 ≤ i) : bt x i = false := BitVec.getLsbD_of_ge _ _ h
theorem b_255 (i : Nat) : bt 255 i = decide (i < 8) := by
  rcases Nat.lt_or_ge i 32 with h | h
  · exact (by decide +kernel : ∀ i, i < 32 → bt 255 i = decide (i < 8)) i h
  · rw [b_big h, decide_eq_false (by omega)]
theorem b_65535 (i : Nat) : bt 65535 i = decide (i < 16) := by
  rcases Nat.lt_or_ge i 32 with h | h
  · exact (by decide +kernel : ∀ i, i < 32 → bt 65535 i = decide (i < 16)) i h
  · rw [b_big h, decide_eq_false (by omega)]
theorem b_m1 : ∀ i, i < 32 → bt (-1) i = true := by decide +kernel
theorem b_0 (i : Nat) : bt 0 i = false := BitVec.getLsbD_zero
theorem s_l : ∀ n, n < 32 → ((nI n &&& 31).toBitVec.smod 32).toNat = n := by decide +kernel
theorem s_u : ∀ n, n < 32 → (((nI n).toUInt32 &&& Int32.toUInt32 31).toBitVec % 32).toNat = n := by decide +kernel
theorem b_shl (n : Nat) (hn : n < 32) (x : Int32) {i : Nat} (hi : i < 32) : bt (x <<< (nI n &&& 31)) i = (decide (n ≤ i) && bt x (i - n)) := by
  unfold bt
  rw [Int32.toBitVec_shiftLeft]
  show (x.toBitVec <<< ((nI n &&& 31).toBitVec.smod 32).toNat).getLsbD i = _
  rw [s_l n hn, BitVec.getLsbD_shiftLeft]
  rcases Nat.lt_or_ge i n with h | h
  · simp [h, Nat.not_le.mpr h]
  · simp [hi, h, Nat.not_lt.mpr h]
theorem b_ushr (n : Nat) (hn : n < 32) (x : Int32) (i : Nat) : bt ((x.toUInt32 >>> ((nI n).toUInt32 &&& Int32.toUInt32 31)).toInt32) i = bt x (n + i) := by
  show (x.toUInt32 >>> ((nI n).toUInt32 &&& Int32.toUInt32 31)).toBitVec.getLsbD i = x.toUInt32.toBitVec.getLsbD (n + i)
  rw [UInt32.toBitVec_shiftRight]
  show (x.toUInt32.toBitVec >>> (((nI n).toUInt32 &&& Int32.toUInt32 31).toBitVec % 32).toNat).getLsbD i = _
  rw [s_u n hn, BitVec.getLsbD_ushiftRight]
theorem b_sshr (n : Nat) (hn : n < 32) (x : Int32) {i : Nat} (hi : i < 32) : bt (x >>> (nI n &&& 31)) i = if n + i < 32 then bt x (n + i) else bt x 31 := by
  unfold bt
  rw [Int32.toBitVec_shiftRight]
  show (x.toBitVec.sshiftRight ((nI n &&& 31).toBitVec.smod 32).toNat).getLsbD i = _
  rw [s_l n hn, BitVec.getLsbD_sshiftRight, BitVec.msb_eq_getLsbD_last]
  simp [hi]
theorem b_shl8 (x : Int32) {i : Nat} (hi : i < 32) : bt (x <<< ((8 : Int32) &&& 31)) i = (decide (8 ≤ i) && bt x (i - 8)) := b_shl 8 (by omega) x hi
theorem b_shl16 (x : Int32) {i : Nat} (hi : i < 32) : bt (x <<< ((16 : Int32) &&& 31)) i = (decide (16 ≤ i) && bt x (i - 16)) := b_shl 16 (by omega) x hi
theorem b_shl24 (x : Int32) {i : Nat} (hi : i < 32) : bt (x <<< ((24 : Int32) &&& 31)) i = (decide (24 ≤ i) && bt x (i - 24)) := b_shl 24 (by omega) x hi
theorem b_sshr8 (x : Int32) {i : Nat} (hi : i < 32) : bt (x >>> ((8 : Int32) &&& 31)) i = if 8 + i < 32 then bt x (8 + i) else bt x 31 := b_sshr 8 (by omega) x hi
/-! ===== nI under and, xor, >>>, one bit, 65535 ===== -/
theorem nx_and (a b : Nat) : nI a &&& nI b = nI (a &&& b) := by
  apply Int32.toBitVec_inj.1
  show BitVec.ofNat 32 a &&& BitVec.ofNat 32 b = BitVec.ofNat 32 (a &&& b)
  apply BitVec.eq_of_getLsbD_eq
  intro i hi
  simp [hi]
theorem nx_xor (a b : Nat) : nI a ^^^ nI b = nI (a ^^^ b) := by
  apply Int32.toBitVec_inj.1
  show BitVec.ofNat 32 a ^^^ BitVec.ofNat 32 b = BitVec.ofNat 32 (a ^^^ b)
  apply BitVec.eq_of_getLsbD_eq
  intro i hi
  simp [hi]
theorem xo_self (x : Int32) : x ^^^ x = 0 := by apply b_ext; intro i _; rw [b_xor, b_0]; simp
theorem xo_zero (x : Int32) : x ^^^ 0 = x := by apply b_ext; intro i _; rw [b_xor, b_0]; simp
theorem zero_xo (x : Int32) : 0 ^^^ x = x := by apply b_ext; intro i _; rw [b_xor, b_0]; simp
theorem xo_comm (x y : Int32) : x ^^^ y = y ^^^ x := by apply b_ext; intro i _; rw [b_xor, b_xor, Bool.xor_comm]
theorem xo_assoc (x y z : Int32) : x ^^^ y ^^^ z = x ^^^ (y ^^^ z) := by apply b_ext; intro i _; rw [b_xor, b_xor, b_xor, b_xor, Bool.xor_assoc]
theorem xo_4 (a b x y : Int32) : (a ^^^ b) ^^^ (x ^^^ y) = (a ^^^ x) ^^^ (b ^^^ y) := by
  apply b_ext; intro i _
  simp only [b_xor]
  cases bt a i <;> cases bt b i <;> cases bt x i <;> cases bt y i <;> rfl
/-- additive -/
def Ad (F : Int32 → Int32) : Prop := ∀ x y, F (x ^^^ y) = F x ^^^ F y
theorem Ad.zero {F : Int32 → Int32} (h : Ad F) : F 0 = 0 := by
  have e := h 0 0
  rw [xo_self] at e
  have e2 : F 0 ^^^ F 0 = (F 0 ^^^ F 0) ^^^ F 0 := by rw [← e, ← e]
  rw [xo_self, zero_xo] at e2
  exact e2.symm
theorem Ad.comp {F G : Int32 → Int32} (hF : Ad F) (hG : Ad G) : Ad (fun x => F (G x)) := fun x y => by show F (G (x ^^^ y)) = _; rw [hG, hF]
theorem Ad.xor {F G : Int32 → Int32} (hF : Ad F) (hG : Ad G) : Ad (fun x => F x ^^^ G x) := fun x y => by show F (x ^^^ y) ^^^ G (x ^^^ y) = _; rw [hF, hG, xo_4]
theorem Ad.id : Ad (fun x => x) := fun _ _ => rfl
theorem Ad.nil : Ad (fun _ => 0) := fun _ _ => (xo_self 0).symm
theorem Ad.and (m : Int32) : Ad (fun x => x &&& m) := fun x y => by
  apply b_ext; intro i _
  simp only [b_xor, b_and]
  cases bt x i <;> cases bt y i <;> cases bt m i <;> rfl
theorem Ad.shl {n : Nat} (hn : n < 32) : Ad (fun x => x <<< (nI n &&& 31)) := fun x y => by
  apply b_ext; intro i hi
  show bt ((x ^^^ y) <<< (nI n &&& 31)) i = bt ((x <<< (nI n &&& 31)) ^^^ (y <<< (nI n &&& 31))) i
  rw [b_xor, b_shl n hn _ hi, b_shl n hn _ hi, b_shl n hn _ hi, b_xor]
  cases decide (n ≤ i) <;> simp
theorem Ad.ush {n : Nat} (hn : n < 32) : Ad (fun x => ushF x (nI n)) := fun x y => by
  apply b_ext; intro i hi
  show bt (ushF (x ^^^ y) (nI n)) i = bt (ushF x (nI n) ^^^ ushF y (nI n)) i
  rw [b_xor]
  unfold ushF
  rw [b_ushr n hn, b_ushr n hn, b_ushr n hn, b_xor]
theorem two_xor {k m : Nat} (h : m < 2 ^ k) : 2 ^ k + m = 2 ^ k ^^^ m := by
  apply Nat.eq_of_testBit_eq
  intro j
  have e := Nat.testBit_two_pow_mul_add 1 h j
  rw [Nat.mul_one] at e
  rw [e, Nat.testBit_xor]
  by_cases hj : j < k
  · rw [if_pos hj, Nat.testBit_two_pow_of_ne (by omega)]; simp
  · rw [if_neg hj, Nat.testBit_lt_two_pow (Nat.lt_of_lt_of_le h (Nat.pow_le_pow_right (by omega) (by omega)))]
    by_cases hjk : j = k
    · subst hjk; rw [Nat.sub_self, Nat.testBit_two_pow_self]; rfl
    · rw [Nat.testBit_two_pow_of_ne (fun q => hjk q.symm)]
      have : j - k = (j - k - 1) + 1 := by omega
      rw [this, Nat.testBit_succ]; simp
theorem addExtN {F G : Int32 → Int32} (hF : Ad F) (hG : Ad G) : ∀ k, (∀ i, i < k → F (nI (2 ^ i)) = G (nI (2 ^ i))) → ∀ n, n < 2 ^ k → F (nI n) = G (nI n) := by
  intro k
  induction k with
  | zero => intro _ n hn; rw [show n = 0 by omega, nI_0, hF.zero, hG.zero]
  | succ k ih =>
    intro h n hn
    by_cases q : n < 2 ^ k
    · exact ih (fun i hi => h i (by omega)) n q
    · have hp : 2 ^ (k + 1) = 2 ^ k + 2 ^ k := by rw [Nat.pow_succ]; omega
      obtain ⟨r, rfl⟩ : ∃ r, n = 2 ^ k + r := ⟨n - 2 ^ k, by omega⟩
      have hr : r < 2 ^ k := by omega
      rw [two_xor hr, ← nx_xor, hF, hG, h k (by omega), ih (fun i hi => h i (by omega)) r hr]
theorem i32_of (x : Int32) : ∃ n, n < 2 ^ 32 ∧ x = nI n := ⟨x.toBitVec.toNat, x.toBitVec.isLt, by apply Int32.toBitVec_inj.mp; show x.toBitVec = BitVec.ofNat 32 x.toBitVec.toNat; simp⟩
theorem addExt {F G : Int32 → Int32} (hF : Ad F) (hG : Ad G) (h : ∀ i, i < 32 → F (nI (2 ^ i)) = G (nI (2 ^ i))) (x : Int32) : F x = G x := by
  obtain ⟨n, hn, rfl⟩ := i32_of x
  exact addExtN hF hG 32 h n hn
def t16 (c0 c1 c2 c3 : Bool) : Int32 := nI (c0.toNat + 256 * c1.toNat + 65536 * c2.toNat + 16777216 * c3.toNat)
theorem t16_bit : ∀ (c0 c1 c2 c3 : Bool) (i : Nat), i < 32 → bt (t16 c0 c1 c2 c3) i = if i = 0 then c0 else if i = 8 then c1 else if i = 16 then c2 else if i = 24 then c3 else false := by decide +kernel
theorem m_bit : ∀ i, i < 32 → bt 16843009 i = (decide (i = 0) || decide (i = 8) || decide (i = 16) || decide (i = 24)) := by decide +kernel
theorem mk16 (x : Int32) : x &&& 16843009 = t16 (bt x 0) (bt x 8) (bt x 16) (bt x 24) := by
  apply b_ext; intro i hi
  rw [b_and, t16_bit _ _ _ _ i hi, m_bit i hi]
  by_cases h0 : i = 0
  · subst h0; simp
  · by_cases h1 : i = 8
    · subst h1; simp
    · by_cases h2 : i = 16
      · subst h2; simp
      · by_cases h3 : i = 24
        · subst h3; simp
        · simp [h0, h1, h2, h3]
theorem t16_ad : ∀ a0 a1 a2 a3 b0 b1 b2 b3 : Bool, (t16 a0 a1 a2 a3 ^^^ t16 b0 b1 b2 b3) * 29 = t16 a0 a1 a2 a3 * 29 ^^^ t16 b0 b1 b2 b3 * 29 := by decide +kernel
theorem Ad.m29 : Ad (fun x => (x &&& 16843009) * 29) := fun x y => by
  show ((x ^^^ y) &&& 16843009) * 29 = (x &&& 16843009) * 29 ^^^ (y &&& 16843009) * 29
  rw [show (x ^^^ y) &&& 16843009 = (x &&& 16843009) ^^^ (y &&& 16843009) from Ad.and 16843009 x y, mk16 x, mk16 y]
  exact t16_ad _ _ _ _ _ _ _ _
theorem txF_ad : Ad txF := by
  have h1 : Ad (fun w => (w &&& 2139062143) <<< (nI 1 &&& 31)) := (Ad.shl (n := 1) (by omega)).comp (Ad.and 2139062143)
  have h2 : Ad (fun w => (ushF w (nI 7) &&& 16843009) * 29) := Ad.m29.comp (Ad.ush (n := 7) (by omega))
  exact h1.xor h2
theorem scP_ad (n : Nat) : Ad (fun w => scP w n) := by
  induction n with
  | zero => exact Ad.id
  | succ n ih => exact txF_ad.comp ih
theorem scS_ad (k : Int32) (n : Nat) : Ad (fun w => scS w k n) := by
  induction n with
  | zero => exact Ad.nil
  | succ n ih =>
    by_cases h : bitF k n = 0
    · intro x y
      show scS (x ^^^ y) k (n + 1) = scS x k (n + 1) ^^^ scS y k (n + 1)
      rw [scS, scS, scS, if_pos h, if_pos h, if_pos h]; exact ih x y
    · intro x y
      show scS (x ^^^ y) k (n + 1) = scS x k (n + 1) ^^^ scS y k (n + 1)
      rw [scS, scS, scS, if_neg h, if_neg h, if_neg h]; exact (ih.xor (scP_ad n)) x y
theorem scF_ad (k : Int32) : Ad (fun w => scF w k) := scS_ad k 8
theorem bit_01 (k : Int32) {n : Nat} (hn : n < 32) : bitF k n = if bt k n then 1 else 0 := by
  apply b_ext; intro i hi
  unfold bitF ushF
  rw [b_and, b_ushr n hn]
  have e1 : bt 1 i = decide (i = 0) := (by decide +kernel : ∀ i, i < 32 → bt 1 i = decide (i = 0)) i hi
  rw [e1]
  by_cases h0 : i = 0
  · subst h0; rw [Nat.add_zero]; cases bt k n <;> rfl
  · cases bt k n
    · simp [h0, b_0]
    · simp [h0, e1]
theorem scS_ak (w : Int32) (n : Nat) (hn : n ≤ 32) : Ad (fun k => scS w k n) := by
  induction n with
  | zero => exact Ad.nil
  | succ n ih =>
    intro x y
    show scS w (x ^^^ y) (n + 1) = scS w x (n + 1) ^^^ scS w y (n + 1)
    have e := ih (by omega) x y
    have e : scS w (x ^^^ y) n = scS w x n ^^^ scS w y n := e
    rw [scS, scS, scS, bit_01 _ (by omega), bit_01 _ (by omega), bit_01 _ (by omega), b_xor, e]
    cases hx : bt x n <;> cases hy : bt y n
    · simp
    · simp [xo_assoc]
    · simp only [Bool.xor_false]
      simp
      rw [xo_assoc, xo_comm (scS w y n), ← xo_assoc]
    · simp
      rw [xo_4, xo_self, xo_zero]
theorem scF_ak (w : Int32) : Ad (fun k => scF w k) := scS_ak w 8 (by omega)
theorem scF_asc : ∀ i, i < 8 → ∀ j, j < 8 → ∀ n, n < 32 → scF (scF (nI (2 ^ n)) (nI (2 ^ i))) (nI (2 ^ j)) = scF (nI (2 ^ n)) (scF (nI (2 ^ i)) (nI (2 ^ j))) := by decide +kernel
/-- times a byte, and then times another -/
theorem scF_assoc (w : Int32) {a b : Nat} (ha : a < 256) (hb : b < 256) : scF (scF w (nI a)) (nI b) = scF w (scF (nI a) (nI b)) := by
  refine addExtN (F := fun x => scF (scF w x) (nI b)) (G := fun x => scF w (scF x (nI b))) ((scF_ad (nI b)).comp (scF_ak w)) ((scF_ak w).comp (scF_ad (nI b))) 8 (fun i hi => ?_) a ha
  refine addExtN (F := fun x => scF (scF w (nI (2 ^ i))) x) (G := fun x => scF w (scF (nI (2 ^ i)) x)) (scF_ak _) ((scF_ak w).comp (scF_ak _)) 8 (fun j hj => ?_) b hb
  exact addExt (F := fun x => scF (scF x (nI (2 ^ i))) (nI (2 ^ j))) (G := fun x => scF x (scF (nI (2 ^ i)) (nI (2 ^ j)))) ((scF_ad _).comp (scF_ad _)) (scF_ad _) (fun n hn => scF_asc i hi j hj n hn) w
theorem scF_one (w : Int32) : scF w 1 = w := addExt (F := fun x => scF x 1) (G := fun x => x) (scF_ad 1) Ad.id (by decide +kernel) w
theorem scF_zero (w : Int32) : scF w 0 = 0 := (scF_ak w).zero
/-- bytes -/
def isB (x : Int32) : Prop := ∃ n, n < 256 ∧ x = nI n
theorem isB.xor {x y : Int32} (hx : isB x) (hy : isB y) : isB (x ^^^ y) := by
  obtain ⟨a, ha, rfl⟩ := hx
  obtain ⟨b, hb, rfl⟩ := hy
  exact ⟨a ^^^ b, Nat.xor_lt_two_pow (n := 8) ha hb, nx_xor a b⟩
theorem tx_b : ∀ n, n < 256 → txF (nI n) &&& 255 = txF (nI n) := by decide +kernel
theorem isB.and (x : Int32) : isB (x &&& 255) := by
  obtain ⟨n, hn, rfl⟩ := i32_of x
  refine ⟨n % 256, Nat.mod_lt _ (by omega), ?_⟩
  show nI n &&& nI 255 = _
  rw [nx_and, show (255 : Nat) = 2 ^ 8 - 1 from rfl, Nat.and_two_pow_sub_one_eq_mod]
theorem isB.tx {x : Int32} (hx : isB x) : isB (txF x) := by
  obtain ⟨a, ha, rfl⟩ := hx
  rw [← tx_b a ha]
  exact isB.and _
theorem isB.sp {x : Int32} (hx : isB x) (n : Nat) : isB (scP x n) := by
  induction n with
  | zero => exact hx
  | succ n ih => exact ih.tx
theorem isB.ss {x : Int32} (hx : isB x) (k : Int32) (n : Nat) : isB (scS x k n) := by
  induction n with
  | zero => exact ⟨0, by omega, rfl⟩
  | succ n ih =>
    rw [scS]
    split
    · exact ih
    · exact ih.xor (hx.sp n)
theorem isB.sc {x : Int32} (hx : isB x) (k : Int32) : isB (scF x k) := hx.ss k 8
theorem scP_tx (x : Int32) (r : Nat) : scP (txF x) r = scP x (r + 1) := by
  induction r with
  | zero => rfl
  | succ r ih => rw [scP, ih]; rfl
theorem xt_b : ∀ n, n < 256 → (if nI n <<< ((1 : Int32) &&& 31) ≤ 255 then nI n <<< ((1 : Int32) &&& 31) else (nI n <<< ((1 : Int32) &&& 31)) ^^^ 285) = txF (nI n) := by decide +kernel
theorem bit_b : ∀ n, n < 256 → ∀ r, r < 8 → ((nI n >>> (nI r &&& 31)) &&& 1) = bitF (nI n) r := by decide +kernel
/-- the reference's product of two bytes is the class's -/
theorem prG_eq {a b : Int32} (ha : isB a) (hb : isB b) : ∀ (r : Nat) (acc : Int32), r ≤ 8 → isB acc → prG a b r acc = scP acc r ^^^ scS a b r := by
  obtain ⟨nb, hnb, rfl⟩ := hb
  intro r
  induction r with
  | zero => intro acc _ _; rw [prG, scP, scS, xo_zero]
  | succ r ih =>
    intro acc hr hacc
    obtain ⟨na, hna, rfl⟩ := hacc
    have hst : stp a (nI nb) r (nI na) = if bitF (nI nb) r = 0 then txF (nI na) else txF (nI na) ^^^ a := by rw [stp, xt_b na hna, bit_b nb hnb r (by omega)]
    have hB : isB (txF (nI na)) := isB.tx ⟨na, hna, rfl⟩
    rw [prG, hst]
    by_cases h : bitF (nI nb) r = 0
    · rw [if_pos h, ih _ (by omega) hB, scP_tx, scS, if_pos h]
    · rw [if_neg h, ih _ (by omega) (hB.xor ha), show scP (txF (nI na) ^^^ a) r = scP (txF (nI na)) r ^^^ scP a r from scP_ad r _ _, scP_tx, scS, if_neg h, xo_assoc, xo_comm (scP a r)]
theorem prF_eq {a b : Int32} (ha : isB a) (hb : isB b) : prF a b = scF a b := by
  rw [prF, prG_eq ha hb 8 0 (Nat.le_refl 8) ⟨0, by omega, rfl⟩, show scP 0 8 = 0 from (scP_ad 8).zero, zero_xo]; rfl
theorem pwF_b {x : Int32} (hx : isB x) : ∀ n, isB (pwF x n) := by
  intro n
  induction n with
  | zero => exact ⟨1, by omega, rfl⟩
  | succ n ih => rw [pwF, prF_eq ih hx]; exact ih.sc x
theorem pwF_s {x : Int32} (hx : isB x) (n : Nat) : pwF x (n + 1) = scF (pwF x n) x := by rw [pwF, prF_eq (pwF_b hx n) hx]
/-- a lane -/
def laF (k : Int32) (b : Nat) (x : Int32) : Int32 := scF (ushF x (nI (8 * b)) &&& 255) k <<< (nI (8 * b) &&& 31)
theorem laF_ad (k : Int32) {b : Nat} (hb : b < 4) : Ad (laF k b) := (Ad.shl (n := 8 * b) (by omega)).comp ((scF_ad k).comp ((Ad.and 255).comp (Ad.ush (n := 8 * b) (by omega))))
theorem or_xo {x y : Int32} {n : Nat} (hx : ∀ i, n ≤ i → i < 32 → bt x i = false) (hy : ∀ i, i < n → bt y i = false) : x ||| y = x ^^^ y := by
  apply b_ext; intro i hi
  rw [b_or, b_xor]
  by_cases h : i < n
  · rw [hy i h]; simp
  · rw [hx i (by omega) hi]; simp
theorem la_lo (k x : Int32) {b : Nat} (hb : b < 4) : ∀ i, i < 8 * b → bt (laF k b x) i = false := by
  intro i hi
  rw [laF, b_shl (8 * b) (by omega) _ (by omega), decide_eq_false (by omega)]; rfl
theorem isB.hi {x : Int32} (hx : isB x) {i : Nat} (hi : 8 ≤ i) : bt x i = false := by
  obtain ⟨n, hn, rfl⟩ := hx
  rcases Nat.lt_or_ge i 32 with h | h
  · have : nI n &&& nI 255 = nI n := by rw [nx_and, show (255 : Nat) = 2 ^ 8 - 1 from rfl, Nat.and_two_pow_sub_one_eq_mod, Nat.mod_eq_of_lt hn]
    rw [← this, b_and, show nI 255 = 255 from rfl, b_255, decide_eq_false (by omega)]; simp
  · exact b_big h
theorem la_hi (k x : Int32) {b : Nat} (hb : b < 4) : ∀ i, 8 * (b + 1) ≤ i → i < 32 → bt (laF k b x) i = false := by
  intro i h1 h2
  rw [laF, b_shl (8 * b) (by omega) _ h2, (isB.sc (isB.and _) k).hi (by omega)]; simp
theorem smS_eq {k : Int32} (hk : isB k) (x : Int32) : ∀ b, b ≤ 4 → (smS x k b = if b = 0 then 0 else if b = 1 then laF k 0 x else if b = 2 then laF k 0 x ^^^ laF k 1 x else if b = 3 then laF k 0 x ^^^ laF k 1 x ^^^ laF k 2 x else laF k 0 x ^^^ laF k 1 x ^^^ laF k 2 x ^^^ laF k 3 x) ∧ ∀ i, 8 * b ≤ i → i < 32 → bt (smS x k b) i = false := by
  have st : ∀ b, b < 4 → (∀ i, 8 * b ≤ i → i < 32 → bt (smS x k b) i = false) → smS x k (b + 1) = smS x k b ^^^ laF k b x ∧ ∀ i, 8 * (b + 1) ≤ i → i < 32 → bt (smS x k (b + 1)) i = false := by
    intro b hb h
    have e : smS x k (b + 1) = smS x k b ^^^ laF k b x := by
      rw [smS, prF_eq (isB.and _) hk]
      exact or_xo (n := 8 * b) h (la_lo k x hb)
    refine ⟨e, fun i h1 h2 => ?_⟩
    rw [e, b_xor, h i (by omega) h2, la_hi k x hb i h1 h2]; rfl
  have z0 : ∀ i, 8 * 0 ≤ i → i < 32 → bt (smS x k 0) i = false := fun i _ _ => b_0 i
  obtain ⟨e1, z1⟩ := st 0 (by omega) z0
  obtain ⟨e2, z2⟩ := st 1 (by omega) z1
  obtain ⟨e3, z3⟩ := st 2 (by omega) z2
  obtain ⟨e4, z4⟩ := st 3 (by omega) z3
  have e0 : smS x k 0 = 0 := rfl
  rw [e0, zero_xo] at e1
  rw [e1] at e2
  rw [e2] at e3
  rw [e3] at e4
  intro b hb
  rcases (show b = 0 ∨ b = 1 ∨ b = 2 ∨ b = 3 ∨ b = 4 by omega) with rfl | rfl | rfl | rfl | rfl
  · exact ⟨rfl, z0⟩
  · exact ⟨e1, z1⟩
  · exact ⟨e2, z2⟩
  · exact ⟨e3, z3⟩
  · exact ⟨e4, z4⟩
theorem la_base : ∀ j, j < 8 → ∀ n, n < 32 → laF (nI (2 ^ j)) 0 (nI (2 ^ n)) ^^^ laF (nI (2 ^ j)) 1 (nI (2 ^ n)) ^^^ laF (nI (2 ^ j)) 2 (nI (2 ^ n)) ^^^ laF (nI (2 ^ j)) 3 (nI (2 ^ n)) = scF (nI (2 ^ n)) (nI (2 ^ j)) := by decide +kernel
theorem laF_ak (x : Int32) {b : Nat} (hb : b < 4) : Ad (fun k => laF k b x) := (Ad.shl (n := 8 * b) (by omega)).comp (scF_ak _)
/-- the reference's scaled word is the class's -/
theorem smF_eq {k : Int32} (hk : isB k) (x : Int32) : smF x k = scF x k := by
  rw [smF, (smS_eq hk x 4 (Nat.le_refl 4)).1]
  obtain ⟨nk, hnk, rfl⟩ := hk
  show laF (nI nk) 0 x ^^^ laF (nI nk) 1 x ^^^ laF (nI nk) 2 x ^^^ laF (nI nk) 3 x = _
  refine addExtN (F := fun k => laF k 0 x ^^^ laF k 1 x ^^^ laF k 2 x ^^^ laF k 3 x) (G := fun k => scF x k) ((((laF_ak x (by omega)).xor (laF_ak x (by omega))).xor (laF_ak x (by omega))).xor (laF_ak x (by omega))) (scF_ak x) 8 (fun j hj => ?_) nk hnk
  exact addExt (F := fun z => laF (nI (2 ^ j)) 0 z ^^^ laF (nI (2 ^ j)) 1 z ^^^ laF (nI (2 ^ j)) 2 z ^^^ laF (nI (2 ^ j)) 3 z) (G := fun z => scF z (nI (2 ^ j))) ((((laF_ad _ (by omega)).xor (laF_ad _ (by omega))).xor (laF_ad _ (by omega))).xor (laF_ad _ (by omega))) (scF_ad _) (fun n hn => la_base j hj n hn) x
/-- shares: powers, summed -/
def pwS (cw : Nat → Int32) (pt : Int32) (j : Nat) : Nat → Int32
  | 0 => 0
  | n + 1 => pwS cw pt j n ^^^ scF (cw (j + n)) (pwF pt n)
theorem scF_pw {pt : Int32} (hp : isB pt) (w : Int32) (n : Nat) : scF (scF w (pwF pt n)) pt = scF w (pwF pt (n + 1)) := by
  rw [pwF_s hp]
  obtain ⟨a, ha, ea⟩ := pwF_b hp n
  obtain ⟨b, hb, eb⟩ := hp
  rw [ea, eb, scF_assoc w ha hb]
theorem pwS_sc {cw : Nat → Int32} {pt : Int32} (hp : isB pt) (j : Nat) : ∀ n, scF (pwS cw pt (j + 1) n) pt ^^^ cw j = pwS cw pt j (n + 1) := by
  intro n
  induction n with
  | zero => rw [pwS, pwS, pwS, show scF 0 pt = 0 from (scF_ad pt).zero, zero_xo, zero_xo, Nat.add_zero, show pwF pt 0 = 1 from rfl, scF_one]
  | succ n ih =>
    rw [show pwS cw pt (j + 1) (n + 1) = pwS cw pt (j + 1) n ^^^ scF (cw (j + 1 + n)) (pwF pt n) from rfl, show scF (pwS cw pt (j + 1) n ^^^ scF (cw (j + 1 + n)) (pwF pt n)) pt = scF (pwS cw pt (j + 1) n) pt ^^^ scF (scF (cw (j + 1 + n)) (pwF pt n)) pt from scF_ad pt _ _, scF_pw hp, xo_assoc, xo_comm (scF (cw (j + 1 + n)) (pwF pt (n + 1))), ← xo_assoc, ih, show j + 1 + n = j + (n + 1) by omega]
    rfl
theorem shG_pw {cw : Nat → Int32} {pt : Int32} (hp : isB pt) : ∀ n j, shG cw pt j n = pwS cw pt j n := by
  intro n
  induction n with
  | zero => intro j; rfl
  | succ n ih => intro j; rw [shG, ih (j + 1), pwS_sc hp]
theorem shM_pw {cw : Nat → Int32} {pt : Int32} (hp : isB pt) : ∀ n, shM cw pt n = pwS cw pt 0 n := by
  intro n
  induction n with
  | zero => rfl
  | succ n ih => rw [shM, pwS, ih, smF_eq (pwF_b hp n), Nat.zero_add]
theorem pt_b {s : Nat} (h : s < 7) : isB (nI s + 1) := ⟨s + 1, by omega, nI_1 s⟩
/-- the reference's share is the class's -/
theorem sh_eq {cw : Nat → Int32} {s K : Nat} (h : s < 7) : shM cw (nI s + 1) K = shG cw (nI s + 1) 0 K := by rw [shM_pw (pt_b h), shG_pw (pt_b h)]
end
section
/-! the reference: reading methods -/
set_option maxHeartbeats 4000000 in
set_option maxRecDepth 100000 in
theorem c_M_isSound (l : Launch) (D : va_G) (T : Nat → ClassId) (A : Nat → Prop) (M : xM) (bd : Nat → Nat) (K N : Nat) (q : Nat → Nat → Int32) (hz : zB K N) (hM : mG T bd K N q M) (g : gT) (hs : sM K N g q) (c0 : Nat) (w : Nat → Nat) (hI : iG N g c0 w) (f i : Nat) (hf : f < 6) (hi : i < N) : Met l y_M_isSound (Cond.code y_M_isSound b_M_isSound 5 (some .boolean) :: gw) (rmH 2) (xPc D T A M [.ref (bd 0), .int (nI f), .int (nI i)]) (xR (fun r => r = some (.int (sdG N g f i)))) 0 0 (fun _ => False) := by
  refine xMetRz (by decide) (Nat.le_of_ble_eq_true rfl) ?_
  intro p e s m below meth c Q ls hB hP hl hret
  obtain ⟨hx, hb, hml, hown, hg, hK0, hnm⟩ := hB
  have hown : s.vm.findClass "ShareGridModel" = some m.cls := hown
  have hK := hK0.1
  have hN := hK0.2.1
  obtain ⟨hz1, hz4, hzn, hz7⟩ := id hz
  obtain ⟨hq, hq6, hwr, hbo⟩ := id hI
  obtain ⟨t8, t0, t1, t2, t3⟩ := hs.rc hf hi
  obtain ⟨hw0, hw30⟩ := hwr f hf
  have hl : lv_has ls 5 [(0, .ref (bd 0)), (1, .int (nI f)), (2, .int (nI i))] := hl
  refine lv_iload_n hx hb d_M_isSound_0 rfl (lv_at hl 1 rfl) ?_
  refine lv_bipush (v := nI 7) hx hb d_M_isSound_1 (by decide) ?_
  refine lv_imul hx hb d_M_isSound_3 ?_
  refine x_top (y := nI (f * 7)) (pk_mul _ _) ?_
  refine lv_iload_n hx hb d_M_isSound_4 rfl (lv_at hl 2 rfl) ?_
  refine lv_iadd hx hb d_M_isSound_5 ?_
  refine x_top (y := nI ((f * 7) + i)) (nI_add _ _) ?_
  refine lv_istore_n (lv' := [(3, .int (nI ((f * 7) + i))), (0, .ref (bd 0)), (1, .int (nI f)), (2, .int (nI i))]) hx hb d_M_isSound_6 rfl hl (by decide) rfl (fun ls hl => ?_)
  refine lv_aload_n hx hb d_M_isSound_7 rfl (lv_at hl 1 rfl) ?_
  refine x_get (v := .ref (bd 7)) (C := R_M) (T := F_M) (N := 17) hx hb hg i_M hown hK hP (ma_0 hM) rfl 9 (by decide) (hg _ w_363) (fun _ h9 => h9) rfl d_M_isSound_8 ?_
  refine lv_iload_n hx hb d_M_isSound_11 rfl (lv_at hl 0 rfl) ?_
  refine lv_bipush (v := nI 10) hx hb d_M_isSound_12 (by decide) ?_
  refine lv_imul hx hb d_M_isSound_14 ?_
  refine x_top (y := nI (((f * 7) + i) * 10)) (pk_mul _ _) ?_
  refine lv_iconst (v := nI 1) hx hb d_M_isSound_15 (by decide) ?_
  refine lv_iadd hx hb d_M_isSound_16 ?_
  refine x_top (y := nI ((((f * 7) + i) * 10) + 1)) (nI_add _ _) ?_
  refine x_iald (v := q 7 ((((f * 7) + i) * 10) + 1)) hx hb hK hP 0 (ma_7 hM) rfl (vp_in_nI (by omega) (by omega)) (by rw [nI_clamp (by omega)]) d_M_isSound_17 ?_
  refine x_top (y := (g 17 f i 2)) t1 ?_
  refine lv_istore (lv' := [(4, .int (g 17 f i 2)), (3, .int (nI ((f * 7) + i))), (0, .ref (bd 0)), (1, .int (nI f)), (2, .int (nI i))]) hx hb d_M_isSound_18 hl (by decide) rfl (fun ls hl => ?_)
  refine lv_aload_n hx hb d_M_isSound_20 rfl (lv_at hl 2 rfl) ?_
  refine x_get (v := .ref (bd 8)) (C := R_M) (T := F_M) (N := 17) hx hb hg i_M hown hK hP (ma_0 hM) rfl 10 (by decide) (hg _ w_364) (fun _ h9 => h9) rfl d_M_isSound_21 ?_
  refine lv_iload_n hx hb d_M_isSound_24 rfl (lv_at hl 1 rfl) ?_
  refine x_zald (v := q 8 ((f * 7) + i)) hx hb hK hP 1 (ma_8 hM) rfl (vp_in_nI (by omega) (by omega)) (by rw [nI_clamp (by omega)]) d_M_isSound_25 ?_
  refine x_top (y := (g 17 f i 0)) t8 ?_
  refine lv_if_eq (tgt := 46) hx hb d_M_isSound_26 (by decide) (fun c_26 => ?_) (fun c_26 => ?_)
  · refine lv_iconst (v := 0) hx hb d_M_isSound_46 (by decide) ?_
    exact hret _ _ _ d_M_isSound_47 (by first | exact Or.inl rfl | exact Or.inr rfl) (by simp [sdG, sdF, c_26])
  · refine lv_iload hx hb d_M_isSound_29 (lv_at hl 0 rfl) ?_
    refine lv_iconst (v := 1) hx hb d_M_isSound_31 (by decide) ?_
    refine lv_icmp_lt (tgt := 46) hx hb d_M_isSound_32 (by decide) (fun c_32 => ?_) (fun c_32 => ?_)
    · refine lv_iconst (v := 0) hx hb d_M_isSound_46 (by decide) ?_
      exact hret _ _ _ d_M_isSound_47 (by first | exact Or.inl rfl | exact Or.inr rfl) (by simp [sdG, sdF, c_26, c_32])
    · refine lv_iload hx hb d_M_isSound_35 (lv_at hl 0 rfl) ?_
      refine lv_aload_n hx hb d_M_isSound_37 rfl (lv_at hl 2 rfl) ?_
      refine x_get (v := .ref (bd 4)) (C := R_M) (T := F_M) (N := 17) hx hb hg i_M hown hK hP (ma_0 hM) rfl 5 (by decide) (hg _ w_359) (fun _ h9 => h9) rfl d_M_isSound_38 ?_
      refine lv_iload_n hx hb d_M_isSound_41 rfl (lv_at hl 3 rfl) ?_
      refine x_iald (v := q 4 f) hx hb hK hP 0 (ma_4 hM) rfl (vp_in_nI (by omega) (by omega)) (by rw [nI_clamp (by omega)]) d_M_isSound_42 ?_
      refine x_top (y := (g 12 f 0 1)) (hs.wr hf) ?_
      refine lv_icmp_le (tgt := 48) hx hb d_M_isSound_43 (by decide) (fun c_43 => ?_) (fun c_43 => ?_)
      · obtain ⟨j, hj1, hj2, hj⟩ := ixw hw30 c_32 (by rw [← hw0]; exact c_43)
        have ej : (g 17 f i 2).toNatClampNeg = j := by rw [hj, nI_clamp (by omega)]
        refine lv_aload_n hx hb d_M_isSound_48 rfl (lv_at hl 2 rfl) ?_
        refine lv_aload_n hx hb d_M_isSound_49 rfl (lv_at hl 2 rfl) ?_
        refine x_get (v := .ref (bd 7)) (C := R_M) (T := F_M) (N := 17) hx hb hg i_M hown hK hP (ma_0 hM) rfl 9 (by decide) (hg _ w_363) (fun _ h9 => h9) rfl d_M_isSound_50 ?_
        refine lv_iload_n hx hb d_M_isSound_53 rfl (lv_at hl 1 rfl) ?_
        refine lv_bipush (v := nI 10) hx hb d_M_isSound_54 (by decide) ?_
        refine lv_imul hx hb d_M_isSound_56 ?_
        refine x_top (y := nI (((f * 7) + i) * 10)) (pk_mul _ _) ?_
        refine x_iald (v := q 7 (((f * 7) + i) * 10)) hx hb hK hP 0 (ma_7 hM) rfl (vp_in_nI (by omega) (by omega)) (by rw [nI_clamp (by omega)]) d_M_isSound_57 ?_
        refine x_top (y := (g 17 f i 1)) t0 ?_
        refine lv_iload_n hx hb d_M_isSound_58 rfl (lv_at hl 4 rfl) ?_
        refine lv_bipush (v := 100) hx hb d_M_isSound_59 (by decide) ?_
        refine lv_iadd hx hb d_M_isSound_61 ?_
        refine xv_R (n := 2) (As := [.int (g 17 f i 1), .int ((nI i) + 100)]) (rest := []) hx hb hml hown hg hK0 hP (c_M_mix l D T A _ bd K N q hz hM (g 17 f i 1) ((nI i) + 100)) w_413 w_6 w_410 w_412 s_20 (ma_0 hM) rfl rfl (by decide +kernel) ⟨Nat.le_of_ble_eq_true rfl, Nat.le_of_ble_eq_true rfl⟩ rfl hl.1 rfl (Nat.le_of_ble_eq_true rfl) ⟨Nat.zero_le _, Nat.zero_le _⟩ rfl rfl d_M_isSound_62 (fun r hr => ?_)
        subst hr
        refine x_fr (pc := 65) [.int (mixF (g 17 f i 1) ((nI i) + 100))] rfl rfl ?_
        refine lv_aload_n hx hb d_M_isSound_65 rfl (lv_at hl 2 rfl) ?_
        refine x_get (v := .ref (bd 7)) (C := R_M) (T := F_M) (N := 17) hx hb hg i_M hown hK hP (ma_0 hM) rfl 9 (by decide) (hg _ w_363) (fun _ h9 => h9) rfl d_M_isSound_66 ?_
        refine lv_iload_n hx hb d_M_isSound_69 rfl (lv_at hl 1 rfl) ?_
        refine lv_bipush (v := nI 10) hx hb d_M_isSound_70 (by decide) ?_
        refine lv_imul hx hb d_M_isSound_72 ?_
        refine x_top (y := nI (((f * 7) + i) * 10)) (pk_mul _ _) ?_
        refine lv_iconst (v := nI 3) hx hb d_M_isSound_73 (by decide) ?_
        refine lv_iadd hx hb d_M_isSound_74 ?_
        refine x_top (y := nI ((((f * 7) + i) * 10) + 3)) (nI_add _ _) ?_
        refine lv_iload_n hx hb d_M_isSound_75 rfl (lv_at hl 4 rfl) ?_
        refine lv_iadd hx hb d_M_isSound_76 ?_
        refine x_top (y := nI (((((f * 7) + i) * 10) + 3) + i)) (nI_add _ _) ?_
        refine x_iald (v := q 7 (((((f * 7) + i) * 10) + 3) + i)) hx hb hK hP 0 (ma_7 hM) rfl (vp_in_nI (by omega) (by omega)) (by rw [nI_clamp (by omega)]) d_M_isSound_77 ?_
        refine x_top (y := (g 18 f i i)) (t3 i hi) ?_
        refine lv_icmp_eq (tgt := 83) hx hb d_M_isSound_78 (by decide) (fun c_78 => ?_) (fun c_78 => ?_)
        · refine lv_aload_n hx hb d_M_isSound_83 rfl (lv_at hl 2 rfl) ?_
          refine lv_iload_n hx hb d_M_isSound_84 rfl (lv_at hl 1 rfl) ?_
          refine lv_iload hx hb d_M_isSound_85 (lv_at hl 0 rfl) ?_
          refine xv_R (n := 2) (As := [.int (nI ((f * 7) + i)), .int (g 17 f i 2)]) (rest := []) hx hb hml hown hg hK0 hP (c_M_rootOf l D T A _ bd K N q hz hM ((f * 7) + i) (by omega) (g 17 f i 2)) w_476 w_6 w_473 w_475 s_31 (ma_0 hM) rfl rfl (by decide +kernel) ⟨Nat.le_of_ble_eq_true rfl, Nat.le_of_ble_eq_true rfl⟩ rfl hl.1 rfl (Nat.le_of_ble_eq_true rfl) ⟨Nat.zero_le _, Nat.zero_le _⟩ rfl rfl d_M_isSound_87 (fun r hr => ?_)
          subst hr
          refine x_fr (pc := 90) [.int (rtF (fun j => q 7 (((f * 7) + i) * 10 + 3 + j)) N (g 17 f i 2))] rfl rfl ?_
          refine x_top (y := (rtF (g 18 f i) N (g 17 f i 2))) (rtF_congr t3) ?_
          refine lv_aload_n hx hb d_M_isSound_90 rfl (lv_at hl 2 rfl) ?_
          refine x_get (v := .ref (bd 5)) (C := R_M) (T := F_M) (N := 17) hx hb hg i_M hown hK hP (ma_0 hM) rfl 7 (by decide) (hg _ w_361) (fun _ h9 => h9) rfl d_M_isSound_91 ?_
          refine lv_iload_n hx hb d_M_isSound_94 rfl (lv_at hl 3 rfl) ?_
          refine lv_bipush (v := nI 31) hx hb d_M_isSound_95 (by decide) ?_
          refine lv_imul hx hb d_M_isSound_97 ?_
          refine x_top (y := nI (f * 31)) (pk_mul _ _) ?_
          refine lv_iload hx hb d_M_isSound_98 (lv_at hl 0 rfl) ?_
          refine lv_iadd hx hb d_M_isSound_100 ?_
          refine x_top (y := nI ((f * 31) + j)) (by rw [hj]; exact nI_add _ _) ?_
          refine x_iald (v := q 5 ((f * 31) + j)) hx hb hK hP 0 (ma_5 hM) rfl (vp_in_nI (by omega) (by omega)) (by rw [nI_clamp (by omega)]) d_M_isSound_101 ?_
          refine x_top (y := (g 15 f 0 (g 17 f i 2).toNatClampNeg)) (by rw [ej]; exact hs.ro hf (by omega)) ?_
          refine lv_icmp_ne (tgt := 135) hx hb d_M_isSound_102 (by decide) (fun c_102 => ?_) (fun c_102 => ?_)
          · refine lv_iconst (v := 0) hx hb d_M_isSound_135 (by decide) ?_
            exact hret _ _ _ d_M_isSound_136 (by first | exact Or.inl rfl | exact Or.inr rfl) (by simp [sdG, sdF, c_26, c_32, c_43, c_78, c_102])
          · refine lv_aload_n hx hb d_M_isSound_105 rfl (lv_at hl 2 rfl) ?_
            refine x_get (v := .ref (bd 7)) (C := R_M) (T := F_M) (N := 17) hx hb hg i_M hown hK hP (ma_0 hM) rfl 9 (by decide) (hg _ w_363) (fun _ h9 => h9) rfl d_M_isSound_106 ?_
            refine lv_iload_n hx hb d_M_isSound_109 rfl (lv_at hl 1 rfl) ?_
            refine lv_bipush (v := nI 10) hx hb d_M_isSound_110 (by decide) ?_
            refine lv_imul hx hb d_M_isSound_112 ?_
            refine x_top (y := nI (((f * 7) + i) * 10)) (pk_mul _ _) ?_
            refine lv_iconst (v := nI 2) hx hb d_M_isSound_113 (by decide) ?_
            refine lv_iadd hx hb d_M_isSound_114 ?_
            refine x_top (y := nI ((((f * 7) + i) * 10) + 2)) (nI_add _ _) ?_
            refine x_iald (v := q 7 ((((f * 7) + i) * 10) + 2)) hx hb hK hP 0 (ma_7 hM) rfl (vp_in_nI (by omega) (by omega)) (by rw [nI_clamp (by omega)]) d_M_isSound_115 ?_
            refine x_top (y := (g 17 f i 3)) t2 ?_
            refine lv_aload_n hx hb d_M_isSound_116 rfl (lv_at hl 2 rfl) ?_
            refine x_get (v := .ref (bd 6)) (C := R_M) (T := F_M) (N := 17) hx hb hg i_M hown hK hP (ma_0 hM) rfl 8 (by decide) (hg _ w_362) (fun _ h9 => h9) rfl d_M_isSound_117 ?_
            refine lv_iload_n hx hb d_M_isSound_120 rfl (lv_at hl 3 rfl) ?_
            refine lv_bipush (v := nI 31) hx hb d_M_isSound_121 (by decide) ?_
            refine lv_imul hx hb d_M_isSound_123 ?_
            refine x_top (y := nI (f * 31)) (pk_mul _ _) ?_
            refine lv_iload hx hb d_M_isSound_124 (lv_at hl 0 rfl) ?_
            refine lv_iadd hx hb d_M_isSound_126 ?_
            refine x_top (y := nI ((f * 31) + j)) (by rw [hj]; exact nI_add _ _) ?_
            refine x_iald (v := q 6 ((f * 31) + j)) hx hb hK hP 0 (ma_6 hM) rfl (vp_in_nI (by omega) (by omega)) (by rw [nI_clamp (by omega)]) d_M_isSound_127 ?_
            refine x_top (y := (g 16 f 0 (g 17 f i 2).toNatClampNeg)) (by rw [ej]; exact hs.se hf (by omega)) ?_
            refine lv_icmp_ne (tgt := 135) hx hb d_M_isSound_128 (by decide) (fun c_128 => ?_) (fun c_128 => ?_)
            · refine lv_iconst (v := 0) hx hb d_M_isSound_135 (by decide) ?_
              exact hret _ _ _ d_M_isSound_136 (by first | exact Or.inl rfl | exact Or.inr rfl) (by simp [sdG, sdF, c_26, c_32, c_43, c_78, c_102, c_128])
            · refine lv_iconst (v := 1) hx hb d_M_isSound_131 (by decide) ?_
              refine lv_goto (tgt := 136) hx hb d_M_isSound_132 (by decide) ?_
              exact hret _ _ _ d_M_isSound_136 (by first | exact Or.inl rfl | exact Or.inr rfl) (by simp [sdG, sdF, c_26, c_32, c_43, c_78, c_102, c_128])
        · refine lv_iconst (v := 0) hx hb d_M_isSound_81 (by decide) ?_
          exact hret _ _ _ d_M_isSound_82 (by first | exact Or.inl rfl | exact Or.inr rfl) (by simp [sdG, sdF, c_26, c_32, c_43, c_78])
      · refine lv_iconst (v := 0) hx hb d_M_isSound_46 (by decide) ?_
        exact hret _ _ _ d_M_isSound_47 (by first | exact Or.inl rfl | exact Or.inr rfl) (by simp [sdG, sdF, c_26, c_32, c_43])
set_option maxHeartbeats 4000000 in
set_option maxRecDepth 100000 in
theorem c_M_serves (l : Launch) (D : va_G) (T : Nat → ClassId) (A : Nat → Prop) (M : xM) (bd : Nat → Nat) (K N : Nat) (q : Nat → Nat → Int32) (hz : zB K N) (hM : mG T bd K N q M) (g : gT) (hs : sM K N g q) (c0 : Nat) (w : Nat → Nat) (hI : iG N g c0 w) (f i : Nat) (hf : f < 6) (hi : i < N) (x : Int32) : Met l y_M_serves (Cond.code y_M_serves b_M_serves 4 (some .boolean) :: gw) (rmH 3) (xPc D T A M [.ref (bd 0), .int (nI f), .int (nI i), .int x]) (xR (fun r => r = some (.int (svF N g f x i)))) 0 0 (fun _ => False) := by
  refine xMetRz (by decide) (Nat.le_of_ble_eq_true rfl) ?_
  intro p e s m below meth c Q ls hB hP hl hret
  obtain ⟨hx, hb, hml, hown, hg, hK0, hnm⟩ := hB
  have hown : s.vm.findClass "ShareGridModel" = some m.cls := hown
  have hK := hK0.1
  have hN := hK0.2.1
  obtain ⟨hz1, hz4, hzn, hz7⟩ := id hz
  obtain ⟨hq, hq6, hwr, hbo⟩ := id hI
  obtain ⟨t8, t0, t1, t2, t3⟩ := hs.rc hf hi
  have hl : lv_has ls 4 [(0, .ref (bd 0)), (1, .int (nI f)), (2, .int (nI i)), (3, .int x)] := hl
  refine lv_aload_n hx hb d_M_serves_0 rfl (lv_at hl 0 rfl) ?_
  refine x_get (v := .ref (bd 1)) (C := R_M) (T := F_M) (N := 17) hx hb hg i_M hown hK hP (ma_0 hM) rfl 2 (by decide) (hg _ w_356) (fun _ h9 => h9) rfl d_M_serves_1 ?_
  refine lv_iload_n hx hb d_M_serves_4 rfl (lv_at hl 2 rfl) ?_
  refine x_zald (v := q 1 i) hx hb hK hP 1 (ma_1 hM) rfl (vp_in_nI (by omega) (by omega)) (by rw [nI_clamp (by omega)]) d_M_serves_5 ?_
  refine x_top (y := (g 1 0 0 i)) (hs.up hi) ?_
  refine lv_if_eq (tgt := 42) hx hb d_M_serves_6 (by decide) (fun c_6 => ?_) (fun c_6 => ?_)
  · refine lv_iconst (v := 0) hx hb d_M_serves_42 (by decide) ?_
    exact hret _ _ _ d_M_serves_43 (by first | exact Or.inl rfl | exact Or.inr rfl) (by simp only [svF, c_6, reduceIte])
  · refine lv_aload_n hx hb d_M_serves_9 rfl (lv_at hl 0 rfl) ?_
    refine lv_iload_n hx hb d_M_serves_10 rfl (lv_at hl 1 rfl) ?_
    refine lv_iload_n hx hb d_M_serves_11 rfl (lv_at hl 2 rfl) ?_
    refine xv_R (n := 2) (As := [.int (nI f), .int (nI i)]) (rest := []) hx hb hml hown hg hK0 hP (c_M_isSound l D T A _ bd K N q hz hM g hs c0 w hI f i (by omega) (by omega)) w_472 w_6 w_469 w_471 s_30 (ma_0 hM) rfl rfl (by decide +kernel) ⟨Nat.le_of_ble_eq_true rfl, Nat.le_of_ble_eq_true rfl⟩ rfl hl.1 rfl (Nat.le_of_ble_eq_true rfl) ⟨Nat.zero_le _, Nat.zero_le _⟩ rfl rfl d_M_serves_12 (fun r hr => ?_)
    subst hr
    refine x_fr (pc := 15) [.int (sdG N g f i)] rfl rfl ?_
    refine lv_if_eq (tgt := 42) hx hb d_M_serves_15 (by decide) (fun c_15 => ?_) (fun c_15 => ?_)
    · refine lv_iconst (v := 0) hx hb d_M_serves_42 (by decide) ?_
      exact hret _ _ _ d_M_serves_43 (by first | exact Or.inl rfl | exact Or.inr rfl) (by simp only [svF, c_6, c_15, reduceIte])
    · refine lv_aload_n hx hb d_M_serves_18 rfl (lv_at hl 0 rfl) ?_
      refine x_get (v := .ref (bd 7)) (C := R_M) (T := F_M) (N := 17) hx hb hg i_M hown hK hP (ma_0 hM) rfl 9 (by decide) (hg _ w_363) (fun _ h9 => h9) rfl d_M_serves_19 ?_
      refine lv_iload_n hx hb d_M_serves_22 rfl (lv_at hl 1 rfl) ?_
      refine lv_bipush (v := nI 70) hx hb d_M_serves_23 (by decide) ?_
      refine lv_imul hx hb d_M_serves_25 ?_
      refine x_top (y := nI (f * 70)) (pk_mul _ _) ?_
      refine lv_iload_n hx hb d_M_serves_26 rfl (lv_at hl 2 rfl) ?_
      refine lv_bipush (v := nI 10) hx hb d_M_serves_27 (by decide) ?_
      refine lv_imul hx hb d_M_serves_29 ?_
      refine x_top (y := nI (i * 10)) (pk_mul _ _) ?_
      refine lv_iadd hx hb d_M_serves_30 ?_
      refine x_top (y := nI ((f * 70) + (i * 10))) (nI_add _ _) ?_
      refine lv_iconst (v := nI 1) hx hb d_M_serves_31 (by decide) ?_
      refine lv_iadd hx hb d_M_serves_32 ?_
      refine x_top (y := nI (((f * 70) + (i * 10)) + 1)) (nI_add _ _) ?_
      refine x_iald (v := q 7 (((f * 70) + (i * 10)) + 1)) hx hb hK hP 0 (ma_7 hM) rfl (vp_in_nI (by omega) (by omega)) (by rw [nI_clamp (by omega)]) d_M_serves_33 ?_
      refine x_top (y := (g 17 f i 2)) (by rw [show f * 70 + i * 10 + 1 = (f * 7 + i) * 10 + 1 by omega]; exact t1) ?_
      refine lv_iload_n hx hb d_M_serves_34 rfl (lv_at hl 3 rfl) ?_
      refine lv_icmp_ne (tgt := 42) hx hb d_M_serves_35 (by decide) (fun c_35 => ?_) (fun c_35 => ?_)
      · refine lv_iconst (v := 0) hx hb d_M_serves_42 (by decide) ?_
        exact hret _ _ _ d_M_serves_43 (by first | exact Or.inl rfl | exact Or.inr rfl) (by simp only [svF, c_6, c_15, c_35, reduceIte])
      · refine lv_iconst (v := 1) hx hb d_M_serves_38 (by decide) ?_
        refine lv_goto (tgt := 43) hx hb d_M_serves_39 (by decide) ?_
        exact hret _ _ _ d_M_serves_43 (by first | exact Or.inl rfl | exact Or.inr rfl) (by simp only [svF, c_6, c_15, c_35, reduceIte])
set_option maxHeartbeats 4000000 in
set_option maxRecDepth 100000 in
theorem c_M_bestOf (l : Launch) (D : va_G) (T : Nat → ClassId) (A : Nat → Prop) (M : xM) (bd : Nat → Nat) (K N : Nat) (q : Nat → Nat → Int32) (hz : zB K N) (hM : mG T bd K N q M) (g : gT) (hs : sM K N g q) (c0 : Nat) (w : Nat → Nat) (hI : iG N g c0 w) (f : Nat) (hf : f < 6) : Met l y_M_bestOf (Cond.code y_M_bestOf b_M_bestOf 5 (some .int) :: gw) (rmH 4) (xPc D T A M [.ref (bd 0), .int (nI f)]) (xR (fun r => r = some (.int (nI (beF K N g f))))) 0 0 (fun _ => False) := by
  refine xMetRi (by decide) (Nat.le_of_ble_eq_true rfl) ?_
  intro p e s m below meth c Q ls hB hP hl hret
  obtain ⟨hx, hb, hml, hown, hg, hK0, hnm⟩ := hB
  have hown : s.vm.findClass "ShareGridModel" = some m.cls := hown
  have hK := hK0.1
  have hN := hK0.2.1
  obtain ⟨hz1, hz4, hzn, hz7⟩ := id hz
  obtain ⟨hq, hq6, hwr, hbo⟩ := id hI
  obtain ⟨hw0, hw30⟩ := hwr f hf
  have ebe : beF K N g f = bdF (fun j => cuF (svF N g f (nI j)) N) K (w f) := by rw [beF, hw0, nI_clamp (by omega)]
  have hl : lv_has ls 5 [(0, .ref (bd 0)), (1, .int (nI f))] := hl
  refine lv_aload_n hx hb d_M_bestOf_0 rfl (lv_at hl 0 rfl) ?_
  refine x_get (v := .ref (bd 4)) (C := R_M) (T := F_M) (N := 17) hx hb hg i_M hown hK hP (ma_0 hM) rfl 5 (by decide) (hg _ w_359) (fun _ h9 => h9) rfl d_M_bestOf_1 ?_
  refine lv_iload_n hx hb d_M_bestOf_4 rfl (lv_at hl 1 rfl) ?_
  refine x_iald (v := q 4 f) hx hb hK hP 0 (ma_4 hM) rfl (vp_in_nI (by omega) (by omega)) (by rw [nI_clamp (by omega)]) d_M_bestOf_5 ?_
  refine x_top (y := nI (w f)) ((hs.wr hf).trans hw0) ?_
  refine lv_istore_n (lv' := [(2, .int (nI (w f))), (0, .ref (bd 0)), (1, .int (nI f))]) hx hb d_M_bestOf_6 rfl hl (by decide) rfl (fun ls hl => ?_)
  have loop2 : ∀ (u : Nat), u ≤ w f → beF K N g f = bdF (fun j => cuF (svF N g f (nI j)) N) K u → ∀ (ls : Array Slot), lv_has ls 5 [(0, .ref (bd 0)), (1, .int (nI f)), (2, .int (nI u))] → W p l e (rmH 4) s m [.ref (bd 0), .int (nI f)].toArray below meth c s.heap [] 0 0 Q (F0 m 7 ls []) := by
    intro u
    induction u with
    | zero =>
      intro hu he ls hl
      refine lv_iload_n hx hb d_M_bestOf_7 rfl (lv_at hl 2 rfl) ?_
      refine lv_if_le (tgt := 61) hx hb d_M_bestOf_8 (by decide) (fun c8 => ?_) (fun c8 => ?_)
      · refine lv_iconst (v := nI 0) hx hb d_M_bestOf_61 (by decide) ?_
        exact hret _ _ _ d_M_bestOf_62 (by rw [he]; rfl)
      · exact absurd (by decide) c8
    | succ u ihu =>
      intro hu he ls hl
      refine lv_iload_n hx hb d_M_bestOf_7 rfl (lv_at hl 2 rfl) ?_
      refine lv_if_le (tgt := 61) hx hb d_M_bestOf_8 (by decide) (fun c8 => ?_) (fun c8 => ?_)
      · exact absurd c8 (nI_nle (by omega) (by omega))
      · refine lv_iconst (v := nI 0) hx hb d_M_bestOf_11 (by decide) ?_
        refine lv_istore_n (lv' := [(3, .int (nI 0)), (0, .ref (bd 0)), (1, .int (nI f)), (2, .int (nI (u + 1)))]) hx hb d_M_bestOf_12 rfl hl (by decide) rfl (fun ls hl => ?_)
        refine lv_iconst (v := nI 0) hx hb d_M_bestOf_13 (by decide) ?_
        refine lv_istore (lv' := [(4, .int (nI 0)), (3, .int (nI 0)), (0, .ref (bd 0)), (1, .int (nI f)), (2, .int (nI (u + 1)))]) hx hb d_M_bestOf_14 hl (by decide) rfl (fun ls hl => ?_)
        have loop : ∀ (n : Nat) (i : Nat), N + 1 ≤ i + n → i ≤ N → ∀ (ls : Array Slot), lv_has ls 5 [(0, .ref (bd 0)), (1, .int (nI f)), (2, .int (nI (u + 1))), (3, .int (nI (cuF (svF N g f (nI (u + 1))) i))), (4, .int (nI i))] → W p l e (rmH 4) s m [.ref (bd 0), .int (nI f)].toArray below meth c s.heap [] 0 0 Q (F0 m 16 ls []) := by
          intro n
          induction n with
          | zero =>
            intro i h2 h1
            exact absurd h2 (by omega)
          | succ n ih =>
            intro i h2 h1 ls hl
            have hcl := cuF_le (svF N g f (nI (u + 1))) i
            refine lv_iload hx hb d_M_bestOf_16 (lv_at hl 4 rfl) ?_
            refine lv_aload_n hx hb d_M_bestOf_18 rfl (lv_at hl 0 rfl) ?_
            refine x_get (v := .int (nI N)) (C := R_M) (T := F_M) (N := 17) hx hb hg i_M hown hK hP (ma_0 hM) rfl 1 (by decide) (hg _ w_355) (fun _ h9 => h9) rfl d_M_bestOf_19 ?_
            refine x_nc_ge (tgt := 45) hx hb d_M_bestOf_22 (by decide) (by omega) (by omega) (fun c22 => ?_) (fun c22 => ?_)
            · have hiN : i = N := by omega
              rw [hiN] at hl
              rw [hiN] at hcl
              refine lv_iload_n hx hb d_M_bestOf_45 rfl (lv_at hl 3 rfl) ?_
              refine lv_aload_n hx hb d_M_bestOf_46 rfl (lv_at hl 0 rfl) ?_
              refine x_get (v := .int (nI K)) (C := R_M) (T := F_M) (N := 17) hx hb hg i_M hown hK hP (ma_0 hM) rfl 0 (by decide) (hg _ w_354) (fun _ h9 => h9) rfl d_M_bestOf_47 ?_
              refine x_nc_lt (tgt := 55) hx hb d_M_bestOf_50 (by decide) (by omega) (by omega) (fun c50 => ?_) (fun c50 => ?_)
              · refine lv_iinc (v := nI u) (lv' := [(2, .int (nI u)), (0, .ref (bd 0)), (1, .int (nI f)), (3, .int (nI (cuF (svF N g f (nI (u + 1))) N))), (4, .int (nI N))]) hx hb d_M_bestOf_55 hl (k := 2) rfl (pk_m1 u) (by decide) rfl (fun ls hl => ?_)
                refine lv_goto (tgt := 7) hx hb d_M_bestOf_58 (by decide) ?_
                exact ihu (by omega) (by rw [he, bdF, if_neg (Nat.not_le.mpr c50)]) ls (lv_sub hl [1, 2, 0] rfl)
              · refine lv_iload_n hx hb d_M_bestOf_53 rfl (lv_at hl 2 rfl) ?_
                exact hret _ _ _ d_M_bestOf_54 (by rw [he, bdF, if_pos c50])
            · refine lv_aload_n hx hb d_M_bestOf_25 rfl (lv_at hl 0 rfl) ?_
              refine lv_iload_n hx hb d_M_bestOf_26 rfl (lv_at hl 1 rfl) ?_
              refine lv_iload hx hb d_M_bestOf_27 (lv_at hl 4 rfl) ?_
              refine lv_iload_n hx hb d_M_bestOf_29 rfl (lv_at hl 2 rfl) ?_
              refine xv_R (n := 3) (As := [.int (nI f), .int (nI i), .int (nI (u + 1))]) (rest := []) hx hb hml hown hg hK0 hP (c_M_serves l D T A _ bd K N q hz hM g hs c0 w hI f i (by omega) (by omega) (nI (u + 1))) w_468 w_6 w_465 w_467 s_29 (ma_0 hM) rfl rfl (by decide +kernel) ⟨Nat.le_of_ble_eq_true rfl, Nat.le_of_ble_eq_true rfl⟩ rfl hl.1 rfl (Nat.le_of_ble_eq_true rfl) ⟨Nat.zero_le _, Nat.zero_le _⟩ rfl rfl d_M_bestOf_30 (fun r hr => ?_)
              subst hr
              refine x_fr (pc := 33) [.int (svF N g f (nI (u + 1)) i)] rfl rfl ?_
              refine lv_if_eq (tgt := 39) hx hb d_M_bestOf_33 (by decide) (fun c33 => ?_) (fun c33 => ?_)
              · have ecu : cuF (svF N g f (nI (u + 1))) (i + 1) = cuF (svF N g f (nI (u + 1))) i := cuF_z c33
                refine lv_iinc (v := nI (i + 1)) (lv' := [(4, .int (nI (i + 1))), (0, .ref (bd 0)), (1, .int (nI f)), (2, .int (nI (u + 1))), (3, .int (nI (cuF (svF N g f (nI (u + 1))) i)))]) hx hb d_M_bestOf_39 hl (k := 4) rfl (nI_1 _) (by decide) rfl (fun ls hl => ?_)
                refine lv_goto (tgt := 16) hx hb d_M_bestOf_42 (by decide) ?_
                exact ih (i + 1) (by omega) (by omega) ls (by rw [ecu]; exact (lv_sub hl [1, 2, 3, 4, 0] rfl))
              · have ecu : cuF (svF N g f (nI (u + 1))) (i + 1) = cuF (svF N g f (nI (u + 1))) i + 1 := cuF_s c33
                refine lv_iinc (v := nI ((cuF (svF N g f (nI (u + 1))) i) + 1)) (lv' := [(3, .int (nI ((cuF (svF N g f (nI (u + 1))) i) + 1))), (0, .ref (bd 0)), (1, .int (nI f)), (2, .int (nI (u + 1))), (4, .int (nI i))]) hx hb d_M_bestOf_36 hl (k := 3) rfl (nI_1 _) (by decide) rfl (fun ls hl => ?_)
                refine lv_iinc (v := nI (i + 1)) (lv' := [(4, .int (nI (i + 1))), (3, .int (nI ((cuF (svF N g f (nI (u + 1))) i) + 1))), (0, .ref (bd 0)), (1, .int (nI f)), (2, .int (nI (u + 1)))]) hx hb d_M_bestOf_39 hl (k := 4) rfl (nI_1 _) (by decide) rfl (fun ls hl => ?_)
                refine lv_goto (tgt := 16) hx hb d_M_bestOf_42 (by decide) ?_
                exact ih (i + 1) (by omega) (by omega) ls (by rw [ecu]; exact (lv_sub hl [2, 3, 4, 1, 0] rfl))
        exact loop (N + 1) 0 (by omega) (by omega) ls (lv_sub hl [2, 3, 4, 1, 0] rfl)
  exact loop2 (w f) (Nat.le_refl _) ebe ls (lv_sub hl [1, 2, 0] rfl)
def baF (N : Nat) (g : gT) (x y : Int32) : Int32 := if inF x (g 0 0 0 0) = 0 then 1 else if inF y (nI N) = 0 then 1 else 0
theorem baF_0 {N : Nat} {g : gT} {x y : Int32} (h : baF N g x y = 0) : ¬ inF x (g 0 0 0 0) = 0 ∧ ¬ inF y (nI N) = 0 := by
  unfold baF at h
  by_cases h1 : inF x (g 0 0 0 0) = 0
  · rw [if_pos h1] at h; exact absurd h (by decide)
  · rw [if_neg h1] at h
    by_cases h2 : inF y (nI N) = 0
    · rw [if_pos h2] at h; exact absurd h (by decide)
    · exact ⟨h1, h2⟩
theorem baF_1 {N : Nat} {g : gT} {x y : Int32} (h : ¬ baF N g x y = 0) : inF x (g 0 0 0 0) = 0 ∨ (¬ inF x (g 0 0 0 0) = 0 ∧ inF y (nI N) = 0) := by
  unfold baF at h
  by_cases h1 : inF x (g 0 0 0 0) = 0
  · exact Or.inl h1
  · rw [if_neg h1] at h
    by_cases h2 : inF y (nI N) = 0
    · exact Or.inr ⟨h1, h2⟩
    · rw [if_neg h2] at h; exact absurd rfl h
set_option maxHeartbeats 4000000 in
set_option maxRecDepth 100000 in
theorem c_M_bad (l : Launch) (D : va_G) (T : Nat → ClassId) (A : Nat → Prop) (M : xM) (bd : Nat → Nat) (K N : Nat) (q : Nat → Nat → Int32) (hz : zB K N) (hM : mG T bd K N q M) (g : gT) (hs : sM K N g q) (c0 : Nat) (w : Nat → Nat) (hI : iG N g c0 w) (x y : Int32) : Met l y_M_bad (Cond.code y_M_bad b_M_bad 3 (some .boolean) :: gw) (rmH 0) (xPc D T A M [.ref (bd 0), .int x, .int y]) (xR (fun r => r = some (.int (baF N g x y)))) 0 0 (fun _ => False) := by
  refine xMetRz (by decide) (Nat.le_of_ble_eq_true rfl) ?_
  intro p e s m below meth c Q ls hB hP hl hret
  obtain ⟨hx, hb, hml, hown, hg, hK0, hnm⟩ := hB
  have hown : s.vm.findClass "ShareGridModel" = some m.cls := hown
  have hK := hK0.1
  have hN := hK0.2.1
  obtain ⟨hz1, hz4, hzn, hz7⟩ := id hz
  obtain ⟨hq, hq6, hwr, hbo⟩ := id hI
  have hl : lv_has ls 3 [(0, .ref (bd 0)), (1, .int x), (2, .int y)] := hl
  refine lv_iload_n hx hb d_M_bad_0 rfl (lv_at hl 1 rfl) ?_
  refine lv_if_lt (tgt := 24) hx hb d_M_bad_1 (by decide) (fun c_1 => ?_) (fun c_1 => ?_)
  · refine lv_iconst (v := 1) hx hb d_M_bad_24 (by decide) ?_
    refine lv_goto (tgt := 29) hx hb d_M_bad_25 (by decide) ?_
    exact hret _ _ _ d_M_bad_29 (by first | exact Or.inl rfl | exact Or.inr rfl) (by simp [baF, inF, c_1])
  · refine lv_iload_n hx hb d_M_bad_4 rfl (lv_at hl 1 rfl) ?_
    refine lv_aload_n hx hb d_M_bad_5 rfl (lv_at hl 0 rfl) ?_
    refine x_get (v := .int (q 0 0)) (C := R_M) (T := F_M) (N := 17) hx hb hg i_M hown hK hP (ma_0 hM) rfl 6 (by decide) (hg _ w_360) (fun _ h9 => h9) rfl d_M_bad_6 ?_
    refine x_top (y := (g 0 0 0 0)) hs.n ?_
    refine lv_icmp_ge (tgt := 24) hx hb d_M_bad_9 (by decide) (fun c_9 => ?_) (fun c_9 => ?_)
    · refine lv_iconst (v := 1) hx hb d_M_bad_24 (by decide) ?_
      refine lv_goto (tgt := 29) hx hb d_M_bad_25 (by decide) ?_
      exact hret _ _ _ d_M_bad_29 (by first | exact Or.inl rfl | exact Or.inr rfl) (by simp [baF, inF, c_1, c_9])
    · refine lv_iload_n hx hb d_M_bad_12 rfl (lv_at hl 2 rfl) ?_
      refine lv_if_lt (tgt := 24) hx hb d_M_bad_13 (by decide) (fun c_13 => ?_) (fun c_13 => ?_)
      · refine lv_iconst (v := 1) hx hb d_M_bad_24 (by decide) ?_
        refine lv_goto (tgt := 29) hx hb d_M_bad_25 (by decide) ?_
        exact hret _ _ _ d_M_bad_29 (by first | exact Or.inl rfl | exact Or.inr rfl) (by simp [baF, inF, c_1, c_9, c_13])
      · refine lv_iload_n hx hb d_M_bad_16 rfl (lv_at hl 2 rfl) ?_
        refine lv_aload_n hx hb d_M_bad_17 rfl (lv_at hl 0 rfl) ?_
        refine x_get (v := .int (nI N)) (C := R_M) (T := F_M) (N := 17) hx hb hg i_M hown hK hP (ma_0 hM) rfl 1 (by decide) (hg _ w_355) (fun _ h9 => h9) rfl d_M_bad_18 ?_
        refine lv_icmp_lt (tgt := 28) hx hb d_M_bad_21 (by decide) (fun c_21 => ?_) (fun c_21 => ?_)
        · have c21n : ¬ nI N ≤ y := Int32.not_le.mpr c_21
          refine lv_iconst (v := 0) hx hb d_M_bad_28 (by decide) ?_
          exact hret _ _ _ d_M_bad_29 (by first | exact Or.inl rfl | exact Or.inr rfl) (by simp [baF, inF, c_1, c_9, c_13, c21n])
        · refine lv_iconst (v := 1) hx hb d_M_bad_24 (by decide) ?_
          refine lv_goto (tgt := 29) hx hb d_M_bad_25 (by decide) ?_
          exact hret _ _ _ d_M_bad_29 (by first | exact Or.inl rfl | exact Or.inr rfl) (by simp [baF, inF, c_1, c_9, c_13, Int32.not_lt.mp c_21])
set_option maxHeartbeats 4000000 in
set_option maxRecDepth 100000 in
theorem c_M_word (l : Launch) (D : va_G) (T : Nat → ClassId) (A : Nat → Prop) (M : xM) (bd : Nat → Nat) (K N : Nat) (q : Nat → Nat → Int32) (hz : zB K N) (hM : mG T bd K N q M) (g : gT) (hs : sM K N g q) (c0 : Nat) (w : Nat → Nat) (hI : iG N g c0 w) (x : Int32) : Met l y_M_word (Cond.code y_M_word b_M_word 2 (some .long) :: gw) (rmH 0) (xPc D T A M [.ref (bd 0), .int x]) (xR (fun r => r = some (.long (aWord K g x)))) 0 0 (fun _ => False) := by
  refine xMetRl (by decide) (Nat.le_of_ble_eq_true rfl) ?_
  intro p e s m below meth c Q ls hB hP hl hret
  obtain ⟨hx, hb, hml, hown, hg, hK0, hnm⟩ := hB
  have hown : s.vm.findClass "ShareGridModel" = some m.cls := hown
  have hK := hK0.1
  have hN := hK0.2.1
  obtain ⟨hz1, hz4, hzn, hz7⟩ := id hz
  obtain ⟨hq, hq6, hwr, hbo⟩ := id hI
  have hl : lv_has ls 2 [(0, .ref (bd 0)), (1, .int x)] := hl
  refine lv_aload_n hx hb d_M_word_0 rfl (lv_at hl 0 rfl) ?_
  refine x_get (v := .int (q 0 1)) (C := R_M) (T := F_M) (N := 17) hx hb hg i_M hown hK hP (ma_0 hM) rfl 13 (by decide) (hg _ w_367) (fun _ h9 => h9) rfl d_M_word_1 ?_
  refine x_top (y := (g 0 0 0 1)) hs.hr ?_
  refine lv_if_eq (tgt := 19) hx hb d_M_word_4 (by decide) (fun c_4 => ?_) (fun c_4 => ?_)
  · refine lv_ldc2 (v := (-1000000000000)) hx hb hown (hg _ w_489) d_M_word_19 ?_
    refine lv_goto (tgt := 32) hx hb d_M_word_22 (by decide) ?_
    exact hret _ _ _ d_M_word_32 (by simp [aWord, inF, c_4])
  · refine lv_iload_n hx hb d_M_word_7 rfl (lv_at hl 1 rfl) ?_
    refine lv_if_lt (tgt := 19) hx hb d_M_word_8 (by decide) (fun c_8 => ?_) (fun c_8 => ?_)
    · refine lv_ldc2 (v := (-1000000000000)) hx hb hown (hg _ w_489) d_M_word_19 ?_
      refine lv_goto (tgt := 32) hx hb d_M_word_22 (by decide) ?_
      exact hret _ _ _ d_M_word_32 (by simp [aWord, inF, c_4, c_8])
    · refine lv_iload_n hx hb d_M_word_11 rfl (lv_at hl 1 rfl) ?_
      refine lv_aload_n hx hb d_M_word_12 rfl (lv_at hl 0 rfl) ?_
      refine x_get (v := .int (nI K)) (C := R_M) (T := F_M) (N := 17) hx hb hg i_M hown hK hP (ma_0 hM) rfl 0 (by decide) (hg _ w_354) (fun _ h9 => h9) rfl d_M_word_13 ?_
      refine lv_icmp_lt (tgt := 25) hx hb d_M_word_16 (by decide) (fun c_16 => ?_) (fun c_16 => ?_)
      · have c16n : ¬ nI K ≤ x := Int32.not_le.mpr c_16
        have cin : ¬ inF x (nI K) = 0 := by simp [inF, c_8, c16n]
        obtain ⟨j, hj, rfl⟩ := inF_j (by omega) cin
        refine lv_aload_n hx hb d_M_word_25 rfl (lv_at hl 0 rfl) ?_
        refine x_get (v := .ref (bd 10)) (C := R_M) (T := F_M) (N := 17) hx hb hg i_M hown hK hP (ma_0 hM) rfl 12 (by decide) (hg _ w_366) (fun _ h9 => h9) rfl d_M_word_26 ?_
        refine lv_iload_n hx hb d_M_word_29 rfl (lv_at hl 1 rfl) ?_
        refine x_iald (v := q 10 j) hx hb hK hP 0 (ma_10 hM) rfl (vp_in_nI (by omega) (by omega)) (by rw [nI_clamp (by omega)]) d_M_word_30 ?_
        refine x_top (y := (g 5 0 0 j)) (hs.wo hj) ?_
        refine lv_i2l (v := (g 5 0 0 j).toInt64) hx hb d_M_word_31 rfl ?_
        exact hret _ _ _ d_M_word_32 (by rw [aWord, if_neg c_4, if_neg cin, nI_clamp (by omega)])
      · refine lv_ldc2 (v := (-1000000000000)) hx hb hown (hg _ w_489) d_M_word_19 ?_
        refine lv_goto (tgt := 32) hx hb d_M_word_22 (by decide) ?_
        exact hret _ _ _ d_M_word_32 (by simp [aWord, inF, c_4, c_8, Int32.not_lt.mp c_16])
theorem isB_of {x : Int32} (h1 : ¬ x < 0) (h2 : ¬ 255 < x) : isB x := by
  obtain ⟨j, hj, rfl⟩ := nI_of h1
  refine ⟨j, ?_, rfl⟩
  have a := Int32.not_lt.mp h2
  have := (nI_leI hj (b := 255) (by omega)).mp a
  omega
set_option maxHeartbeats 4000000 in
set_option maxRecDepth 100000 in
theorem c_M_times (l : Launch) (D : va_G) (T : Nat → ClassId) (A : Nat → Prop) (M : xM) (bd : Nat → Nat) (K N : Nat) (q : Nat → Nat → Int32) (hz : zB K N) (hM : mG T bd K N q M) (x y : Int32) : Met l y_M_times (Cond.code y_M_times b_M_times 3 (some .int) :: gw) (rmH 1) (xPc D T A M [.ref (bd 0), .int x, .int y]) (xR (fun r => r = some (.int (aTimes x y)))) 0 0 (fun _ => False) := by
  refine xMetRi (by decide) (Nat.le_of_ble_eq_true rfl) ?_
  intro p e s m below meth c Q ls hB hP hl hret
  obtain ⟨hx, hb, hml, hown, hg, hK0, hnm⟩ := hB
  have hown : s.vm.findClass "ShareGridModel" = some m.cls := hown
  have hK := hK0.1
  have hN := hK0.2.1
  obtain ⟨hz1, hz4, hzn, hz7⟩ := id hz
  have hl : lv_has ls 3 [(0, .ref (bd 0)), (1, .int x), (2, .int y)] := hl
  refine lv_iload_n hx hb d_M_times_0 rfl (lv_at hl 1 rfl) ?_
  refine lv_if_lt (tgt := 22) hx hb d_M_times_1 (by decide) (fun c_1 => ?_) (fun c_1 => ?_)
  · refine lv_iconst (v := (-1)) hx hb d_M_times_22 (by decide) ?_
    refine lv_goto (tgt := 32) hx hb d_M_times_23 (by decide) ?_
    exact hret _ _ _ d_M_times_32 (by simp [aTimes, byF, c_1])
  · refine lv_iload_n hx hb d_M_times_4 rfl (lv_at hl 1 rfl) ?_
    refine lv_sipush (v := 255) hx hb d_M_times_5 (by decide) ?_
    refine lv_icmp_gt (tgt := 22) hx hb d_M_times_8 (by decide) (fun c_8 => ?_) (fun c_8 => ?_)
    · refine lv_iconst (v := (-1)) hx hb d_M_times_22 (by decide) ?_
      refine lv_goto (tgt := 32) hx hb d_M_times_23 (by decide) ?_
      exact hret _ _ _ d_M_times_32 (by simp [aTimes, byF, c_1, c_8])
    · refine lv_iload_n hx hb d_M_times_11 rfl (lv_at hl 2 rfl) ?_
      refine lv_if_lt (tgt := 22) hx hb d_M_times_12 (by decide) (fun c_12 => ?_) (fun c_12 => ?_)
      · refine lv_iconst (v := (-1)) hx hb d_M_times_22 (by decide) ?_
        refine lv_goto (tgt := 32) hx hb d_M_times_23 (by decide) ?_
        exact hret _ _ _ d_M_times_32 (by simp [aTimes, byF, c_1, c_8, c_12])
      · refine lv_iload_n hx hb d_M_times_15 rfl (lv_at hl 2 rfl) ?_
        refine lv_sipush (v := 255) hx hb d_M_times_16 (by decide) ?_
        refine lv_icmp_le (tgt := 26) hx hb d_M_times_19 (by decide) (fun c_19 => ?_) (fun c_19 => ?_)
        · refine lv_aload_n hx hb d_M_times_26 rfl (lv_at hl 0 rfl) ?_
          refine lv_iload_n hx hb d_M_times_27 rfl (lv_at hl 1 rfl) ?_
          refine lv_iload_n hx hb d_M_times_28 rfl (lv_at hl 2 rfl) ?_
          refine xv_R (n := 2) (As := [.int x, .int y]) (rest := []) hx hb hml hown hg hK0 hP (c_M_product l D T A _ bd K N q hz hM x y) w_448 w_6 w_445 w_447 s_25 (ma_0 hM) rfl rfl (by decide +kernel) ⟨Nat.le_of_ble_eq_true rfl, Nat.le_of_ble_eq_true rfl⟩ rfl hl.1 rfl (Nat.le_of_ble_eq_true rfl) ⟨Nat.zero_le _, Nat.zero_le _⟩ rfl rfl d_M_times_29 (fun r hr => ?_)
          subst hr
          refine x_fr (pc := 32) [.int (prF x y)] rfl rfl ?_
          have hby := isB_of c_12 (Int32.not_lt.mpr c_19)
          have hbx := isB_of c_1 c_8
          exact hret _ _ _ d_M_times_32 (by rw [aTimes, if_neg (by simp [byF, c_1, c_8]), if_neg (by simp [byF, c_12, Int32.not_lt.mpr c_19]), prF_eq hbx hby])
        · refine lv_iconst (v := (-1)) hx hb d_M_times_22 (by decide) ?_
          refine lv_goto (tgt := 32) hx hb d_M_times_23 (by decide) ?_
          exact hret _ _ _ d_M_times_32 (by simp [aTimes, byF, c_1, c_8, c_12, Int32.not_le.mp c_19])
theorem cn_lo {x : Int32} {c0 : Nat} (hc : c0 ≤ 6) (h : x < 10) : inF (x - 10) (nI c0) = 0 := by
  have h1 := Int32.lt_iff_toInt_lt.mp h
  have e10 : (10 : Int32).toInt = 10 := by decide
  rw [e10] at h1
  have hs := Int32.toInt_sub x 10
  rw [e10] at hs
  have hx1 := Int32.le_toInt x
  by_cases hq : x - 10 < 0
  · simp [inF, hq]
  · have hq1 : ¬ (x - 10).toInt < 0 := fun z => hq (Int32.lt_iff_toInt_lt.mpr (by rw [show (0 : Int32).toInt = 0 by decide]; exact z))
    have hge : nI c0 ≤ x - 10 := by
      rw [Int32.le_iff_toInt_le, nI_toInt (by omega), hs]
      rw [hs] at hq1
      simp only [Int.bmod] at hq1 ⊢
      split at hq1 <;> split <;> omega
    simp [inF, hq, hge]
theorem cn_hi {x : Int32} {c0 : Nat} (hc : c0 ≤ 6) (h : ¬ x < 10) : ∃ j, x = nI (10 + j) ∧ j < 2 ^ 31 - 10 ∧ x - 10 = nI j := by
  have h0 : ¬ x < 0 := fun z => h (by
    have a := Int32.lt_iff_toInt_lt.mp z
    rw [show (0 : Int32).toInt = 0 by decide] at a
    exact Int32.lt_iff_toInt_lt.mpr (by rw [show (10 : Int32).toInt = 10 by decide]; omega))
  obtain ⟨k, hk, rfl⟩ := nI_of h0
  have hk10 : 10 ≤ k := by
    have := (nI_leI (a := 10) (b := k) (by omega) hk).mp (Int32.not_lt.mp h)
    exact this
  refine ⟨k - 10, by rw [show 10 + (k - 10) = k by omega], by omega, ?_⟩
  show nI k - nI 10 = nI (k - 10)
  exact pk_sub hk10
set_option maxHeartbeats 4000000 in
set_option maxRecDepth 100000 in
theorem c_M_count (l : Launch) (D : va_G) (T : Nat → ClassId) (A : Nat → Prop) (M : xM) (bd : Nat → Nat) (K N : Nat) (q : Nat → Nat → Int32) (hz : zB K N) (hM : mG T bd K N q M) (g : gT) (hs : sM K N g q) (c0 : Nat) (w : Nat → Nat) (hI : iG N g c0 w) (x : Int32) : Met l y_M_count (Cond.code y_M_count b_M_count 2 (some .int) :: gw) (rmH 1) (xPc D T A M [.ref (bd 0), .int x]) (xR (fun r => r = some (.int (aCount K N g c0 x)))) 0 0 (fun _ => False) := by
  refine xMetRi (by decide) (Nat.le_of_ble_eq_true rfl) ?_
  intro p e s m below meth c Q ls hB hP hl hret
  obtain ⟨hx, hb, hml, hown, hg, hK0, hnm⟩ := hB
  have hown : s.vm.findClass "ShareGridModel" = some m.cls := hown
  have hK := hK0.1
  have hN := hK0.2.1
  obtain ⟨hz1, hz4, hzn, hz7⟩ := id hz
  obtain ⟨hq, hq6, hwr, hbo⟩ := id hI
  have hl : lv_has ls 2 [(0, .ref (bd 0)), (1, .int x)] := hl
  refine lv_iload_n hx hb d_M_count_0 rfl (lv_at hl 1 rfl) ?_
  refine lv_if_ne (tgt := 9) hx hb d_M_count_1 (by decide) (fun c_1 => ?_) (fun c_1 => ?_)
  · refine lv_iload_n hx hb d_M_count_9 rfl (lv_at hl 1 rfl) ?_
    refine lv_iconst (v := 1) hx hb d_M_count_10 (by decide) ?_
    refine lv_icmp_ne (tgt := 19) hx hb d_M_count_11 (by decide) (fun c_11 => ?_) (fun c_11 => ?_)
    · refine lv_iload_n hx hb d_M_count_19 rfl (lv_at hl 1 rfl) ?_
      refine lv_iconst (v := 2) hx hb d_M_count_20 (by decide) ?_
      refine lv_icmp_ne (tgt := 29) hx hb d_M_count_21 (by decide) (fun c_21 => ?_) (fun c_21 => ?_)
      · refine lv_iload_n hx hb d_M_count_29 rfl (lv_at hl 1 rfl) ?_
        refine lv_iconst (v := 3) hx hb d_M_count_30 (by decide) ?_
        refine lv_icmp_ne (tgt := 39) hx hb d_M_count_31 (by decide) (fun c_31 => ?_) (fun c_31 => ?_)
        · refine lv_iload_n hx hb d_M_count_39 rfl (lv_at hl 1 rfl) ?_
          refine lv_bipush (v := 10) hx hb d_M_count_40 (by decide) ?_
          refine lv_icmp_lt (tgt := 68) hx hb d_M_count_42 (by decide) (fun c_42 => ?_) (fun c_42 => ?_)
          · refine lv_iconst (v := (-1)) hx hb d_M_count_68 (by decide) ?_
            exact hret _ _ _ d_M_count_69 (by rw [aCount, if_neg c_1, if_neg c_11, if_neg c_21, if_neg c_31, gnF, if_pos (cn_lo hq6 c_42)])
          · obtain ⟨j, hj, hj2, hj3⟩ := cn_hi hq6 c_42
            rw [hj] at hl
            refine lv_iload_n hx hb d_M_count_45 rfl (lv_at hl 1 rfl) ?_
            refine lv_bipush (v := nI 10) hx hb d_M_count_46 (by decide) ?_
            refine lv_aload_n hx hb d_M_count_48 rfl (lv_at hl 0 rfl) ?_
            refine x_get (v := .int (q 0 0)) (C := R_M) (T := F_M) (N := 17) hx hb hg i_M hown hK hP (ma_0 hM) rfl 6 (by decide) (hg _ w_360) (fun _ h9 => h9) rfl d_M_count_49 ?_
            refine x_top (y := nI c0) (hs.n.trans hq) ?_
            refine lv_iadd hx hb d_M_count_52 ?_
            refine x_top (y := nI (10 + c0)) (nI_add _ _) ?_
            refine x_nc_ge (tgt := 68) hx hb d_M_count_53 (by decide) (by omega) (by omega) (fun c_53 => ?_) (fun c_53 => ?_)
            · refine lv_iconst (v := (-1)) hx hb d_M_count_68 (by decide) ?_
              have hin : inF (x - 10) (nI c0) = 0 := by
                have q1 : ¬ nI j < 0 := nI_pos (by omega)
                have q2 : nI c0 ≤ nI j := (nI_leI (by omega) (by omega)).mpr (by omega)
                rw [hj3]; simp [inF, q1, q2]
              exact hret _ _ _ d_M_count_69 (by rw [aCount, if_neg c_1, if_neg c_11, if_neg c_21, if_neg c_31, gnF, if_pos hin])
            · refine lv_aload_n hx hb d_M_count_56 rfl (lv_at hl 0 rfl) ?_
              refine x_get (v := .ref (bd 4)) (C := R_M) (T := F_M) (N := 17) hx hb hg i_M hown hK hP (ma_0 hM) rfl 5 (by decide) (hg _ w_359) (fun _ h9 => h9) rfl d_M_count_57 ?_
              refine lv_iload_n hx hb d_M_count_60 rfl (lv_at hl 1 rfl) ?_
              refine lv_bipush (v := nI 10) hx hb d_M_count_61 (by decide) ?_
              refine lv_isub hx hb d_M_count_63 ?_
              refine x_top (y := nI ((10 + j) - 10)) (pk_sub (by omega)) ?_
              refine x_iald (v := q 4 ((10 + j) - 10)) hx hb hK hP 0 (ma_4 hM) rfl (vp_in_nI (by omega) (by omega)) (by rw [nI_clamp (by omega)]) d_M_count_64 ?_
              refine x_top (y := (g 12 j 0 1)) (by rw [show 10 + j - 10 = j by omega]; exact hs.wr (by omega)) ?_
              refine lv_goto (tgt := 69) hx hb d_M_count_65 (by decide) ?_
              have hin : ¬ inF (x - 10) (nI c0) = 0 := by
                have q1 : ¬ nI j < 0 := nI_pos (by omega)
                have q2 : ¬ nI c0 ≤ nI j := fun z => by have := (nI_leI (by omega) (by omega)).mp z; omega
                rw [hj3]; simp [inF, q1, q2]
              exact hret _ _ _ d_M_count_69 (by rw [aCount, if_neg c_1, if_neg c_11, if_neg c_21, if_neg c_31, gnF, if_neg hin, hj3, nI_clamp (by omega)])
        · refine lv_aload_n hx hb d_M_count_34 rfl (lv_at hl 0 rfl) ?_
          refine x_get (v := .int (nI N)) (C := R_M) (T := F_M) (N := 17) hx hb hg i_M hown hK hP (ma_0 hM) rfl 1 (by decide) (hg _ w_355) (fun _ h9 => h9) rfl d_M_count_35 ?_
          exact hret _ _ _ d_M_count_38 (by simp [aCount, c_1, c_11, c_21, c_31])
      · refine lv_aload_n hx hb d_M_count_24 rfl (lv_at hl 0 rfl) ?_
        refine x_get (v := .int (nI K)) (C := R_M) (T := F_M) (N := 17) hx hb hg i_M hown hK hP (ma_0 hM) rfl 0 (by decide) (hg _ w_354) (fun _ h9 => h9) rfl d_M_count_25 ?_
        exact hret _ _ _ d_M_count_28 (by simp [aCount, c_1, c_11, c_21])
    · refine lv_aload_n hx hb d_M_count_14 rfl (lv_at hl 0 rfl) ?_
      refine xv_R (n := 0) (As := []) (rest := []) hx hb hml hown hg hK0 hP (c_M_upCount l D T A _ bd K N q hz hM g hs c0 w hI) w_436 w_6 w_433 w_435 s_22 (ma_0 hM) rfl rfl (by decide +kernel) ⟨Nat.le_of_ble_eq_true rfl, Nat.le_of_ble_eq_true rfl⟩ rfl hl.1 rfl (Nat.le_of_ble_eq_true rfl) ⟨Nat.zero_le _, Nat.zero_le _⟩ rfl rfl d_M_count_15 (fun r hr => ?_)
      subst hr
      refine x_fr (pc := 18) [.int (nI (cuF (g 1 0 0) N))] rfl rfl ?_
      exact hret _ _ _ d_M_count_18 (by simp [aCount, c_1, c_11])
  · refine lv_aload_n hx hb d_M_count_4 rfl (lv_at hl 0 rfl) ?_
    refine x_get (v := .int (q 0 0)) (C := R_M) (T := F_M) (N := 17) hx hb hg i_M hown hK hP (ma_0 hM) rfl 6 (by decide) (hg _ w_360) (fun _ h9 => h9) rfl d_M_count_5 ?_
    refine x_top (y := nI c0) (hs.n.trans hq) ?_
    exact hret _ _ _ d_M_count_8 (by simp [aCount, c_1, hq])
set_option maxHeartbeats 4000000 in
set_option maxRecDepth 100000 in
theorem c_M_sound (l : Launch) (D : va_G) (T : Nat → ClassId) (A : Nat → Prop) (M : xM) (bd : Nat → Nat) (K N : Nat) (q : Nat → Nat → Int32) (hz : zB K N) (hM : mG T bd K N q M) (g : gT) (hs : sM K N g q) (c0 : Nat) (w : Nat → Nat) (hI : iG N g c0 w) (x : Int32) : Met l y_M_sound (Cond.code y_M_sound b_M_sound 5 (some .int) :: gw) (rmH 3) (xPc D T A M [.ref (bd 0), .int x]) (xR (fun r => r = some (.int (aSound N g c0 x)))) 0 0 (fun _ => False) := by
  refine xMetRi (by decide) (Nat.le_of_ble_eq_true rfl) ?_
  intro p e s m below meth c Q ls hB hP hl hret
  obtain ⟨hx, hb, hml, hown, hg, hK0, hnm⟩ := hB
  have hown : s.vm.findClass "ShareGridModel" = some m.cls := hown
  have hK := hK0.1
  have hN := hK0.2.1
  obtain ⟨hz1, hz4, hzn, hz7⟩ := id hz
  obtain ⟨hq, hq6, hwr, hbo⟩ := id hI
  have hl : lv_has ls 5 [(0, .ref (bd 0)), (1, .int x)] := hl
  refine lv_aload_n hx hb d_M_sound_0 rfl (lv_at hl 0 rfl) ?_
  refine lv_iload_n hx hb d_M_sound_1 rfl (lv_at hl 1 rfl) ?_
  refine xv_R (n := 1) (As := [.int x]) (rest := []) hx hb hml hown hg hK0 hP (c_M_fileOf l D T A _ bd K N q hz hM g hs c0 w hI x) w_424 w_6 w_421 w_423 s_21 (ma_0 hM) rfl rfl (by decide +kernel) ⟨Nat.le_of_ble_eq_true rfl, Nat.le_of_ble_eq_true rfl⟩ rfl hl.1 rfl (Nat.le_of_ble_eq_true rfl) ⟨Nat.zero_le _, Nat.zero_le _⟩ rfl rfl d_M_sound_2 (fun r hr => ?_)
  subst hr
  refine x_fr (pc := 5) [.int (fuF g c0 x)] rfl rfl ?_
  refine lv_istore_n (lv' := [(2, .int (fuF g c0 x)), (0, .ref (bd 0)), (1, .int x)]) hx hb d_M_sound_5 rfl hl (by decide) rfl (fun ls hl => ?_)
  refine lv_iload_n hx hb d_M_sound_6 rfl (lv_at hl 0 rfl) ?_
  refine lv_if_ge (tgt := 12) hx hb d_M_sound_7 (by decide) (fun c7 => ?_) (fun c7 => ?_)
  · obtain ⟨f, hf, hfe⟩ := fuF_ge (g := g) (q := c0) (x := x) c7
    rw [hfe] at hl
    have ef : (fuF g c0 x).toNatClampNeg = f := by rw [hfe, nI_clamp (by omega)]
    refine lv_iconst (v := nI 0) hx hb d_M_sound_12 (by decide) ?_
    refine lv_istore_n (lv' := [(3, .int (nI 0)), (2, .int (nI f)), (0, .ref (bd 0)), (1, .int x)]) hx hb d_M_sound_13 rfl hl (by decide) rfl (fun ls hl => ?_)
    refine lv_iconst (v := nI 0) hx hb d_M_sound_14 (by decide) ?_
    refine lv_istore (lv' := [(4, .int (nI 0)), (3, .int (nI 0)), (2, .int (nI f)), (0, .ref (bd 0)), (1, .int x)]) hx hb d_M_sound_15 hl (by decide) rfl (fun ls hl => ?_)
    have loop : ∀ (n : Nat) (i : Nat), N + 1 ≤ i + n → i ≤ N → ∀ (ls : Array Slot), lv_has ls 5 [(0, .ref (bd 0)), (1, .int x), (2, .int (nI f)), (3, .int (nI (cuF (spF N g f) i))), (4, .int (nI i))] → W p l e (rmH 3) s m [.ref (bd 0), .int x].toArray below meth c s.heap [] 0 0 Q (F0 m 17 ls []) := by
      intro n
      induction n with
      | zero =>
        intro i h2 h1
        exact absurd h2 (by omega)
      | succ n ih =>
        intro i h2 h1 ls hl
        refine lv_iload hx hb d_M_sound_17 (lv_at hl 4 rfl) ?_
        refine lv_aload_n hx hb d_M_sound_19 rfl (lv_at hl 0 rfl) ?_
        refine x_get (v := .int (nI N)) (C := R_M) (T := F_M) (N := 17) hx hb hg i_M hown hK hP (ma_0 hM) rfl 1 (by decide) (hg _ w_355) (fun _ h9 => h9) rfl d_M_sound_20 ?_
        refine x_nc_ge (tgt := 55) hx hb d_M_sound_23 (by decide) (by omega) (by omega) (fun c1 => ?_) (fun c1 => ?_)
        · have hiN : i = N := by omega
          subst hiN
          refine lv_iload_n hx hb d_M_sound_55 rfl (lv_at hl 3 rfl) ?_
          exact hret _ _ _ d_M_sound_56 (by rw [aSound, if_pos c7, ef])
        · refine lv_aload_n hx hb d_M_sound_26 rfl (lv_at hl 0 rfl) ?_
          refine x_get (v := .ref (bd 1)) (C := R_M) (T := F_M) (N := 17) hx hb hg i_M hown hK hP (ma_0 hM) rfl 2 (by decide) (hg _ w_356) (fun _ h9 => h9) rfl d_M_sound_27 ?_
          refine lv_iload hx hb d_M_sound_30 (lv_at hl 4 rfl) ?_
          refine x_zald (v := q 1 i) hx hb hK hP 1 (ma_1 hM) rfl (vp_in_nI (by omega) (by omega)) (by rw [nI_clamp (by omega)]) d_M_sound_32 ?_
          refine x_top (y := (g 1 0 0 i)) (hs.up (by omega)) ?_
          refine lv_if_eq (tgt := 49) hx hb d_M_sound_33 (by decide) (fun c2 => ?_) (fun c2 => ?_)
          · have ecu : cuF (spF N g f) (i + 1) = cuF (spF N g f) i := cuF_z (by rw [spF, if_pos c2])
            refine lv_iinc (v := nI (i + 1)) (lv' := [(4, .int (nI (i + 1))), (0, .ref (bd 0)), (1, .int x), (2, .int (nI f)), (3, .int (nI (cuF (spF N g f) i)))]) hx hb d_M_sound_49 hl (k := 4) rfl (nI_1 _) (by decide) rfl (fun ls hl => ?_)
            refine lv_goto (tgt := 17) hx hb d_M_sound_52 (by decide) ?_
            exact ih (i + 1) (by omega) (by omega) ls (by rw [ecu]; exact (lv_sub hl [1, 2, 3, 4, 0] rfl))
          · refine lv_aload_n hx hb d_M_sound_36 rfl (lv_at hl 0 rfl) ?_
            refine lv_iload_n hx hb d_M_sound_37 rfl (lv_at hl 2 rfl) ?_
            refine lv_iload hx hb d_M_sound_38 (lv_at hl 4 rfl) ?_
            refine xv_R (n := 2) (As := [.int (nI f), .int (nI i)]) (rest := []) hx hb hml hown hg hK0 hP (c_M_isSound l D T A _ bd K N q hz hM g hs c0 w hI f i (by omega) (by omega)) w_472 w_6 w_469 w_471 s_30 (ma_0 hM) rfl rfl (by decide +kernel) ⟨Nat.le_of_ble_eq_true rfl, Nat.le_of_ble_eq_true rfl⟩ rfl hl.1 rfl (Nat.le_of_ble_eq_true rfl) ⟨Nat.zero_le _, Nat.zero_le _⟩ rfl rfl d_M_sound_40 (fun r hr => ?_)
            subst hr
            refine x_fr (pc := 43) [.int (sdG N g f i)] rfl rfl ?_
            refine lv_if_eq (tgt := 49) hx hb d_M_sound_43 (by decide) (fun c3 => ?_) (fun c3 => ?_)
            · have ecu : cuF (spF N g f) (i + 1) = cuF (spF N g f) i := cuF_z (by rw [spF, if_neg c2]; exact c3)
              refine lv_iinc (v := nI (i + 1)) (lv' := [(4, .int (nI (i + 1))), (0, .ref (bd 0)), (1, .int x), (2, .int (nI f)), (3, .int (nI (cuF (spF N g f) i)))]) hx hb d_M_sound_49 hl (k := 4) rfl (nI_1 _) (by decide) rfl (fun ls hl => ?_)
              refine lv_goto (tgt := 17) hx hb d_M_sound_52 (by decide) ?_
              exact ih (i + 1) (by omega) (by omega) ls (by rw [ecu]; exact (lv_sub hl [1, 2, 3, 4, 0] rfl))
            · have ecu : cuF (spF N g f) (i + 1) = cuF (spF N g f) i + 1 := cuF_s (by rw [spF, if_neg c2]; exact c3)
              refine lv_iinc (v := nI ((cuF (spF N g f) i) + 1)) (lv' := [(3, .int (nI ((cuF (spF N g f) i) + 1))), (0, .ref (bd 0)), (1, .int x), (2, .int (nI f)), (4, .int (nI i))]) hx hb d_M_sound_46 hl (k := 3) rfl (nI_1 _) (by decide) rfl (fun ls hl => ?_)
              refine lv_iinc (v := nI (i + 1)) (lv' := [(4, .int (nI (i + 1))), (3, .int (nI ((cuF (spF N g f) i) + 1))), (0, .ref (bd 0)), (1, .int x), (2, .int (nI f))]) hx hb d_M_sound_49 hl (k := 4) rfl (nI_1 _) (by decide) rfl (fun ls hl => ?_)
              refine lv_goto (tgt := 17) hx hb d_M_sound_52 (by decide) ?_
              exact ih (i + 1) (by omega) (by omega) ls (by rw [ecu]; exact (lv_sub hl [2, 3, 4, 1, 0] rfl))
    exact loop (N + 1) 0 (by omega) (by omega) ls (lv_sub hl [3, 4, 2, 1, 0] rfl)
  · refine lv_iconst (v := (-1)) hx hb d_M_sound_10 (by decide) ?_
    exact hret _ _ _ d_M_sound_11 (by rw [aSound, if_neg c7])
set_option maxHeartbeats 4000000 in
set_option maxRecDepth 100000 in
theorem c_M_best (l : Launch) (D : va_G) (T : Nat → ClassId) (A : Nat → Prop) (M : xM) (bd : Nat → Nat) (K N : Nat) (q : Nat → Nat → Int32) (hz : zB K N) (hM : mG T bd K N q M) (g : gT) (hs : sM K N g q) (c0 : Nat) (w : Nat → Nat) (hI : iG N g c0 w) (x : Int32) : Met l y_M_best (Cond.code y_M_best b_M_best 3 (some .int) :: gw) (rmH 5) (xPc D T A M [.ref (bd 0), .int x]) (xR (fun r => r = some (.int (aBest K N g c0 x)))) 0 0 (fun _ => False) := by
  refine xMetRi (by decide) (Nat.le_of_ble_eq_true rfl) ?_
  intro p e s m below meth c Q ls hB hP hl hret
  obtain ⟨hx, hb, hml, hown, hg, hK0, hnm⟩ := hB
  have hown : s.vm.findClass "ShareGridModel" = some m.cls := hown
  have hK := hK0.1
  have hN := hK0.2.1
  obtain ⟨hz1, hz4, hzn, hz7⟩ := id hz
  obtain ⟨hq, hq6, hwr, hbo⟩ := id hI
  have hl : lv_has ls 3 [(0, .ref (bd 0)), (1, .int x)] := hl
  refine lv_aload_n hx hb d_M_best_0 rfl (lv_at hl 0 rfl) ?_
  refine lv_iload_n hx hb d_M_best_1 rfl (lv_at hl 1 rfl) ?_
  refine xv_R (n := 1) (As := [.int x]) (rest := []) hx hb hml hown hg hK0 hP (c_M_fileOf l D T A _ bd K N q hz hM g hs c0 w hI x) w_424 w_6 w_421 w_423 s_21 (ma_0 hM) rfl rfl (by decide +kernel) ⟨Nat.le_of_ble_eq_true rfl, Nat.le_of_ble_eq_true rfl⟩ rfl hl.1 rfl (Nat.le_of_ble_eq_true rfl) ⟨Nat.zero_le _, Nat.zero_le _⟩ rfl rfl d_M_best_2 (fun r hr => ?_)
  subst hr
  refine x_fr (pc := 5) [.int (fuF g c0 x)] rfl rfl ?_
  refine lv_istore_n (lv' := [(2, .int (fuF g c0 x)), (0, .ref (bd 0)), (1, .int x)]) hx hb d_M_best_5 rfl hl (by decide) rfl (fun ls hl => ?_)
  refine lv_iload_n hx hb d_M_best_6 rfl (lv_at hl 0 rfl) ?_
  refine lv_if_ge (tgt := 14) hx hb d_M_best_7 (by decide) (fun c7 => ?_) (fun c7 => ?_)
  · obtain ⟨f, hf, hfe⟩ := fuF_ge (g := g) (q := c0) (x := x) c7
    rw [hfe] at hl
    have ef : (fuF g c0 x).toNatClampNeg = f := by rw [hfe, nI_clamp (by omega)]
    refine lv_aload_n hx hb d_M_best_14 rfl (lv_at hl 1 rfl) ?_
    refine lv_iload_n hx hb d_M_best_15 rfl (lv_at hl 0 rfl) ?_
    refine xv_R (n := 1) (As := [.int (nI f)]) (rest := []) hx hb hml hown hg hK0 hP (c_M_bestOf l D T A _ bd K N q hz hM g hs c0 w hI f (by omega)) w_464 w_6 w_461 w_463 s_28 (ma_0 hM) rfl rfl (by decide +kernel) ⟨Nat.le_of_ble_eq_true rfl, Nat.le_of_ble_eq_true rfl⟩ rfl hl.1 rfl (Nat.le_of_ble_eq_true rfl) ⟨Nat.zero_le _, Nat.zero_le _⟩ rfl rfl d_M_best_16 (fun r hr => ?_)
    subst hr
    refine x_fr (pc := 19) [.int (nI (beF K N g f))] rfl rfl ?_
    exact hret _ _ _ d_M_best_19 (by rw [aBest, if_pos c7, ef])
  · refine lv_iconst (v := (-1)) hx hb d_M_best_10 (by decide) ?_
    refine lv_goto (tgt := 19) hx hb d_M_best_11 (by decide) ?_
    exact hret _ _ _ d_M_best_19 (by rw [aBest, if_neg c7])
set_option maxHeartbeats 4000000 in
set_option maxRecDepth 100000 in
theorem c_M_share (l : Launch) (D : va_G) (T : Nat → ClassId) (A : Nat → Prop) (M : xM) (bd : Nat → Nat) (K N : Nat) (q : Nat → Nat → Int32) (hz : zB K N) (hM : mG T bd K N q M) (g : gT) (hs : sM K N g q) (c0 : Nat) (w : Nat → Nat) (hI : iG N g c0 w) (x y z : Int32) : Met l y_M_share (Cond.code y_M_share b_M_share 4 (some .long) :: gw) (rmH 1) (xPc D T A M [.ref (bd 0), .int x, .int y, .int z]) (xR (fun r => r = some (.long (aShare N g x y z)))) 0 0 (fun _ => False) := by
  refine xMetRl (by decide) (Nat.le_of_ble_eq_true rfl) ?_
  intro p e s m below meth c Q ls hB hP hl hret
  obtain ⟨hx, hb, hml, hown, hg, hK0, hnm⟩ := hB
  have hown : s.vm.findClass "ShareGridModel" = some m.cls := hown
  have hK := hK0.1
  have hN := hK0.2.1
  obtain ⟨hz1, hz4, hzn, hz7⟩ := id hz
  obtain ⟨hq, hq6, hwr, hbo⟩ := id hI
  have hl : lv_has ls 4 [(0, .ref (bd 0)), (1, .int x), (2, .int y), (3, .int z)] := hl
  refine lv_aload_n hx hb d_M_share_0 rfl (lv_at hl 0 rfl) ?_
  refine lv_iload_n hx hb d_M_share_1 rfl (lv_at hl 1 rfl) ?_
  refine lv_iload_n hx hb d_M_share_2 rfl (lv_at hl 2 rfl) ?_
  refine xv_R (n := 2) (As := [.int x, .int y]) (rest := []) hx hb hml hown hg hK0 hP (c_M_bad l D T A _ bd K N q hz hM g hs c0 w hI x y) w_517 w_6 w_514 w_516 s_35 (ma_0 hM) rfl rfl (by decide +kernel) ⟨Nat.le_of_ble_eq_true rfl, Nat.le_of_ble_eq_true rfl⟩ rfl hl.1 rfl (Nat.le_of_ble_eq_true rfl) ⟨Nat.zero_le _, Nat.zero_le _⟩ rfl rfl d_M_share_3 (fun r hr => ?_)
  subst hr
  refine x_fr (pc := 6) [.int (baF N g x y)] rfl rfl ?_
  refine lv_if_ne (tgt := 32) hx hb d_M_share_6 (by decide) (fun c_6 => ?_) (fun c_6 => ?_)
  · refine lv_ldc2 (v := (-1000000000000)) hx hb hown (hg _ w_489) d_M_share_32 ?_
    exact hret _ _ _ d_M_share_35 (by
      rcases baF_1 (show ¬ baF N g x y = 0 from c_6) with h | ⟨h, h1⟩
      · rw [aShare, if_pos h]
      · rw [aShare, if_neg h, if_pos h1])
  · obtain ⟨c5, c13⟩ := baF_0 (show baF N g x y = 0 from by simpa using c_6)
    have c8 := c5
    rw [hq] at c8
    obtain ⟨f, hf, rfl⟩ := inF_j (by omega) c8
    obtain ⟨i, hi, rfl⟩ := inF_j (by omega) c13
    have ef : (nI f).toNatClampNeg = f := nI_clamp (by omega)
    have ei : (nI i).toNatClampNeg = i := nI_clamp (by omega)
    obtain ⟨t8, t0, t1, t2, t3⟩ := hs.rc (f := f) (s := i) (by omega) hi
    refine lv_aload_n hx hb d_M_share_9 rfl (lv_at hl 0 rfl) ?_
    refine x_get (v := .ref (bd 8)) (C := R_M) (T := F_M) (N := 17) hx hb hg i_M hown hK hP (ma_0 hM) rfl 10 (by decide) (hg _ w_364) (fun _ h9 => h9) rfl d_M_share_10 ?_
    refine lv_iload_n hx hb d_M_share_13 rfl (lv_at hl 1 rfl) ?_
    refine lv_bipush (v := nI 7) hx hb d_M_share_14 (by decide) ?_
    refine lv_imul hx hb d_M_share_16 ?_
    refine x_top (y := nI (f * 7)) (pk_mul _ _) ?_
    refine lv_iload_n hx hb d_M_share_17 rfl (lv_at hl 2 rfl) ?_
    refine lv_iadd hx hb d_M_share_18 ?_
    refine x_top (y := nI ((f * 7) + i)) (nI_add _ _) ?_
    refine x_zald (v := q 8 ((f * 7) + i)) hx hb hK hP 1 (ma_8 hM) rfl (vp_in_nI (by omega) (by omega)) (by rw [nI_clamp (by omega)]) d_M_share_19 ?_
    refine x_top (y := (g 17 f i 0)) t8 ?_
    refine lv_if_eq (tgt := 32) hx hb d_M_share_20 (by decide) (fun c_20 => ?_) (fun c_20 => ?_)
    · refine lv_ldc2 (v := (-1000000000000)) hx hb hown (hg _ w_489) d_M_share_32 ?_
      exact hret _ _ _ d_M_share_35 (by rw [aShare, if_neg c5, if_neg c13, ef, ei, if_pos c_20])
    · refine lv_iload_n hx hb d_M_share_23 rfl (lv_at hl 3 rfl) ?_
      refine lv_if_lt (tgt := 32) hx hb d_M_share_24 (by decide) (fun c_24 => ?_) (fun c_24 => ?_)
      · refine lv_ldc2 (v := (-1000000000000)) hx hb hown (hg _ w_489) d_M_share_32 ?_
        exact hret _ _ _ d_M_share_35 (by
          have z0 : ¬ z = 0 ∧ ¬ z = 1 ∧ ¬ z = 2 := by
            refine ⟨fun h => absurd c_24 (by rw [h]; decide), fun h => absurd c_24 (by rw [h]; decide), fun h => absurd c_24 (by rw [h]; decide)⟩
          rw [aShare, if_neg c5, if_neg c13, ef, ei, if_neg c_20, if_neg z0.1, if_neg z0.2.1, if_neg z0.2.2])
      · refine lv_iload_n hx hb d_M_share_27 rfl (lv_at hl 3 rfl) ?_
        refine lv_iconst (v := 2) hx hb d_M_share_28 (by decide) ?_
        refine lv_icmp_le (tgt := 36) hx hb d_M_share_29 (by decide) (fun c_29 => ?_) (fun c_29 => ?_)
        · obtain ⟨j, hj3, hj⟩ : ∃ j : Nat, j < 3 ∧ z = nI j := by
            obtain ⟨j, hj, rfl⟩ := nI_of c_24
            have := (nI_leI hj (b := 2) (by omega)).mp c_29
            exact ⟨j, by omega, rfl⟩
          rw [hj] at hl
          have ev : q 7 (f * 70 + i * 10 + j) = if z = 0 then g 17 f i 1 else if z = 1 then g 17 f i 2 else g 17 f i 3 := by
            rcases (show j = 0 ∨ j = 1 ∨ j = 2 by omega) with rfl | rfl | rfl
            · rw [hj, if_pos (show nI 0 = 0 by decide), show f * 70 + i * 10 + 0 = (f * 7 + i) * 10 by omega]; exact t0
            · rw [hj, if_neg (by decide), if_pos (show nI 1 = 1 by decide), show f * 70 + i * 10 + 1 = (f * 7 + i) * 10 + 1 by omega]; exact t1
            · rw [hj, if_neg (by decide), if_neg (by decide), show f * 70 + i * 10 + 2 = (f * 7 + i) * 10 + 2 by omega]; exact t2
          refine lv_aload_n hx hb d_M_share_36 rfl (lv_at hl 0 rfl) ?_
          refine x_get (v := .ref (bd 7)) (C := R_M) (T := F_M) (N := 17) hx hb hg i_M hown hK hP (ma_0 hM) rfl 9 (by decide) (hg _ w_363) (fun _ h9 => h9) rfl d_M_share_37 ?_
          refine lv_iload_n hx hb d_M_share_40 rfl (lv_at hl 1 rfl) ?_
          refine lv_bipush (v := nI 70) hx hb d_M_share_41 (by decide) ?_
          refine lv_imul hx hb d_M_share_43 ?_
          refine x_top (y := nI (f * 70)) (pk_mul _ _) ?_
          refine lv_iload_n hx hb d_M_share_44 rfl (lv_at hl 2 rfl) ?_
          refine lv_bipush (v := nI 10) hx hb d_M_share_45 (by decide) ?_
          refine lv_imul hx hb d_M_share_47 ?_
          refine x_top (y := nI (i * 10)) (pk_mul _ _) ?_
          refine lv_iadd hx hb d_M_share_48 ?_
          refine x_top (y := nI ((f * 70) + (i * 10))) (nI_add _ _) ?_
          refine lv_iload_n hx hb d_M_share_49 rfl (lv_at hl 3 rfl) ?_
          refine lv_iadd hx hb d_M_share_50 ?_
          refine x_top (y := nI (((f * 70) + (i * 10)) + j)) (nI_add _ _) ?_
          refine x_iald (v := q 7 (((f * 70) + (i * 10)) + j)) hx hb hK hP 0 (ma_7 hM) rfl (vp_in_nI (by omega) (by omega)) (by rw [nI_clamp (by omega)]) d_M_share_51 ?_
          refine lv_i2l (v := (q 7 (((f * 70) + (i * 10)) + j)).toInt64) hx hb d_M_share_52 rfl ?_
          exact hret _ _ _ d_M_share_53 (by
            rw [ev, aShare, if_neg c5, if_neg c13, ef, ei, if_neg c_20]
            rcases (show j = 0 ∨ j = 1 ∨ j = 2 by omega) with rfl | rfl | rfl
            · rw [hj]; rfl
            · rw [hj]; rfl
            · rw [hj]; rfl)
        · refine lv_ldc2 (v := (-1000000000000)) hx hb hown (hg _ w_489) d_M_share_32 ?_
          exact hret _ _ _ d_M_share_35 (by
            have z0 : ¬ z = 0 ∧ ¬ z = 1 ∧ ¬ z = 2 := by
              refine ⟨fun h => c_29 (by rw [h]; decide), fun h => c_29 (by rw [h]; decide), fun h => c_29 (by rw [h]; decide)⟩
            rw [aShare, if_neg c5, if_neg c13, ef, ei, if_neg c_20, if_neg z0.1, if_neg z0.2.1, if_neg z0.2.2])
end
section
/-! the reference: small writes -/
def pM (T : Nat → ClassId) (bd : Nat → Nat) (K N : Nat) (M : xM) (an : Int32 × gT) (r : Option Value) (M1 : xM) : Prop := r = some (.int an.1) ∧ ∃ q', mR T bd K N M q' M1 ∧ sM K N an.2 q'
section SU
variable {K N : Nat} {g g' : gT} {q q' : qT}
theorem upd_eq {a b : Nat → Int32} {j : Nat} {y : Int32} {i : Nat} (h : i ≠ j → a i = b i) : upd a j y i = upd b j y i := by
  by_cases e : i = j
  · subst e; rw [upd_s, upd_s]
  · rw [upd_n e, upd_n e]; exact h e
theorem sM_draft (h : sM K N g q) {j : Nat} {y : Int32} : sM K N (upS g 4 0 0 (upd (g 4 0 0) j y)) (upQ q 9 (upd (q 9) j y)) := by
  obtain ⟨a1, a2, a3, a4, a5, a6, a7⟩ := h
  exact ⟨a1, a2, a3, a4, a5, a6, fun i hi => ⟨upd_eq (fun _ => (a7 i hi).1), (a7 i hi).2⟩⟩
theorem sM_server (h : sM K N g q) {j : Nat} {u k : Int32} : sM K N (upS (upS g 1 0 0 (upd (g 1 0 0) j u)) 2 0 0 (upd (g 2 0 0) j k)) (upQ (upQ q 1 (upd (q 1) j u)) 2 (upd (q 2) j k)) := by
  obtain ⟨a1, a2, a3, a4, a5, a6, a7⟩ := h
  exact ⟨a1, a2, fun s hs => ⟨upd_eq (fun _ => (a3 s hs).1), upd_eq (fun _ => (a3 s hs).2)⟩, a4, a5, a6, a7⟩
theorem sM_create (h : sM K N g q) {c0 : Nat} {v : Int32} : sM K N (upS (upS g 12 c0 0 (upd (g 12 c0 0) 0 v)) 0 0 0 (upd (g 0 0 0) 0 (nI (c0 + 1)))) (upQ (upQ q 3 (upd (q 3) c0 v)) 0 (upd (q 0) 0 (nI (c0 + 1)))) := by
  obtain ⟨a1, a2, a3, a4, a5, a6, a7⟩ := h
  refine ⟨rfl, a2, a3, fun f hf => ?_, a5, a6, a7⟩
  by_cases e : f = c0
  · subst e
    rw [upS_n (by omega), upS_s]
    exact ⟨upd_s, (a4 f hf).2⟩
  · rw [upS_n (by omega), upS_n (by omega)]
    exact ⟨(upd_n e).trans (a4 f hf).1, (a4 f hf).2⟩
theorem sM_rec (h : sM K N g q) {f s : Nat} (hf : f < 6) (hs : s < N) (h7 : N ≤ 7) (hg : ∀ k f1 s1, ¬ ((k = 17 ∨ k = 18) ∧ f1 = f ∧ s1 = s) → g' k f1 s1 = g k f1 s1) (hq : ∀ k, k ≠ 7 → k ≠ 8 → q' k = q k) (h8 : ∀ a, a ≠ f * 7 + s → q' 8 a = q 8 a) (hr7 : ∀ a b, a ≠ f * 7 + s → b < 10 → q' 7 (a * 10 + b) = q 7 (a * 10 + b)) (hr : rwS N q' (f * 7 + s) (g' 17 f s) (g' 18 f s)) : sM K N g' q' := by
  obtain ⟨a1, a2, a3, a4, a5, a6, a7⟩ := h
  have ow : ∀ (at0 : Nat) (x y : Nat → Int32), at0 ≠ f * 7 + s → rwS N q at0 x y → rwS N q' at0 x y := by
    intro at0 x y hne ⟨b1, b2, b3, b4, b5⟩
    refine ⟨(h8 _ hne).trans b1, ?_, (hr7 _ 1 hne (by omega)).trans b3, (hr7 _ 2 hne (by omega)).trans b4, fun j hj => ?_⟩
    · have := hr7 at0 0 hne (by omega); rw [Nat.add_zero] at this; exact this.trans b2
    · have := hr7 at0 (3 + j) hne (by omega); rw [← Nat.add_assoc] at this; exact this.trans (b5 j hj)
  refine ⟨?_, ?_, fun t ht => ?_, fun t ht => ?_, fun t j ht hj => ?_, fun t u ht hu => ⟨?_, ?_⟩, fun i hi => ?_⟩
  · rw [hq 0 (by omega) (by omega), hg 0 0 0 (by omega)]; exact a1
  · rw [hq 0 (by omega) (by omega), hg 0 0 0 (by omega)]; exact a2
  · rw [hq 1 (by omega) (by omega), hq 2 (by omega) (by omega), hg 1 0 0 (by omega), hg 2 0 0 (by omega)]; exact a3 t ht
  · rw [hq 3 (by omega) (by omega), hq 4 (by omega) (by omega), hg 12 t 0 (by omega)]; exact a4 t ht
  · rw [hq 5 (by omega) (by omega), hq 6 (by omega) (by omega), hg 15 t 0 (by omega), hg 16 t 0 (by omega)]; exact a5 t j ht hj
  · by_cases e : t = f ∧ u = s
    · obtain ⟨rfl, rfl⟩ := e; exact hr
    · rw [hg 17 t u (by omega), hg 18 t u (by omega)]; exact ow _ _ _ (by omega) (a6 t u ht hu).1
  · rw [hg 19 t u (by omega), hg 20 t u (by omega)]; exact ow _ _ _ (by omega) (a6 t u ht hu).2
  · rw [hq 9 (by omega) (by omega), hq 10 (by omega) (by omega), hg 4 0 0 (by omega), hg 5 0 0 (by omega)]; exact a7 i hi
theorem sM_pic (h : sM K N g q) {f s : Nat} (hf : f < 6) (hs : s < N) (h7 : N ≤ 7) (hg : ∀ k f1 s1, ¬ ((k = 19 ∨ k = 20) ∧ f1 = f ∧ s1 = s) → g' k f1 s1 = g k f1 s1) (hq : ∀ k, k ≠ 7 → k ≠ 8 → q' k = q k) (h8 : ∀ a, a ≠ 42 + f * 7 + s → q' 8 a = q 8 a) (hr7 : ∀ a b, a ≠ 42 + f * 7 + s → b < 10 → q' 7 (a * 10 + b) = q 7 (a * 10 + b)) (hr : rwS N q' (42 + f * 7 + s) (g' 19 f s) (g' 20 f s)) : sM K N g' q' := by
  obtain ⟨a1, a2, a3, a4, a5, a6, a7⟩ := h
  have ow : ∀ (at0 : Nat) (x y : Nat → Int32), at0 ≠ 42 + f * 7 + s → rwS N q at0 x y → rwS N q' at0 x y := by
    intro at0 x y hne ⟨b1, b2, b3, b4, b5⟩
    refine ⟨(h8 _ hne).trans b1, ?_, (hr7 _ 1 hne (by omega)).trans b3, (hr7 _ 2 hne (by omega)).trans b4, fun j hj => ?_⟩
    · have := hr7 at0 0 hne (by omega); rw [Nat.add_zero] at this; exact this.trans b2
    · have := hr7 at0 (3 + j) hne (by omega); rw [← Nat.add_assoc] at this; exact this.trans (b5 j hj)
  refine ⟨?_, ?_, fun t ht => ?_, fun t ht => ?_, fun t j ht hj => ?_, fun t u ht hu => ⟨?_, ?_⟩, fun i hi => ?_⟩
  · rw [hq 0 (by omega) (by omega), hg 0 0 0 (by omega)]; exact a1
  · rw [hq 0 (by omega) (by omega), hg 0 0 0 (by omega)]; exact a2
  · rw [hq 1 (by omega) (by omega), hq 2 (by omega) (by omega), hg 1 0 0 (by omega), hg 2 0 0 (by omega)]; exact a3 t ht
  · rw [hq 3 (by omega) (by omega), hq 4 (by omega) (by omega), hg 12 t 0 (by omega)]; exact a4 t ht
  · rw [hq 5 (by omega) (by omega), hq 6 (by omega) (by omega), hg 15 t 0 (by omega), hg 16 t 0 (by omega)]; exact a5 t j ht hj
  · rw [hg 17 t u (by omega), hg 18 t u (by omega)]; exact ow _ _ _ (by omega) (a6 t u ht hu).1
  · by_cases e : t = f ∧ u = s
    · obtain ⟨rfl, rfl⟩ := e; exact hr
    · rw [hg 19 t u (by omega), hg 20 t u (by omega)]; exact ow _ _ _ (by omega) (a6 t u ht hu).2
  · rw [hq 9 (by omega) (by omega), hq 10 (by omega) (by omega), hg 4 0 0 (by omega), hg 5 0 0 (by omega)]; exact a7 i hi
theorem rwS_7 {at0 p : Nat} {x y x' y' : Nat → Int32} {v : Int32} (h : rwS N q at0 x y) (hN : N ≤ 7) (hp : p < 10) (e0 : x' 0 = x 0) (e1 : x' 1 = if p = 0 then v else x 1) (e2 : x' 2 = if p = 1 then v else x 2) (e3 : x' 3 = if p = 2 then v else x 3) (e4 : ∀ j, j < N → y' j = if p = 3 + j then v else y j) : rwS N (upQ q 7 (upd (q 7) (at0 * 10 + p) v)) at0 x' y' := by
  obtain ⟨b1, b2, b3, b4, b5⟩ := h
  have key : ∀ c, upd (q 7) (at0 * 10 + p) v (at0 * 10 + c) = if p = c then v else q 7 (at0 * 10 + c) := by
    intro c
    by_cases e : p = c
    · subst e; rw [upd_s, if_pos rfl]
    · rw [upd_n (by omega), if_neg e]
  refine ⟨by rw [upQ_n (by omega), e0]; exact b1, ?_, ?_, ?_, fun j hj => ?_⟩
  · rw [upQ_s]; have := key 0; rw [Nat.add_zero] at this; rw [this, e1, b2]
  · rw [upQ_s, key 1, e2, b3]
  · rw [upQ_s, key 2, e3, b4]
  · rw [upQ_s]; have := key (3 + j); rw [← Nat.add_assoc] at this; rw [this, e4 j hj, b5 j hj]
end SU
theorem upQ_uu {q : qT} {k : Nat} {h h' : Nat → Int32} : upQ (upQ q k h) k h' = upQ q k h' := by
  funext k1
  by_cases e : k1 = k
  · subst e; rw [upQ_s, upQ_s]
  · rw [upQ_n e, upQ_n e, upQ_n e]
set_option maxHeartbeats 4000000 in
set_option maxRecDepth 100000 in
theorem c_M_draft (l : Launch) (D : va_G) (T : Nat → ClassId) (A : Nat → Prop) (M : xM) (bd : Nat → Nat) (K N : Nat) (q : Nat → Nat → Int32) (hz : zB K N) (hM : mG T bd K N q M) (g : gT) (hs : sM K N g q) (c0 : Nat) (w : Nat → Nat) (hI : iG N g c0 w) (x y : Int32) : Met l y_M_draft (Cond.code y_M_draft b_M_draft 3 (some .int) :: gw) (rmH 0) (xPc D T A M [.ref (bd 0), .int x, .int y]) (xQ D A (fun r M1 => pM T bd K N M (aDraft K g x y) r M1)) 0 0 A := by
  refine xMetQi (by decide) (Nat.le_of_ble_eq_true rfl) ?_
  intro p e s m below meth c Q ls hB hP hS hl hret
  obtain ⟨hx, hb, hml, hown, hg, hK0, hnm⟩ := hB
  have hown : s.vm.findClass "ShareGridModel" = some m.cls := hown
  have hK := hK0.1
  have hN := hK0.2.1
  obtain ⟨hz1, hz4, hzn, hz7⟩ := id hz
  obtain ⟨hq, hq6, hwr, hbo⟩ := id hI
  have hR := hM.rf
  have hl : lv_has ls 3 [(0, .ref (bd 0)), (1, .int x), (2, .int y)] := hl
  refine lv_iload_n hx hb d_M_draft_0 rfl (lv_at hl 1 rfl) ?_
  refine lv_if_lt (tgt := 12) hx hb d_M_draft_1 (by decide) (fun c_1 => ?_) (fun c_1 => ?_)
  · refine lv_iconst (v := (-1)) hx hb d_M_draft_12 (by decide) ?_
    exact hret _ _ _ _ _ _ d_M_draft_13 hP hS (by rw [aDraft, if_pos (by simp [inF, c_1])]; exact ⟨rfl, q, hR, hs⟩)
  · refine lv_iload_n hx hb d_M_draft_4 rfl (lv_at hl 1 rfl) ?_
    refine lv_aload_n hx hb d_M_draft_5 rfl (lv_at hl 0 rfl) ?_
    refine x_get (v := .int (nI K)) (C := R_M) (T := F_M) (N := 17) hx hb hg i_M hown hK hP (ma_0 hM) rfl 0 (by decide) (hg _ w_354) (fun _ h9 => h9) rfl d_M_draft_6 ?_
    refine lv_icmp_lt (tgt := 14) hx hb d_M_draft_9 (by decide) (fun c_9 => ?_) (fun c_9 => ?_)
    · have cn : ¬ nI K ≤ x := Int32.not_le.mpr c_9
      have cin : ¬ inF x (nI K) = 0 := by simp [inF, c_1, cn]
      obtain ⟨j, hj, rfl⟩ := inF_j (by omega) cin
      refine lv_aload_n hx hb d_M_draft_14 rfl (lv_at hl 0 rfl) ?_
      refine x_get (v := .ref (bd 9)) (C := R_M) (T := F_M) (N := 17) hx hb hg i_M hown hK hP (ma_0 hM) rfl 11 (by decide) (hg _ w_365) (fun _ h9 => h9) rfl d_M_draft_15 ?_
      refine lv_iload_n hx hb d_M_draft_18 rfl (lv_at hl 1 rfl) ?_
      refine lv_iload_n hx hb d_M_draft_19 rfl (lv_at hl 2 rfl) ?_
      refine x_iast hx hb hK hP hS 0 (ma_9 hM) rfl (vp_in_nI (by omega) (by omega)) d_M_draft_20 (fun H_174 L_175 hP hS => ?_)
      rw [nI_clamp (by omega)] at hP
      obtain ⟨q_176, hq_176⟩ : ∃ z, z = upQ q 9 (upd (q 9) j y) := ⟨_, rfl⟩
      obtain ⟨M_177, hP, hR⟩ : ∃ z, xW D classes A z H_174 ∧ mR T bd K N M q_176 z := ⟨_, hP, by rw [hq_176]; exact hR.set (by omega) rfl⟩
      have hM := hR.1
      refine lv_iconst (v := nI 0) hx hb d_M_draft_21 (by decide) ?_
      exact hret _ _ _ _ _ _ d_M_draft_22 hP hS (by rw [aDraft, if_neg cin, nI_clamp (by omega)]; exact ⟨rfl, _, hR, by rw [hq_176]; exact sM_draft hs⟩)
    · refine lv_iconst (v := (-1)) hx hb d_M_draft_12 (by decide) ?_
      exact hret _ _ _ _ _ _ d_M_draft_13 hP hS (by rw [aDraft, if_pos (by simp [inF, c_1, Int32.not_lt.mp c_9])]; exact ⟨rfl, q, hR, hs⟩)
set_option maxHeartbeats 4000000 in
set_option maxRecDepth 100000 in
theorem c_M_server (l : Launch) (D : va_G) (T : Nat → ClassId) (A : Nat → Prop) (M : xM) (bd : Nat → Nat) (K N : Nat) (q : Nat → Nat → Int32) (hz : zB K N) (hM : mG T bd K N q M) (g : gT) (hs : sM K N g q) (c0 : Nat) (w : Nat → Nat) (hI : iG N g c0 w) (x u k : Int32) (hu : u = 0 ∨ u = 1) (hk : k = 0 ∨ k = 1) : Met l y_M_server (Cond.code y_M_server b_M_server 4 (some .int) :: gw) (rmH 0) (xPc D T A M [.ref (bd 0), .int x, .int u, .int k]) (xQ D A (fun r M1 => pM T bd K N M (aServer N g x u k) r M1)) 0 0 A := by
  refine xMetQi (by decide) (Nat.le_of_ble_eq_true rfl) ?_
  intro p e s m below meth c Q ls hB hP hS hl hret
  obtain ⟨hx, hb, hml, hown, hg, hK0, hnm⟩ := hB
  have hown : s.vm.findClass "ShareGridModel" = some m.cls := hown
  have hK := hK0.1
  have hN := hK0.2.1
  obtain ⟨hz1, hz4, hzn, hz7⟩ := id hz
  obtain ⟨hq, hq6, hwr, hbo⟩ := id hI
  have hR := hM.rf
  have hl : lv_has ls 4 [(0, .ref (bd 0)), (1, .int x), (2, .int u), (3, .int k)] := hl
  refine lv_iload_n hx hb d_M_server_0 rfl (lv_at hl 1 rfl) ?_
  refine lv_if_lt (tgt := 12) hx hb d_M_server_1 (by decide) (fun c_1 => ?_) (fun c_1 => ?_)
  · refine lv_iconst (v := (-1)) hx hb d_M_server_12 (by decide) ?_
    exact hret _ _ _ _ _ _ d_M_server_13 hP hS (by rw [aServer, if_pos (by simp [inF, c_1])]; exact ⟨rfl, q, hR, hs⟩)
  · refine lv_iload_n hx hb d_M_server_4 rfl (lv_at hl 1 rfl) ?_
    refine lv_aload_n hx hb d_M_server_5 rfl (lv_at hl 0 rfl) ?_
    refine x_get (v := .int (nI N)) (C := R_M) (T := F_M) (N := 17) hx hb hg i_M hown hK hP (ma_0 hM) rfl 1 (by decide) (hg _ w_355) (fun _ h9 => h9) rfl d_M_server_6 ?_
    refine lv_icmp_lt (tgt := 14) hx hb d_M_server_9 (by decide) (fun c_9 => ?_) (fun c_9 => ?_)
    · have cn : ¬ nI N ≤ x := Int32.not_le.mpr c_9
      have cin : ¬ inF x (nI N) = 0 := by simp [inF, c_1, cn]
      obtain ⟨j, hj, rfl⟩ := inF_j (by omega) cin
      refine lv_aload_n hx hb d_M_server_14 rfl (lv_at hl 0 rfl) ?_
      refine x_get (v := .ref (bd 1)) (C := R_M) (T := F_M) (N := 17) hx hb hg i_M hown hK hP (ma_0 hM) rfl 2 (by decide) (hg _ w_356) (fun _ h9 => h9) rfl d_M_server_15 ?_
      refine lv_iload_n hx hb d_M_server_18 rfl (lv_at hl 1 rfl) ?_
      refine lv_iload_n hx hb d_M_server_19 rfl (lv_at hl 2 rfl) ?_
      refine x_zast hx hb hK hP hS 1 (ma_1 hM) rfl (vp_in_nI (by omega) (by omega)) d_M_server_20 (fun H_178 L_179 hP hS => ?_)
      rw [show vp_nar .boolean u = u from by rcases hu with h | h <;> rw [h] <;> rfl] at hP
      rw [nI_clamp (by omega)] at hP
      obtain ⟨q_180, hq_180⟩ : ∃ z, z = upQ q 1 (upd (q 1) j u) := ⟨_, rfl⟩
      obtain ⟨M_181, hP, hR⟩ : ∃ z, xW D classes A z H_178 ∧ mR T bd K N M q_180 z := ⟨_, hP, by rw [hq_180]; exact hR.set (by omega) rfl⟩
      have hM := hR.1
      refine lv_aload_n hx hb d_M_server_21 rfl (lv_at hl 0 rfl) ?_
      refine x_get (v := .ref (bd 2)) (C := R_M) (T := F_M) (N := 17) hx hb hg i_M hown hK hP (ma_0 hM) rfl 3 (by decide) (hg _ w_357) (fun _ h9 => h9) rfl d_M_server_22 ?_
      refine lv_iload_n hx hb d_M_server_25 rfl (lv_at hl 1 rfl) ?_
      refine lv_iload_n hx hb d_M_server_26 rfl (lv_at hl 3 rfl) ?_
      refine x_zast hx hb hK hP hS 1 (ma_2 hM) rfl (vp_in_nI (by omega) (by omega)) d_M_server_27 (fun H_182 L_183 hP hS => ?_)
      rw [show vp_nar .boolean k = k from by rcases hk with h | h <;> rw [h] <;> rfl] at hP
      rw [nI_clamp (by omega)] at hP
      obtain ⟨q_184, hq_184⟩ : ∃ z, z = upQ q_180 2 (upd (q_180 2) j k) := ⟨_, rfl⟩
      obtain ⟨M_185, hP, hR⟩ : ∃ z, xW D classes A z H_182 ∧ mR T bd K N M q_184 z := ⟨_, hP, by rw [hq_184]; exact hR.set (by omega) rfl⟩
      have hM := hR.1
      refine lv_iconst (v := nI 0) hx hb d_M_server_28 (by decide) ?_
      exact hret _ _ _ _ _ _ d_M_server_29 hP hS (by rw [aServer, if_neg cin, nI_clamp (by omega)]; exact ⟨rfl, _, hR, by rw [hq_184, hq_180]; exact sM_server hs⟩)
    · refine lv_iconst (v := (-1)) hx hb d_M_server_12 (by decide) ?_
      exact hret _ _ _ _ _ _ d_M_server_13 hP hS (by rw [aServer, if_pos (by simp [inF, c_1, Int32.not_lt.mp c_9])]; exact ⟨rfl, q, hR, hs⟩)
set_option maxHeartbeats 4000000 in
set_option maxRecDepth 100000 in
theorem c_M_create (l : Launch) (D : va_G) (T : Nat → ClassId) (A : Nat → Prop) (M : xM) (bd : Nat → Nat) (K N : Nat) (q : Nat → Nat → Int32) (hz : zB K N) (hM : mG T bd K N q M) (g : gT) (hs : sM K N g q) (c0 : Nat) (w : Nat → Nat) (hI : iG N g c0 w) (x : Int32) : Met l y_M_create (Cond.code y_M_create b_M_create 3 (some .int) :: gw) (rmH 2) (xPc D T A M [.ref (bd 0), .int x]) (xQ D A (fun r M1 => pM T bd K N M (aCreate g c0 x) r M1)) 0 0 A := by
  refine xMetQi (by decide) (Nat.le_of_ble_eq_true rfl) ?_
  intro p e s m below meth c Q ls hB hP hS hl hret
  obtain ⟨hx, hb, hml, hown, hg, hK0, hnm⟩ := hB
  have hown : s.vm.findClass "ShareGridModel" = some m.cls := hown
  have hK := hK0.1
  have hN := hK0.2.1
  obtain ⟨hz1, hz4, hzn, hz7⟩ := id hz
  obtain ⟨hq, hq6, hwr, hbo⟩ := id hI
  have hR := hM.rf
  have hl : lv_has ls 3 [(0, .ref (bd 0)), (1, .int x)] := hl
  refine lv_aload_n hx hb d_M_create_0 rfl (lv_at hl 0 rfl) ?_
  refine lv_iload_n hx hb d_M_create_1 rfl (lv_at hl 1 rfl) ?_
  refine lv_iconst (v := 3) hx hb d_M_create_2 (by decide) ?_
  refine xv_R (n := 2) (As := [.int x, .int 3]) (rest := []) hx hb hml hown hg hK0 hP (c_M_key l D T A _ bd K N q hz hM x 3) w_409 w_6 w_420 w_407 w_408 (ma_0 hM) rfl rfl (by decide +kernel) ⟨Nat.le_of_ble_eq_true rfl, Nat.le_of_ble_eq_true rfl⟩ rfl hl.1 rfl (Nat.le_of_ble_eq_true rfl) ⟨Nat.zero_le _, Nat.zero_le _⟩ rfl rfl d_M_create_3 (fun r hr => ?_)
  subst hr
  refine x_fr (pc := 6) [.int (aKey x 3)] rfl rfl ?_
  refine x_top (y := (mixF (mixF x 1) 2)) (by rfl) ?_
  refine lv_istore_n (lv' := [(2, .int (mixF (mixF x 1) 2)), (0, .ref (bd 0)), (1, .int x)]) hx hb d_M_create_6 rfl hl (by decide) rfl (fun ls hl => ?_)
  refine lv_aload_n hx hb d_M_create_7 rfl (lv_at hl 1 rfl) ?_
  refine lv_iload_n hx hb d_M_create_8 rfl (lv_at hl 0 rfl) ?_
  refine xv_R (n := 1) (As := [.int (mixF (mixF x 1) 2)]) (rest := []) hx hb hml hown hg hK0 hP (c_M_fileOf l D T A _ bd K N q hz hM g hs c0 w hI (mixF (mixF x 1) 2)) w_424 w_6 w_421 w_423 s_21 (ma_0 hM) rfl rfl (by decide +kernel) ⟨Nat.le_of_ble_eq_true rfl, Nat.le_of_ble_eq_true rfl⟩ rfl hl.1 rfl (Nat.le_of_ble_eq_true rfl) ⟨Nat.zero_le _, Nat.zero_le _⟩ rfl rfl d_M_create_9 (fun r hr => ?_)
  subst hr
  refine x_fr (pc := 12) [.int (fuF g c0 (mixF (mixF x 1) 2))] rfl rfl ?_
  refine lv_if_lt (tgt := 17) hx hb d_M_create_12 (by decide) (fun c_12 => ?_) (fun c_12 => ?_)
  · refine lv_aload_n hx hb d_M_create_17 rfl (lv_at hl 1 rfl) ?_
    refine x_get (v := .int (q 0 0)) (C := R_M) (T := F_M) (N := 17) hx hb hg i_M hown hK hP (ma_0 hM) rfl 6 (by decide) (hg _ w_360) (fun _ h9 => h9) rfl d_M_create_18 ?_
    refine x_top (y := nI c0) (hs.n.trans hq) ?_
    refine lv_bipush (v := nI 6) hx hb d_M_create_21 (by decide) ?_
    refine x_nc_ne (tgt := 29) hx hb d_M_create_23 (by decide) (by omega) (by omega) (fun c_23 => ?_) (fun c_23 => ?_)
    · refine lv_aload_n hx hb d_M_create_29 rfl (lv_at hl 1 rfl) ?_
      refine x_get (v := .ref (bd 3)) (C := R_M) (T := F_M) (N := 17) hx hb hg i_M hown hK hP (ma_0 hM) rfl 4 (by decide) (hg _ w_358) (fun _ h9 => h9) rfl d_M_create_30 ?_
      refine lv_aload_n hx hb d_M_create_33 rfl (lv_at hl 1 rfl) ?_
      refine x_get (v := .int (q 0 0)) (C := R_M) (T := F_M) (N := 17) hx hb hg i_M hown hK hP (ma_0 hM) rfl 6 (by decide) (hg _ w_360) (fun _ h9 => h9) rfl d_M_create_34 ?_
      refine x_top (y := nI c0) (hs.n.trans hq) ?_
      refine lv_iload_n hx hb d_M_create_37 rfl (lv_at hl 0 rfl) ?_
      refine x_iast hx hb hK hP hS 0 (ma_3 hM) rfl (vp_in_nI (by omega) (by omega)) d_M_create_38 (fun H_186 L_187 hP hS => ?_)
      rw [nI_clamp (by omega)] at hP
      obtain ⟨q_188, hq_188⟩ : ∃ z, z = upQ q 3 (upd (q 3) c0 (mixF (mixF x 1) 2)) := ⟨_, rfl⟩
      obtain ⟨M_189, hP, hR⟩ : ∃ z, xW D classes A z H_186 ∧ mR T bd K N M q_188 z := ⟨_, hP, by rw [hq_188]; exact hR.set (by omega) rfl⟩
      have hM := hR.1
      have hq1 : q_188 0 0 = nI c0 := by rw [hq_188]; exact hs.n.trans hq
      refine lv_aload_n hx hb d_M_create_39 rfl (lv_at hl 1 rfl) ?_
      refine lv_dup hx hb d_M_create_40 rfl ?_
      refine x_get (v := .int (q_188 0 0)) (C := R_M) (T := F_M) (N := 17) hx hb hg i_M hown hK hP (ma_0 hM) rfl 6 (by decide) (hg _ w_360) (fun _ h9 => h9) rfl d_M_create_41 ?_
      refine x_top (y := nI c0) hq1 ?_
      refine lv_iconst (v := nI 1) hx hb d_M_create_44 (by decide) ?_
      refine lv_iadd hx hb d_M_create_45 ?_
      refine x_top (y := nI (c0 + 1)) (nI_add _ _) ?_
      refine x_put (v := .int (nI (c0 + 1))) (ty := .int) (C := R_M) (T := F_M) (N := 17) hx hb hg i_M t_M t_M_ok n_M hown hK hP hS (ma_0 hM) rfl 6 (by decide) (hg _ w_360) (fun _ h9 => h9) rfl (by decide +kernel) rfl rfl (Nat.le_of_ble_eq_true rfl) d_M_create_46 (fun H_190 L_191 hP hS => ?_)
      obtain ⟨q_192, hq_192⟩ : ∃ z, z = upQ q_188 0 (upd (q_188 0) 0 (nI (c0 + 1))) := ⟨_, rfl⟩
      obtain ⟨M_193, hP, hR⟩ : ∃ z, xW D classes A z H_190 ∧ mR T bd K N M q_192 z := ⟨_, hP, by rw [hq_192]; exact hR.set (by omega) rfl⟩
      have hM := hR.1
      have hq2 : q_192 0 0 = nI (c0 + 1) := by rw [hq_192]; rfl
      refine lv_aload_n hx hb d_M_create_49 rfl (lv_at hl 1 rfl) ?_
      refine x_get (v := .int (q_192 0 0)) (C := R_M) (T := F_M) (N := 17) hx hb hg i_M hown hK hP (ma_0 hM) rfl 6 (by decide) (hg _ w_360) (fun _ h9 => h9) rfl d_M_create_50 ?_
      refine x_top (y := nI (c0 + 1)) hq2 ?_
      refine lv_iconst (v := nI 1) hx hb d_M_create_53 (by decide) ?_
      refine lv_isub hx hb d_M_create_54 ?_
      refine x_top (y := nI ((c0 + 1) - 1)) (pk_sub (by omega)) ?_
      exact hret _ _ _ _ _ _ d_M_create_55 hP hS (by rw [aCreate, if_neg (show ¬ 0 ≤ fdF (fun f => g 12 f 0 0) (mixF (mixF x 1) 2) 0 c0 from Int32.not_le.mpr c_12), if_neg (by omega)]; exact ⟨by rw [show c0 + 1 - 1 = c0 by omega], _, hR, by rw [hq_192, hq_188]; exact sM_create hs⟩)
    · refine lv_bipush (v := (-2)) hx hb d_M_create_26 (by decide) ?_
      exact hret _ _ _ _ _ _ d_M_create_28 hP hS (by rw [aCreate, if_neg (show ¬ 0 ≤ fdF (fun f => g 12 f 0 0) (mixF (mixF x 1) 2) 0 c0 from Int32.not_le.mpr c_12), if_pos (by omega)]; exact ⟨rfl, q, hR, hs⟩)
  · refine lv_iconst (v := (-1)) hx hb d_M_create_15 (by decide) ?_
    exact hret _ _ _ _ _ _ d_M_create_16 hP hS (by rw [aCreate, if_pos (show 0 ≤ fdF (fun f => g 12 f 0 0) (mixF (mixF x 1) 2) 0 c0 from Int32.not_lt.mp c_12)]; exact ⟨rfl, q, hR, hs⟩)
set_option maxHeartbeats 4000000 in
set_option maxRecDepth 100000 in
theorem c_M_wipe (l : Launch) (D : va_G) (T : Nat → ClassId) (A : Nat → Prop) (M : xM) (bd : Nat → Nat) (K N : Nat) (q : Nat → Nat → Int32) (hz : zB K N) (hM : mG T bd K N q M) (g : gT) (hs : sM K N g q) (c0 : Nat) (w : Nat → Nat) (hI : iG N g c0 w) (x y : Int32) : Met l y_M_wipe (Cond.code y_M_wipe b_M_wipe 3 (some .int) :: gw) (rmH 1) (xPc D T A M [.ref (bd 0), .int x, .int y]) (xQ D A (fun r M1 => pM T bd K N M (aWipe N g x y) r M1)) 0 0 A := by
  refine xMetQi (by decide) (Nat.le_of_ble_eq_true rfl) ?_
  intro p e s m below meth c Q ls hB hP hS hl hret
  obtain ⟨hx, hb, hml, hown, hg, hK0, hnm⟩ := hB
  have hown : s.vm.findClass "ShareGridModel" = some m.cls := hown
  have hK := hK0.1
  have hN := hK0.2.1
  obtain ⟨hz1, hz4, hzn, hz7⟩ := id hz
  obtain ⟨hq, hq6, hwr, hbo⟩ := id hI
  have hR := hM.rf
  have hl : lv_has ls 3 [(0, .ref (bd 0)), (1, .int x), (2, .int y)] := hl
  refine lv_aload_n hx hb d_M_wipe_0 rfl (lv_at hl 0 rfl) ?_
  refine lv_iload_n hx hb d_M_wipe_1 rfl (lv_at hl 1 rfl) ?_
  refine lv_iload_n hx hb d_M_wipe_2 rfl (lv_at hl 2 rfl) ?_
  refine xv_R (n := 2) (As := [.int x, .int y]) (rest := []) hx hb hml hown hg hK0 hP (c_M_bad l D T A _ bd K N q hz hM g hs c0 w hI x y) w_517 w_6 w_514 w_516 s_35 (ma_0 hM) rfl rfl (by decide +kernel) ⟨Nat.le_of_ble_eq_true rfl, Nat.le_of_ble_eq_true rfl⟩ rfl hl.1 rfl (Nat.le_of_ble_eq_true rfl) ⟨Nat.zero_le _, Nat.zero_le _⟩ rfl rfl d_M_wipe_3 (fun r hr => ?_)
  subst hr
  refine x_fr (pc := 6) [.int (baF N g x y)] rfl rfl ?_
  refine lv_if_eq (tgt := 11) hx hb d_M_wipe_6 (by decide) (fun c_6 => ?_) (fun c_6 => ?_)
  · obtain ⟨c5, c13⟩ := baF_0 (show baF N g x y = 0 from c_6)
    have c8 := c5
    rw [hq] at c8
    obtain ⟨f, hf, rfl⟩ := inF_j (by omega) c8
    obtain ⟨i, hi, rfl⟩ := inF_j (by omega) c13
    have ef : (nI f).toNatClampNeg = f := nI_clamp (by omega)
    have ei : (nI i).toNatClampNeg = i := nI_clamp (by omega)
    obtain ⟨t8, t0, t1, t2, t3⟩ := id (hs.rc (f := f) (s := i) (by omega) hi)
    obtain ⟨p8, p0, p1, p2, p3⟩ := id (hs.pi (f := f) (s := i) (by omega) hi)
    refine lv_aload_n hx hb d_M_wipe_11 rfl (lv_at hl 0 rfl) ?_
    refine x_get (v := .ref (bd 8)) (C := R_M) (T := F_M) (N := 17) hx hb hg i_M hown hK hP (ma_0 hM) rfl 10 (by decide) (hg _ w_364) (fun _ h9 => h9) rfl d_M_wipe_12 ?_
    refine lv_iload_n hx hb d_M_wipe_15 rfl (lv_at hl 1 rfl) ?_
    refine lv_bipush (v := nI 7) hx hb d_M_wipe_16 (by decide) ?_
    refine lv_imul hx hb d_M_wipe_18 ?_
    refine x_top (y := nI (f * 7)) (pk_mul _ _) ?_
    refine lv_iload_n hx hb d_M_wipe_19 rfl (lv_at hl 2 rfl) ?_
    refine lv_iadd hx hb d_M_wipe_20 ?_
    refine x_top (y := nI ((f * 7) + i)) (nI_add _ _) ?_
    refine lv_iconst (v := 0) hx hb d_M_wipe_21 (by decide) ?_
    refine x_zast hx hb hK hP hS 1 (ma_8 hM) rfl (vp_in_nI (by omega) (by omega)) d_M_wipe_22 (fun H_194 L_195 hP hS => ?_)
    rw [show vp_nar .boolean 0 = 0 from by rfl] at hP
    rw [nI_clamp (by omega)] at hP
    obtain ⟨q_196, hq_196⟩ : ∃ z, z = upQ q 8 (upd (q 8) ((f * 7) + i) 0) := ⟨_, rfl⟩
    obtain ⟨M_197, hP, hR⟩ : ∃ z, xW D classes A z H_194 ∧ mR T bd K N M q_196 z := ⟨_, hP, by rw [hq_196]; exact hR.set (by omega) rfl⟩
    have hM := hR.1
    refine lv_iconst (v := nI 0) hx hb d_M_wipe_23 (by decide) ?_
    refine hret _ _ _ _ _ _ d_M_wipe_24 hP hS (by
      rw [aWipe, if_neg c5, if_neg c13, ef, ei]
      refine ⟨rfl, _, hR, ?_⟩
      dsimp only
      refine sM_rec hs (f := f) (s := i) (by omega) hi hz7 (fun k f1 s1 z => upS_n (by omega)) (fun k z1 z2 => by rw [hq_196, upQ_n (by omega)]) (fun a z => by rw [hq_196, upQ_s, upd_n z]) (fun a b z zb => by rw [hq_196, upQ_n (by omega)]) ?_
      rw [upS_s, upS_n (by omega), hq_196]
      exact ⟨by rw [upQ_s, upd_s, upd_s], t0, t1, t2, t3⟩)
  · refine lv_iconst (v := (-1)) hx hb d_M_wipe_9 (by decide) ?_
    exact hret _ _ _ _ _ _ d_M_wipe_10 hP hS (by
      rcases baF_1 (show ¬ baF N g x y = 0 from c_6) with h | ⟨h, h1⟩
      · rw [aWipe, if_pos h]; exact ⟨rfl, q, hR, hs⟩
      · rw [aWipe, if_neg h, if_pos h1]; exact ⟨rfl, q, hR, hs⟩)
set_option maxHeartbeats 4000000 in
set_option maxRecDepth 100000 in
theorem c_M_tamper (l : Launch) (D : va_G) (T : Nat → ClassId) (A : Nat → Prop) (M : xM) (bd : Nat → Nat) (K N : Nat) (q : Nat → Nat → Int32) (hz : zB K N) (hM : mG T bd K N q M) (g : gT) (hs : sM K N g q) (c0 : Nat) (w : Nat → Nat) (hI : iG N g c0 w) (x y z u : Int32) : Met l y_M_tamper (Cond.code y_M_tamper b_M_tamper 5 (some .int) :: gw) (rmH 1) (xPc D T A M [.ref (bd 0), .int x, .int y, .int z, .int u]) (xQ D A (fun r M1 => pM T bd K N M (aTamper N g x y z u) r M1)) 0 0 A := by
  refine xMetQi (by decide) (Nat.le_of_ble_eq_true rfl) ?_
  intro p e s m below meth c Q ls hB hP hS hl hret
  obtain ⟨hx, hb, hml, hown, hg, hK0, hnm⟩ := hB
  have hown : s.vm.findClass "ShareGridModel" = some m.cls := hown
  have hK := hK0.1
  have hN := hK0.2.1
  obtain ⟨hz1, hz4, hzn, hz7⟩ := id hz
  obtain ⟨hq, hq6, hwr, hbo⟩ := id hI
  have hR := hM.rf
  have hl : lv_has ls 5 [(0, .ref (bd 0)), (1, .int x), (2, .int y), (3, .int z), (4, .int u)] := hl
  refine lv_aload_n hx hb d_M_tamper_0 rfl (lv_at hl 0 rfl) ?_
  refine lv_iload_n hx hb d_M_tamper_1 rfl (lv_at hl 1 rfl) ?_
  refine lv_iload_n hx hb d_M_tamper_2 rfl (lv_at hl 2 rfl) ?_
  refine xv_R (n := 2) (As := [.int x, .int y]) (rest := []) hx hb hml hown hg hK0 hP (c_M_bad l D T A _ bd K N q hz hM g hs c0 w hI x y) w_517 w_6 w_514 w_516 s_35 (ma_0 hM) rfl rfl (by decide +kernel) ⟨Nat.le_of_ble_eq_true rfl, Nat.le_of_ble_eq_true rfl⟩ rfl hl.1 rfl (Nat.le_of_ble_eq_true rfl) ⟨Nat.zero_le _, Nat.zero_le _⟩ rfl rfl d_M_tamper_3 (fun r hr => ?_)
  subst hr
  refine x_fr (pc := 6) [.int (baF N g x y)] rfl rfl ?_
  refine lv_if_ne (tgt := 37) hx hb d_M_tamper_6 (by decide) (fun c_6 => ?_) (fun c_6 => ?_)
  · refine lv_iconst (v := (-1)) hx hb d_M_tamper_37 (by decide) ?_
    exact hret _ _ _ _ _ _ d_M_tamper_38 hP hS (by
      rcases baF_1 (show ¬ baF N g x y = 0 from c_6) with h | ⟨h, h1⟩
      · rw [aTamper, if_pos h]; exact ⟨rfl, q, hR, hs⟩
      · rw [aTamper, if_neg h, if_pos h1]; exact ⟨rfl, q, hR, hs⟩)
  · obtain ⟨c5, c13⟩ := baF_0 (show baF N g x y = 0 from c_6)
    have c8 := c5
    rw [hq] at c8
    obtain ⟨f, hf, rfl⟩ := inF_j (by omega) c8
    obtain ⟨i, hi, rfl⟩ := inF_j (by omega) c13
    have ef : (nI f).toNatClampNeg = f := nI_clamp (by omega)
    have ei : (nI i).toNatClampNeg = i := nI_clamp (by omega)
    obtain ⟨t8, t0, t1, t2, t3⟩ := id (hs.rc (f := f) (s := i) (by omega) hi)
    obtain ⟨p8, p0, p1, p2, p3⟩ := id (hs.pi (f := f) (s := i) (by omega) hi)
    refine lv_iload_n hx hb d_M_tamper_9 rfl (lv_at hl 3 rfl) ?_
    refine lv_if_lt (tgt := 37) hx hb d_M_tamper_10 (by decide) (fun c_10 => ?_) (fun c_10 => ?_)
    · refine lv_iconst (v := (-1)) hx hb d_M_tamper_37 (by decide) ?_
      exact hret _ _ _ _ _ _ d_M_tamper_38 hP hS (by rw [aTamper, if_neg c5, if_neg c13, if_pos c_10]; exact ⟨rfl, q, hR, hs⟩)
    · refine lv_iload_n hx hb d_M_tamper_13 rfl (lv_at hl 3 rfl) ?_
      refine lv_iconst (v := nI 2) hx hb d_M_tamper_14 (by decide) ?_
      refine lv_aload_n hx hb d_M_tamper_15 rfl (lv_at hl 0 rfl) ?_
      refine x_get (v := .int (nI N)) (C := R_M) (T := F_M) (N := 17) hx hb hg i_M hown hK hP (ma_0 hM) rfl 1 (by decide) (hg _ w_355) (fun _ h9 => h9) rfl d_M_tamper_16 ?_
      refine lv_iadd hx hb d_M_tamper_19 ?_
      refine x_top (y := nI (2 + N)) (nI_add _ _) ?_
      refine lv_icmp_gt (tgt := 37) hx hb d_M_tamper_20 (by decide) (fun c_20 => ?_) (fun c_20 => ?_)
      · refine lv_iconst (v := (-1)) hx hb d_M_tamper_37 (by decide) ?_
        have hzl : ¬ z < nI (3 + N) := by
          obtain ⟨j, hj, rfl⟩ := nI_of c_10
          have := (nI_ltI (a := 2 + N) (by omega) hj).mp c_20
          exact fun q => by have := (nI_ltI hj (by omega)).mp q; omega
        exact hret _ _ _ _ _ _ d_M_tamper_38 hP hS (by rw [aTamper, if_neg c5, if_neg c13, if_neg c_10, if_neg hzl]; exact ⟨rfl, q, hR, hs⟩)
      · refine lv_aload_n hx hb d_M_tamper_23 rfl (lv_at hl 0 rfl) ?_
        refine x_get (v := .ref (bd 8)) (C := R_M) (T := F_M) (N := 17) hx hb hg i_M hown hK hP (ma_0 hM) rfl 10 (by decide) (hg _ w_364) (fun _ h9 => h9) rfl d_M_tamper_24 ?_
        refine lv_iload_n hx hb d_M_tamper_27 rfl (lv_at hl 1 rfl) ?_
        refine lv_bipush (v := nI 7) hx hb d_M_tamper_28 (by decide) ?_
        refine lv_imul hx hb d_M_tamper_30 ?_
        refine x_top (y := nI (f * 7)) (pk_mul _ _) ?_
        refine lv_iload_n hx hb d_M_tamper_31 rfl (lv_at hl 2 rfl) ?_
        refine lv_iadd hx hb d_M_tamper_32 ?_
        refine x_top (y := nI ((f * 7) + i)) (nI_add _ _) ?_
        refine x_zald (v := q 8 ((f * 7) + i)) hx hb hK hP 1 (ma_8 hM) rfl (vp_in_nI (by omega) (by omega)) (by rw [nI_clamp (by omega)]) d_M_tamper_33 ?_
        refine x_top (y := (g 17 f i 0)) t8 ?_
        refine lv_if_ne (tgt := 39) hx hb d_M_tamper_34 (by decide) (fun c_34 => ?_) (fun c_34 => ?_)
        · obtain ⟨j, hjN, hj⟩ : ∃ j : Nat, j < 3 + N ∧ z = nI j := by
            obtain ⟨j, hj, rfl⟩ := nI_of c_10
            have := (nI_leI hj (b := 2 + N) (by omega)).mp (Int32.not_lt.mp c_20)
            exact ⟨j, by omega, rfl⟩
          rw [hj] at hl
          refine lv_aload_n hx hb d_M_tamper_39 rfl (lv_at hl 0 rfl) ?_
          refine x_get (v := .ref (bd 7)) (C := R_M) (T := F_M) (N := 17) hx hb hg i_M hown hK hP (ma_0 hM) rfl 9 (by decide) (hg _ w_363) (fun _ h9 => h9) rfl d_M_tamper_40 ?_
          refine lv_iload_n hx hb d_M_tamper_43 rfl (lv_at hl 1 rfl) ?_
          refine lv_bipush (v := nI 70) hx hb d_M_tamper_44 (by decide) ?_
          refine lv_imul hx hb d_M_tamper_46 ?_
          refine x_top (y := nI (f * 70)) (pk_mul _ _) ?_
          refine lv_iload_n hx hb d_M_tamper_47 rfl (lv_at hl 2 rfl) ?_
          refine lv_bipush (v := nI 10) hx hb d_M_tamper_48 (by decide) ?_
          refine lv_imul hx hb d_M_tamper_50 ?_
          refine x_top (y := nI (i * 10)) (pk_mul _ _) ?_
          refine lv_iadd hx hb d_M_tamper_51 ?_
          refine x_top (y := nI ((f * 70) + (i * 10))) (nI_add _ _) ?_
          refine lv_iload_n hx hb d_M_tamper_52 rfl (lv_at hl 3 rfl) ?_
          refine lv_iadd hx hb d_M_tamper_53 ?_
          refine x_top (y := nI (((f * 70) + (i * 10)) + j)) (nI_add _ _) ?_
          refine lv_dup2_11 hx hb d_M_tamper_54 rfl rfl ?_
          refine x_iald (v := q 7 (((f * 70) + (i * 10)) + j)) hx hb hK hP 0 (ma_7 hM) rfl (vp_in_nI (by omega) (by omega)) (by rw [nI_clamp (by omega)]) d_M_tamper_55 ?_
          refine lv_iload hx hb d_M_tamper_56 (lv_at hl 4 rfl) ?_
          refine lv_ixor hx hb d_M_tamper_58 ?_
          refine x_iast hx hb hK hP hS 0 (ma_7 hM) rfl (vp_in_nI (by omega) (by omega)) d_M_tamper_59 (fun H_198 L_199 hP hS => ?_)
          rw [nI_clamp (by omega)] at hP
          obtain ⟨q_200, hq_200⟩ : ∃ z, z = upQ q 7 (upd (q 7) (((f * 70) + (i * 10)) + j) ((q 7 (((f * 70) + (i * 10)) + j)) ^^^ u)) := ⟨_, rfl⟩
          obtain ⟨M_201, hP, hR⟩ : ∃ z, xW D classes A z H_198 ∧ mR T bd K N M q_200 z := ⟨_, hP, by rw [hq_200]; exact hR.set (by omega) rfl⟩
          have hM := hR.1
          refine lv_iconst (v := nI 0) hx hb d_M_tamper_60 (by decide) ?_
          have hzl : z < nI (3 + N) := by rw [hj]; exact (nI_ltI (by omega) (by omega)).mpr hjN
          have e1 : aTamper N g (nI f) (nI i) z u = (0, tmG g f i z u) := by rw [aTamper, if_neg c5, if_neg c13, if_neg c_10, if_pos hzl, ef, ei, if_neg c_34]
          have eix : f * 70 + i * 10 + j = (f * 7 + i) * 10 + j := by omega
          rw [eix] at hq_200
          refine hret _ _ _ _ _ _ d_M_tamper_61 hP hS (by
            rw [e1]
            refine ⟨rfl, _, hR, ?_⟩
            dsimp only
            have hq7 : ∀ k, k ≠ 7 → k ≠ 8 → q_200 k = q k := fun k z1 z2 => by rw [hq_200, upQ_n z1]
            have hq8 : ∀ a, a ≠ f * 7 + i → q_200 8 a = q 8 a := fun a _ => by rw [hq_200, upQ_n (by omega)]
            have hr7 : ∀ a b, a ≠ f * 7 + i → b < 10 → q_200 7 (a * 10 + b) = q 7 (a * 10 + b) := fun a b z1 z2 => by rw [hq_200, upQ_s, upd_n (by omega)]
            have rr := hs.rc (f := f) (s := i) (by omega) hi
            rcases (show j = 0 ∨ j = 1 ∨ j = 2 ∨ 3 ≤ j by omega) with rfl | rfl | rfl | h3
            · rw [show tmG g f i z u = upS g 17 f i (upd (g 17 f i) 1 (g 17 f i 1 ^^^ u)) by rw [tmG, if_pos (show z = 0 by rw [hj]; decide)]]
              refine sM_rec hs (f := f) (s := i) (by omega) hi hz7 (fun k f1 s1 z => upS_n (by omega)) hq7 hq8 hr7 ?_
              rw [upS_s, upS_n (by omega), hq_200]
              have ev : q 7 ((f * 7 + i) * 10 + 0) = g 17 f i 1 := t0
              rw [ev]
              exact rwS_7 rr hz7 (by omega) (by rw [upd_n (by omega)]) (by rw [upd_s]; rfl) (by rw [upd_n (by omega)]; rfl) (by rw [upd_n (by omega)]; rfl) (fun j hj => by rw [if_neg (by omega)])
            · rw [show tmG g f i z u = upS g 17 f i (upd (g 17 f i) 2 (g 17 f i 2 ^^^ u)) by rw [tmG, if_neg (show ¬ z = 0 by rw [hj]; decide), if_pos (show z = 1 by rw [hj]; decide)]]
              refine sM_rec hs (f := f) (s := i) (by omega) hi hz7 (fun k f1 s1 z => upS_n (by omega)) hq7 hq8 hr7 ?_
              rw [upS_s, upS_n (by omega), hq_200]
              have ev : q 7 ((f * 7 + i) * 10 + 1) = g 17 f i 2 := t1
              rw [ev]
              exact rwS_7 rr hz7 (by omega) (by rw [upd_n (by omega)]) (by rw [upd_n (by omega)]; rfl) (by rw [upd_s]; rfl) (by rw [upd_n (by omega)]; rfl) (fun j hj => by rw [if_neg (by omega)])
            · rw [show tmG g f i z u = upS g 17 f i (upd (g 17 f i) 3 (g 17 f i 3 ^^^ u)) by rw [tmG, if_neg (show ¬ z = 0 by rw [hj]; decide), if_neg (show ¬ z = 1 by rw [hj]; decide), if_pos (show z = 2 by rw [hj]; decide)]]
              refine sM_rec hs (f := f) (s := i) (by omega) hi hz7 (fun k f1 s1 z => upS_n (by omega)) hq7 hq8 hr7 ?_
              rw [upS_s, upS_n (by omega), hq_200]
              have ev : q 7 ((f * 7 + i) * 10 + 2) = g 17 f i 3 := t2
              rw [ev]
              exact rwS_7 rr hz7 (by omega) (by rw [upd_n (by omega)]) (by rw [upd_n (by omega)]; rfl) (by rw [upd_n (by omega)]; rfl) (by rw [upd_s]; rfl) (fun j hj => by rw [if_neg (by omega)])
            · rw [show tmG g f i z u = upS g 18 f i (upd (g 18 f i) (j - 3) (g 18 f i (j - 3) ^^^ u)) by rw [tmG, if_neg (fun h => by have := (nI_eq (b := 0) (by omega) (by omega)).mp (hj.symm.trans h); omega), if_neg (fun h => by have := (nI_eq (b := 1) (by omega) (by omega)).mp (hj.symm.trans h); omega), if_neg (fun h => by have := (nI_eq (b := 2) (by omega) (by omega)).mp (hj.symm.trans h); omega), hj, nI_clamp (by omega)]]
              refine sM_rec hs (f := f) (s := i) (by omega) hi hz7 (fun k f1 s1 z => upS_n (by omega)) hq7 hq8 hr7 ?_
              rw [upS_n (by omega), upS_s, hq_200]
              have ev : q 7 ((f * 7 + i) * 10 + j) = g 18 f i (j - 3) := by have := t3 (j - 3) (by omega); rw [show (f * 7 + i) * 10 + 3 + (j - 3) = (f * 7 + i) * 10 + j by omega] at this; exact this
              rw [ev]
              exact rwS_7 rr hz7 (by omega) rfl (by rw [if_neg (by omega)]) (by rw [if_neg (by omega)]) (by rw [if_neg (by omega)]) (fun k hk => by
                by_cases e : k = j - 3
                · subst e; rw [upd_s, if_pos (by omega)]
                · rw [upd_n e, if_neg (by omega)]))
        · refine lv_iconst (v := (-1)) hx hb d_M_tamper_37 (by decide) ?_
          have hzl : z < nI (3 + N) := by
            obtain ⟨j, hj, rfl⟩ := nI_of c_10
            have := (nI_leI hj (b := 2 + N) (by omega)).mp (Int32.not_lt.mp c_20)
            exact (nI_ltI (by omega) (by omega)).mpr (by omega)
          exact hret _ _ _ _ _ _ d_M_tamper_38 hP hS (by rw [aTamper, if_neg c5, if_neg c13, if_neg c_10, if_pos hzl, ef, ei, if_pos c_34]; exact ⟨rfl, q, hR, hs⟩)
set_option maxHeartbeats 4000000 in
set_option maxRecDepth 100000 in
theorem c_M_copyRow (l : Launch) (D : va_G) (T : Nat → ClassId) (A : Nat → Prop) (M : xM) (bd : Nat → Nat) (K N : Nat) (q : Nat → Nat → Int32) (hz : zB K N) (hM : mG T bd K N q M) (u v : Nat) (hu : u < 84) (hv : v < 84) (huv : u ≠ v) (hb8 : q 8 u = 0 ∨ q 8 u = 1) : Met l y_M_copyRow (Cond.code y_M_copyRow b_M_copyRow 4 none :: gw) (rmH 0) (xPc D T A M [.ref (bd 0), .int (nI u), .int (nI v)]) (xQ D A (fun r M1 => r = none ∧ ∃ q', mR T bd K N M q' M1 ∧ (∀ k, k ≠ 7 → k ≠ 8 → q' k = q k) ∧ q' 8 = upd (q 8) v (q 8 u) ∧ (∀ b, b < 10 → q' 7 (v * 10 + b) = q 7 (u * 10 + b)) ∧ ∀ a b, a ≠ v → b < 10 → q' 7 (a * 10 + b) = q 7 (a * 10 + b))) 0 0 A := by
  refine xMetQv (by decide) (Nat.le_of_ble_eq_true rfl) ?_
  intro p e s m below meth c Q ls hB hP hS hl hret
  obtain ⟨hx, hb, hml, hown, hg, hK0, hnm⟩ := hB
  have hown : s.vm.findClass "ShareGridModel" = some m.cls := hown
  have hK := hK0.1
  have hN := hK0.2.1
  obtain ⟨hz1, hz4, hzn, hz7⟩ := id hz
  have hR := hM.rf
  have hl : lv_has ls 4 [(0, .ref (bd 0)), (1, .int (nI u)), (2, .int (nI v))] := hl
  refine lv_aload_n hx hb d_M_copyRow_0 rfl (lv_at hl 0 rfl) ?_
  refine x_get (v := .ref (bd 8)) (C := R_M) (T := F_M) (N := 17) hx hb hg i_M hown hK hP (ma_0 hM) rfl 10 (by decide) (hg _ w_364) (fun _ h9 => h9) rfl d_M_copyRow_1 ?_
  refine lv_iload_n hx hb d_M_copyRow_4 rfl (lv_at hl 2 rfl) ?_
  refine lv_aload_n hx hb d_M_copyRow_5 rfl (lv_at hl 0 rfl) ?_
  refine x_get (v := .ref (bd 8)) (C := R_M) (T := F_M) (N := 17) hx hb hg i_M hown hK hP (ma_0 hM) rfl 10 (by decide) (hg _ w_364) (fun _ h9 => h9) rfl d_M_copyRow_6 ?_
  refine lv_iload_n hx hb d_M_copyRow_9 rfl (lv_at hl 1 rfl) ?_
  refine x_zald (v := q 8 u) hx hb hK hP 1 (ma_8 hM) rfl (vp_in_nI (by omega) (by omega)) (by rw [nI_clamp (by omega)]) d_M_copyRow_10 ?_
  refine x_zast hx hb hK hP hS 1 (ma_8 hM) rfl (vp_in_nI (by omega) (by omega)) d_M_copyRow_11 (fun H_202 L_203 hP hS => ?_)
  rw [show vp_nar .boolean (q 8 u) = q 8 u from by rcases hb8 with h | h <;> rw [h] <;> rfl] at hP
  rw [nI_clamp (by omega)] at hP
  obtain ⟨q_204, hq_204⟩ : ∃ z, z = upQ q 8 (upd (q 8) v (q 8 u)) := ⟨_, rfl⟩
  obtain ⟨M_205, hP, hR⟩ : ∃ z, xW D classes A z H_202 ∧ mR T bd K N M q_204 z := ⟨_, hP, by rw [hq_204]; exact hR.set (by omega) rfl⟩
  have hM := hR.1
  refine lv_iconst (v := nI 0) hx hb d_M_copyRow_12 (by decide) ?_
  refine lv_istore_n (lv' := [(3, .int (nI 0)), (0, .ref (bd 0)), (1, .int (nI u)), (2, .int (nI v))]) hx hb d_M_copyRow_13 rfl hl (by decide) rfl (fun ls hl => ?_)
  have loop : ∀ (n : Nat) (i : Nat) (qx : qT), 11 ≤ i + n → i ≤ 10 → (∀ k, k ≠ 7 → k ≠ 8 → qx k = q k) → qx 8 = upd (q 8) v (q 8 u) → (∀ b, b < i → qx 7 (v * 10 + b) = q 7 (u * 10 + b)) → (∀ a b, a ≠ v → b < 10 → qx 7 (a * 10 + b) = q 7 (a * 10 + b)) → ∀ (Mx : xM) (Hx : Heap) (Lx : List Loc), xW D classes A Mx Hx → va_S A s.heap Hx Lx → mR T bd K N M qx Mx → ∀ (ls : Array Slot), lv_has ls 4 [(0, .ref (bd 0)), (1, .int (nI u)), (2, .int (nI v)), (3, .int (nI i))] → W p l e (rmH 0) s m [.ref (bd 0), .int (nI u), .int (nI v)].toArray below meth c Hx Lx 0 0 Q (F0 m 14 ls []) := by
    intro n
    induction n with
    | zero =>
      intro i qx h2 h1 r1 r2 r3 r4
      exact absurd h2 (by omega)
    | succ n ih =>
      intro i qx h2 h1 r1 r2 r3 r4 Mx Hx Lx hP hS hR ls hl
      have hM := hR.1
      refine lv_iload_n hx hb d_M_copyRow_14 rfl (lv_at hl 3 rfl) ?_
      refine lv_bipush (v := nI 10) hx hb d_M_copyRow_15 (by decide) ?_
      refine x_nc_ge (tgt := 48) hx hb d_M_copyRow_17 (by decide) (by omega) (by omega) (fun c1 => ?_) (fun c1 => ?_)
      · have hi10 : i = 10 := by omega
        exact hret _ _ _ _ _ d_M_copyRow_48 hP hS ⟨rfl, qx, hR, r1, r2, fun b hb => r3 b (by omega), r4⟩
      · refine lv_aload_n hx hb d_M_copyRow_20 rfl (lv_at hl 0 rfl) ?_
        refine x_get (v := .ref (bd 7)) (C := R_M) (T := F_M) (N := 17) hx hb hg i_M hown hK hP (ma_0 hM) rfl 9 (by decide) (hg _ w_363) (fun _ h9 => h9) rfl d_M_copyRow_21 ?_
        refine lv_iload_n hx hb d_M_copyRow_24 rfl (lv_at hl 2 rfl) ?_
        refine lv_bipush (v := nI 10) hx hb d_M_copyRow_25 (by decide) ?_
        refine lv_imul hx hb d_M_copyRow_27 ?_
        refine x_top (y := nI (v * 10)) (pk_mul _ _) ?_
        refine lv_iload_n hx hb d_M_copyRow_28 rfl (lv_at hl 3 rfl) ?_
        refine lv_iadd hx hb d_M_copyRow_29 ?_
        refine x_top (y := nI ((v * 10) + i)) (nI_add _ _) ?_
        refine lv_aload_n hx hb d_M_copyRow_30 rfl (lv_at hl 0 rfl) ?_
        refine x_get (v := .ref (bd 7)) (C := R_M) (T := F_M) (N := 17) hx hb hg i_M hown hK hP (ma_0 hM) rfl 9 (by decide) (hg _ w_363) (fun _ h9 => h9) rfl d_M_copyRow_31 ?_
        refine lv_iload_n hx hb d_M_copyRow_34 rfl (lv_at hl 1 rfl) ?_
        refine lv_bipush (v := nI 10) hx hb d_M_copyRow_35 (by decide) ?_
        refine lv_imul hx hb d_M_copyRow_37 ?_
        refine x_top (y := nI (u * 10)) (pk_mul _ _) ?_
        refine lv_iload_n hx hb d_M_copyRow_38 rfl (lv_at hl 3 rfl) ?_
        refine lv_iadd hx hb d_M_copyRow_39 ?_
        refine x_top (y := nI ((u * 10) + i)) (nI_add _ _) ?_
        refine x_iald (v := qx 7 ((u * 10) + i)) hx hb hK hP 0 (ma_7 hM) rfl (vp_in_nI (by omega) (by omega)) (by rw [nI_clamp (by omega)]) d_M_copyRow_40 ?_
        refine x_iast hx hb hK hP hS 0 (ma_7 hM) rfl (vp_in_nI (by omega) (by omega)) d_M_copyRow_41 (fun H_206 L_207 hP hS => ?_)
        rw [nI_clamp (by omega)] at hP
        obtain ⟨q_208, hq_208⟩ : ∃ z, z = upQ qx 7 (upd (qx 7) ((v * 10) + i) (qx 7 ((u * 10) + i))) := ⟨_, rfl⟩
        obtain ⟨M_209, hP, hR⟩ : ∃ z, xW D classes A z H_206 ∧ mR T bd K N M q_208 z := ⟨_, hP, by rw [hq_208]; exact hR.set (by omega) rfl⟩
        have hM := hR.1
        have ra : ∀ k, k ≠ 7 → k ≠ 8 → q_208 k = q k := fun k z1 z2 => by rw [hq_208, upQ_n z1]; exact r1 k z1 z2
        have rb : q_208 8 = upd (q 8) v (q 8 u) := by rw [hq_208, upQ_n (by omega)]; exact r2
        have rc : ∀ b, b < i + 1 → q_208 7 (v * 10 + b) = q 7 (u * 10 + b) := by
          intro b hb
          rw [hq_208, upQ_s]
          by_cases e : b = i
          · subst e; rw [upd_s]; exact r4 u b huv (by omega)
          · rw [upd_n (by omega)]; exact r3 b (by omega)
        have rd : ∀ a b, a ≠ v → b < 10 → q_208 7 (a * 10 + b) = q 7 (a * 10 + b) := fun a b z1 z2 => by rw [hq_208, upQ_s, upd_n (by omega)]; exact r4 a b z1 z2
        refine lv_iinc (v := nI (i + 1)) (lv' := [(3, .int (nI (i + 1))), (0, .ref (bd 0)), (1, .int (nI u)), (2, .int (nI v))]) hx hb d_M_copyRow_42 hl (k := 3) rfl (nI_1 _) (by decide) rfl (fun ls hl => ?_)
        refine lv_goto (tgt := 14) hx hb d_M_copyRow_45 (by decide) ?_
        exact ih (i + 1) q_208 (by omega) (by omega) ra rb rc rd _ _ _ hP hS hR ls (lv_sub hl [1, 2, 3, 0] rfl)
  exact loop 11 0 q_204 (by omega) (by omega) (fun k z1 z2 => by rw [hq_204, upQ_n z2]) (by rw [hq_204, upQ_s]) (fun b hb => absurd hb (by omega)) (fun a b z1 z2 => by rw [hq_204, upQ_n (by omega)]) _ _ _ hP hS hR ls (lv_sub hl [1, 2, 3, 0] rfl)
/-- a row that was copied -/
theorem rwS_cp {N u v : Nat} {q q' : qT} {x y : Nat → Int32} (hN : N ≤ 7) (h : rwS N q u x y) (k2 : q' 8 = upd (q 8) v (q 8 u)) (k3 : ∀ b, b < 10 → q' 7 (v * 10 + b) = q 7 (u * 10 + b)) : rwS N q' v x y := by
  obtain ⟨b1, b2, b3, b4, b5⟩ := h
  refine ⟨by rw [k2, upd_s]; exact b1, ?_, (k3 1 (by omega)).trans b3, (k3 2 (by omega)).trans b4, fun j hj => ?_⟩
  · have := k3 0 (by omega); rw [Nat.add_zero, Nat.add_zero] at this; exact this.trans b2
  · have := k3 (3 + j) (by omega); rw [← Nat.add_assoc, ← Nat.add_assoc] at this; exact this.trans (b5 j hj)
set_option maxHeartbeats 4000000 in
set_option maxRecDepth 100000 in
theorem c_M_picture (l : Launch) (D : va_G) (T : Nat → ClassId) (A : Nat → Prop) (M : xM) (bd : Nat → Nat) (K N : Nat) (q : Nat → Nat → Int32) (hz : zB K N) (hM : mG T bd K N q M) (g : gT) (hs : sM K N g q) (c0 : Nat) (w : Nat → Nat) (hI : iG N g c0 w) (x y : Int32) : Met l y_M_picture (Cond.code y_M_picture b_M_picture 3 (some .int) :: gw) (rmH 1) (xPc D T A M [.ref (bd 0), .int x, .int y]) (xQ D A (fun r M1 => pM T bd K N M (aPicture N g x y) r M1)) 0 0 A := by
  refine xMetQi (by decide) (Nat.le_of_ble_eq_true rfl) ?_
  intro p e s m below meth c Q ls hB hP hS hl hret
  obtain ⟨hx, hb, hml, hown, hg, hK0, hnm⟩ := hB
  have hown : s.vm.findClass "ShareGridModel" = some m.cls := hown
  have hK := hK0.1
  have hN := hK0.2.1
  obtain ⟨hz1, hz4, hzn, hz7⟩ := id hz
  obtain ⟨hq, hq6, hwr, hbo⟩ := id hI
  have hR := hM.rf
  have hl : lv_has ls 3 [(0, .ref (bd 0)), (1, .int x), (2, .int y)] := hl
  refine lv_aload_n hx hb d_M_picture_0 rfl (lv_at hl 0 rfl) ?_
  refine lv_iload_n hx hb d_M_picture_1 rfl (lv_at hl 1 rfl) ?_
  refine lv_iload_n hx hb d_M_picture_2 rfl (lv_at hl 2 rfl) ?_
  refine xv_R (n := 2) (As := [.int x, .int y]) (rest := []) hx hb hml hown hg hK0 hP (c_M_bad l D T A _ bd K N q hz hM g hs c0 w hI x y) w_517 w_6 w_514 w_516 s_35 (ma_0 hM) rfl rfl (by decide +kernel) ⟨Nat.le_of_ble_eq_true rfl, Nat.le_of_ble_eq_true rfl⟩ rfl hl.1 rfl (Nat.le_of_ble_eq_true rfl) ⟨Nat.zero_le _, Nat.zero_le _⟩ rfl rfl d_M_picture_3 (fun r hr => ?_)
  subst hr
  refine x_fr (pc := 6) [.int (baF N g x y)] rfl rfl ?_
  refine lv_if_ne (tgt := 23) hx hb d_M_picture_6 (by decide) (fun c_6 => ?_) (fun c_6 => ?_)
  · refine lv_iconst (v := (-1)) hx hb d_M_picture_23 (by decide) ?_
    exact hret _ _ _ _ _ _ d_M_picture_24 hP hS (by
      rcases baF_1 (show ¬ baF N g x y = 0 from c_6) with h | ⟨h, h1⟩
      · rw [aPicture, if_pos h]; exact ⟨rfl, q, hR, hs⟩
      · rw [aPicture, if_neg h, if_pos h1]; exact ⟨rfl, q, hR, hs⟩)
  · obtain ⟨c5, c13⟩ := baF_0 (show baF N g x y = 0 from c_6)
    have c8 := c5
    rw [hq] at c8
    obtain ⟨f, hf, rfl⟩ := inF_j (by omega) c8
    obtain ⟨i, hi, rfl⟩ := inF_j (by omega) c13
    have ef : (nI f).toNatClampNeg = f := nI_clamp (by omega)
    have ei : (nI i).toNatClampNeg = i := nI_clamp (by omega)
    obtain ⟨t8, t0, t1, t2, t3⟩ := id (hs.rc (f := f) (s := i) (by omega) hi)
    obtain ⟨p8, p0, p1, p2, p3⟩ := id (hs.pi (f := f) (s := i) (by omega) hi)
    refine lv_aload_n hx hb d_M_picture_9 rfl (lv_at hl 0 rfl) ?_
    refine x_get (v := .ref (bd 8)) (C := R_M) (T := F_M) (N := 17) hx hb hg i_M hown hK hP (ma_0 hM) rfl 10 (by decide) (hg _ w_364) (fun _ h9 => h9) rfl d_M_picture_10 ?_
    refine lv_iload_n hx hb d_M_picture_13 rfl (lv_at hl 1 rfl) ?_
    refine lv_bipush (v := nI 7) hx hb d_M_picture_14 (by decide) ?_
    refine lv_imul hx hb d_M_picture_16 ?_
    refine x_top (y := nI (f * 7)) (pk_mul _ _) ?_
    refine lv_iload_n hx hb d_M_picture_17 rfl (lv_at hl 2 rfl) ?_
    refine lv_iadd hx hb d_M_picture_18 ?_
    refine x_top (y := nI ((f * 7) + i)) (nI_add _ _) ?_
    refine x_zald (v := q 8 ((f * 7) + i)) hx hb hK hP 1 (ma_8 hM) rfl (vp_in_nI (by omega) (by omega)) (by rw [nI_clamp (by omega)]) d_M_picture_19 ?_
    refine x_top (y := (g 17 f i 0)) t8 ?_
    refine lv_if_ne (tgt := 25) hx hb d_M_picture_20 (by decide) (fun c_20 => ?_) (fun c_20 => ?_)
    · refine lv_aload_n hx hb d_M_picture_25 rfl (lv_at hl 0 rfl) ?_
      refine lv_iload_n hx hb d_M_picture_26 rfl (lv_at hl 1 rfl) ?_
      refine lv_bipush (v := nI 7) hx hb d_M_picture_27 (by decide) ?_
      refine lv_imul hx hb d_M_picture_29 ?_
      refine x_top (y := nI (f * 7)) (pk_mul _ _) ?_
      refine lv_iload_n hx hb d_M_picture_30 rfl (lv_at hl 2 rfl) ?_
      refine lv_iadd hx hb d_M_picture_31 ?_
      refine x_top (y := nI ((f * 7) + i)) (nI_add _ _) ?_
      refine lv_bipush (v := nI 42) hx hb d_M_picture_32 (by decide) ?_
      refine lv_iload_n hx hb d_M_picture_34 rfl (lv_at hl 1 rfl) ?_
      refine lv_bipush (v := nI 7) hx hb d_M_picture_35 (by decide) ?_
      refine lv_imul hx hb d_M_picture_37 ?_
      refine x_top (y := nI (f * 7)) (pk_mul _ _) ?_
      refine lv_iadd hx hb d_M_picture_38 ?_
      refine x_top (y := nI (42 + (f * 7))) (nI_add _ _) ?_
      refine lv_iload_n hx hb d_M_picture_39 rfl (lv_at hl 2 rfl) ?_
      refine lv_iadd hx hb d_M_picture_40 ?_
      refine x_top (y := nI ((42 + (f * 7)) + i)) (nI_add _ _) ?_
      refine xv_Q (n := 2) (As := [.int (nI ((f * 7) + i)), .int (nI ((42 + (f * 7)) + i))]) (rest := []) hx hb hml hown hg hK0 hP (c_M_copyRow l D T A _ bd K N q hz hM ((f * 7) + i) ((42 + (f * 7)) + i) (by omega) (by omega) (by omega) (by rw [t8]; exact (hbo f i (by omega) hi).1)) w_505 w_6 w_502 w_504 s_34 (ma_0 hM) rfl rfl (by decide +kernel) ⟨Nat.le_of_ble_eq_true rfl, Nat.le_of_ble_eq_true rfl⟩ rfl hl.1 rfl (Nat.le_of_ble_eq_true rfl) hS ⟨Nat.zero_le _, Nat.zero_le _⟩ rfl rfl d_M_picture_41 (fun r M1 H_210 L_211 hr hP hS => ?_)
      obtain ⟨rfl, q_212, hR1, k1, k2, k3, k4⟩ := hr
      have hR := hR.tr hR1
      have hM := hR.1
      refine x_fr (pc := 44) [] rfl rfl ?_
      refine lv_iconst (v := nI 0) hx hb d_M_picture_44 (by decide) ?_
      refine hret _ _ _ _ _ _ d_M_picture_45 hP hS (by
        rw [aPicture, if_neg c5, if_neg c13, ef, ei, if_neg c_20]
        refine ⟨rfl, _, hR, ?_⟩
        dsimp only
        refine sM_pic hs (f := f) (s := i) (by omega) hi hz7 (fun k f1 s1 z => by rw [cpS, upS_n (by omega), upS_n (by omega)]) k1 (fun a z => by rw [k2, upd_n z]) k4 ?_
        rw [cpS, upS_n (by omega), upS_s, upS_s]
        exact rwS_cp hz7 (hs.rc (f := f) (s := i) (by omega) hi) k2 k3)
    · refine lv_iconst (v := (-1)) hx hb d_M_picture_23 (by decide) ?_
      exact hret _ _ _ _ _ _ d_M_picture_24 hP hS (by rw [aPicture, if_neg c5, if_neg c13, ef, ei, if_pos c_20]; exact ⟨rfl, q, hR, hs⟩)
set_option maxHeartbeats 4000000 in
set_option maxRecDepth 100000 in
theorem c_M_fallBack (l : Launch) (D : va_G) (T : Nat → ClassId) (A : Nat → Prop) (M : xM) (bd : Nat → Nat) (K N : Nat) (q : Nat → Nat → Int32) (hz : zB K N) (hM : mG T bd K N q M) (g : gT) (hs : sM K N g q) (c0 : Nat) (w : Nat → Nat) (hI : iG N g c0 w) (x y : Int32) : Met l y_M_fallBack (Cond.code y_M_fallBack b_M_fallBack 3 (some .int) :: gw) (rmH 1) (xPc D T A M [.ref (bd 0), .int x, .int y]) (xQ D A (fun r M1 => pM T bd K N M (aFall N g x y) r M1)) 0 0 A := by
  refine xMetQi (by decide) (Nat.le_of_ble_eq_true rfl) ?_
  intro p e s m below meth c Q ls hB hP hS hl hret
  obtain ⟨hx, hb, hml, hown, hg, hK0, hnm⟩ := hB
  have hown : s.vm.findClass "ShareGridModel" = some m.cls := hown
  have hK := hK0.1
  have hN := hK0.2.1
  obtain ⟨hz1, hz4, hzn, hz7⟩ := id hz
  obtain ⟨hq, hq6, hwr, hbo⟩ := id hI
  have hR := hM.rf
  have hl : lv_has ls 3 [(0, .ref (bd 0)), (1, .int x), (2, .int y)] := hl
  refine lv_aload_n hx hb d_M_fallBack_0 rfl (lv_at hl 0 rfl) ?_
  refine lv_iload_n hx hb d_M_fallBack_1 rfl (lv_at hl 1 rfl) ?_
  refine lv_iload_n hx hb d_M_fallBack_2 rfl (lv_at hl 2 rfl) ?_
  refine xv_R (n := 2) (As := [.int x, .int y]) (rest := []) hx hb hml hown hg hK0 hP (c_M_bad l D T A _ bd K N q hz hM g hs c0 w hI x y) w_517 w_6 w_514 w_516 s_35 (ma_0 hM) rfl rfl (by decide +kernel) ⟨Nat.le_of_ble_eq_true rfl, Nat.le_of_ble_eq_true rfl⟩ rfl hl.1 rfl (Nat.le_of_ble_eq_true rfl) ⟨Nat.zero_le _, Nat.zero_le _⟩ rfl rfl d_M_fallBack_3 (fun r hr => ?_)
  subst hr
  refine x_fr (pc := 6) [.int (baF N g x y)] rfl rfl ?_
  refine lv_if_ne (tgt := 26) hx hb d_M_fallBack_6 (by decide) (fun c_6 => ?_) (fun c_6 => ?_)
  · refine lv_iconst (v := (-1)) hx hb d_M_fallBack_26 (by decide) ?_
    exact hret _ _ _ _ _ _ d_M_fallBack_27 hP hS (by
      rcases baF_1 (show ¬ baF N g x y = 0 from c_6) with h | ⟨h, h1⟩
      · rw [aFall, if_pos h]; exact ⟨rfl, q, hR, hs⟩
      · rw [aFall, if_neg h, if_pos h1]; exact ⟨rfl, q, hR, hs⟩)
  · obtain ⟨c5, c13⟩ := baF_0 (show baF N g x y = 0 from c_6)
    have c8 := c5
    rw [hq] at c8
    obtain ⟨f, hf, rfl⟩ := inF_j (by omega) c8
    obtain ⟨i, hi, rfl⟩ := inF_j (by omega) c13
    have ef : (nI f).toNatClampNeg = f := nI_clamp (by omega)
    have ei : (nI i).toNatClampNeg = i := nI_clamp (by omega)
    obtain ⟨t8, t0, t1, t2, t3⟩ := id (hs.rc (f := f) (s := i) (by omega) hi)
    obtain ⟨p8, p0, p1, p2, p3⟩ := id (hs.pi (f := f) (s := i) (by omega) hi)
    refine lv_aload_n hx hb d_M_fallBack_9 rfl (lv_at hl 0 rfl) ?_
    refine x_get (v := .ref (bd 8)) (C := R_M) (T := F_M) (N := 17) hx hb hg i_M hown hK hP (ma_0 hM) rfl 10 (by decide) (hg _ w_364) (fun _ h9 => h9) rfl d_M_fallBack_10 ?_
    refine lv_bipush (v := nI 42) hx hb d_M_fallBack_13 (by decide) ?_
    refine lv_iload_n hx hb d_M_fallBack_15 rfl (lv_at hl 1 rfl) ?_
    refine lv_bipush (v := nI 7) hx hb d_M_fallBack_16 (by decide) ?_
    refine lv_imul hx hb d_M_fallBack_18 ?_
    refine x_top (y := nI (f * 7)) (pk_mul _ _) ?_
    refine lv_iadd hx hb d_M_fallBack_19 ?_
    refine x_top (y := nI (42 + (f * 7))) (nI_add _ _) ?_
    refine lv_iload_n hx hb d_M_fallBack_20 rfl (lv_at hl 2 rfl) ?_
    refine lv_iadd hx hb d_M_fallBack_21 ?_
    refine x_top (y := nI ((42 + (f * 7)) + i)) (nI_add _ _) ?_
    refine x_zald (v := q 8 ((42 + (f * 7)) + i)) hx hb hK hP 1 (ma_8 hM) rfl (vp_in_nI (by omega) (by omega)) (by rw [nI_clamp (by omega)]) d_M_fallBack_22 ?_
    refine x_top (y := (g 19 f i 0)) p8 ?_
    refine lv_if_ne (tgt := 28) hx hb d_M_fallBack_23 (by decide) (fun c_23 => ?_) (fun c_23 => ?_)
    · refine lv_aload_n hx hb d_M_fallBack_28 rfl (lv_at hl 0 rfl) ?_
      refine lv_bipush (v := nI 42) hx hb d_M_fallBack_29 (by decide) ?_
      refine lv_iload_n hx hb d_M_fallBack_31 rfl (lv_at hl 1 rfl) ?_
      refine lv_bipush (v := nI 7) hx hb d_M_fallBack_32 (by decide) ?_
      refine lv_imul hx hb d_M_fallBack_34 ?_
      refine x_top (y := nI (f * 7)) (pk_mul _ _) ?_
      refine lv_iadd hx hb d_M_fallBack_35 ?_
      refine x_top (y := nI (42 + (f * 7))) (nI_add _ _) ?_
      refine lv_iload_n hx hb d_M_fallBack_36 rfl (lv_at hl 2 rfl) ?_
      refine lv_iadd hx hb d_M_fallBack_37 ?_
      refine x_top (y := nI ((42 + (f * 7)) + i)) (nI_add _ _) ?_
      refine lv_iload_n hx hb d_M_fallBack_38 rfl (lv_at hl 1 rfl) ?_
      refine lv_bipush (v := nI 7) hx hb d_M_fallBack_39 (by decide) ?_
      refine lv_imul hx hb d_M_fallBack_41 ?_
      refine x_top (y := nI (f * 7)) (pk_mul _ _) ?_
      refine lv_iload_n hx hb d_M_fallBack_42 rfl (lv_at hl 2 rfl) ?_
      refine lv_iadd hx hb d_M_fallBack_43 ?_
      refine x_top (y := nI ((f * 7) + i)) (nI_add _ _) ?_
      refine xv_Q (n := 2) (As := [.int (nI ((42 + (f * 7)) + i)), .int (nI ((f * 7) + i))]) (rest := []) hx hb hml hown hg hK0 hP (c_M_copyRow l D T A _ bd K N q hz hM ((42 + (f * 7)) + i) ((f * 7) + i) (by omega) (by omega) (by omega) (by rw [p8]; exact (hbo f i (by omega) hi).2)) w_505 w_6 w_502 w_504 s_34 (ma_0 hM) rfl rfl (by decide +kernel) ⟨Nat.le_of_ble_eq_true rfl, Nat.le_of_ble_eq_true rfl⟩ rfl hl.1 rfl (Nat.le_of_ble_eq_true rfl) hS ⟨Nat.zero_le _, Nat.zero_le _⟩ rfl rfl d_M_fallBack_44 (fun r M1 H_213 L_214 hr hP hS => ?_)
      obtain ⟨rfl, q_215, hR1, k1, k2, k3, k4⟩ := hr
      have hR := hR.tr hR1
      have hM := hR.1
      refine x_fr (pc := 47) [] rfl rfl ?_
      refine lv_iconst (v := nI 0) hx hb d_M_fallBack_47 (by decide) ?_
      refine hret _ _ _ _ _ _ d_M_fallBack_48 hP hS (by
        rw [aFall, if_neg c5, if_neg c13, ef, ei, if_neg c_23]
        refine ⟨rfl, _, hR, ?_⟩
        dsimp only
        refine sM_rec hs (f := f) (s := i) (by omega) hi hz7 (fun k f1 s1 z => by rw [cpS, upS_n (by omega), upS_n (by omega)]) k1 (fun a z => by rw [k2, upd_n z]) k4 ?_
        rw [cpS, upS_n (by omega), upS_s, upS_s]
        exact rwS_cp hz7 (hs.pi (f := f) (s := i) (by omega) hi) k2 k3)
    · refine lv_iconst (v := (-1)) hx hb d_M_fallBack_26 (by decide) ?_
      exact hret _ _ _ _ _ _ d_M_fallBack_27 hP hS (by rw [aFall, if_neg c5, if_neg c13, ef, ei, if_pos c_23]; exact ⟨rfl, q, hR, hs⟩)
end
