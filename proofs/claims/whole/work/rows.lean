section
-- ===== PART A: goes FIRST, ahead of the names: the tables' words, and 'selects' of the private methods out of them =====
/-- a private method of a class that the tables say can be made, by its rows of tables_1 -/
def lw_okq (q : MethodName × Nat) : Prop := (q.1.cls ≠ "java/lang/invoke/MethodHandle" ∧ q.1.cls ≠ "java/lang/invoke/VarHandle") ∧ Cond.instantiable q.1.cls q.2 ∈ tables_1 ∧ Cond.privateMethod q.1 ∈ tables_1 ∧ Cond.instanceMethod q.1 ∈ tables_1
theorem lw_p0 : lw_okq (⟨"SameLetters$Text", "isIn", "(ICC)Z"⟩, 6) := ⟨⟨by decide +kernel, by decide +kernel⟩, List.mem_of_getElem? (i := 24) (by decide +kernel), List.mem_of_getElem? (i := 261) (by decide +kernel), List.mem_of_getElem? (i := 262) (by decide +kernel)⟩
theorem lw_p1 : lw_okq (⟨"SameLetters$Text", "takeLetters", "()V"⟩, 6) := ⟨⟨by decide +kernel, by decide +kernel⟩, List.mem_of_getElem? (i := 24) (by decide +kernel), List.mem_of_getElem? (i := 265) (by decide +kernel), List.mem_of_getElem? (i := 266) (by decide +kernel)⟩
theorem lw_p2 : lw_okq (⟨"SameLetters$Text", "isName", "(Ljava/lang/String;)Z"⟩, 6) := ⟨⟨by decide +kernel, by decide +kernel⟩, List.mem_of_getElem? (i := 24) (by decide +kernel), List.mem_of_getElem? (i := 270) (by decide +kernel), List.mem_of_getElem? (i := 271) (by decide +kernel)⟩
theorem lw_p3 : lw_okq (⟨"SameLetters$Text", "takeNumber", "()V"⟩, 6) := ⟨⟨by decide +kernel, by decide +kernel⟩, List.mem_of_getElem? (i := 24) (by decide +kernel), List.mem_of_getElem? (i := 323) (by decide +kernel), List.mem_of_getElem? (i := 324) (by decide +kernel)⟩
theorem lw_p4 : lw_okq (⟨"SameLetters$Tongue", "readWord", "(LSameLetters$Text;)Z"⟩, 4) := ⟨⟨by decide +kernel, by decide +kernel⟩, List.mem_of_getElem? (i := 132) (by decide +kernel), List.mem_of_getElem? (i := 330) (by decide +kernel), List.mem_of_getElem? (i := 331) (by decide +kernel)⟩
theorem lw_p5 : lw_okq (⟨"SameLetters$Tongue", "readShape", "(LSameLetters$Text;)Z"⟩, 4) := ⟨⟨by decide +kernel, by decide +kernel⟩, List.mem_of_getElem? (i := 132) (by decide +kernel), List.mem_of_getElem? (i := 344) (by decide +kernel), List.mem_of_getElem? (i := 345) (by decide +kernel)⟩
theorem lw_p6 : lw_okq (⟨"SameLetters$Sayings", "fillRow", "(ILSameLetters$Tongue;)V"⟩, 14) := ⟨⟨by decide +kernel, by decide +kernel⟩, List.mem_of_getElem? (i := 57) (by decide +kernel), List.mem_of_getElem? (i := 352) (by decide +kernel), List.mem_of_getElem? (i := 353) (by decide +kernel)⟩
theorem lw_p7 : lw_okq (⟨"SameLetters$Sayings", "putIntoGroup", "(I)V"⟩, 14) := ⟨⟨by decide +kernel, by decide +kernel⟩, List.mem_of_getElem? (i := 57) (by decide +kernel), List.mem_of_getElem? (i := 364) (by decide +kernel), List.mem_of_getElem? (i := 365) (by decide +kernel)⟩
theorem lw_p8 : lw_okq (⟨"SameLetters", "isWord", "(I)Z"⟩, 7) := ⟨⟨by decide +kernel, by decide +kernel⟩, List.mem_of_getElem? (i := 16) (by decide +kernel), List.mem_of_getElem? (i := 373) (by decide +kernel), List.mem_of_getElem? (i := 374) (by decide +kernel)⟩
theorem lw_p9 : lw_okq (⟨"SameLetters", "isShape", "(I)Z"⟩, 7) := ⟨⟨by decide +kernel, by decide +kernel⟩, List.mem_of_getElem? (i := 16) (by decide +kernel), List.mem_of_getElem? (i := 385) (by decide +kernel), List.mem_of_getElem? (i := 386) (by decide +kernel)⟩
theorem lw_p10 : lw_okq (⟨"SameLetters$Sayings", "isNear", "(III)Z"⟩, 14) := ⟨⟨by decide +kernel, by decide +kernel⟩, List.mem_of_getElem? (i := 57) (by decide +kernel), List.mem_of_getElem? (i := 451) (by decide +kernel), List.mem_of_getElem? (i := 452) (by decide +kernel)⟩
theorem lw_p11 : lw_okq (⟨"SameLetters$Sayings", "difference", "(II)I"⟩, 14) := ⟨⟨by decide +kernel, by decide +kernel⟩, List.mem_of_getElem? (i := 57) (by decide +kernel), List.mem_of_getElem? (i := 455) (by decide +kernel), List.mem_of_getElem? (i := 456) (by decide +kernel)⟩
theorem lw_p12 : lw_okq (⟨"SameLetters", "rateWord", "(I)I"⟩, 7) := ⟨⟨by decide +kernel, by decide +kernel⟩, List.mem_of_getElem? (i := 16) (by decide +kernel), List.mem_of_getElem? (i := 545) (by decide +kernel), List.mem_of_getElem? (i := 546) (by decide +kernel)⟩
theorem lw_p13 : lw_okq (⟨"SameLetters", "rateVow", "(I)I"⟩, 7) := ⟨⟨by decide +kernel, by decide +kernel⟩, List.mem_of_getElem? (i := 16) (by decide +kernel), List.mem_of_getElem? (i := 549) (by decide +kernel), List.mem_of_getElem? (i := 550) (by decide +kernel)⟩
theorem lw_p14 : lw_okq (⟨"SameLetters", "rateBill", "(I)I"⟩, 7) := ⟨⟨by decide +kernel, by decide +kernel⟩, List.mem_of_getElem? (i := 16) (by decide +kernel), List.mem_of_getElem? (i := 554) (by decide +kernel), List.mem_of_getElem? (i := 555) (by decide +kernel)⟩
theorem lw_p15 : lw_okq (⟨"SameLetters", "rateVerse", "(I)I"⟩, 7) := ⟨⟨by decide +kernel, by decide +kernel⟩, List.mem_of_getElem? (i := 16) (by decide +kernel), List.mem_of_getElem? (i := 559) (by decide +kernel), List.mem_of_getElem? (i := 560) (by decide +kernel)⟩
def lw_privs_1 : List (MethodName × Nat) := [(⟨"SameLetters$Text", "isIn", "(ICC)Z"⟩, 6), (⟨"SameLetters$Text", "takeLetters", "()V"⟩, 6), (⟨"SameLetters$Text", "isName", "(Ljava/lang/String;)Z"⟩, 6), (⟨"SameLetters$Text", "takeNumber", "()V"⟩, 6), (⟨"SameLetters$Tongue", "readWord", "(LSameLetters$Text;)Z"⟩, 4), (⟨"SameLetters$Tongue", "readShape", "(LSameLetters$Text;)Z"⟩, 4), (⟨"SameLetters$Sayings", "fillRow", "(ILSameLetters$Tongue;)V"⟩, 14), (⟨"SameLetters$Sayings", "putIntoGroup", "(I)V"⟩, 14), (⟨"SameLetters", "isWord", "(I)Z"⟩, 7), (⟨"SameLetters", "isShape", "(I)Z"⟩, 7), (⟨"SameLetters$Sayings", "isNear", "(III)Z"⟩, 14), (⟨"SameLetters$Sayings", "difference", "(II)I"⟩, 14), (⟨"SameLetters", "rateWord", "(I)I"⟩, 7), (⟨"SameLetters", "rateVow", "(I)I"⟩, 7), (⟨"SameLetters", "rateBill", "(I)I"⟩, 7), (⟨"SameLetters", "rateVerse", "(I)I"⟩, 7)]
theorem lw_r1 : ∀ q ∈ lw_privs_1, lw_okq q := List.forall_mem_cons.mpr ⟨lw_p0, List.forall_mem_cons.mpr ⟨lw_p1, List.forall_mem_cons.mpr ⟨lw_p2, List.forall_mem_cons.mpr ⟨lw_p3, List.forall_mem_cons.mpr ⟨lw_p4, List.forall_mem_cons.mpr ⟨lw_p5, List.forall_mem_cons.mpr ⟨lw_p6, List.forall_mem_cons.mpr ⟨lw_p7, List.forall_mem_cons.mpr ⟨lw_p8, List.forall_mem_cons.mpr ⟨lw_p9, List.forall_mem_cons.mpr ⟨lw_p10, List.forall_mem_cons.mpr ⟨lw_p11, List.forall_mem_cons.mpr ⟨lw_p12, List.forall_mem_cons.mpr ⟨lw_p13, List.forall_mem_cons.mpr ⟨lw_p14, List.forall_mem_cons.mpr ⟨lw_p15, fun _ h => absurd h List.not_mem_nil⟩⟩⟩⟩⟩⟩⟩⟩⟩⟩⟩⟩⟩⟩⟩⟩
theorem lw_p16 : lw_okq (⟨"SameLetters", "rateInsult", "(I)I"⟩, 7) := ⟨⟨by decide +kernel, by decide +kernel⟩, List.mem_of_getElem? (i := 16) (by decide +kernel), List.mem_of_getElem? (i := 564) (by decide +kernel), List.mem_of_getElem? (i := 565) (by decide +kernel)⟩
theorem lw_p17 : lw_okq (⟨"SameLetters", "rateThreat", "(I)I"⟩, 7) := ⟨⟨by decide +kernel, by decide +kernel⟩, List.mem_of_getElem? (i := 16) (by decide +kernel), List.mem_of_getElem? (i := 569) (by decide +kernel), List.mem_of_getElem? (i := 570) (by decide +kernel)⟩
theorem lw_p18 : lw_okq (⟨"SameLettersModel", "lists", "()V"⟩, 18) := ⟨⟨by decide +kernel, by decide +kernel⟩, List.mem_of_getElem? (i := 598) (by decide +kernel), List.mem_of_getElem? (i := 604) (by decide +kernel), List.mem_of_getElem? (i := 605) (by decide +kernel)⟩
theorem lw_p19 : lw_okq (⟨"SameLettersModel", "isSaid", "(I)Z"⟩, 18) := ⟨⟨by decide +kernel, by decide +kernel⟩, List.mem_of_getElem? (i := 598) (by decide +kernel), List.mem_of_getElem? (i := 608) (by decide +kernel), List.mem_of_getElem? (i := 609) (by decide +kernel)⟩
theorem lw_p20 : lw_okq (⟨"SameLettersModel", "isWord", "(I)Z"⟩, 18) := ⟨⟨by decide +kernel, by decide +kernel⟩, List.mem_of_getElem? (i := 598) (by decide +kernel), List.mem_of_getElem? (i := 618) (by decide +kernel), List.mem_of_getElem? (i := 619) (by decide +kernel)⟩
theorem lw_p21 : lw_okq (⟨"SameLettersModel", "isOf", "(II)Z"⟩, 18) := ⟨⟨by decide +kernel, by decide +kernel⟩, List.mem_of_getElem? (i := 598) (by decide +kernel), List.mem_of_getElem? (i := 625) (by decide +kernel), List.mem_of_getElem? (i := 626) (by decide +kernel)⟩
theorem lw_p22 : lw_okq (⟨"SameLettersModel", "adds", "(I)V"⟩, 18) := ⟨⟨by decide +kernel, by decide +kernel⟩, List.mem_of_getElem? (i := 598) (by decide +kernel), List.mem_of_getElem? (i := 629) (by decide +kernel), List.mem_of_getElem? (i := 630) (by decide +kernel)⟩
theorem lw_p23 : lw_okq (⟨"SameLettersModel", "reads", "()Z"⟩, 18) := ⟨⟨by decide +kernel, by decide +kernel⟩, List.mem_of_getElem? (i := 598) (by decide +kernel), List.mem_of_getElem? (i := 701) (by decide +kernel), List.mem_of_getElem? (i := 702) (by decide +kernel)⟩
theorem lw_p24 : lw_okq (⟨"SameLettersModel", "token", "()V"⟩, 18) := ⟨⟨by decide +kernel, by decide +kernel⟩, List.mem_of_getElem? (i := 598) (by decide +kernel), List.mem_of_getElem? (i := 705) (by decide +kernel), List.mem_of_getElem? (i := 706) (by decide +kernel)⟩
theorem lw_p25 : lw_okq (⟨"SameLettersModel", "byteAt", "(I)I"⟩, 18) := ⟨⟨by decide +kernel, by decide +kernel⟩, List.mem_of_getElem? (i := 598) (by decide +kernel), List.mem_of_getElem? (i := 709) (by decide +kernel), List.mem_of_getElem? (i := 710) (by decide +kernel)⟩
theorem lw_p26 : lw_okq (⟨"SameLettersModel", "verb", "()I"⟩, 18) := ⟨⟨by decide +kernel, by decide +kernel⟩, List.mem_of_getElem? (i := 598) (by decide +kernel), List.mem_of_getElem? (i := 716) (by decide +kernel), List.mem_of_getElem? (i := 717) (by decide +kernel)⟩
theorem lw_p27 : lw_okq (⟨"SameLettersModel", "readsWord", "()Z"⟩, 18) := ⟨⟨by decide +kernel, by decide +kernel⟩, List.mem_of_getElem? (i := 598) (by decide +kernel), List.mem_of_getElem? (i := 723) (by decide +kernel), List.mem_of_getElem? (i := 724) (by decide +kernel)⟩
theorem lw_p28 : lw_okq (⟨"SameLettersModel", "readsSigns", "(I)Z"⟩, 18) := ⟨⟨by decide +kernel, by decide +kernel⟩, List.mem_of_getElem? (i := 598) (by decide +kernel), List.mem_of_getElem? (i := 727) (by decide +kernel), List.mem_of_getElem? (i := 728) (by decide +kernel)⟩
theorem lw_p29 : lw_okq (⟨"SameLettersModel", "readsNumber", "(II)Z"⟩, 18) := ⟨⟨by decide +kernel, by decide +kernel⟩, List.mem_of_getElem? (i := 598) (by decide +kernel), List.mem_of_getElem? (i := 731) (by decide +kernel), List.mem_of_getElem? (i := 732) (by decide +kernel)⟩
theorem lw_p30 : lw_okq (⟨"SameLettersModel", "figure", "(I)I"⟩, 18) := ⟨⟨by decide +kernel, by decide +kernel⟩, List.mem_of_getElem? (i := 598) (by decide +kernel), List.mem_of_getElem? (i := 735) (by decide +kernel), List.mem_of_getElem? (i := 736) (by decide +kernel)⟩
theorem lw_p31 : lw_okq (⟨"SameLettersModel", "readsShape", "()Z"⟩, 18) := ⟨⟨by decide +kernel, by decide +kernel⟩, List.mem_of_getElem? (i := 598) (by decide +kernel), List.mem_of_getElem? (i := 739) (by decide +kernel), List.mem_of_getElem? (i := 740) (by decide +kernel)⟩
def lw_privs_2 : List (MethodName × Nat) := [(⟨"SameLetters", "rateInsult", "(I)I"⟩, 7), (⟨"SameLetters", "rateThreat", "(I)I"⟩, 7), (⟨"SameLettersModel", "lists", "()V"⟩, 18), (⟨"SameLettersModel", "isSaid", "(I)Z"⟩, 18), (⟨"SameLettersModel", "isWord", "(I)Z"⟩, 18), (⟨"SameLettersModel", "isOf", "(II)Z"⟩, 18), (⟨"SameLettersModel", "adds", "(I)V"⟩, 18), (⟨"SameLettersModel", "reads", "()Z"⟩, 18), (⟨"SameLettersModel", "token", "()V"⟩, 18), (⟨"SameLettersModel", "byteAt", "(I)I"⟩, 18), (⟨"SameLettersModel", "verb", "()I"⟩, 18), (⟨"SameLettersModel", "readsWord", "()Z"⟩, 18), (⟨"SameLettersModel", "readsSigns", "(I)Z"⟩, 18), (⟨"SameLettersModel", "readsNumber", "(II)Z"⟩, 18), (⟨"SameLettersModel", "figure", "(I)I"⟩, 18), (⟨"SameLettersModel", "readsShape", "()Z"⟩, 18)]
theorem lw_r2 : ∀ q ∈ lw_privs_2, lw_okq q := List.forall_mem_cons.mpr ⟨lw_p16, List.forall_mem_cons.mpr ⟨lw_p17, List.forall_mem_cons.mpr ⟨lw_p18, List.forall_mem_cons.mpr ⟨lw_p19, List.forall_mem_cons.mpr ⟨lw_p20, List.forall_mem_cons.mpr ⟨lw_p21, List.forall_mem_cons.mpr ⟨lw_p22, List.forall_mem_cons.mpr ⟨lw_p23, List.forall_mem_cons.mpr ⟨lw_p24, List.forall_mem_cons.mpr ⟨lw_p25, List.forall_mem_cons.mpr ⟨lw_p26, List.forall_mem_cons.mpr ⟨lw_p27, List.forall_mem_cons.mpr ⟨lw_p28, List.forall_mem_cons.mpr ⟨lw_p29, List.forall_mem_cons.mpr ⟨lw_p30, List.forall_mem_cons.mpr ⟨lw_p31, fun _ h => absurd h List.not_mem_nil⟩⟩⟩⟩⟩⟩⟩⟩⟩⟩⟩⟩⟩⟩⟩⟩
theorem lw_p32 : lw_okq (⟨"SameLettersModel", "isShape", "(I)Z"⟩, 18) := ⟨⟨by decide +kernel, by decide +kernel⟩, List.mem_of_getElem? (i := 598) (by decide +kernel), List.mem_of_getElem? (i := 755) (by decide +kernel), List.mem_of_getElem? (i := 756) (by decide +kernel)⟩
theorem lw_p33 : lw_okq (⟨"SameLettersModel", "placeOf", "(I)I"⟩, 18) := ⟨⟨by decide +kernel, by decide +kernel⟩, List.mem_of_getElem? (i := 598) (by decide +kernel), List.mem_of_getElem? (i := 763) (by decide +kernel), List.mem_of_getElem? (i := 764) (by decide +kernel)⟩
theorem lw_p34 : lw_okq (⟨"SameLettersModel", "isAnswer", "(III)Z"⟩, 18) := ⟨⟨by decide +kernel, by decide +kernel⟩, List.mem_of_getElem? (i := 598) (by decide +kernel), List.mem_of_getElem? (i := 798) (by decide +kernel), List.mem_of_getElem? (i := 799) (by decide +kernel)⟩
theorem lw_p35 : lw_okq (⟨"SameLettersModel", "bestOf", "(II)I"⟩, 18) := ⟨⟨by decide +kernel, by decide +kernel⟩, List.mem_of_getElem? (i := 598) (by decide +kernel), List.mem_of_getElem? (i := 805) (by decide +kernel), List.mem_of_getElem? (i := 806) (by decide +kernel)⟩
theorem lw_p36 : lw_okq (⟨"SameLettersModel", "lays", "(I)I"⟩, 18) := ⟨⟨by decide +kernel, by decide +kernel⟩, List.mem_of_getElem? (i := 598) (by decide +kernel), List.mem_of_getElem? (i := 825) (by decide +kernel), List.mem_of_getElem? (i := 826) (by decide +kernel)⟩
theorem lw_p37 : lw_okq (⟨"SameLettersModel", "writtenIn", "(I)I"⟩, 18) := ⟨⟨by decide +kernel, by decide +kernel⟩, List.mem_of_getElem? (i := 598) (by decide +kernel), List.mem_of_getElem? (i := 840) (by decide +kernel), List.mem_of_getElem? (i := 841) (by decide +kernel)⟩
theorem lw_p38 : lw_okq (⟨"SameLettersModel", "written", "(I)I"⟩, 18) := ⟨⟨by decide +kernel, by decide +kernel⟩, List.mem_of_getElem? (i := 598) (by decide +kernel), List.mem_of_getElem? (i := 858) (by decide +kernel), List.mem_of_getElem? (i := 859) (by decide +kernel)⟩
def lw_privs_3 : List (MethodName × Nat) := [(⟨"SameLettersModel", "isShape", "(I)Z"⟩, 18), (⟨"SameLettersModel", "placeOf", "(I)I"⟩, 18), (⟨"SameLettersModel", "isAnswer", "(III)Z"⟩, 18), (⟨"SameLettersModel", "bestOf", "(II)I"⟩, 18), (⟨"SameLettersModel", "lays", "(I)I"⟩, 18), (⟨"SameLettersModel", "writtenIn", "(I)I"⟩, 18), (⟨"SameLettersModel", "written", "(I)I"⟩, 18)]
theorem lw_r3 : ∀ q ∈ lw_privs_3, lw_okq q := List.forall_mem_cons.mpr ⟨lw_p32, List.forall_mem_cons.mpr ⟨lw_p33, List.forall_mem_cons.mpr ⟨lw_p34, List.forall_mem_cons.mpr ⟨lw_p35, List.forall_mem_cons.mpr ⟨lw_p36, List.forall_mem_cons.mpr ⟨lw_p37, List.forall_mem_cons.mpr ⟨lw_p38, fun _ h => absurd h List.not_mem_nil⟩⟩⟩⟩⟩⟩⟩
def lw_privs : List (MethodName × Nat) := lw_privs_1 ++ (lw_privs_2 ++ (lw_privs_3))
def lw_tbl : List Cond := k2_sels lw_privs ++ tables_1
theorem lw_privs_ok : ∀ q ∈ lw_privs, lw_okq q := by
  show ∀ q ∈ lw_privs_1 ++ (lw_privs_2 ++ (lw_privs_3)), lw_okq q
  exact List.forall_mem_append.mpr ⟨lw_r1, List.forall_mem_append.mpr ⟨lw_r2, lw_r3⟩⟩
-- ===== end of PART A; then your names; then what follows =====
end
section
def RX0 : String := "SameLetters$Post"
def TX0 : u_T := fun k => match k with
  | 0 => ("SameLetters$Post", "rows", "[I", true)
  | 1 => ("SameLetters$Post", "many", "I", false)
  | _ => ("SameLetters$Post", "kept", "Z", false)
def tyX0 : Nat → FieldType := fun k => match k with
  | 0 => .array .int
  | 1 => .int
  | _ => .boolean
abbrev wsX00 : List Cond := u_ws RX0 TX0 3
theorem nmX0 : ∀ a, a < 3 → ∀ b, b < 3 → a ≠ b → (TX0 a).2.1 ≠ (TX0 b).2.1 := by decide +kernel
theorem tyX0_ok : ∀ k, k < 3 → parseFieldDescriptor (TX0 k).2.2.1 = some (tyX0 k) := by decide +kernel
abbrev cX0_init : ByteArray := prog_2_method_1_code
def yX0_init : MethodName := ⟨RX0, "<init>", "()V"⟩
abbrev cX0_become : ByteArray := prog_2_method_2_code
def yX0_become : MethodName := ⟨RX0, "become", "(LSameLetters$Post;)V"⟩
abbrev cX0_timesOf : ByteArray := prog_2_method_3_code
def yX0_timesOf : MethodName := ⟨RX0, "timesOf", "(I)I"⟩
def RX1 : String := "SameLetters$Sayings"
def TX1 : u_T := fun k => match k with
  | 0 => ("SameLetters$Sayings", "isLetter", "[Z", true)
  | 1 => ("SameLetters$Sayings", "kindRow", "[I", true)
  | 2 => ("SameLetters$Sayings", "own", "[I", true)
  | 3 => ("SameLetters$Sayings", "other", "[I", true)
  | 4 => ("SameLetters$Sayings", "length", "[I", true)
  | 5 => ("SameLetters$Sayings", "counts", "[J", true)
  | 6 => ("SameLetters$Sayings", "set", "[I", true)
  | 7 => ("SameLetters$Sayings", "bestAnswer", "[I", true)
  | 8 => ("SameLetters$Sayings", "lettersOfSet", "[I", true)
  | 9 => ("SameLetters$Sayings", "howMany", "I", false)
  | 10 => ("SameLetters$Sayings", "bestOfGroup", "[I", true)
  | 11 => ("SameLetters$Sayings", "nextOfGroup", "[I", true)
  | 12 => ("SameLetters$Sayings", "groupOf", "[I", true)
  | _ => ("SameLetters$Sayings", "groups", "I", false)
def tyX1 : Nat → FieldType := fun k => match k with
  | 0 => .array .boolean
  | 1 => .array .int
  | 2 => .array .int
  | 3 => .array .int
  | 4 => .array .int
  | 5 => .array .long
  | 6 => .array .int
  | 7 => .array .int
  | 8 => .array .int
  | 9 => .int
  | 10 => .array .int
  | 11 => .array .int
  | 12 => .array .int
  | _ => .int
abbrev wsX10 : List Cond := u_ws RX1 TX1 14
theorem nmX1 : ∀ a, a < 14 → ∀ b, b < 14 → a ≠ b → (TX1 a).2.1 ≠ (TX1 b).2.1 := by decide +kernel
theorem tyX1_ok : ∀ k, k < 14 → parseFieldDescriptor (TX1 k).2.2.1 = some (tyX1 k) := by decide +kernel
abbrev cX1_init : ByteArray := prog_3_method_1_code
def yX1_init : MethodName := ⟨RX1, "<init>", "()V"⟩
abbrev cX1_fill : ByteArray := prog_3_method_2_code
def yX1_fill : MethodName := ⟨RX1, "fill", "(LSameLetters$Tongue;)V"⟩
abbrev cX1_fillRow : ByteArray := prog_3_method_3_code
def yX1_fillRow : MethodName := ⟨RX1, "fillRow", "(ILSameLetters$Tongue;)V"⟩
abbrev cX1_putIntoGroup : ByteArray := prog_3_method_4_code
def yX1_putIntoGroup : MethodName := ⟨RX1, "putIntoGroup", "(I)V"⟩
abbrev cX1_canBeSaid : ByteArray := prog_3_method_5_code
def yX1_canBeSaid : MethodName := ⟨RX1, "canBeSaid", "(I)Z"⟩
abbrev cX1_countOf : ByteArray := prog_3_method_6_code
def yX1_countOf : MethodName := ⟨RX1, "countOf", "(II)I"⟩
abbrev cX1_isAnswer : ByteArray := prog_3_method_7_code
def yX1_isAnswer : MethodName := ⟨RX1, "isAnswer", "(II)Z"⟩
abbrev cX1_isNear : ByteArray := prog_3_method_8_code
def yX1_isNear : MethodName := ⟨RX1, "isNear", "(III)Z"⟩
abbrev cX1_difference : ByteArray := prog_3_method_9_code
def yX1_difference : MethodName := ⟨RX1, "difference", "(II)I"⟩
abbrev cX1_mostOwn : ByteArray := prog_3_method_10_code
def yX1_mostOwn : MethodName := ⟨RX1, "mostOwn", "()I"⟩
abbrev cX1_numberAt : ByteArray := prog_3_method_11_code
def yX1_numberAt : MethodName := ⟨RX1, "numberAt", "(I)I"⟩
abbrev cX1_countAnswers : ByteArray := prog_3_method_12_code
def yX1_countAnswers : MethodName := ⟨RX1, "countAnswers", "(II)I"⟩
abbrev cX1_findBest : ByteArray := prog_3_method_13_code
def yX1_findBest : MethodName := ⟨RX1, "findBest", "(II)I"⟩
abbrev cX1_countMute : ByteArray := prog_3_method_14_code
def yX1_countMute : MethodName := ⟨RX1, "countMute", "()I"⟩
abbrev cX1_firstMute : ByteArray := prog_3_method_15_code
def yX1_firstMute : MethodName := ⟨RX1, "firstMute", "()I"⟩
abbrev cX1_bestToWrite : ByteArray := prog_3_method_16_code
def yX1_bestToWrite : MethodName := ⟨RX1, "bestToWrite", "()I"⟩
abbrev cX1_leastCommonSign : ByteArray := prog_3_method_17_code
def yX1_leastCommonSign : MethodName := ⟨RX1, "leastCommonSign", "(II)I"⟩
abbrev cX1_follow : ByteArray := prog_3_method_18_code
def yX1_follow : MethodName := ⟨RX1, "follow", "(II)I"⟩
abbrev cX1_stepsToRing : ByteArray := prog_3_method_19_code
def yX1_stepsToRing : MethodName := ⟨RX1, "stepsToRing", "(I)I"⟩
abbrev cX1_bestSet : ByteArray := prog_3_method_20_code
def yX1_bestSet : MethodName := ⟨RX1, "bestSet", "(I)I"⟩
abbrev cX1_countWithin : ByteArray := prog_3_method_21_code
def yX1_countWithin : MethodName := ⟨RX1, "countWithin", "(I)I"⟩
abbrev cX1_countAsked : ByteArray := prog_3_method_22_code
def yX1_countAsked : MethodName := ⟨RX1, "countAsked", "(II)I"⟩
def RX2 : String := "SameLetters$Shape"
def TX2 : u_T := fun k => match k with
  | 0 => ("SameLetters$Shape", "kinds", "[I", true)
  | _ => ("SameLetters$Shape", "length", "I", false)
def tyX2 : Nat → FieldType := fun k => match k with
  | 0 => .array .int
  | _ => .int
abbrev wsX20 : List Cond := u_ws RX2 TX2 2
theorem nmX2 : ∀ a, a < 2 → ∀ b, b < 2 → a ≠ b → (TX2 a).2.1 ≠ (TX2 b).2.1 := by decide +kernel
theorem tyX2_ok : ∀ k, k < 2 → parseFieldDescriptor (TX2 k).2.2.1 = some (tyX2 k) := by decide +kernel
abbrev cX2_init : ByteArray := prog_4_method_1_code
def yX2_init : MethodName := ⟨RX2, "<init>", "()V"⟩
abbrev cX2_row : ByteArray := prog_4_method_2_code
def yX2_row : MethodName := ⟨RX2, "row", "()I"⟩
abbrev cX2_lengthened : ByteArray := prog_4_method_3_code
def yX2_lengthened : MethodName := ⟨RX2, "lengthened", "(II)I"⟩
def RX3 : String := "SameLetters$Text"
def TX3 : u_T := fun k => match k with
  | 0 => ("SameLetters$Text", "bytes", "[I", true)
  | 1 => ("SameLetters$Text", "length", "I", false)
  | 2 => ("SameLetters$Text", "start", "I", false)
  | 3 => ("SameLetters$Text", "behind", "I", false)
  | 4 => ("SameLetters$Text", "sort", "I", false)
  | _ => ("SameLetters$Text", "number", "I", false)
def tyX3 : Nat → FieldType := fun k => match k with
  | 0 => .array .int
  | 1 => .int
  | 2 => .int
  | 3 => .int
  | 4 => .int
  | _ => .int
abbrev wsX30 : List Cond := u_ws RX3 TX3 6
theorem nmX3 : ∀ a, a < 6 → ∀ b, b < 6 → a ≠ b → (TX3 a).2.1 ≠ (TX3 b).2.1 := by decide +kernel
theorem tyX3_ok : ∀ k, k < 6 → parseFieldDescriptor (TX3 k).2.2.1 = some (tyX3 k) := by decide +kernel
abbrev cX3_init : ByteArray := prog_5_method_1_code
def yX3_init : MethodName := ⟨RX3, "<init>", "()V"⟩
abbrev cX3_add : ByteArray := prog_5_method_2_code
def yX3_add : MethodName := ⟨RX3, "add", "(I)V"⟩
abbrev cX3_rewind : ByteArray := prog_5_method_3_code
def yX3_rewind : MethodName := ⟨RX3, "rewind", "()V"⟩
abbrev cX3_advance : ByteArray := prog_5_method_4_code
def yX3_advance : MethodName := ⟨RX3, "advance", "()V"⟩
abbrev cX3_isIn : ByteArray := prog_5_method_5_code
def yX3_isIn : MethodName := ⟨RX3, "isIn", "(ICC)Z"⟩
abbrev cX3_takeLetters : ByteArray := prog_5_method_6_code
def yX3_takeLetters : MethodName := ⟨RX3, "takeLetters", "()V"⟩
abbrev cX3_isName : ByteArray := prog_5_method_7_code
def yX3_isName : MethodName := ⟨RX3, "isName", "(Ljava/lang/String;)Z"⟩
abbrev cX3_takeNumber : ByteArray := prog_5_method_8_code
def yX3_takeNumber : MethodName := ⟨RX3, "takeNumber", "()V"⟩
def RX4 : String := "SameLetters$Tongue"
def TX4 : u_T := fun k => match k with
  | 0 => ("SameLetters$Tongue", "words", "[LSameLetters$Word;", true)
  | 1 => ("SameLetters$Tongue", "shapes", "[LSameLetters$Shape;", true)
  | 2 => ("SameLetters$Tongue", "wordCount", "I", false)
  | _ => ("SameLetters$Tongue", "shapeCount", "I", false)
def tyX4 : Nat → FieldType := fun k => match k with
  | 0 => .array (.object "SameLetters$Word")
  | 1 => .array (.object "SameLetters$Shape")
  | 2 => .int
  | _ => .int
abbrev wsX40 : List Cond := u_ws RX4 TX4 4
theorem nmX4 : ∀ a, a < 4 → ∀ b, b < 4 → a ≠ b → (TX4 a).2.1 ≠ (TX4 b).2.1 := by decide +kernel
theorem tyX4_ok : ∀ k, k < 4 → parseFieldDescriptor (TX4 k).2.2.1 = some (tyX4 k) := by decide +kernel
abbrev cX4_init : ByteArray := prog_6_method_1_code
def yX4_init : MethodName := ⟨RX4, "<init>", "()V"⟩
abbrev cX4_readAll : ByteArray := prog_6_method_2_code
def yX4_readAll : MethodName := ⟨RX4, "readAll", "(LSameLetters$Text;)Z"⟩
abbrev cX4_readWord : ByteArray := prog_6_method_3_code
def yX4_readWord : MethodName := ⟨RX4, "readWord", "(LSameLetters$Text;)Z"⟩
abbrev cX4_readShape : ByteArray := prog_6_method_4_code
def yX4_readShape : MethodName := ⟨RX4, "readShape", "(LSameLetters$Text;)Z"⟩
abbrev cX4_readSigns : ByteArray := prog_6_method_5_code
def yX4_readSigns : MethodName := ⟨RX4, "readSigns", "(LSameLetters$Text;LSameLetters$Word;)Z"⟩
abbrev cX4_readNumber : ByteArray := prog_6_method_6_code
def yX4_readNumber : MethodName := ⟨RX4, "readNumber", "(LSameLetters$Text;I)Z"⟩
abbrev cX4_readEnd : ByteArray := prog_6_method_7_code
def yX4_readEnd : MethodName := ⟨RX4, "readEnd", "(LSameLetters$Text;)Z"⟩
def RX5 : String := "SameLetters$Word"
def TX5 : u_T := fun k => match k with
  | 0 => ("SameLetters$Word", "signs", "[I", true)
  | 1 => ("SameLetters$Word", "length", "I", false)
  | 2 => ("SameLetters$Word", "kind", "I", false)
  | 3 => ("SameLetters$Word", "own", "I", false)
  | _ => ("SameLetters$Word", "other", "I", false)
def tyX5 : Nat → FieldType := fun k => match k with
  | 0 => .array .int
  | 1 => .int
  | 2 => .int
  | 3 => .int
  | _ => .int
abbrev wsX50 : List Cond := u_ws RX5 TX5 5
theorem nmX5 : ∀ a, a < 5 → ∀ b, b < 5 → a ≠ b → (TX5 a).2.1 ≠ (TX5 b).2.1 := by decide +kernel
theorem tyX5_ok : ∀ k, k < 5 → parseFieldDescriptor (TX5 k).2.2.1 = some (tyX5 k) := by decide +kernel
abbrev cX5_init : ByteArray := prog_7_method_1_code
def yX5_init : MethodName := ⟨RX5, "<init>", "()V"⟩
def RX6 : String := "SameLetters"
def TX6 : u_T := fun k => match k with
  | 0 => ("SameLetters", "text", "LSameLetters$Text;", true)
  | 1 => ("SameLetters", "sayings", "LSameLetters$Sayings;", true)
  | 2 => ("SameLetters", "post", "LSameLetters$Post;", true)
  | 3 => ("SameLetters", "images", "[LSameLetters$Post;", true)
  | 4 => ("SameLetters", "spoken", "LSameLetters$Tongue;", false)
  | 5 => ("SameLetters", "draft", "LSameLetters$Tongue;", false)
  | _ => ("SameLetters", "traced", "J", false)
def tyX6 : Nat → FieldType := fun k => match k with
  | 0 => .object "SameLetters$Text"
  | 1 => .object "SameLetters$Sayings"
  | 2 => .object "SameLetters$Post"
  | 3 => .array (.object "SameLetters$Post")
  | 4 => .object "SameLetters$Tongue"
  | 5 => .object "SameLetters$Tongue"
  | _ => .long
abbrev wsX60 : List Cond := u_ws RX6 TX6 7
theorem nmX6 : ∀ a, a < 7 → ∀ b, b < 7 → a ≠ b → (TX6 a).2.1 ≠ (TX6 b).2.1 := by decide +kernel
theorem tyX6_ok : ∀ k, k < 7 → parseFieldDescriptor (TX6 k).2.2.1 = some (tyX6 k) := by decide +kernel
abbrev cX6_init : ByteArray := prog_1_method_1_code
def yX6_init : MethodName := ⟨RX6, "<init>", "()V"⟩
abbrev cX6_type : ByteArray := prog_1_method_2_code
def yX6_type : MethodName := ⟨RX6, "type", "(JI)I"⟩
abbrev cX6_clear : ByteArray := prog_1_method_3_code
def yX6_clear : MethodName := ⟨RX6, "clear", "()I"⟩
abbrev cX6_tongue : ByteArray := prog_1_method_4_code
def yX6_tongue : MethodName := ⟨RX6, "tongue", "()I"⟩
abbrev cX6_word : ByteArray := prog_1_method_5_code
def yX6_word : MethodName := ⟨RX6, "word", "(II)I"⟩
abbrev cX6_spell : ByteArray := prog_1_method_6_code
def yX6_spell : MethodName := ⟨RX6, "spell", "(II)I"⟩
abbrev cX6_shape : ByteArray := prog_1_method_7_code
def yX6_shape : MethodName := ⟨RX6, "shape", "(II)I"⟩
abbrev cX6_letter : ByteArray := prog_1_method_8_code
def yX6_letter : MethodName := ⟨RX6, "letter", "(II)I"⟩
abbrev cX6_has : ByteArray := prog_1_method_9_code
def yX6_has : MethodName := ⟨RX6, "has", "(II)I"⟩
abbrev cX6_write : ByteArray := prog_1_method_10_code
def yX6_write : MethodName := ⟨RX6, "write", "(I)I"⟩
abbrev cX6_undo : ByteArray := prog_1_method_11_code
def yX6_undo : MethodName := ⟨RX6, "undo", "()I"⟩
abbrev cX6_wrote : ByteArray := prog_1_method_12_code
def yX6_wrote : MethodName := ⟨RX6, "wrote", "(I)I"⟩
abbrev cX6_side : ByteArray := prog_1_method_13_code
def yX6_side : MethodName := ⟨RX6, "side", "(I)I"⟩
abbrev cX6_says : ByteArray := prog_1_method_14_code
def yX6_says : MethodName := ⟨RX6, "says", "(I)I"⟩
abbrev cX6_answers : ByteArray := prog_1_method_15_code
def yX6_answers : MethodName := ⟨RX6, "answers", "(III)I"⟩
abbrev cX6_mute : ByteArray := prog_1_method_16_code
def yX6_mute : MethodName := ⟨RX6, "mute", "(I)I"⟩
abbrev cX6_best : ByteArray := prog_1_method_17_code
def yX6_best : MethodName := ⟨RX6, "best", "(I)I"⟩
abbrev cX6_bar : ByteArray := prog_1_method_18_code
def yX6_bar : MethodName := ⟨RX6, "bar", "(II)I"⟩
abbrev cX6_chain : ByteArray := prog_1_method_19_code
def yX6_chain : MethodName := ⟨RX6, "chain", "(II)I"⟩
abbrev cX6_ring : ByteArray := prog_1_method_20_code
def yX6_ring : MethodName := ⟨RX6, "ring", "(I)I"⟩
abbrev cX6_alphabet : ByteArray := prog_1_method_21_code
def yX6_alphabet : MethodName := ⟨RX6, "alphabet", "(II)I"⟩
abbrev cX6_asked : ByteArray := prog_1_method_22_code
def yX6_asked : MethodName := ⟨RX6, "asked", "(II)I"⟩
abbrev cX6_rate : ByteArray := prog_1_method_23_code
def yX6_rate : MethodName := ⟨RX6, "rate", "(II)I"⟩
abbrev cX6_keep : ByteArray := prog_1_method_24_code
def yX6_keep : MethodName := ⟨RX6, "keep", "(I)I"⟩
abbrev cX6_back : ByteArray := prog_1_method_25_code
def yX6_back : MethodName := ⟨RX6, "back", "(I)I"⟩
abbrev cX6_count : ByteArray := prog_1_method_26_code
def yX6_count : MethodName := ⟨RX6, "count", "(I)I"⟩
abbrev cX6_trace : ByteArray := prog_1_method_27_code
def yX6_trace : MethodName := ⟨RX6, "trace", "()J"⟩
abbrev cX6_isWord : ByteArray := prog_1_method_28_code
def yX6_isWord : MethodName := ⟨RX6, "isWord", "(I)Z"⟩
abbrev cX6_isShape : ByteArray := prog_1_method_29_code
def yX6_isShape : MethodName := ⟨RX6, "isShape", "(I)Z"⟩
abbrev cX6_isSlack : ByteArray := prog_1_method_30_code
def yX6_isSlack : MethodName := ⟨RX6, "isSlack", "(I)Z"⟩
abbrev cX6_rateWord : ByteArray := prog_1_method_31_code
def yX6_rateWord : MethodName := ⟨RX6, "rateWord", "(I)I"⟩
abbrev cX6_rateVow : ByteArray := prog_1_method_32_code
def yX6_rateVow : MethodName := ⟨RX6, "rateVow", "(I)I"⟩
abbrev cX6_rateBill : ByteArray := prog_1_method_33_code
def yX6_rateBill : MethodName := ⟨RX6, "rateBill", "(I)I"⟩
abbrev cX6_rateVerse : ByteArray := prog_1_method_34_code
def yX6_rateVerse : MethodName := ⟨RX6, "rateVerse", "(I)I"⟩
abbrev cX6_rateInsult : ByteArray := prog_1_method_35_code
def yX6_rateInsult : MethodName := ⟨RX6, "rateInsult", "(I)I"⟩
abbrev cX6_rateThreat : ByteArray := prog_1_method_36_code
def yX6_rateThreat : MethodName := ⟨RX6, "rateThreat", "(I)I"⟩
def RX7 : String := "SameLettersModel"
def TX7 : u_T := fun k => match k with
  | 0 => ("SameLettersModel", "trace", "J", false)
  | 1 => ("SameLettersModel", "text", "[I", true)
  | 2 => ("SameLettersModel", "typed", "I", false)
  | 3 => ("SameLettersModel", "told", "[I", true)
  | 4 => ("SameLettersModel", "draft", "[I", true)
  | 5 => ("SameLettersModel", "s", "[I", true)
  | 6 => ("SameLettersModel", "images", "[I", true)
  | 7 => ("SameLettersModel", "kept", "[Z", true)
  | 8 => ("SameLettersModel", "letters", "[I", true)
  | 9 => ("SameLettersModel", "counts", "[I", true)
  | 10 => ("SameLettersModel", "owns", "[I", true)
  | 11 => ("SameLettersModel", "others", "[I", true)
  | 12 => ("SameLettersModel", "many", "I", false)
  | 13 => ("SameLettersModel", "at", "I", false)
  | 14 => ("SameLettersModel", "sort", "I", false)
  | 15 => ("SameLettersModel", "start", "I", false)
  | 16 => ("SameLettersModel", "size", "I", false)
  | _ => ("SameLettersModel", "row", "[I", true)
def tyX7 : Nat → FieldType := fun k => match k with
  | 0 => .long
  | 1 => .array .int
  | 2 => .int
  | 3 => .array .int
  | 4 => .array .int
  | 5 => .array .int
  | 6 => .array .int
  | 7 => .array .boolean
  | 8 => .array .int
  | 9 => .array .int
  | 10 => .array .int
  | 11 => .array .int
  | 12 => .int
  | 13 => .int
  | 14 => .int
  | 15 => .int
  | 16 => .int
  | _ => .array .int
abbrev wsX70 : List Cond := u_ws RX7 TX7 18
theorem nmX7 : ∀ a, a < 18 → ∀ b, b < 18 → a ≠ b → (TX7 a).2.1 ≠ (TX7 b).2.1 := by decide +kernel
theorem tyX7_ok : ∀ k, k < 18 → parseFieldDescriptor (TX7 k).2.2.1 = some (tyX7 k) := by decide +kernel
abbrev cX7_init : ByteArray := prog_9_method_1_code
def yX7_init : MethodName := ⟨RX7, "<init>", "()V"⟩
abbrev cX7_in : ByteArray := prog_9_method_3_code
def yX7_in : MethodName := ⟨RX7, "in", "(III)Z"⟩
abbrev cX7_isWord : ByteArray := prog_9_method_4_code
def yX7_isWord : MethodName := ⟨RX7, "isWord", "(I)Z"⟩
abbrev cX7_isShape : ByteArray := prog_9_method_5_code
def yX7_isShape : MethodName := ⟨RX7, "isShape", "(I)Z"⟩
abbrev cX7_type : ByteArray := prog_9_method_6_code
def yX7_type : MethodName := ⟨RX7, "type", "(JI)I"⟩
abbrev cX7_clear : ByteArray := prog_9_method_7_code
def yX7_clear : MethodName := ⟨RX7, "clear", "()I"⟩
abbrev cX7_byteAt : ByteArray := prog_9_method_8_code
def yX7_byteAt : MethodName := ⟨RX7, "byteAt", "(I)I"⟩
abbrev cX7_sortOf : ByteArray := prog_9_method_9_code
def yX7_sortOf : MethodName := ⟨RX7, "sortOf", "(I)I"⟩
abbrev cX7_token : ByteArray := prog_9_method_10_code
def yX7_token : MethodName := ⟨RX7, "token", "()V"⟩
abbrev cX7_verb : ByteArray := prog_9_method_11_code
def yX7_verb : MethodName := ⟨RX7, "verb", "()I"⟩
abbrev cX7_figure : ByteArray := prog_9_method_12_code
def yX7_figure : MethodName := ⟨RX7, "figure", "(I)I"⟩
abbrev cX7_readsSigns : ByteArray := prog_9_method_13_code
def yX7_readsSigns : MethodName := ⟨RX7, "readsSigns", "(I)Z"⟩
abbrev cX7_readsNumber : ByteArray := prog_9_method_14_code
def yX7_readsNumber : MethodName := ⟨RX7, "readsNumber", "(II)Z"⟩
abbrev cX7_readsWord : ByteArray := prog_9_method_15_code
def yX7_readsWord : MethodName := ⟨RX7, "readsWord", "()Z"⟩
abbrev cX7_readsShape : ByteArray := prog_9_method_16_code
def yX7_readsShape : MethodName := ⟨RX7, "readsShape", "()Z"⟩
abbrev cX7_reads : ByteArray := prog_9_method_17_code
def yX7_reads : MethodName := ⟨RX7, "reads", "()Z"⟩
abbrev cX7_tongue : ByteArray := prog_9_method_18_code
def yX7_tongue : MethodName := ⟨RX7, "tongue", "()I"⟩
abbrev cX7_length : ByteArray := prog_9_method_19_code
def yX7_length : MethodName := ⟨RX7, "length", "(I)I"⟩
abbrev cX7_wordOf : ByteArray := prog_9_method_20_code
def yX7_wordOf : MethodName := ⟨RX7, "wordOf", "(II)I"⟩
abbrev cX7_isOf : ByteArray := prog_9_method_21_code
def yX7_isOf : MethodName := ⟨RX7, "isOf", "(II)Z"⟩
abbrev cX7_isSaid : ByteArray := prog_9_method_22_code
def yX7_isSaid : MethodName := ⟨RX7, "isSaid", "(I)Z"⟩
abbrev cX7_lists : ByteArray := prog_9_method_23_code
def yX7_lists : MethodName := ⟨RX7, "lists", "()V"⟩
abbrev cX7_adds : ByteArray := prog_9_method_24_code
def yX7_adds : MethodName := ⟨RX7, "adds", "(I)V"⟩
abbrev cX7_placeOf : ByteArray := prog_9_method_25_code
def yX7_placeOf : MethodName := ⟨RX7, "placeOf", "(I)I"⟩
abbrev cX7_countOf : ByteArray := prog_9_method_26_code
def yX7_countOf : MethodName := ⟨RX7, "countOf", "(II)I"⟩
abbrev cX7_word : ByteArray := prog_9_method_27_code
def yX7_word : MethodName := ⟨RX7, "word", "(II)I"⟩
abbrev cX7_spell : ByteArray := prog_9_method_28_code
def yX7_spell : MethodName := ⟨RX7, "spell", "(II)I"⟩
abbrev cX7_shape : ByteArray := prog_9_method_29_code
def yX7_shape : MethodName := ⟨RX7, "shape", "(II)I"⟩
abbrev cX7_letter : ByteArray := prog_9_method_30_code
def yX7_letter : MethodName := ⟨RX7, "letter", "(II)I"⟩
abbrev cX7_has : ByteArray := prog_9_method_31_code
def yX7_has : MethodName := ⟨RX7, "has", "(II)I"⟩
abbrev cX7_write : ByteArray := prog_9_method_32_code
def yX7_write : MethodName := ⟨RX7, "write", "(I)I"⟩
abbrev cX7_undo : ByteArray := prog_9_method_33_code
def yX7_undo : MethodName := ⟨RX7, "undo", "()I"⟩
abbrev cX7_wrote : ByteArray := prog_9_method_34_code
def yX7_wrote : MethodName := ⟨RX7, "wrote", "(I)I"⟩
abbrev cX7_side : ByteArray := prog_9_method_35_code
def yX7_side : MethodName := ⟨RX7, "side", "(I)I"⟩
abbrev cX7_says : ByteArray := prog_9_method_36_code
def yX7_says : MethodName := ⟨RX7, "says", "(I)I"⟩
abbrev cX7_apart : ByteArray := prog_9_method_37_code
def yX7_apart : MethodName := ⟨RX7, "apart", "(II)I"⟩
abbrev cX7_isAnswer : ByteArray := prog_9_method_38_code
def yX7_isAnswer : MethodName := ⟨RX7, "isAnswer", "(III)Z"⟩
abbrev cX7_bestOf : ByteArray := prog_9_method_39_code
def yX7_bestOf : MethodName := ⟨RX7, "bestOf", "(II)I"⟩
abbrev cX7_answers : ByteArray := prog_9_method_40_code
def yX7_answers : MethodName := ⟨RX7, "answers", "(III)I"⟩
abbrev cX7_mute : ByteArray := prog_9_method_41_code
def yX7_mute : MethodName := ⟨RX7, "mute", "(I)I"⟩
abbrev cX7_best : ByteArray := prog_9_method_42_code
def yX7_best : MethodName := ⟨RX7, "best", "(I)I"⟩
abbrev cX7_bar : ByteArray := prog_9_method_43_code
def yX7_bar : MethodName := ⟨RX7, "bar", "(II)I"⟩
abbrev cX7_lays : ByteArray := prog_9_method_44_code
def yX7_lays : MethodName := ⟨RX7, "lays", "(I)I"⟩
abbrev cX7_chain : ByteArray := prog_9_method_45_code
def yX7_chain : MethodName := ⟨RX7, "chain", "(II)I"⟩
abbrev cX7_ring : ByteArray := prog_9_method_46_code
def yX7_ring : MethodName := ⟨RX7, "ring", "(I)I"⟩
abbrev cX7_ones : ByteArray := prog_9_method_47_code
def yX7_ones : MethodName := ⟨RX7, "ones", "(I)I"⟩
abbrev cX7_alphabet : ByteArray := prog_9_method_48_code
def yX7_alphabet : MethodName := ⟨RX7, "alphabet", "(II)I"⟩
abbrev cX7_writtenIn : ByteArray := prog_9_method_49_code
def yX7_writtenIn : MethodName := ⟨RX7, "writtenIn", "(I)I"⟩
abbrev cX7_asked : ByteArray := prog_9_method_50_code
def yX7_asked : MethodName := ⟨RX7, "asked", "(II)I"⟩
abbrev cX7_written : ByteArray := prog_9_method_51_code
def yX7_written : MethodName := ⟨RX7, "written", "(I)I"⟩
abbrev cX7_rate : ByteArray := prog_9_method_52_code
def yX7_rate : MethodName := ⟨RX7, "rate", "(II)I"⟩
abbrev cX7_keep : ByteArray := prog_9_method_53_code
def yX7_keep : MethodName := ⟨RX7, "keep", "(I)I"⟩
abbrev cX7_back : ByteArray := prog_9_method_54_code
def yX7_back : MethodName := ⟨RX7, "back", "(I)I"⟩
abbrev cX7_count : ByteArray := prog_9_method_55_code
def yX7_count : MethodName := ⟨RX7, "count", "(I)I"⟩
abbrev cX7_trace : ByteArray := prog_9_method_56_code
def yX7_trace : MethodName := ⟨RX7, "trace", "()J"⟩
def RJ6 : String := "java/lang/Integer"
def TJ6 : u_T := fun k => match k with
  | _ => ("", "", "", false)
def tyJ6 : Nat → FieldType := fun k => match k with
  | _ => .int
abbrev cJ6_bitCount_0f7a4 : ByteArray := prog_10_method_49_code
def yJ6_bitCount_0f7a4 : MethodName := ⟨RJ6, "bitCount", "(I)I"⟩
def RJ9 : String := "java/lang/Math"
def TJ9 : u_T := fun k => match k with
  | _ => ("", "", "", false)
def tyJ9 : Nat → FieldType := fun k => match k with
  | _ => .int
abbrev cJ9_abs_0f7a4 : ByteArray := prog_11_method_59_code
def yJ9_abs_0f7a4 : MethodName := ⟨RJ9, "abs", "(I)I"⟩
abbrev cJ9_max_7cf53 : ByteArray := prog_11_method_65_code
def yJ9_max_7cf53 : MethodName := ⟨RJ9, "max", "(II)I"⟩
abbrev cJ9_min_7cf53 : ByteArray := prog_11_method_69_code
def yJ9_min_7cf53 : MethodName := ⟨RJ9, "min", "(II)I"⟩
def RJ0 : String := "java/lang/String"
def TJ0 : u_T := fun k => match k with
  | _ => ("", "", "", false)
def tyJ0 : Nat → FieldType := fun k => match k with
  | _ => .int
abbrev cJ0_length_8abf5 : ByteArray := prog_12_method_54_code
def yJ0_length_8abf5 : MethodName := ⟨RJ0, "length", "()I"⟩
abbrev cJ0_charAt_5068e : ByteArray := prog_12_method_56_code
def yJ0_charAt_5068e : MethodName := ⟨RJ0, "charAt", "(I)C"⟩
abbrev cJ0_coder_7d493 : ByteArray := prog_12_method_152_code
def yJ0_coder_7d493 : MethodName := ⟨RJ0, "coder", "()B"⟩
abbrev cJ0_isLatin1_aae02 : ByteArray := prog_12_method_154_code
def yJ0_isLatin1_aae02 : MethodName := ⟨RJ0, "isLatin1", "()Z"⟩
abbrev cJ0_checkIndex_df160 : ByteArray := prog_12_method_155_code
def yJ0_checkIndex_df160 : MethodName := ⟨RJ0, "checkIndex", "(II)V"⟩
def RJ1 : String := "java/lang/StringLatin1"
def TJ1 : u_T := fun k => match k with
  | _ => ("", "", "", false)
def tyJ1 : Nat → FieldType := fun k => match k with
  | _ => .int
abbrev cJ1_charAt_3b067 : ByteArray := prog_13_method_2_code
def yJ1_charAt_3b067 : MethodName := ⟨RJ1, "charAt", "([BI)C"⟩
def RJ2 : String := "java/lang/StringUTF16"
def TJ2 : u_T := fun k => match k with
  | _ => ("", "", "", false)
def tyJ2 : Nat → FieldType := fun k => match k with
  | _ => .int
abbrev cJ2_getChar_3b067 : ByteArray := prog_14_method_5_code
def yJ2_getChar_3b067 : MethodName := ⟨RJ2, "getChar", "([BI)C"⟩
abbrev cJ2_length_9d52b : ByteArray := prog_14_method_6_code
def yJ2_length_9d52b : MethodName := ⟨RJ2, "length", "([B)I"⟩
abbrev cJ2_charAt_3b067 : ByteArray := prog_14_method_83_code
def yJ2_charAt_3b067 : MethodName := ⟨RJ2, "charAt", "([BI)C"⟩
abbrev cJ2_checkIndex_2214a : ByteArray := prog_14_method_91_code
def yJ2_checkIndex_2214a : MethodName := ⟨RJ2, "checkIndex", "(I[B)V"⟩
def RJ3 : String := "jdk/internal/util/Preconditions"
def TJ3 : u_T := fun k => match k with
  | _ => ("", "", "", false)
def tyJ3 : Nat → FieldType := fun k => match k with
  | _ => .int
abbrev cJ3_checkIndex_8e157 : ByteArray := prog_15_method_11_code
def yJ3_checkIndex_8e157 : MethodName := ⟨RJ3, "checkIndex", "(IILjava/util/function/BiFunction;)I"⟩
def RL : String := "SameLettersLaw"
abbrev cL_law : ByteArray := code
def yL_law : MethodName := ⟨RL, "law", "([I)Z"⟩
abbrev vwCl : List vw_C := [(RX0, TX0, 3), (RX1, TX1, 14), (RX2, TX2, 2), (RX3, TX3, 6), (RX4, TX4, 4), (RX5, TX5, 5), (RX6, TX6, 7), (RX7, TX7, 18)]
end
section
theorem dX0_init_0 : decode cX0_init 0 = .ok (.aload_n 0, 1) := by decide +kernel
theorem dX0_init_1 : decode cX0_init 1 = .ok (.invokespecial 3, 3) := by decide +kernel
theorem dX0_init_4 : decode cX0_init 4 = .ok (.aload_n 0, 1) := by decide +kernel
theorem dX0_init_5 : decode cX0_init 5 = .ok (.bipush 12, 2) := by decide +kernel
theorem dX0_init_7 : decode cX0_init 7 = .ok (.newarray .int, 2) := by decide +kernel
theorem dX0_init_9 : decode cX0_init 9 = .ok (.putfield 9, 3) := by decide +kernel
theorem dX0_init_12 : decode cX0_init 12 = .ok (.return_, 1) := by decide +kernel
theorem dX0_become_0 : decode cX0_become 0 = .ok (.aload_n 0, 1) := by decide +kernel
theorem dX0_become_1 : decode cX0_become 1 = .ok (.aload_n 1, 1) := by decide +kernel
theorem dX0_become_2 : decode cX0_become 2 = .ok (.getfield 15, 3) := by decide +kernel
theorem dX0_become_5 : decode cX0_become 5 = .ok (.putfield 15, 3) := by decide +kernel
theorem dX0_become_8 : decode cX0_become 8 = .ok (.iconst 0, 1) := by decide +kernel
theorem dX0_become_9 : decode cX0_become 9 = .ok (.istore_n 2, 1) := by decide +kernel
theorem dX0_become_10 : decode cX0_become 10 = .ok (.iload_n 2, 1) := by decide +kernel
theorem dX0_become_11 : decode cX0_become 11 = .ok (.aload_n 0, 1) := by decide +kernel
theorem dX0_become_12 : decode cX0_become 12 = .ok (.getfield 15, 3) := by decide +kernel
theorem dX0_become_15 : decode cX0_become 15 = .ok (.if_icmp .ge 21, 3) := by decide +kernel
theorem dX0_become_18 : decode cX0_become 18 = .ok (.aload_n 0, 1) := by decide +kernel
theorem dX0_become_19 : decode cX0_become 19 = .ok (.getfield 9, 3) := by decide +kernel
theorem dX0_become_22 : decode cX0_become 22 = .ok (.iload_n 2, 1) := by decide +kernel
theorem dX0_become_23 : decode cX0_become 23 = .ok (.aload_n 1, 1) := by decide +kernel
theorem dX0_become_24 : decode cX0_become 24 = .ok (.getfield 9, 3) := by decide +kernel
theorem dX0_become_27 : decode cX0_become 27 = .ok (.iload_n 2, 1) := by decide +kernel
theorem dX0_become_28 : decode cX0_become 28 = .ok (.iaload, 1) := by decide +kernel
theorem dX0_become_29 : decode cX0_become 29 = .ok (.iastore, 1) := by decide +kernel
theorem dX0_become_30 : decode cX0_become 30 = .ok (.iinc 2 1, 3) := by decide +kernel
theorem dX0_become_33 : decode cX0_become 33 = .ok (.goto (-23), 3) := by decide +kernel
theorem dX0_become_36 : decode cX0_become 36 = .ok (.return_, 1) := by decide +kernel
theorem dX0_timesOf_0 : decode cX0_timesOf 0 = .ok (.iconst 0, 1) := by decide +kernel
theorem dX0_timesOf_1 : decode cX0_timesOf 1 = .ok (.istore_n 2, 1) := by decide +kernel
theorem dX0_timesOf_2 : decode cX0_timesOf 2 = .ok (.iconst 0, 1) := by decide +kernel
theorem dX0_timesOf_3 : decode cX0_timesOf 3 = .ok (.istore_n 3, 1) := by decide +kernel
theorem dX0_timesOf_4 : decode cX0_timesOf 4 = .ok (.iload_n 3, 1) := by decide +kernel
theorem dX0_timesOf_5 : decode cX0_timesOf 5 = .ok (.aload_n 0, 1) := by decide +kernel
theorem dX0_timesOf_6 : decode cX0_timesOf 6 = .ok (.getfield 15, 3) := by decide +kernel
theorem dX0_timesOf_9 : decode cX0_timesOf 9 = .ok (.if_icmp .ge 53, 3) := by decide +kernel
theorem dX0_timesOf_12 : decode cX0_timesOf 12 = .ok (.aload_n 0, 1) := by decide +kernel
theorem dX0_timesOf_13 : decode cX0_timesOf 13 = .ok (.getfield 9, 3) := by decide +kernel
theorem dX0_timesOf_16 : decode cX0_timesOf 16 = .ok (.iload_n 3, 1) := by decide +kernel
theorem dX0_timesOf_17 : decode cX0_timesOf 17 = .ok (.iaload, 1) := by decide +kernel
theorem dX0_timesOf_18 : decode cX0_timesOf 18 = .ok (.istore 4, 2) := by decide +kernel
theorem dX0_timesOf_20 : decode cX0_timesOf 20 = .ok (.iconst 0, 1) := by decide +kernel
theorem dX0_timesOf_21 : decode cX0_timesOf 21 = .ok (.istore 5, 2) := by decide +kernel
theorem dX0_timesOf_23 : decode cX0_timesOf 23 = .ok (.iload 5, 2) := by decide +kernel
theorem dX0_timesOf_25 : decode cX0_timesOf 25 = .ok (.iconst 3, 1) := by decide +kernel
theorem dX0_timesOf_26 : decode cX0_timesOf 26 = .ok (.if_icmp .ge 30, 3) := by decide +kernel
theorem dX0_timesOf_29 : decode cX0_timesOf 29 = .ok (.iload 4, 2) := by decide +kernel
theorem dX0_timesOf_31 : decode cX0_timesOf 31 = .ok (.bipush 10, 2) := by decide +kernel
theorem dX0_timesOf_33 : decode cX0_timesOf 33 = .ok (.irem, 1) := by decide +kernel
theorem dX0_timesOf_34 : decode cX0_timesOf 34 = .ok (.iload_n 1, 1) := by decide +kernel
theorem dX0_timesOf_35 : decode cX0_timesOf 35 = .ok (.iconst 1, 1) := by decide +kernel
theorem dX0_timesOf_36 : decode cX0_timesOf 36 = .ok (.iadd, 1) := by decide +kernel
theorem dX0_timesOf_37 : decode cX0_timesOf 37 = .ok (.if_icmp .ne 6, 3) := by decide +kernel
theorem dX0_timesOf_40 : decode cX0_timesOf 40 = .ok (.iinc 2 1, 3) := by decide +kernel
theorem dX0_timesOf_43 : decode cX0_timesOf 43 = .ok (.iload 4, 2) := by decide +kernel
theorem dX0_timesOf_45 : decode cX0_timesOf 45 = .ok (.bipush 10, 2) := by decide +kernel
theorem dX0_timesOf_47 : decode cX0_timesOf 47 = .ok (.idiv, 1) := by decide +kernel
theorem dX0_timesOf_48 : decode cX0_timesOf 48 = .ok (.istore 4, 2) := by decide +kernel
theorem dX0_timesOf_50 : decode cX0_timesOf 50 = .ok (.iinc 5 1, 3) := by decide +kernel
theorem dX0_timesOf_53 : decode cX0_timesOf 53 = .ok (.goto (-30), 3) := by decide +kernel
theorem dX0_timesOf_56 : decode cX0_timesOf 56 = .ok (.iinc 3 1, 3) := by decide +kernel
theorem dX0_timesOf_59 : decode cX0_timesOf 59 = .ok (.goto (-55), 3) := by decide +kernel
theorem dX0_timesOf_62 : decode cX0_timesOf 62 = .ok (.iload_n 2, 1) := by decide +kernel
theorem dX0_timesOf_63 : decode cX0_timesOf 63 = .ok (.ireturn, 1) := by decide +kernel
theorem dX1_init_0 : decode cX1_init 0 = .ok (.aload_n 0, 1) := by decide +kernel
theorem dX1_init_1 : decode cX1_init 1 = .ok (.invokespecial 3, 3) := by decide +kernel
theorem dX1_init_4 : decode cX1_init 4 = .ok (.aload_n 0, 1) := by decide +kernel
theorem dX1_init_5 : decode cX1_init 5 = .ok (.sipush 1000, 3) := by decide +kernel
theorem dX1_init_8 : decode cX1_init 8 = .ok (.newarray .boolean, 2) := by decide +kernel
theorem dX1_init_10 : decode cX1_init 10 = .ok (.putfield 9, 3) := by decide +kernel
theorem dX1_init_13 : decode cX1_init 13 = .ok (.aload_n 0, 1) := by decide +kernel
theorem dX1_init_14 : decode cX1_init 14 = .ok (.sipush 1000, 3) := by decide +kernel
theorem dX1_init_17 : decode cX1_init 17 = .ok (.newarray .int, 2) := by decide +kernel
theorem dX1_init_19 : decode cX1_init 19 = .ok (.putfield 15, 3) := by decide +kernel
theorem dX1_init_22 : decode cX1_init 22 = .ok (.aload_n 0, 1) := by decide +kernel
theorem dX1_init_23 : decode cX1_init 23 = .ok (.sipush 1000, 3) := by decide +kernel
theorem dX1_init_26 : decode cX1_init 26 = .ok (.newarray .int, 2) := by decide +kernel
theorem dX1_init_28 : decode cX1_init 28 = .ok (.putfield 19, 3) := by decide +kernel
theorem dX1_init_31 : decode cX1_init 31 = .ok (.aload_n 0, 1) := by decide +kernel
theorem dX1_init_32 : decode cX1_init 32 = .ok (.sipush 1000, 3) := by decide +kernel
theorem dX1_init_35 : decode cX1_init 35 = .ok (.newarray .int, 2) := by decide +kernel
theorem dX1_init_37 : decode cX1_init 37 = .ok (.putfield 22, 3) := by decide +kernel
theorem dX1_init_40 : decode cX1_init 40 = .ok (.aload_n 0, 1) := by decide +kernel
theorem dX1_init_41 : decode cX1_init 41 = .ok (.sipush 1000, 3) := by decide +kernel
theorem dX1_init_44 : decode cX1_init 44 = .ok (.newarray .int, 2) := by decide +kernel
theorem dX1_init_46 : decode cX1_init 46 = .ok (.putfield 25, 3) := by decide +kernel
theorem dX1_init_49 : decode cX1_init 49 = .ok (.aload_n 0, 1) := by decide +kernel
theorem dX1_init_50 : decode cX1_init 50 = .ok (.sipush 1000, 3) := by decide +kernel
theorem dX1_init_53 : decode cX1_init 53 = .ok (.newarray .long, 2) := by decide +kernel
theorem dX1_init_55 : decode cX1_init 55 = .ok (.putfield 28, 3) := by decide +kernel
theorem dX1_init_58 : decode cX1_init 58 = .ok (.aload_n 0, 1) := by decide +kernel
theorem dX1_init_59 : decode cX1_init 59 = .ok (.sipush 1000, 3) := by decide +kernel
theorem dX1_init_62 : decode cX1_init 62 = .ok (.newarray .int, 2) := by decide +kernel
theorem dX1_init_64 : decode cX1_init 64 = .ok (.putfield 32, 3) := by decide +kernel
theorem dX1_init_67 : decode cX1_init 67 = .ok (.aload_n 0, 1) := by decide +kernel
theorem dX1_init_68 : decode cX1_init 68 = .ok (.sipush 1000, 3) := by decide +kernel
theorem dX1_init_71 : decode cX1_init 71 = .ok (.newarray .int, 2) := by decide +kernel
theorem dX1_init_73 : decode cX1_init 73 = .ok (.putfield 35, 3) := by decide +kernel
theorem dX1_init_76 : decode cX1_init 76 = .ok (.aload_n 0, 1) := by decide +kernel
theorem dX1_init_77 : decode cX1_init 77 = .ok (.sipush 256, 3) := by decide +kernel
theorem dX1_init_80 : decode cX1_init 80 = .ok (.newarray .int, 2) := by decide +kernel
theorem dX1_init_82 : decode cX1_init 82 = .ok (.putfield 38, 3) := by decide +kernel
theorem dX1_init_85 : decode cX1_init 85 = .ok (.aload_n 0, 1) := by decide +kernel
theorem dX1_init_86 : decode cX1_init 86 = .ok (.sipush 1000, 3) := by decide +kernel
theorem dX1_init_89 : decode cX1_init 89 = .ok (.newarray .int, 2) := by decide +kernel
theorem dX1_init_91 : decode cX1_init 91 = .ok (.putfield 41, 3) := by decide +kernel
theorem dX1_init_94 : decode cX1_init 94 = .ok (.aload_n 0, 1) := by decide +kernel
theorem dX1_init_95 : decode cX1_init 95 = .ok (.sipush 1000, 3) := by decide +kernel
theorem dX1_init_98 : decode cX1_init 98 = .ok (.newarray .int, 2) := by decide +kernel
theorem dX1_init_100 : decode cX1_init 100 = .ok (.putfield 44, 3) := by decide +kernel
theorem dX1_init_103 : decode cX1_init 103 = .ok (.aload_n 0, 1) := by decide +kernel
theorem dX1_init_104 : decode cX1_init 104 = .ok (.sipush 1000, 3) := by decide +kernel
theorem dX1_init_107 : decode cX1_init 107 = .ok (.newarray .int, 2) := by decide +kernel
theorem dX1_init_109 : decode cX1_init 109 = .ok (.putfield 47, 3) := by decide +kernel
theorem dX1_init_112 : decode cX1_init 112 = .ok (.return_, 1) := by decide +kernel
theorem dX1_fill_0 : decode cX1_fill 0 = .ok (.iconst 0, 1) := by decide +kernel
theorem dX1_fill_1 : decode cX1_fill 1 = .ok (.istore_n 2, 1) := by decide +kernel
theorem dX1_fill_2 : decode cX1_fill 2 = .ok (.iload_n 2, 1) := by decide +kernel
theorem dX1_fill_3 : decode cX1_fill 3 = .ok (.sipush 256, 3) := by decide +kernel
theorem dX1_fill_6 : decode cX1_fill 6 = .ok (.if_icmp .ge 16, 3) := by decide +kernel
theorem dX1_fill_9 : decode cX1_fill 9 = .ok (.aload_n 0, 1) := by decide +kernel
theorem dX1_fill_10 : decode cX1_fill 10 = .ok (.getfield 38, 3) := by decide +kernel
theorem dX1_fill_13 : decode cX1_fill 13 = .ok (.iload_n 2, 1) := by decide +kernel
theorem dX1_fill_14 : decode cX1_fill 14 = .ok (.iconst 0, 1) := by decide +kernel
theorem dX1_fill_15 : decode cX1_fill 15 = .ok (.iastore, 1) := by decide +kernel
theorem dX1_fill_16 : decode cX1_fill 16 = .ok (.iinc 2 1, 3) := by decide +kernel
theorem dX1_fill_19 : decode cX1_fill 19 = .ok (.goto (-17), 3) := by decide +kernel
theorem dX1_fill_22 : decode cX1_fill 22 = .ok (.aload_n 0, 1) := by decide +kernel
theorem dX1_fill_23 : decode cX1_fill 23 = .ok (.iconst 0, 1) := by decide +kernel
theorem dX1_fill_24 : decode cX1_fill 24 = .ok (.putfield 50, 3) := by decide +kernel
theorem dX1_fill_27 : decode cX1_fill 27 = .ok (.aload_n 0, 1) := by decide +kernel
theorem dX1_fill_28 : decode cX1_fill 28 = .ok (.iconst 0, 1) := by decide +kernel
theorem dX1_fill_29 : decode cX1_fill 29 = .ok (.putfield 54, 3) := by decide +kernel
theorem dX1_fill_32 : decode cX1_fill 32 = .ok (.iconst 1, 1) := by decide +kernel
theorem dX1_fill_33 : decode cX1_fill 33 = .ok (.istore_n 2, 1) := by decide +kernel
theorem dX1_fill_34 : decode cX1_fill 34 = .ok (.iload_n 2, 1) := by decide +kernel
theorem dX1_fill_35 : decode cX1_fill 35 = .ok (.sipush 1000, 3) := by decide +kernel
theorem dX1_fill_38 : decode cX1_fill 38 = .ok (.if_icmp .ge 54, 3) := by decide +kernel
theorem dX1_fill_41 : decode cX1_fill 41 = .ok (.aload_n 0, 1) := by decide +kernel
theorem dX1_fill_42 : decode cX1_fill 42 = .ok (.iload_n 2, 1) := by decide +kernel
theorem dX1_fill_43 : decode cX1_fill 43 = .ok (.aload_n 1, 1) := by decide +kernel
theorem dX1_fill_44 : decode cX1_fill 44 = .ok (.invokevirtual 57, 3) := by decide +kernel
theorem dX1_fill_47 : decode cX1_fill 47 = .ok (.aload_n 0, 1) := by decide +kernel
theorem dX1_fill_48 : decode cX1_fill 48 = .ok (.getfield 9, 3) := by decide +kernel
theorem dX1_fill_51 : decode cX1_fill 51 = .ok (.iload_n 2, 1) := by decide +kernel
theorem dX1_fill_52 : decode cX1_fill 52 = .ok (.baload, 1) := by decide +kernel
theorem dX1_fill_53 : decode cX1_fill 53 = .ok (.ifCond .eq 33, 3) := by decide +kernel
theorem dX1_fill_56 : decode cX1_fill 56 = .ok (.aload_n 0, 1) := by decide +kernel
theorem dX1_fill_57 : decode cX1_fill 57 = .ok (.dup, 1) := by decide +kernel
theorem dX1_fill_58 : decode cX1_fill 58 = .ok (.getfield 50, 3) := by decide +kernel
theorem dX1_fill_61 : decode cX1_fill 61 = .ok (.iconst 1, 1) := by decide +kernel
theorem dX1_fill_62 : decode cX1_fill 62 = .ok (.iadd, 1) := by decide +kernel
theorem dX1_fill_63 : decode cX1_fill 63 = .ok (.putfield 50, 3) := by decide +kernel
theorem dX1_fill_66 : decode cX1_fill 66 = .ok (.aload_n 0, 1) := by decide +kernel
theorem dX1_fill_67 : decode cX1_fill 67 = .ok (.getfield 38, 3) := by decide +kernel
theorem dX1_fill_70 : decode cX1_fill 70 = .ok (.aload_n 0, 1) := by decide +kernel
theorem dX1_fill_71 : decode cX1_fill 71 = .ok (.getfield 32, 3) := by decide +kernel
theorem dX1_fill_74 : decode cX1_fill 74 = .ok (.iload_n 2, 1) := by decide +kernel
theorem dX1_fill_75 : decode cX1_fill 75 = .ok (.iaload, 1) := by decide +kernel
theorem dX1_fill_76 : decode cX1_fill 76 = .ok (.dup2, 1) := by decide +kernel
theorem dX1_fill_77 : decode cX1_fill 77 = .ok (.iaload, 1) := by decide +kernel
theorem dX1_fill_78 : decode cX1_fill 78 = .ok (.iconst 1, 1) := by decide +kernel
theorem dX1_fill_79 : decode cX1_fill 79 = .ok (.iadd, 1) := by decide +kernel
theorem dX1_fill_80 : decode cX1_fill 80 = .ok (.iastore, 1) := by decide +kernel
theorem dX1_fill_81 : decode cX1_fill 81 = .ok (.aload_n 0, 1) := by decide +kernel
theorem dX1_fill_82 : decode cX1_fill 82 = .ok (.iload_n 2, 1) := by decide +kernel
theorem dX1_fill_83 : decode cX1_fill 83 = .ok (.invokevirtual 61, 3) := by decide +kernel
theorem dX1_fill_86 : decode cX1_fill 86 = .ok (.iinc 2 1, 3) := by decide +kernel
theorem dX1_fill_89 : decode cX1_fill 89 = .ok (.goto (-55), 3) := by decide +kernel
theorem dX1_fill_92 : decode cX1_fill 92 = .ok (.iconst 1, 1) := by decide +kernel
theorem dX1_fill_93 : decode cX1_fill 93 = .ok (.istore_n 2, 1) := by decide +kernel
theorem dX1_fill_94 : decode cX1_fill 94 = .ok (.iload_n 2, 1) := by decide +kernel
theorem dX1_fill_95 : decode cX1_fill 95 = .ok (.sipush 1000, 3) := by decide +kernel
theorem dX1_fill_98 : decode cX1_fill 98 = .ok (.if_icmp .ge 56, 3) := by decide +kernel
theorem dX1_fill_101 : decode cX1_fill 101 = .ok (.aload_n 0, 1) := by decide +kernel
theorem dX1_fill_102 : decode cX1_fill 102 = .ok (.getfield 9, 3) := by decide +kernel
theorem dX1_fill_105 : decode cX1_fill 105 = .ok (.iload_n 2, 1) := by decide +kernel
theorem dX1_fill_106 : decode cX1_fill 106 = .ok (.baload, 1) := by decide +kernel
theorem dX1_fill_107 : decode cX1_fill 107 = .ok (.ifCond .eq 41, 3) := by decide +kernel
theorem dX1_fill_110 : decode cX1_fill 110 = .ok (.aload_n 0, 1) := by decide +kernel
theorem dX1_fill_111 : decode cX1_fill 111 = .ok (.getfield 47, 3) := by decide +kernel
theorem dX1_fill_114 : decode cX1_fill 114 = .ok (.iload_n 2, 1) := by decide +kernel
theorem dX1_fill_115 : decode cX1_fill 115 = .ok (.iaload, 1) := by decide +kernel
theorem dX1_fill_116 : decode cX1_fill 116 = .ok (.istore_n 3, 1) := by decide +kernel
theorem dX1_fill_117 : decode cX1_fill 117 = .ok (.aload_n 0, 1) := by decide +kernel
theorem dX1_fill_118 : decode cX1_fill 118 = .ok (.getfield 35, 3) := by decide +kernel
theorem dX1_fill_121 : decode cX1_fill 121 = .ok (.iload_n 2, 1) := by decide +kernel
theorem dX1_fill_122 : decode cX1_fill 122 = .ok (.aload_n 0, 1) := by decide +kernel
theorem dX1_fill_123 : decode cX1_fill 123 = .ok (.getfield 41, 3) := by decide +kernel
theorem dX1_fill_126 : decode cX1_fill 126 = .ok (.iload_n 3, 1) := by decide +kernel
theorem dX1_fill_127 : decode cX1_fill 127 = .ok (.iaload, 1) := by decide +kernel
theorem dX1_fill_128 : decode cX1_fill 128 = .ok (.iload_n 2, 1) := by decide +kernel
theorem dX1_fill_129 : decode cX1_fill 129 = .ok (.if_icmp .ne 12, 3) := by decide +kernel
theorem dX1_fill_132 : decode cX1_fill 132 = .ok (.aload_n 0, 1) := by decide +kernel
theorem dX1_fill_133 : decode cX1_fill 133 = .ok (.getfield 44, 3) := by decide +kernel
theorem dX1_fill_136 : decode cX1_fill 136 = .ok (.iload_n 3, 1) := by decide +kernel
theorem dX1_fill_137 : decode cX1_fill 137 = .ok (.iaload, 1) := by decide +kernel
theorem dX1_fill_138 : decode cX1_fill 138 = .ok (.goto 9, 3) := by decide +kernel
theorem dX1_fill_141 : decode cX1_fill 141 = .ok (.aload_n 0, 1) := by decide +kernel
theorem dX1_fill_142 : decode cX1_fill 142 = .ok (.getfield 41, 3) := by decide +kernel
theorem dX1_fill_145 : decode cX1_fill 145 = .ok (.iload_n 3, 1) := by decide +kernel
theorem dX1_fill_146 : decode cX1_fill 146 = .ok (.iaload, 1) := by decide +kernel
theorem dX1_fill_147 : decode cX1_fill 147 = .ok (.iastore, 1) := by decide +kernel
theorem dX1_fill_148 : decode cX1_fill 148 = .ok (.iinc 2 1, 3) := by decide +kernel
theorem dX1_fill_151 : decode cX1_fill 151 = .ok (.goto (-57), 3) := by decide +kernel
theorem dX1_fill_154 : decode cX1_fill 154 = .ok (.return_, 1) := by decide +kernel
theorem dX1_fillRow_0 : decode cX1_fillRow 0 = .ok (.iload_n 1, 1) := by decide +kernel
theorem dX1_fillRow_1 : decode cX1_fillRow 1 = .ok (.bipush 10, 2) := by decide +kernel
theorem dX1_fillRow_3 : decode cX1_fillRow 3 = .ok (.idiv, 1) := by decide +kernel
theorem dX1_fillRow_4 : decode cX1_fillRow 4 = .ok (.istore_n 3, 1) := by decide +kernel
theorem dX1_fillRow_5 : decode cX1_fillRow 5 = .ok (.iload_n 1, 1) := by decide +kernel
theorem dX1_fillRow_6 : decode cX1_fillRow 6 = .ok (.bipush 10, 2) := by decide +kernel
theorem dX1_fillRow_8 : decode cX1_fillRow 8 = .ok (.irem, 1) := by decide +kernel
theorem dX1_fillRow_9 : decode cX1_fillRow 9 = .ok (.iconst 1, 1) := by decide +kernel
theorem dX1_fillRow_10 : decode cX1_fillRow 10 = .ok (.isub, 1) := by decide +kernel
theorem dX1_fillRow_11 : decode cX1_fillRow 11 = .ok (.istore 4, 2) := by decide +kernel
theorem dX1_fillRow_13 : decode cX1_fillRow 13 = .ok (.aload_n 0, 1) := by decide +kernel
theorem dX1_fillRow_14 : decode cX1_fillRow 14 = .ok (.getfield 9, 3) := by decide +kernel
theorem dX1_fillRow_17 : decode cX1_fillRow 17 = .ok (.iload_n 1, 1) := by decide +kernel
theorem dX1_fillRow_18 : decode cX1_fillRow 18 = .ok (.iconst 0, 1) := by decide +kernel
theorem dX1_fillRow_19 : decode cX1_fillRow 19 = .ok (.bastore, 1) := by decide +kernel
theorem dX1_fillRow_20 : decode cX1_fillRow 20 = .ok (.aload_n 0, 1) := by decide +kernel
theorem dX1_fillRow_21 : decode cX1_fillRow 21 = .ok (.getfield 15, 3) := by decide +kernel
theorem dX1_fillRow_24 : decode cX1_fillRow 24 = .ok (.iload_n 1, 1) := by decide +kernel
theorem dX1_fillRow_25 : decode cX1_fillRow 25 = .ok (.iconst 0, 1) := by decide +kernel
theorem dX1_fillRow_26 : decode cX1_fillRow 26 = .ok (.iastore, 1) := by decide +kernel
theorem dX1_fillRow_27 : decode cX1_fillRow 27 = .ok (.iload 4, 2) := by decide +kernel
theorem dX1_fillRow_29 : decode cX1_fillRow 29 = .ok (.ifCond .lt 29, 3) := by decide +kernel
theorem dX1_fillRow_32 : decode cX1_fillRow 32 = .ok (.iload 4, 2) := by decide +kernel
theorem dX1_fillRow_34 : decode cX1_fillRow 34 = .ok (.aload_n 2, 1) := by decide +kernel
theorem dX1_fillRow_35 : decode cX1_fillRow 35 = .ok (.getfield 65, 3) := by decide +kernel
theorem dX1_fillRow_38 : decode cX1_fillRow 38 = .ok (.if_icmp .ge 20, 3) := by decide +kernel
theorem dX1_fillRow_41 : decode cX1_fillRow 41 = .ok (.iload_n 3, 1) := by decide +kernel
theorem dX1_fillRow_42 : decode cX1_fillRow 42 = .ok (.ifCond .eq 12, 3) := by decide +kernel
theorem dX1_fillRow_45 : decode cX1_fillRow 45 = .ok (.aload_n 0, 1) := by decide +kernel
theorem dX1_fillRow_46 : decode cX1_fillRow 46 = .ok (.getfield 15, 3) := by decide +kernel
theorem dX1_fillRow_49 : decode cX1_fillRow 49 = .ok (.iload_n 3, 1) := by decide +kernel
theorem dX1_fillRow_50 : decode cX1_fillRow 50 = .ok (.iaload, 1) := by decide +kernel
theorem dX1_fillRow_51 : decode cX1_fillRow 51 = .ok (.ifCond .eq 7, 3) := by decide +kernel
theorem dX1_fillRow_54 : decode cX1_fillRow 54 = .ok (.iconst 1, 1) := by decide +kernel
theorem dX1_fillRow_55 : decode cX1_fillRow 55 = .ok (.goto 4, 3) := by decide +kernel
theorem dX1_fillRow_58 : decode cX1_fillRow 58 = .ok (.iconst 0, 1) := by decide +kernel
theorem dX1_fillRow_59 : decode cX1_fillRow 59 = .ok (.istore 5, 2) := by decide +kernel
theorem dX1_fillRow_61 : decode cX1_fillRow 61 = .ok (.iload 5, 2) := by decide +kernel
theorem dX1_fillRow_63 : decode cX1_fillRow 63 = .ok (.ifCond .ne 4, 3) := by decide +kernel
theorem dX1_fillRow_66 : decode cX1_fillRow 66 = .ok (.return_, 1) := by decide +kernel
theorem dX1_fillRow_67 : decode cX1_fillRow 67 = .ok (.aload_n 2, 1) := by decide +kernel
theorem dX1_fillRow_68 : decode cX1_fillRow 68 = .ok (.getfield 70, 3) := by decide +kernel
theorem dX1_fillRow_71 : decode cX1_fillRow 71 = .ok (.iload 4, 2) := by decide +kernel
theorem dX1_fillRow_73 : decode cX1_fillRow 73 = .ok (.aaload, 1) := by decide +kernel
theorem dX1_fillRow_74 : decode cX1_fillRow 74 = .ok (.astore 6, 2) := by decide +kernel
theorem dX1_fillRow_76 : decode cX1_fillRow 76 = .ok (.aload_n 0, 1) := by decide +kernel
theorem dX1_fillRow_77 : decode cX1_fillRow 77 = .ok (.getfield 15, 3) := by decide +kernel
theorem dX1_fillRow_80 : decode cX1_fillRow 80 = .ok (.iload_n 1, 1) := by decide +kernel
theorem dX1_fillRow_81 : decode cX1_fillRow 81 = .ok (.aload_n 0, 1) := by decide +kernel
theorem dX1_fillRow_82 : decode cX1_fillRow 82 = .ok (.getfield 15, 3) := by decide +kernel
theorem dX1_fillRow_85 : decode cX1_fillRow 85 = .ok (.iload_n 3, 1) := by decide +kernel
theorem dX1_fillRow_86 : decode cX1_fillRow 86 = .ok (.iaload, 1) := by decide +kernel
theorem dX1_fillRow_87 : decode cX1_fillRow 87 = .ok (.aload 6, 2) := by decide +kernel
theorem dX1_fillRow_89 : decode cX1_fillRow 89 = .ok (.getfield 74, 3) := by decide +kernel
theorem dX1_fillRow_92 : decode cX1_fillRow 92 = .ok (.invokestatic 79, 3) := by decide +kernel
theorem dX1_fillRow_95 : decode cX1_fillRow 95 = .ok (.iastore, 1) := by decide +kernel
theorem dX1_fillRow_96 : decode cX1_fillRow 96 = .ok (.aload_n 0, 1) := by decide +kernel
theorem dX1_fillRow_97 : decode cX1_fillRow 97 = .ok (.getfield 19, 3) := by decide +kernel
theorem dX1_fillRow_100 : decode cX1_fillRow 100 = .ok (.iload_n 1, 1) := by decide +kernel
theorem dX1_fillRow_101 : decode cX1_fillRow 101 = .ok (.aload_n 0, 1) := by decide +kernel
theorem dX1_fillRow_102 : decode cX1_fillRow 102 = .ok (.getfield 19, 3) := by decide +kernel
theorem dX1_fillRow_105 : decode cX1_fillRow 105 = .ok (.iload_n 3, 1) := by decide +kernel
theorem dX1_fillRow_106 : decode cX1_fillRow 106 = .ok (.iaload, 1) := by decide +kernel
theorem dX1_fillRow_107 : decode cX1_fillRow 107 = .ok (.aload 6, 2) := by decide +kernel
theorem dX1_fillRow_109 : decode cX1_fillRow 109 = .ok (.getfield 85, 3) := by decide +kernel
theorem dX1_fillRow_112 : decode cX1_fillRow 112 = .ok (.iadd, 1) := by decide +kernel
theorem dX1_fillRow_113 : decode cX1_fillRow 113 = .ok (.iastore, 1) := by decide +kernel
theorem dX1_fillRow_114 : decode cX1_fillRow 114 = .ok (.aload_n 0, 1) := by decide +kernel
theorem dX1_fillRow_115 : decode cX1_fillRow 115 = .ok (.getfield 22, 3) := by decide +kernel
theorem dX1_fillRow_118 : decode cX1_fillRow 118 = .ok (.iload_n 1, 1) := by decide +kernel
theorem dX1_fillRow_119 : decode cX1_fillRow 119 = .ok (.aload_n 0, 1) := by decide +kernel
theorem dX1_fillRow_120 : decode cX1_fillRow 120 = .ok (.getfield 22, 3) := by decide +kernel
theorem dX1_fillRow_123 : decode cX1_fillRow 123 = .ok (.iload_n 3, 1) := by decide +kernel
theorem dX1_fillRow_124 : decode cX1_fillRow 124 = .ok (.iaload, 1) := by decide +kernel
theorem dX1_fillRow_125 : decode cX1_fillRow 125 = .ok (.aload 6, 2) := by decide +kernel
theorem dX1_fillRow_127 : decode cX1_fillRow 127 = .ok (.getfield 87, 3) := by decide +kernel
theorem dX1_fillRow_130 : decode cX1_fillRow 130 = .ok (.iadd, 1) := by decide +kernel
theorem dX1_fillRow_131 : decode cX1_fillRow 131 = .ok (.iastore, 1) := by decide +kernel
theorem dX1_fillRow_132 : decode cX1_fillRow 132 = .ok (.aload_n 0, 1) := by decide +kernel
theorem dX1_fillRow_133 : decode cX1_fillRow 133 = .ok (.getfield 25, 3) := by decide +kernel
theorem dX1_fillRow_136 : decode cX1_fillRow 136 = .ok (.iload_n 1, 1) := by decide +kernel
theorem dX1_fillRow_137 : decode cX1_fillRow 137 = .ok (.aload_n 0, 1) := by decide +kernel
theorem dX1_fillRow_138 : decode cX1_fillRow 138 = .ok (.getfield 25, 3) := by decide +kernel
theorem dX1_fillRow_141 : decode cX1_fillRow 141 = .ok (.iload_n 3, 1) := by decide +kernel
theorem dX1_fillRow_142 : decode cX1_fillRow 142 = .ok (.iaload, 1) := by decide +kernel
theorem dX1_fillRow_143 : decode cX1_fillRow 143 = .ok (.aload 6, 2) := by decide +kernel
theorem dX1_fillRow_145 : decode cX1_fillRow 145 = .ok (.getfield 89, 3) := by decide +kernel
theorem dX1_fillRow_148 : decode cX1_fillRow 148 = .ok (.iadd, 1) := by decide +kernel
theorem dX1_fillRow_149 : decode cX1_fillRow 149 = .ok (.iastore, 1) := by decide +kernel
theorem dX1_fillRow_150 : decode cX1_fillRow 150 = .ok (.aload_n 0, 1) := by decide +kernel
theorem dX1_fillRow_151 : decode cX1_fillRow 151 = .ok (.getfield 28, 3) := by decide +kernel
theorem dX1_fillRow_154 : decode cX1_fillRow 154 = .ok (.iload_n 1, 1) := by decide +kernel
theorem dX1_fillRow_155 : decode cX1_fillRow 155 = .ok (.aload_n 0, 1) := by decide +kernel
theorem dX1_fillRow_156 : decode cX1_fillRow 156 = .ok (.getfield 28, 3) := by decide +kernel
theorem dX1_fillRow_159 : decode cX1_fillRow 159 = .ok (.iload_n 3, 1) := by decide +kernel
theorem dX1_fillRow_160 : decode cX1_fillRow 160 = .ok (.laload, 1) := by decide +kernel
theorem dX1_fillRow_161 : decode cX1_fillRow 161 = .ok (.lastore, 1) := by decide +kernel
theorem dX1_fillRow_162 : decode cX1_fillRow 162 = .ok (.aload_n 0, 1) := by decide +kernel
theorem dX1_fillRow_163 : decode cX1_fillRow 163 = .ok (.getfield 32, 3) := by decide +kernel
theorem dX1_fillRow_166 : decode cX1_fillRow 166 = .ok (.iload_n 1, 1) := by decide +kernel
theorem dX1_fillRow_167 : decode cX1_fillRow 167 = .ok (.aload_n 0, 1) := by decide +kernel
theorem dX1_fillRow_168 : decode cX1_fillRow 168 = .ok (.getfield 32, 3) := by decide +kernel
theorem dX1_fillRow_171 : decode cX1_fillRow 171 = .ok (.iload_n 3, 1) := by decide +kernel
theorem dX1_fillRow_172 : decode cX1_fillRow 172 = .ok (.iaload, 1) := by decide +kernel
theorem dX1_fillRow_173 : decode cX1_fillRow 173 = .ok (.iastore, 1) := by decide +kernel
theorem dX1_fillRow_174 : decode cX1_fillRow 174 = .ok (.iconst 0, 1) := by decide +kernel
theorem dX1_fillRow_175 : decode cX1_fillRow 175 = .ok (.istore 7, 2) := by decide +kernel
theorem dX1_fillRow_177 : decode cX1_fillRow 177 = .ok (.iload 7, 2) := by decide +kernel
theorem dX1_fillRow_179 : decode cX1_fillRow 179 = .ok (.aload 6, 2) := by decide +kernel
theorem dX1_fillRow_181 : decode cX1_fillRow 181 = .ok (.getfield 89, 3) := by decide +kernel
theorem dX1_fillRow_184 : decode cX1_fillRow 184 = .ok (.if_icmp .ge 50, 3) := by decide +kernel
theorem dX1_fillRow_187 : decode cX1_fillRow 187 = .ok (.aload_n 0, 1) := by decide +kernel
theorem dX1_fillRow_188 : decode cX1_fillRow 188 = .ok (.getfield 28, 3) := by decide +kernel
theorem dX1_fillRow_191 : decode cX1_fillRow 191 = .ok (.iload_n 1, 1) := by decide +kernel
theorem dX1_fillRow_192 : decode cX1_fillRow 192 = .ok (.dup2, 1) := by decide +kernel
theorem dX1_fillRow_193 : decode cX1_fillRow 193 = .ok (.laload, 1) := by decide +kernel
theorem dX1_fillRow_194 : decode cX1_fillRow 194 = .ok (.lconst 1, 1) := by decide +kernel
theorem dX1_fillRow_195 : decode cX1_fillRow 195 = .ok (.bipush 8, 2) := by decide +kernel
theorem dX1_fillRow_197 : decode cX1_fillRow 197 = .ok (.aload 6, 2) := by decide +kernel
theorem dX1_fillRow_199 : decode cX1_fillRow 199 = .ok (.getfield 91, 3) := by decide +kernel
theorem dX1_fillRow_202 : decode cX1_fillRow 202 = .ok (.iload 7, 2) := by decide +kernel
theorem dX1_fillRow_204 : decode cX1_fillRow 204 = .ok (.iaload, 1) := by decide +kernel
theorem dX1_fillRow_205 : decode cX1_fillRow 205 = .ok (.imul, 1) := by decide +kernel
theorem dX1_fillRow_206 : decode cX1_fillRow 206 = .ok (.lshl, 1) := by decide +kernel
theorem dX1_fillRow_207 : decode cX1_fillRow 207 = .ok (.ladd, 1) := by decide +kernel
theorem dX1_fillRow_208 : decode cX1_fillRow 208 = .ok (.lastore, 1) := by decide +kernel
theorem dX1_fillRow_209 : decode cX1_fillRow 209 = .ok (.aload_n 0, 1) := by decide +kernel
theorem dX1_fillRow_210 : decode cX1_fillRow 210 = .ok (.getfield 32, 3) := by decide +kernel
theorem dX1_fillRow_213 : decode cX1_fillRow 213 = .ok (.iload_n 1, 1) := by decide +kernel
theorem dX1_fillRow_214 : decode cX1_fillRow 214 = .ok (.dup2, 1) := by decide +kernel
theorem dX1_fillRow_215 : decode cX1_fillRow 215 = .ok (.iaload, 1) := by decide +kernel
theorem dX1_fillRow_216 : decode cX1_fillRow 216 = .ok (.iconst 1, 1) := by decide +kernel
theorem dX1_fillRow_217 : decode cX1_fillRow 217 = .ok (.aload 6, 2) := by decide +kernel
theorem dX1_fillRow_219 : decode cX1_fillRow 219 = .ok (.getfield 91, 3) := by decide +kernel
theorem dX1_fillRow_222 : decode cX1_fillRow 222 = .ok (.iload 7, 2) := by decide +kernel
theorem dX1_fillRow_224 : decode cX1_fillRow 224 = .ok (.iaload, 1) := by decide +kernel
theorem dX1_fillRow_225 : decode cX1_fillRow 225 = .ok (.ishl, 1) := by decide +kernel
theorem dX1_fillRow_226 : decode cX1_fillRow 226 = .ok (.ior, 1) := by decide +kernel
theorem dX1_fillRow_227 : decode cX1_fillRow 227 = .ok (.iastore, 1) := by decide +kernel
theorem dX1_fillRow_228 : decode cX1_fillRow 228 = .ok (.iinc 7 1, 3) := by decide +kernel
theorem dX1_fillRow_231 : decode cX1_fillRow 231 = .ok (.goto (-54), 3) := by decide +kernel
theorem dX1_fillRow_234 : decode cX1_fillRow 234 = .ok (.iconst 0, 1) := by decide +kernel
theorem dX1_fillRow_235 : decode cX1_fillRow 235 = .ok (.istore 7, 2) := by decide +kernel
theorem dX1_fillRow_237 : decode cX1_fillRow 237 = .ok (.iload 7, 2) := by decide +kernel
theorem dX1_fillRow_239 : decode cX1_fillRow 239 = .ok (.aload_n 2, 1) := by decide +kernel
theorem dX1_fillRow_240 : decode cX1_fillRow 240 = .ok (.getfield 94, 3) := by decide +kernel
theorem dX1_fillRow_243 : decode cX1_fillRow 243 = .ok (.if_icmp .ge 48, 3) := by decide +kernel
theorem dX1_fillRow_246 : decode cX1_fillRow 246 = .ok (.aload_n 0, 1) := by decide +kernel
theorem dX1_fillRow_247 : decode cX1_fillRow 247 = .ok (.getfield 9, 3) := by decide +kernel
theorem dX1_fillRow_250 : decode cX1_fillRow 250 = .ok (.iload_n 1, 1) := by decide +kernel
theorem dX1_fillRow_251 : decode cX1_fillRow 251 = .ok (.aload_n 0, 1) := by decide +kernel
theorem dX1_fillRow_252 : decode cX1_fillRow 252 = .ok (.getfield 9, 3) := by decide +kernel
theorem dX1_fillRow_255 : decode cX1_fillRow 255 = .ok (.iload_n 1, 1) := by decide +kernel
theorem dX1_fillRow_256 : decode cX1_fillRow 256 = .ok (.baload, 1) := by decide +kernel
theorem dX1_fillRow_257 : decode cX1_fillRow 257 = .ok (.ifCond .ne 22, 3) := by decide +kernel
theorem dX1_fillRow_260 : decode cX1_fillRow 260 = .ok (.aload_n 2, 1) := by decide +kernel
theorem dX1_fillRow_261 : decode cX1_fillRow 261 = .ok (.getfield 97, 3) := by decide +kernel
theorem dX1_fillRow_264 : decode cX1_fillRow 264 = .ok (.iload 7, 2) := by decide +kernel
theorem dX1_fillRow_266 : decode cX1_fillRow 266 = .ok (.aaload, 1) := by decide +kernel
theorem dX1_fillRow_267 : decode cX1_fillRow 267 = .ok (.invokevirtual 101, 3) := by decide +kernel
theorem dX1_fillRow_270 : decode cX1_fillRow 270 = .ok (.aload_n 0, 1) := by decide +kernel
theorem dX1_fillRow_271 : decode cX1_fillRow 271 = .ok (.getfield 15, 3) := by decide +kernel
theorem dX1_fillRow_274 : decode cX1_fillRow 274 = .ok (.iload_n 1, 1) := by decide +kernel
theorem dX1_fillRow_275 : decode cX1_fillRow 275 = .ok (.iaload, 1) := by decide +kernel
theorem dX1_fillRow_276 : decode cX1_fillRow 276 = .ok (.if_icmp .ne 7, 3) := by decide +kernel
theorem dX1_fillRow_279 : decode cX1_fillRow 279 = .ok (.iconst 1, 1) := by decide +kernel
theorem dX1_fillRow_280 : decode cX1_fillRow 280 = .ok (.goto 4, 3) := by decide +kernel
theorem dX1_fillRow_283 : decode cX1_fillRow 283 = .ok (.iconst 0, 1) := by decide +kernel
theorem dX1_fillRow_284 : decode cX1_fillRow 284 = .ok (.bastore, 1) := by decide +kernel
theorem dX1_fillRow_285 : decode cX1_fillRow 285 = .ok (.iinc 7 1, 3) := by decide +kernel
theorem dX1_fillRow_288 : decode cX1_fillRow 288 = .ok (.goto (-51), 3) := by decide +kernel
theorem dX1_fillRow_291 : decode cX1_fillRow 291 = .ok (.return_, 1) := by decide +kernel
theorem dX1_putIntoGroup_0 : decode cX1_putIntoGroup 0 = .ok (.iconst 0, 1) := by decide +kernel
theorem dX1_putIntoGroup_1 : decode cX1_putIntoGroup 1 = .ok (.istore_n 2, 1) := by decide +kernel
theorem dX1_putIntoGroup_2 : decode cX1_putIntoGroup 2 = .ok (.iload_n 2, 1) := by decide +kernel
theorem dX1_putIntoGroup_3 : decode cX1_putIntoGroup 3 = .ok (.aload_n 0, 1) := by decide +kernel
theorem dX1_putIntoGroup_4 : decode cX1_putIntoGroup 4 = .ok (.getfield 54, 3) := by decide +kernel
theorem dX1_putIntoGroup_7 : decode cX1_putIntoGroup 7 = .ok (.if_icmp .ge 30, 3) := by decide +kernel
theorem dX1_putIntoGroup_10 : decode cX1_putIntoGroup 10 = .ok (.aload_n 0, 1) := by decide +kernel
theorem dX1_putIntoGroup_11 : decode cX1_putIntoGroup 11 = .ok (.getfield 28, 3) := by decide +kernel
theorem dX1_putIntoGroup_14 : decode cX1_putIntoGroup 14 = .ok (.aload_n 0, 1) := by decide +kernel
theorem dX1_putIntoGroup_15 : decode cX1_putIntoGroup 15 = .ok (.getfield 41, 3) := by decide +kernel
theorem dX1_putIntoGroup_18 : decode cX1_putIntoGroup 18 = .ok (.iload_n 2, 1) := by decide +kernel
theorem dX1_putIntoGroup_19 : decode cX1_putIntoGroup 19 = .ok (.iaload, 1) := by decide +kernel
theorem dX1_putIntoGroup_20 : decode cX1_putIntoGroup 20 = .ok (.laload, 1) := by decide +kernel
theorem dX1_putIntoGroup_21 : decode cX1_putIntoGroup 21 = .ok (.aload_n 0, 1) := by decide +kernel
theorem dX1_putIntoGroup_22 : decode cX1_putIntoGroup 22 = .ok (.getfield 28, 3) := by decide +kernel
theorem dX1_putIntoGroup_25 : decode cX1_putIntoGroup 25 = .ok (.iload_n 1, 1) := by decide +kernel
theorem dX1_putIntoGroup_26 : decode cX1_putIntoGroup 26 = .ok (.laload, 1) := by decide +kernel
theorem dX1_putIntoGroup_27 : decode cX1_putIntoGroup 27 = .ok (.lcmp, 1) := by decide +kernel
theorem dX1_putIntoGroup_28 : decode cX1_putIntoGroup 28 = .ok (.ifCond .eq 9, 3) := by decide +kernel
theorem dX1_putIntoGroup_31 : decode cX1_putIntoGroup 31 = .ok (.iinc 2 1, 3) := by decide +kernel
theorem dX1_putIntoGroup_34 : decode cX1_putIntoGroup 34 = .ok (.goto (-32), 3) := by decide +kernel
theorem dX1_putIntoGroup_37 : decode cX1_putIntoGroup 37 = .ok (.aload_n 0, 1) := by decide +kernel
theorem dX1_putIntoGroup_38 : decode cX1_putIntoGroup 38 = .ok (.getfield 47, 3) := by decide +kernel
theorem dX1_putIntoGroup_41 : decode cX1_putIntoGroup 41 = .ok (.iload_n 1, 1) := by decide +kernel
theorem dX1_putIntoGroup_42 : decode cX1_putIntoGroup 42 = .ok (.iload_n 2, 1) := by decide +kernel
theorem dX1_putIntoGroup_43 : decode cX1_putIntoGroup 43 = .ok (.iastore, 1) := by decide +kernel
theorem dX1_putIntoGroup_44 : decode cX1_putIntoGroup 44 = .ok (.iload_n 2, 1) := by decide +kernel
theorem dX1_putIntoGroup_45 : decode cX1_putIntoGroup 45 = .ok (.aload_n 0, 1) := by decide +kernel
theorem dX1_putIntoGroup_46 : decode cX1_putIntoGroup 46 = .ok (.getfield 54, 3) := by decide +kernel
theorem dX1_putIntoGroup_49 : decode cX1_putIntoGroup 49 = .ok (.if_icmp .ne 30, 3) := by decide +kernel
theorem dX1_putIntoGroup_52 : decode cX1_putIntoGroup 52 = .ok (.aload_n 0, 1) := by decide +kernel
theorem dX1_putIntoGroup_53 : decode cX1_putIntoGroup 53 = .ok (.dup, 1) := by decide +kernel
theorem dX1_putIntoGroup_54 : decode cX1_putIntoGroup 54 = .ok (.getfield 54, 3) := by decide +kernel
theorem dX1_putIntoGroup_57 : decode cX1_putIntoGroup 57 = .ok (.iconst 1, 1) := by decide +kernel
theorem dX1_putIntoGroup_58 : decode cX1_putIntoGroup 58 = .ok (.iadd, 1) := by decide +kernel
theorem dX1_putIntoGroup_59 : decode cX1_putIntoGroup 59 = .ok (.putfield 54, 3) := by decide +kernel
theorem dX1_putIntoGroup_62 : decode cX1_putIntoGroup 62 = .ok (.aload_n 0, 1) := by decide +kernel
theorem dX1_putIntoGroup_63 : decode cX1_putIntoGroup 63 = .ok (.getfield 41, 3) := by decide +kernel
theorem dX1_putIntoGroup_66 : decode cX1_putIntoGroup 66 = .ok (.iload_n 2, 1) := by decide +kernel
theorem dX1_putIntoGroup_67 : decode cX1_putIntoGroup 67 = .ok (.iload_n 1, 1) := by decide +kernel
theorem dX1_putIntoGroup_68 : decode cX1_putIntoGroup 68 = .ok (.iastore, 1) := by decide +kernel
theorem dX1_putIntoGroup_69 : decode cX1_putIntoGroup 69 = .ok (.aload_n 0, 1) := by decide +kernel
theorem dX1_putIntoGroup_70 : decode cX1_putIntoGroup 70 = .ok (.getfield 44, 3) := by decide +kernel
theorem dX1_putIntoGroup_73 : decode cX1_putIntoGroup 73 = .ok (.iload_n 2, 1) := by decide +kernel
theorem dX1_putIntoGroup_74 : decode cX1_putIntoGroup 74 = .ok (.iconst 0, 1) := by decide +kernel
theorem dX1_putIntoGroup_75 : decode cX1_putIntoGroup 75 = .ok (.iastore, 1) := by decide +kernel
theorem dX1_putIntoGroup_76 : decode cX1_putIntoGroup 76 = .ok (.goto 81, 3) := by decide +kernel
theorem dX1_putIntoGroup_79 : decode cX1_putIntoGroup 79 = .ok (.aload_n 0, 1) := by decide +kernel
theorem dX1_putIntoGroup_80 : decode cX1_putIntoGroup 80 = .ok (.getfield 19, 3) := by decide +kernel
theorem dX1_putIntoGroup_83 : decode cX1_putIntoGroup 83 = .ok (.iload_n 1, 1) := by decide +kernel
theorem dX1_putIntoGroup_84 : decode cX1_putIntoGroup 84 = .ok (.iaload, 1) := by decide +kernel
theorem dX1_putIntoGroup_85 : decode cX1_putIntoGroup 85 = .ok (.aload_n 0, 1) := by decide +kernel
theorem dX1_putIntoGroup_86 : decode cX1_putIntoGroup 86 = .ok (.getfield 19, 3) := by decide +kernel
theorem dX1_putIntoGroup_89 : decode cX1_putIntoGroup 89 = .ok (.aload_n 0, 1) := by decide +kernel
theorem dX1_putIntoGroup_90 : decode cX1_putIntoGroup 90 = .ok (.getfield 41, 3) := by decide +kernel
theorem dX1_putIntoGroup_93 : decode cX1_putIntoGroup 93 = .ok (.iload_n 2, 1) := by decide +kernel
theorem dX1_putIntoGroup_94 : decode cX1_putIntoGroup 94 = .ok (.iaload, 1) := by decide +kernel
theorem dX1_putIntoGroup_95 : decode cX1_putIntoGroup 95 = .ok (.iaload, 1) := by decide +kernel
theorem dX1_putIntoGroup_96 : decode cX1_putIntoGroup 96 = .ok (.if_icmp .le 25, 3) := by decide +kernel
theorem dX1_putIntoGroup_99 : decode cX1_putIntoGroup 99 = .ok (.aload_n 0, 1) := by decide +kernel
theorem dX1_putIntoGroup_100 : decode cX1_putIntoGroup 100 = .ok (.getfield 44, 3) := by decide +kernel
theorem dX1_putIntoGroup_103 : decode cX1_putIntoGroup 103 = .ok (.iload_n 2, 1) := by decide +kernel
theorem dX1_putIntoGroup_104 : decode cX1_putIntoGroup 104 = .ok (.aload_n 0, 1) := by decide +kernel
theorem dX1_putIntoGroup_105 : decode cX1_putIntoGroup 105 = .ok (.getfield 41, 3) := by decide +kernel
theorem dX1_putIntoGroup_108 : decode cX1_putIntoGroup 108 = .ok (.iload_n 2, 1) := by decide +kernel
theorem dX1_putIntoGroup_109 : decode cX1_putIntoGroup 109 = .ok (.iaload, 1) := by decide +kernel
theorem dX1_putIntoGroup_110 : decode cX1_putIntoGroup 110 = .ok (.iastore, 1) := by decide +kernel
theorem dX1_putIntoGroup_111 : decode cX1_putIntoGroup 111 = .ok (.aload_n 0, 1) := by decide +kernel
theorem dX1_putIntoGroup_112 : decode cX1_putIntoGroup 112 = .ok (.getfield 41, 3) := by decide +kernel
theorem dX1_putIntoGroup_115 : decode cX1_putIntoGroup 115 = .ok (.iload_n 2, 1) := by decide +kernel
theorem dX1_putIntoGroup_116 : decode cX1_putIntoGroup 116 = .ok (.iload_n 1, 1) := by decide +kernel
theorem dX1_putIntoGroup_117 : decode cX1_putIntoGroup 117 = .ok (.iastore, 1) := by decide +kernel
theorem dX1_putIntoGroup_118 : decode cX1_putIntoGroup 118 = .ok (.goto 39, 3) := by decide +kernel
theorem dX1_putIntoGroup_121 : decode cX1_putIntoGroup 121 = .ok (.aload_n 0, 1) := by decide +kernel
theorem dX1_putIntoGroup_122 : decode cX1_putIntoGroup 122 = .ok (.getfield 44, 3) := by decide +kernel
theorem dX1_putIntoGroup_125 : decode cX1_putIntoGroup 125 = .ok (.iload_n 2, 1) := by decide +kernel
theorem dX1_putIntoGroup_126 : decode cX1_putIntoGroup 126 = .ok (.iaload, 1) := by decide +kernel
theorem dX1_putIntoGroup_127 : decode cX1_putIntoGroup 127 = .ok (.ifCond .eq 23, 3) := by decide +kernel
theorem dX1_putIntoGroup_130 : decode cX1_putIntoGroup 130 = .ok (.aload_n 0, 1) := by decide +kernel
theorem dX1_putIntoGroup_131 : decode cX1_putIntoGroup 131 = .ok (.getfield 19, 3) := by decide +kernel
theorem dX1_putIntoGroup_134 : decode cX1_putIntoGroup 134 = .ok (.iload_n 1, 1) := by decide +kernel
theorem dX1_putIntoGroup_135 : decode cX1_putIntoGroup 135 = .ok (.iaload, 1) := by decide +kernel
theorem dX1_putIntoGroup_136 : decode cX1_putIntoGroup 136 = .ok (.aload_n 0, 1) := by decide +kernel
theorem dX1_putIntoGroup_137 : decode cX1_putIntoGroup 137 = .ok (.getfield 19, 3) := by decide +kernel
theorem dX1_putIntoGroup_140 : decode cX1_putIntoGroup 140 = .ok (.aload_n 0, 1) := by decide +kernel
theorem dX1_putIntoGroup_141 : decode cX1_putIntoGroup 141 = .ok (.getfield 44, 3) := by decide +kernel
theorem dX1_putIntoGroup_144 : decode cX1_putIntoGroup 144 = .ok (.iload_n 2, 1) := by decide +kernel
theorem dX1_putIntoGroup_145 : decode cX1_putIntoGroup 145 = .ok (.iaload, 1) := by decide +kernel
theorem dX1_putIntoGroup_146 : decode cX1_putIntoGroup 146 = .ok (.iaload, 1) := by decide +kernel
theorem dX1_putIntoGroup_147 : decode cX1_putIntoGroup 147 = .ok (.if_icmp .le 10, 3) := by decide +kernel
theorem dX1_putIntoGroup_150 : decode cX1_putIntoGroup 150 = .ok (.aload_n 0, 1) := by decide +kernel
theorem dX1_putIntoGroup_151 : decode cX1_putIntoGroup 151 = .ok (.getfield 44, 3) := by decide +kernel
theorem dX1_putIntoGroup_154 : decode cX1_putIntoGroup 154 = .ok (.iload_n 2, 1) := by decide +kernel
theorem dX1_putIntoGroup_155 : decode cX1_putIntoGroup 155 = .ok (.iload_n 1, 1) := by decide +kernel
theorem dX1_putIntoGroup_156 : decode cX1_putIntoGroup 156 = .ok (.iastore, 1) := by decide +kernel
theorem dX1_putIntoGroup_157 : decode cX1_putIntoGroup 157 = .ok (.return_, 1) := by decide +kernel
theorem dX1_canBeSaid_0 : decode cX1_canBeSaid 0 = .ok (.iload_n 1, 1) := by decide +kernel
theorem dX1_canBeSaid_1 : decode cX1_canBeSaid 1 = .ok (.ifCond .le 23, 3) := by decide +kernel
theorem dX1_canBeSaid_4 : decode cX1_canBeSaid 4 = .ok (.iload_n 1, 1) := by decide +kernel
theorem dX1_canBeSaid_5 : decode cX1_canBeSaid 5 = .ok (.sipush 1000, 3) := by decide +kernel
theorem dX1_canBeSaid_8 : decode cX1_canBeSaid 8 = .ok (.if_icmp .ge 16, 3) := by decide +kernel
theorem dX1_canBeSaid_11 : decode cX1_canBeSaid 11 = .ok (.aload_n 0, 1) := by decide +kernel
theorem dX1_canBeSaid_12 : decode cX1_canBeSaid 12 = .ok (.getfield 9, 3) := by decide +kernel
theorem dX1_canBeSaid_15 : decode cX1_canBeSaid 15 = .ok (.iload_n 1, 1) := by decide +kernel
theorem dX1_canBeSaid_16 : decode cX1_canBeSaid 16 = .ok (.baload, 1) := by decide +kernel
theorem dX1_canBeSaid_17 : decode cX1_canBeSaid 17 = .ok (.ifCond .eq 7, 3) := by decide +kernel
theorem dX1_canBeSaid_20 : decode cX1_canBeSaid 20 = .ok (.iconst 1, 1) := by decide +kernel
theorem dX1_canBeSaid_21 : decode cX1_canBeSaid 21 = .ok (.goto 4, 3) := by decide +kernel
theorem dX1_canBeSaid_24 : decode cX1_canBeSaid 24 = .ok (.iconst 0, 1) := by decide +kernel
theorem dX1_canBeSaid_25 : decode cX1_canBeSaid 25 = .ok (.ireturn, 1) := by decide +kernel
theorem dX1_countOf_0 : decode cX1_countOf 0 = .ok (.aload_n 0, 1) := by decide +kernel
theorem dX1_countOf_1 : decode cX1_countOf 1 = .ok (.getfield 28, 3) := by decide +kernel
theorem dX1_countOf_4 : decode cX1_countOf 4 = .ok (.iload_n 1, 1) := by decide +kernel
theorem dX1_countOf_5 : decode cX1_countOf 5 = .ok (.laload, 1) := by decide +kernel
theorem dX1_countOf_6 : decode cX1_countOf 6 = .ok (.bipush 8, 2) := by decide +kernel
theorem dX1_countOf_8 : decode cX1_countOf 8 = .ok (.iload_n 2, 1) := by decide +kernel
theorem dX1_countOf_9 : decode cX1_countOf 9 = .ok (.imul, 1) := by decide +kernel
theorem dX1_countOf_10 : decode cX1_countOf 10 = .ok (.lushr, 1) := by decide +kernel
theorem dX1_countOf_11 : decode cX1_countOf 11 = .ok (.l2i, 1) := by decide +kernel
theorem dX1_countOf_12 : decode cX1_countOf 12 = .ok (.sipush 255, 3) := by decide +kernel
theorem dX1_countOf_15 : decode cX1_countOf 15 = .ok (.iand, 1) := by decide +kernel
theorem dX1_countOf_16 : decode cX1_countOf 16 = .ok (.ireturn, 1) := by decide +kernel
theorem dX1_isAnswer_0 : decode cX1_isAnswer 0 = .ok (.aload_n 0, 1) := by decide +kernel
theorem dX1_isAnswer_1 : decode cX1_isAnswer 1 = .ok (.getfield 9, 3) := by decide +kernel
theorem dX1_isAnswer_4 : decode cX1_isAnswer 4 = .ok (.iload_n 2, 1) := by decide +kernel
theorem dX1_isAnswer_5 : decode cX1_isAnswer 5 = .ok (.baload, 1) := by decide +kernel
theorem dX1_isAnswer_6 : decode cX1_isAnswer 6 = .ok (.ifCond .eq 28, 3) := by decide +kernel
theorem dX1_isAnswer_9 : decode cX1_isAnswer 9 = .ok (.iload_n 2, 1) := by decide +kernel
theorem dX1_isAnswer_10 : decode cX1_isAnswer 10 = .ok (.iload_n 1, 1) := by decide +kernel
theorem dX1_isAnswer_11 : decode cX1_isAnswer 11 = .ok (.if_icmp .eq 23, 3) := by decide +kernel
theorem dX1_isAnswer_14 : decode cX1_isAnswer 14 = .ok (.aload_n 0, 1) := by decide +kernel
theorem dX1_isAnswer_15 : decode cX1_isAnswer 15 = .ok (.getfield 28, 3) := by decide +kernel
theorem dX1_isAnswer_18 : decode cX1_isAnswer 18 = .ok (.iload_n 2, 1) := by decide +kernel
theorem dX1_isAnswer_19 : decode cX1_isAnswer 19 = .ok (.laload, 1) := by decide +kernel
theorem dX1_isAnswer_20 : decode cX1_isAnswer 20 = .ok (.aload_n 0, 1) := by decide +kernel
theorem dX1_isAnswer_21 : decode cX1_isAnswer 21 = .ok (.getfield 28, 3) := by decide +kernel
theorem dX1_isAnswer_24 : decode cX1_isAnswer 24 = .ok (.iload_n 1, 1) := by decide +kernel
theorem dX1_isAnswer_25 : decode cX1_isAnswer 25 = .ok (.laload, 1) := by decide +kernel
theorem dX1_isAnswer_26 : decode cX1_isAnswer 26 = .ok (.lcmp, 1) := by decide +kernel
theorem dX1_isAnswer_27 : decode cX1_isAnswer 27 = .ok (.ifCond .ne 7, 3) := by decide +kernel
theorem dX1_isAnswer_30 : decode cX1_isAnswer 30 = .ok (.iconst 1, 1) := by decide +kernel
theorem dX1_isAnswer_31 : decode cX1_isAnswer 31 = .ok (.goto 4, 3) := by decide +kernel
theorem dX1_isAnswer_34 : decode cX1_isAnswer 34 = .ok (.iconst 0, 1) := by decide +kernel
theorem dX1_isAnswer_35 : decode cX1_isAnswer 35 = .ok (.ireturn, 1) := by decide +kernel
theorem dX1_isNear_0 : decode cX1_isNear 0 = .ok (.aload_n 0, 1) := by decide +kernel
theorem dX1_isNear_1 : decode cX1_isNear 1 = .ok (.getfield 9, 3) := by decide +kernel
theorem dX1_isNear_4 : decode cX1_isNear 4 = .ok (.iload_n 2, 1) := by decide +kernel
theorem dX1_isNear_5 : decode cX1_isNear 5 = .ok (.baload, 1) := by decide +kernel
theorem dX1_isNear_6 : decode cX1_isNear 6 = .ok (.ifCond .eq 22, 3) := by decide +kernel
theorem dX1_isNear_9 : decode cX1_isNear 9 = .ok (.iload_n 2, 1) := by decide +kernel
theorem dX1_isNear_10 : decode cX1_isNear 10 = .ok (.iload_n 1, 1) := by decide +kernel
theorem dX1_isNear_11 : decode cX1_isNear 11 = .ok (.if_icmp .eq 17, 3) := by decide +kernel
theorem dX1_isNear_14 : decode cX1_isNear 14 = .ok (.aload_n 0, 1) := by decide +kernel
theorem dX1_isNear_15 : decode cX1_isNear 15 = .ok (.iload_n 1, 1) := by decide +kernel
theorem dX1_isNear_16 : decode cX1_isNear 16 = .ok (.iload_n 2, 1) := by decide +kernel
theorem dX1_isNear_17 : decode cX1_isNear 17 = .ok (.invokevirtual 105, 3) := by decide +kernel
theorem dX1_isNear_20 : decode cX1_isNear 20 = .ok (.iload_n 3, 1) := by decide +kernel
theorem dX1_isNear_21 : decode cX1_isNear 21 = .ok (.if_icmp .gt 7, 3) := by decide +kernel
theorem dX1_isNear_24 : decode cX1_isNear 24 = .ok (.iconst 1, 1) := by decide +kernel
theorem dX1_isNear_25 : decode cX1_isNear 25 = .ok (.goto 4, 3) := by decide +kernel
theorem dX1_isNear_28 : decode cX1_isNear 28 = .ok (.iconst 0, 1) := by decide +kernel
theorem dX1_isNear_29 : decode cX1_isNear 29 = .ok (.ireturn, 1) := by decide +kernel
theorem dX1_difference_0 : decode cX1_difference 0 = .ok (.iconst 0, 1) := by decide +kernel
theorem dX1_difference_1 : decode cX1_difference 1 = .ok (.istore_n 3, 1) := by decide +kernel
theorem dX1_difference_2 : decode cX1_difference 2 = .ok (.iconst 0, 1) := by decide +kernel
theorem dX1_difference_3 : decode cX1_difference 3 = .ok (.istore 4, 2) := by decide +kernel
theorem dX1_difference_5 : decode cX1_difference 5 = .ok (.iload 4, 2) := by decide +kernel
theorem dX1_difference_7 : decode cX1_difference 7 = .ok (.bipush 8, 2) := by decide +kernel
theorem dX1_difference_9 : decode cX1_difference 9 = .ok (.if_icmp .ge 30, 3) := by decide +kernel
theorem dX1_difference_12 : decode cX1_difference 12 = .ok (.iload_n 3, 1) := by decide +kernel
theorem dX1_difference_13 : decode cX1_difference 13 = .ok (.aload_n 0, 1) := by decide +kernel
theorem dX1_difference_14 : decode cX1_difference 14 = .ok (.iload_n 1, 1) := by decide +kernel
theorem dX1_difference_15 : decode cX1_difference 15 = .ok (.iload 4, 2) := by decide +kernel
theorem dX1_difference_17 : decode cX1_difference 17 = .ok (.invokevirtual 108, 3) := by decide +kernel
theorem dX1_difference_20 : decode cX1_difference 20 = .ok (.aload_n 0, 1) := by decide +kernel
theorem dX1_difference_21 : decode cX1_difference 21 = .ok (.iload_n 2, 1) := by decide +kernel
theorem dX1_difference_22 : decode cX1_difference 22 = .ok (.iload 4, 2) := by decide +kernel
theorem dX1_difference_24 : decode cX1_difference 24 = .ok (.invokevirtual 108, 3) := by decide +kernel
theorem dX1_difference_27 : decode cX1_difference 27 = .ok (.isub, 1) := by decide +kernel
theorem dX1_difference_28 : decode cX1_difference 28 = .ok (.invokestatic 111, 3) := by decide +kernel
theorem dX1_difference_31 : decode cX1_difference 31 = .ok (.iadd, 1) := by decide +kernel
theorem dX1_difference_32 : decode cX1_difference 32 = .ok (.istore_n 3, 1) := by decide +kernel
theorem dX1_difference_33 : decode cX1_difference 33 = .ok (.iinc 4 1, 3) := by decide +kernel
theorem dX1_difference_36 : decode cX1_difference 36 = .ok (.goto (-31), 3) := by decide +kernel
theorem dX1_difference_39 : decode cX1_difference 39 = .ok (.iload_n 3, 1) := by decide +kernel
theorem dX1_difference_40 : decode cX1_difference 40 = .ok (.ireturn, 1) := by decide +kernel
theorem dX1_mostOwn_0 : decode cX1_mostOwn 0 = .ok (.bipush (-9), 2) := by decide +kernel
theorem dX1_mostOwn_2 : decode cX1_mostOwn 2 = .ok (.istore_n 1, 1) := by decide +kernel
theorem dX1_mostOwn_3 : decode cX1_mostOwn 3 = .ok (.iconst 1, 1) := by decide +kernel
theorem dX1_mostOwn_4 : decode cX1_mostOwn 4 = .ok (.istore_n 2, 1) := by decide +kernel
theorem dX1_mostOwn_5 : decode cX1_mostOwn 5 = .ok (.iload_n 2, 1) := by decide +kernel
theorem dX1_mostOwn_6 : decode cX1_mostOwn 6 = .ok (.sipush 1000, 3) := by decide +kernel
theorem dX1_mostOwn_9 : decode cX1_mostOwn 9 = .ok (.if_icmp .ge 29, 3) := by decide +kernel
theorem dX1_mostOwn_12 : decode cX1_mostOwn 12 = .ok (.aload_n 0, 1) := by decide +kernel
theorem dX1_mostOwn_13 : decode cX1_mostOwn 13 = .ok (.getfield 9, 3) := by decide +kernel
theorem dX1_mostOwn_16 : decode cX1_mostOwn 16 = .ok (.iload_n 2, 1) := by decide +kernel
theorem dX1_mostOwn_17 : decode cX1_mostOwn 17 = .ok (.baload, 1) := by decide +kernel
theorem dX1_mostOwn_18 : decode cX1_mostOwn 18 = .ok (.ifCond .eq 14, 3) := by decide +kernel
theorem dX1_mostOwn_21 : decode cX1_mostOwn 21 = .ok (.iload_n 1, 1) := by decide +kernel
theorem dX1_mostOwn_22 : decode cX1_mostOwn 22 = .ok (.aload_n 0, 1) := by decide +kernel
theorem dX1_mostOwn_23 : decode cX1_mostOwn 23 = .ok (.getfield 19, 3) := by decide +kernel
theorem dX1_mostOwn_26 : decode cX1_mostOwn 26 = .ok (.iload_n 2, 1) := by decide +kernel
theorem dX1_mostOwn_27 : decode cX1_mostOwn 27 = .ok (.iaload, 1) := by decide +kernel
theorem dX1_mostOwn_28 : decode cX1_mostOwn 28 = .ok (.invokestatic 117, 3) := by decide +kernel
theorem dX1_mostOwn_31 : decode cX1_mostOwn 31 = .ok (.istore_n 1, 1) := by decide +kernel
theorem dX1_mostOwn_32 : decode cX1_mostOwn 32 = .ok (.iinc 2 1, 3) := by decide +kernel
theorem dX1_mostOwn_35 : decode cX1_mostOwn 35 = .ok (.goto (-30), 3) := by decide +kernel
theorem dX1_mostOwn_38 : decode cX1_mostOwn 38 = .ok (.iload_n 1, 1) := by decide +kernel
theorem dX1_mostOwn_39 : decode cX1_mostOwn 39 = .ok (.ireturn, 1) := by decide +kernel
theorem dX1_numberAt_0 : decode cX1_numberAt 0 = .ok (.iconst 0, 1) := by decide +kernel
theorem dX1_numberAt_1 : decode cX1_numberAt 1 = .ok (.istore_n 2, 1) := by decide +kernel
theorem dX1_numberAt_2 : decode cX1_numberAt 2 = .ok (.iconst 1, 1) := by decide +kernel
theorem dX1_numberAt_3 : decode cX1_numberAt 3 = .ok (.istore_n 3, 1) := by decide +kernel
theorem dX1_numberAt_4 : decode cX1_numberAt 4 = .ok (.iload_n 3, 1) := by decide +kernel
theorem dX1_numberAt_5 : decode cX1_numberAt 5 = .ok (.sipush 1000, 3) := by decide +kernel
theorem dX1_numberAt_8 : decode cX1_numberAt 8 = .ok (.if_icmp .ge 28, 3) := by decide +kernel
theorem dX1_numberAt_11 : decode cX1_numberAt 11 = .ok (.aload_n 0, 1) := by decide +kernel
theorem dX1_numberAt_12 : decode cX1_numberAt 12 = .ok (.getfield 9, 3) := by decide +kernel
theorem dX1_numberAt_15 : decode cX1_numberAt 15 = .ok (.iload_n 3, 1) := by decide +kernel
theorem dX1_numberAt_16 : decode cX1_numberAt 16 = .ok (.baload, 1) := by decide +kernel
theorem dX1_numberAt_17 : decode cX1_numberAt 17 = .ok (.ifCond .eq 13, 3) := by decide +kernel
theorem dX1_numberAt_20 : decode cX1_numberAt 20 = .ok (.iload_n 2, 1) := by decide +kernel
theorem dX1_numberAt_21 : decode cX1_numberAt 21 = .ok (.iload_n 1, 1) := by decide +kernel
theorem dX1_numberAt_22 : decode cX1_numberAt 22 = .ok (.if_icmp .ne 5, 3) := by decide +kernel
theorem dX1_numberAt_25 : decode cX1_numberAt 25 = .ok (.iload_n 3, 1) := by decide +kernel
theorem dX1_numberAt_26 : decode cX1_numberAt 26 = .ok (.ireturn, 1) := by decide +kernel
theorem dX1_numberAt_27 : decode cX1_numberAt 27 = .ok (.iinc 2 1, 3) := by decide +kernel
theorem dX1_numberAt_30 : decode cX1_numberAt 30 = .ok (.iinc 3 1, 3) := by decide +kernel
theorem dX1_numberAt_33 : decode cX1_numberAt 33 = .ok (.goto (-29), 3) := by decide +kernel
theorem dX1_numberAt_36 : decode cX1_numberAt 36 = .ok (.bipush (-5), 2) := by decide +kernel
theorem dX1_numberAt_38 : decode cX1_numberAt 38 = .ok (.ireturn, 1) := by decide +kernel
theorem dX1_countAnswers_0 : decode cX1_countAnswers 0 = .ok (.iconst 0, 1) := by decide +kernel
theorem dX1_countAnswers_1 : decode cX1_countAnswers 1 = .ok (.istore_n 3, 1) := by decide +kernel
theorem dX1_countAnswers_2 : decode cX1_countAnswers 2 = .ok (.iconst 1, 1) := by decide +kernel
theorem dX1_countAnswers_3 : decode cX1_countAnswers 3 = .ok (.istore 4, 2) := by decide +kernel
theorem dX1_countAnswers_5 : decode cX1_countAnswers 5 = .ok (.iload 4, 2) := by decide +kernel
theorem dX1_countAnswers_7 : decode cX1_countAnswers 7 = .ok (.sipush 1000, 3) := by decide +kernel
theorem dX1_countAnswers_10 : decode cX1_countAnswers 10 = .ok (.if_icmp .ge 23, 3) := by decide +kernel
theorem dX1_countAnswers_13 : decode cX1_countAnswers 13 = .ok (.aload_n 0, 1) := by decide +kernel
theorem dX1_countAnswers_14 : decode cX1_countAnswers 14 = .ok (.iload_n 1, 1) := by decide +kernel
theorem dX1_countAnswers_15 : decode cX1_countAnswers 15 = .ok (.iload 4, 2) := by decide +kernel
theorem dX1_countAnswers_17 : decode cX1_countAnswers 17 = .ok (.iload_n 2, 1) := by decide +kernel
theorem dX1_countAnswers_18 : decode cX1_countAnswers 18 = .ok (.invokevirtual 120, 3) := by decide +kernel
theorem dX1_countAnswers_21 : decode cX1_countAnswers 21 = .ok (.ifCond .eq 6, 3) := by decide +kernel
theorem dX1_countAnswers_24 : decode cX1_countAnswers 24 = .ok (.iinc 3 1, 3) := by decide +kernel
theorem dX1_countAnswers_27 : decode cX1_countAnswers 27 = .ok (.iinc 4 1, 3) := by decide +kernel
theorem dX1_countAnswers_30 : decode cX1_countAnswers 30 = .ok (.goto (-25), 3) := by decide +kernel
theorem dX1_countAnswers_33 : decode cX1_countAnswers 33 = .ok (.iload_n 3, 1) := by decide +kernel
theorem dX1_countAnswers_34 : decode cX1_countAnswers 34 = .ok (.ireturn, 1) := by decide +kernel
theorem dX1_findBest_0 : decode cX1_findBest 0 = .ok (.bipush (-9), 2) := by decide +kernel
theorem dX1_findBest_2 : decode cX1_findBest 2 = .ok (.istore_n 3, 1) := by decide +kernel
theorem dX1_findBest_3 : decode cX1_findBest 3 = .ok (.iconst (-1), 1) := by decide +kernel
theorem dX1_findBest_4 : decode cX1_findBest 4 = .ok (.istore 4, 2) := by decide +kernel
theorem dX1_findBest_6 : decode cX1_findBest 6 = .ok (.iconst 1, 1) := by decide +kernel
theorem dX1_findBest_7 : decode cX1_findBest 7 = .ok (.istore 5, 2) := by decide +kernel
theorem dX1_findBest_9 : decode cX1_findBest 9 = .ok (.iload 5, 2) := by decide +kernel
theorem dX1_findBest_11 : decode cX1_findBest 11 = .ok (.sipush 1000, 3) := by decide +kernel
theorem dX1_findBest_14 : decode cX1_findBest 14 = .ok (.if_icmp .ge 44, 3) := by decide +kernel
theorem dX1_findBest_17 : decode cX1_findBest 17 = .ok (.aload_n 0, 1) := by decide +kernel
theorem dX1_findBest_18 : decode cX1_findBest 18 = .ok (.iload_n 1, 1) := by decide +kernel
theorem dX1_findBest_19 : decode cX1_findBest 19 = .ok (.iload 5, 2) := by decide +kernel
theorem dX1_findBest_21 : decode cX1_findBest 21 = .ok (.iload_n 2, 1) := by decide +kernel
theorem dX1_findBest_22 : decode cX1_findBest 22 = .ok (.invokevirtual 120, 3) := by decide +kernel
theorem dX1_findBest_25 : decode cX1_findBest 25 = .ok (.ifCond .eq 27, 3) := by decide +kernel
theorem dX1_findBest_28 : decode cX1_findBest 28 = .ok (.aload_n 0, 1) := by decide +kernel
theorem dX1_findBest_29 : decode cX1_findBest 29 = .ok (.getfield 19, 3) := by decide +kernel
theorem dX1_findBest_32 : decode cX1_findBest 32 = .ok (.iload 5, 2) := by decide +kernel
theorem dX1_findBest_34 : decode cX1_findBest 34 = .ok (.iaload, 1) := by decide +kernel
theorem dX1_findBest_35 : decode cX1_findBest 35 = .ok (.iload 4, 2) := by decide +kernel
theorem dX1_findBest_37 : decode cX1_findBest 37 = .ok (.if_icmp .le 15, 3) := by decide +kernel
theorem dX1_findBest_40 : decode cX1_findBest 40 = .ok (.iload 5, 2) := by decide +kernel
theorem dX1_findBest_42 : decode cX1_findBest 42 = .ok (.istore_n 3, 1) := by decide +kernel
theorem dX1_findBest_43 : decode cX1_findBest 43 = .ok (.aload_n 0, 1) := by decide +kernel
theorem dX1_findBest_44 : decode cX1_findBest 44 = .ok (.getfield 19, 3) := by decide +kernel
theorem dX1_findBest_47 : decode cX1_findBest 47 = .ok (.iload 5, 2) := by decide +kernel
theorem dX1_findBest_49 : decode cX1_findBest 49 = .ok (.iaload, 1) := by decide +kernel
theorem dX1_findBest_50 : decode cX1_findBest 50 = .ok (.istore 4, 2) := by decide +kernel
theorem dX1_findBest_52 : decode cX1_findBest 52 = .ok (.iinc 5 1, 3) := by decide +kernel
theorem dX1_findBest_55 : decode cX1_findBest 55 = .ok (.goto (-46), 3) := by decide +kernel
theorem dX1_findBest_58 : decode cX1_findBest 58 = .ok (.iload_n 3, 1) := by decide +kernel
theorem dX1_findBest_59 : decode cX1_findBest 59 = .ok (.ireturn, 1) := by decide +kernel
theorem dX1_countMute_0 : decode cX1_countMute 0 = .ok (.iconst 0, 1) := by decide +kernel
theorem dX1_countMute_1 : decode cX1_countMute 1 = .ok (.istore_n 1, 1) := by decide +kernel
theorem dX1_countMute_2 : decode cX1_countMute 2 = .ok (.iconst 1, 1) := by decide +kernel
theorem dX1_countMute_3 : decode cX1_countMute 3 = .ok (.istore_n 2, 1) := by decide +kernel
theorem dX1_countMute_4 : decode cX1_countMute 4 = .ok (.iload_n 2, 1) := by decide +kernel
theorem dX1_countMute_5 : decode cX1_countMute 5 = .ok (.sipush 1000, 3) := by decide +kernel
theorem dX1_countMute_8 : decode cX1_countMute 8 = .ok (.if_icmp .ge 30, 3) := by decide +kernel
theorem dX1_countMute_11 : decode cX1_countMute 11 = .ok (.aload_n 0, 1) := by decide +kernel
theorem dX1_countMute_12 : decode cX1_countMute 12 = .ok (.getfield 9, 3) := by decide +kernel
theorem dX1_countMute_15 : decode cX1_countMute 15 = .ok (.iload_n 2, 1) := by decide +kernel
theorem dX1_countMute_16 : decode cX1_countMute 16 = .ok (.baload, 1) := by decide +kernel
theorem dX1_countMute_17 : decode cX1_countMute 17 = .ok (.ifCond .eq 15, 3) := by decide +kernel
theorem dX1_countMute_20 : decode cX1_countMute 20 = .ok (.aload_n 0, 1) := by decide +kernel
theorem dX1_countMute_21 : decode cX1_countMute 21 = .ok (.getfield 35, 3) := by decide +kernel
theorem dX1_countMute_24 : decode cX1_countMute 24 = .ok (.iload_n 2, 1) := by decide +kernel
theorem dX1_countMute_25 : decode cX1_countMute 25 = .ok (.iaload, 1) := by decide +kernel
theorem dX1_countMute_26 : decode cX1_countMute 26 = .ok (.ifCond .ne 6, 3) := by decide +kernel
theorem dX1_countMute_29 : decode cX1_countMute 29 = .ok (.iinc 1 1, 3) := by decide +kernel
theorem dX1_countMute_32 : decode cX1_countMute 32 = .ok (.iinc 2 1, 3) := by decide +kernel
theorem dX1_countMute_35 : decode cX1_countMute 35 = .ok (.goto (-31), 3) := by decide +kernel
theorem dX1_countMute_38 : decode cX1_countMute 38 = .ok (.iload_n 1, 1) := by decide +kernel
theorem dX1_countMute_39 : decode cX1_countMute 39 = .ok (.ireturn, 1) := by decide +kernel
theorem dX1_firstMute_0 : decode cX1_firstMute 0 = .ok (.iconst 1, 1) := by decide +kernel
theorem dX1_firstMute_1 : decode cX1_firstMute 1 = .ok (.istore_n 1, 1) := by decide +kernel
theorem dX1_firstMute_2 : decode cX1_firstMute 2 = .ok (.iload_n 1, 1) := by decide +kernel
theorem dX1_firstMute_3 : decode cX1_firstMute 3 = .ok (.sipush 1000, 3) := by decide +kernel
theorem dX1_firstMute_6 : decode cX1_firstMute 6 = .ok (.if_icmp .ge 29, 3) := by decide +kernel
theorem dX1_firstMute_9 : decode cX1_firstMute 9 = .ok (.aload_n 0, 1) := by decide +kernel
theorem dX1_firstMute_10 : decode cX1_firstMute 10 = .ok (.getfield 9, 3) := by decide +kernel
theorem dX1_firstMute_13 : decode cX1_firstMute 13 = .ok (.iload_n 1, 1) := by decide +kernel
theorem dX1_firstMute_14 : decode cX1_firstMute 14 = .ok (.baload, 1) := by decide +kernel
theorem dX1_firstMute_15 : decode cX1_firstMute 15 = .ok (.ifCond .eq 14, 3) := by decide +kernel
theorem dX1_firstMute_18 : decode cX1_firstMute 18 = .ok (.aload_n 0, 1) := by decide +kernel
theorem dX1_firstMute_19 : decode cX1_firstMute 19 = .ok (.getfield 35, 3) := by decide +kernel
theorem dX1_firstMute_22 : decode cX1_firstMute 22 = .ok (.iload_n 1, 1) := by decide +kernel
theorem dX1_firstMute_23 : decode cX1_firstMute 23 = .ok (.iaload, 1) := by decide +kernel
theorem dX1_firstMute_24 : decode cX1_firstMute 24 = .ok (.ifCond .ne 5, 3) := by decide +kernel
theorem dX1_firstMute_27 : decode cX1_firstMute 27 = .ok (.iload_n 1, 1) := by decide +kernel
theorem dX1_firstMute_28 : decode cX1_firstMute 28 = .ok (.ireturn, 1) := by decide +kernel
theorem dX1_firstMute_29 : decode cX1_firstMute 29 = .ok (.iinc 1 1, 3) := by decide +kernel
theorem dX1_firstMute_32 : decode cX1_firstMute 32 = .ok (.goto (-30), 3) := by decide +kernel
theorem dX1_firstMute_35 : decode cX1_firstMute 35 = .ok (.bipush (-9), 2) := by decide +kernel
theorem dX1_firstMute_37 : decode cX1_firstMute 37 = .ok (.ireturn, 1) := by decide +kernel
theorem dX1_bestToWrite_0 : decode cX1_bestToWrite 0 = .ok (.iconst 0, 1) := by decide +kernel
theorem dX1_bestToWrite_1 : decode cX1_bestToWrite 1 = .ok (.istore_n 1, 1) := by decide +kernel
theorem dX1_bestToWrite_2 : decode cX1_bestToWrite 2 = .ok (.iconst (-1), 1) := by decide +kernel
theorem dX1_bestToWrite_3 : decode cX1_bestToWrite 3 = .ok (.istore_n 2, 1) := by decide +kernel
theorem dX1_bestToWrite_4 : decode cX1_bestToWrite 4 = .ok (.iconst 1, 1) := by decide +kernel
theorem dX1_bestToWrite_5 : decode cX1_bestToWrite 5 = .ok (.istore_n 3, 1) := by decide +kernel
theorem dX1_bestToWrite_6 : decode cX1_bestToWrite 6 = .ok (.iload_n 3, 1) := by decide +kernel
theorem dX1_bestToWrite_7 : decode cX1_bestToWrite 7 = .ok (.sipush 1000, 3) := by decide +kernel
theorem dX1_bestToWrite_10 : decode cX1_bestToWrite 10 = .ok (.if_icmp .ge 56, 3) := by decide +kernel
theorem dX1_bestToWrite_13 : decode cX1_bestToWrite 13 = .ok (.aload_n 0, 1) := by decide +kernel
theorem dX1_bestToWrite_14 : decode cX1_bestToWrite 14 = .ok (.getfield 9, 3) := by decide +kernel
theorem dX1_bestToWrite_17 : decode cX1_bestToWrite 17 = .ok (.iload_n 3, 1) := by decide +kernel
theorem dX1_bestToWrite_18 : decode cX1_bestToWrite 18 = .ok (.baload, 1) := by decide +kernel
theorem dX1_bestToWrite_19 : decode cX1_bestToWrite 19 = .ok (.ifCond .eq 41, 3) := by decide +kernel
theorem dX1_bestToWrite_22 : decode cX1_bestToWrite 22 = .ok (.aload_n 0, 1) := by decide +kernel
theorem dX1_bestToWrite_23 : decode cX1_bestToWrite 23 = .ok (.getfield 35, 3) := by decide +kernel
theorem dX1_bestToWrite_26 : decode cX1_bestToWrite 26 = .ok (.iload_n 3, 1) := by decide +kernel
theorem dX1_bestToWrite_27 : decode cX1_bestToWrite 27 = .ok (.iaload, 1) := by decide +kernel
theorem dX1_bestToWrite_28 : decode cX1_bestToWrite 28 = .ok (.ifCond .eq 32, 3) := by decide +kernel
theorem dX1_bestToWrite_31 : decode cX1_bestToWrite 31 = .ok (.aload_n 0, 1) := by decide +kernel
theorem dX1_bestToWrite_32 : decode cX1_bestToWrite 32 = .ok (.getfield 22, 3) := by decide +kernel
theorem dX1_bestToWrite_35 : decode cX1_bestToWrite 35 = .ok (.aload_n 0, 1) := by decide +kernel
theorem dX1_bestToWrite_36 : decode cX1_bestToWrite 36 = .ok (.getfield 35, 3) := by decide +kernel
theorem dX1_bestToWrite_39 : decode cX1_bestToWrite 39 = .ok (.iload_n 3, 1) := by decide +kernel
theorem dX1_bestToWrite_40 : decode cX1_bestToWrite 40 = .ok (.iaload, 1) := by decide +kernel
theorem dX1_bestToWrite_41 : decode cX1_bestToWrite 41 = .ok (.iaload, 1) := by decide +kernel
theorem dX1_bestToWrite_42 : decode cX1_bestToWrite 42 = .ok (.iload_n 2, 1) := by decide +kernel
theorem dX1_bestToWrite_43 : decode cX1_bestToWrite 43 = .ok (.if_icmp .le 17, 3) := by decide +kernel
theorem dX1_bestToWrite_46 : decode cX1_bestToWrite 46 = .ok (.iload_n 3, 1) := by decide +kernel
theorem dX1_bestToWrite_47 : decode cX1_bestToWrite 47 = .ok (.istore_n 1, 1) := by decide +kernel
theorem dX1_bestToWrite_48 : decode cX1_bestToWrite 48 = .ok (.aload_n 0, 1) := by decide +kernel
theorem dX1_bestToWrite_49 : decode cX1_bestToWrite 49 = .ok (.getfield 22, 3) := by decide +kernel
theorem dX1_bestToWrite_52 : decode cX1_bestToWrite 52 = .ok (.aload_n 0, 1) := by decide +kernel
theorem dX1_bestToWrite_53 : decode cX1_bestToWrite 53 = .ok (.getfield 35, 3) := by decide +kernel
theorem dX1_bestToWrite_56 : decode cX1_bestToWrite 56 = .ok (.iload_n 3, 1) := by decide +kernel
theorem dX1_bestToWrite_57 : decode cX1_bestToWrite 57 = .ok (.iaload, 1) := by decide +kernel
theorem dX1_bestToWrite_58 : decode cX1_bestToWrite 58 = .ok (.iaload, 1) := by decide +kernel
theorem dX1_bestToWrite_59 : decode cX1_bestToWrite 59 = .ok (.istore_n 2, 1) := by decide +kernel
theorem dX1_bestToWrite_60 : decode cX1_bestToWrite 60 = .ok (.iinc 3 1, 3) := by decide +kernel
theorem dX1_bestToWrite_63 : decode cX1_bestToWrite 63 = .ok (.goto (-57), 3) := by decide +kernel
theorem dX1_bestToWrite_66 : decode cX1_bestToWrite 66 = .ok (.iload_n 1, 1) := by decide +kernel
theorem dX1_bestToWrite_67 : decode cX1_bestToWrite 67 = .ok (.ireturn, 1) := by decide +kernel
theorem dX1_leastCommonSign_0 : decode cX1_leastCommonSign 0 = .ok (.sipush 255, 3) := by decide +kernel
theorem dX1_leastCommonSign_3 : decode cX1_leastCommonSign 3 = .ok (.istore_n 3, 1) := by decide +kernel
theorem dX1_leastCommonSign_4 : decode cX1_leastCommonSign 4 = .ok (.iconst 1, 1) := by decide +kernel
theorem dX1_leastCommonSign_5 : decode cX1_leastCommonSign 5 = .ok (.istore 4, 2) := by decide +kernel
theorem dX1_leastCommonSign_7 : decode cX1_leastCommonSign 7 = .ok (.iconst 1, 1) := by decide +kernel
theorem dX1_leastCommonSign_8 : decode cX1_leastCommonSign 8 = .ok (.istore 5, 2) := by decide +kernel
theorem dX1_leastCommonSign_10 : decode cX1_leastCommonSign 10 = .ok (.iload 5, 2) := by decide +kernel
theorem dX1_leastCommonSign_12 : decode cX1_leastCommonSign 12 = .ok (.sipush 1000, 3) := by decide +kernel
theorem dX1_leastCommonSign_15 : decode cX1_leastCommonSign 15 = .ok (.if_icmp .ge 33, 3) := by decide +kernel
theorem dX1_leastCommonSign_18 : decode cX1_leastCommonSign 18 = .ok (.aload_n 0, 1) := by decide +kernel
theorem dX1_leastCommonSign_19 : decode cX1_leastCommonSign 19 = .ok (.iload_n 1, 1) := by decide +kernel
theorem dX1_leastCommonSign_20 : decode cX1_leastCommonSign 20 = .ok (.iload 5, 2) := by decide +kernel
theorem dX1_leastCommonSign_22 : decode cX1_leastCommonSign 22 = .ok (.iload_n 2, 1) := by decide +kernel
theorem dX1_leastCommonSign_23 : decode cX1_leastCommonSign 23 = .ok (.invokevirtual 120, 3) := by decide +kernel
theorem dX1_leastCommonSign_26 : decode cX1_leastCommonSign 26 = .ok (.ifCond .eq 16, 3) := by decide +kernel
theorem dX1_leastCommonSign_29 : decode cX1_leastCommonSign 29 = .ok (.iload_n 3, 1) := by decide +kernel
theorem dX1_leastCommonSign_30 : decode cX1_leastCommonSign 30 = .ok (.aload_n 0, 1) := by decide +kernel
theorem dX1_leastCommonSign_31 : decode cX1_leastCommonSign 31 = .ok (.getfield 32, 3) := by decide +kernel
theorem dX1_leastCommonSign_34 : decode cX1_leastCommonSign 34 = .ok (.iload 5, 2) := by decide +kernel
theorem dX1_leastCommonSign_36 : decode cX1_leastCommonSign 36 = .ok (.iaload, 1) := by decide +kernel
theorem dX1_leastCommonSign_37 : decode cX1_leastCommonSign 37 = .ok (.iand, 1) := by decide +kernel
theorem dX1_leastCommonSign_38 : decode cX1_leastCommonSign 38 = .ok (.istore_n 3, 1) := by decide +kernel
theorem dX1_leastCommonSign_39 : decode cX1_leastCommonSign 39 = .ok (.iconst 0, 1) := by decide +kernel
theorem dX1_leastCommonSign_40 : decode cX1_leastCommonSign 40 = .ok (.istore 4, 2) := by decide +kernel
theorem dX1_leastCommonSign_42 : decode cX1_leastCommonSign 42 = .ok (.iinc 5 1, 3) := by decide +kernel
theorem dX1_leastCommonSign_45 : decode cX1_leastCommonSign 45 = .ok (.goto (-35), 3) := by decide +kernel
theorem dX1_leastCommonSign_48 : decode cX1_leastCommonSign 48 = .ok (.iload 4, 2) := by decide +kernel
theorem dX1_leastCommonSign_50 : decode cX1_leastCommonSign 50 = .ok (.ifCond .eq 6, 3) := by decide +kernel
theorem dX1_leastCommonSign_53 : decode cX1_leastCommonSign 53 = .ok (.bipush (-5), 2) := by decide +kernel
theorem dX1_leastCommonSign_55 : decode cX1_leastCommonSign 55 = .ok (.ireturn, 1) := by decide +kernel
theorem dX1_leastCommonSign_56 : decode cX1_leastCommonSign 56 = .ok (.iconst 0, 1) := by decide +kernel
theorem dX1_leastCommonSign_57 : decode cX1_leastCommonSign 57 = .ok (.istore 5, 2) := by decide +kernel
theorem dX1_leastCommonSign_59 : decode cX1_leastCommonSign 59 = .ok (.iload 5, 2) := by decide +kernel
theorem dX1_leastCommonSign_61 : decode cX1_leastCommonSign 61 = .ok (.bipush 8, 2) := by decide +kernel
theorem dX1_leastCommonSign_63 : decode cX1_leastCommonSign 63 = .ok (.if_icmp .ge 22, 3) := by decide +kernel
theorem dX1_leastCommonSign_66 : decode cX1_leastCommonSign 66 = .ok (.iload_n 3, 1) := by decide +kernel
theorem dX1_leastCommonSign_67 : decode cX1_leastCommonSign 67 = .ok (.iload 5, 2) := by decide +kernel
theorem dX1_leastCommonSign_69 : decode cX1_leastCommonSign 69 = .ok (.ishr, 1) := by decide +kernel
theorem dX1_leastCommonSign_70 : decode cX1_leastCommonSign 70 = .ok (.iconst 1, 1) := by decide +kernel
theorem dX1_leastCommonSign_71 : decode cX1_leastCommonSign 71 = .ok (.iand, 1) := by decide +kernel
theorem dX1_leastCommonSign_72 : decode cX1_leastCommonSign 72 = .ok (.iconst 1, 1) := by decide +kernel
theorem dX1_leastCommonSign_73 : decode cX1_leastCommonSign 73 = .ok (.if_icmp .ne 6, 3) := by decide +kernel
theorem dX1_leastCommonSign_76 : decode cX1_leastCommonSign 76 = .ok (.iload 5, 2) := by decide +kernel
theorem dX1_leastCommonSign_78 : decode cX1_leastCommonSign 78 = .ok (.ireturn, 1) := by decide +kernel
theorem dX1_leastCommonSign_79 : decode cX1_leastCommonSign 79 = .ok (.iinc 5 1, 3) := by decide +kernel
theorem dX1_leastCommonSign_82 : decode cX1_leastCommonSign 82 = .ok (.goto (-23), 3) := by decide +kernel
theorem dX1_leastCommonSign_85 : decode cX1_leastCommonSign 85 = .ok (.bipush (-9), 2) := by decide +kernel
theorem dX1_leastCommonSign_87 : decode cX1_leastCommonSign 87 = .ok (.ireturn, 1) := by decide +kernel
theorem dX1_follow_0 : decode cX1_follow 0 = .ok (.iload_n 1, 1) := by decide +kernel
theorem dX1_follow_1 : decode cX1_follow 1 = .ok (.istore_n 3, 1) := by decide +kernel
theorem dX1_follow_2 : decode cX1_follow 2 = .ok (.iconst 0, 1) := by decide +kernel
theorem dX1_follow_3 : decode cX1_follow 3 = .ok (.istore 4, 2) := by decide +kernel
theorem dX1_follow_5 : decode cX1_follow 5 = .ok (.iload 4, 2) := by decide +kernel
theorem dX1_follow_7 : decode cX1_follow 7 = .ok (.iload_n 2, 1) := by decide +kernel
theorem dX1_follow_8 : decode cX1_follow 8 = .ok (.if_icmp .ge 23, 3) := by decide +kernel
theorem dX1_follow_11 : decode cX1_follow 11 = .ok (.aload_n 0, 1) := by decide +kernel
theorem dX1_follow_12 : decode cX1_follow 12 = .ok (.getfield 35, 3) := by decide +kernel
theorem dX1_follow_15 : decode cX1_follow 15 = .ok (.iload_n 3, 1) := by decide +kernel
theorem dX1_follow_16 : decode cX1_follow 16 = .ok (.iaload, 1) := by decide +kernel
theorem dX1_follow_17 : decode cX1_follow 17 = .ok (.istore_n 3, 1) := by decide +kernel
theorem dX1_follow_18 : decode cX1_follow 18 = .ok (.iload_n 3, 1) := by decide +kernel
theorem dX1_follow_19 : decode cX1_follow 19 = .ok (.ifCond .ne 6, 3) := by decide +kernel
theorem dX1_follow_22 : decode cX1_follow 22 = .ok (.bipush (-9), 2) := by decide +kernel
theorem dX1_follow_24 : decode cX1_follow 24 = .ok (.ireturn, 1) := by decide +kernel
theorem dX1_follow_25 : decode cX1_follow 25 = .ok (.iinc 4 1, 3) := by decide +kernel
theorem dX1_follow_28 : decode cX1_follow 28 = .ok (.goto (-23), 3) := by decide +kernel
theorem dX1_follow_31 : decode cX1_follow 31 = .ok (.iload_n 3, 1) := by decide +kernel
theorem dX1_follow_32 : decode cX1_follow 32 = .ok (.ireturn, 1) := by decide +kernel
theorem dX1_stepsToRing_0 : decode cX1_stepsToRing 0 = .ok (.iload_n 1, 1) := by decide +kernel
theorem dX1_stepsToRing_1 : decode cX1_stepsToRing 1 = .ok (.istore_n 2, 1) := by decide +kernel
theorem dX1_stepsToRing_2 : decode cX1_stepsToRing 2 = .ok (.iconst 1, 1) := by decide +kernel
theorem dX1_stepsToRing_3 : decode cX1_stepsToRing 3 = .ok (.istore_n 3, 1) := by decide +kernel
theorem dX1_stepsToRing_4 : decode cX1_stepsToRing 4 = .ok (.iload_n 3, 1) := by decide +kernel
theorem dX1_stepsToRing_5 : decode cX1_stepsToRing 5 = .ok (.bipush 99, 2) := by decide +kernel
theorem dX1_stepsToRing_7 : decode cX1_stepsToRing 7 = .ok (.if_icmp .gt 58, 3) := by decide +kernel
theorem dX1_stepsToRing_10 : decode cX1_stepsToRing 10 = .ok (.aload_n 0, 1) := by decide +kernel
theorem dX1_stepsToRing_11 : decode cX1_stepsToRing 11 = .ok (.getfield 35, 3) := by decide +kernel
theorem dX1_stepsToRing_14 : decode cX1_stepsToRing 14 = .ok (.iload_n 2, 1) := by decide +kernel
theorem dX1_stepsToRing_15 : decode cX1_stepsToRing 15 = .ok (.iaload, 1) := by decide +kernel
theorem dX1_stepsToRing_16 : decode cX1_stepsToRing 16 = .ok (.istore_n 2, 1) := by decide +kernel
theorem dX1_stepsToRing_17 : decode cX1_stepsToRing 17 = .ok (.iload_n 2, 1) := by decide +kernel
theorem dX1_stepsToRing_18 : decode cX1_stepsToRing 18 = .ok (.ifCond .ne 6, 3) := by decide +kernel
theorem dX1_stepsToRing_21 : decode cX1_stepsToRing 21 = .ok (.bipush (-9), 2) := by decide +kernel
theorem dX1_stepsToRing_23 : decode cX1_stepsToRing 23 = .ok (.ireturn, 1) := by decide +kernel
theorem dX1_stepsToRing_24 : decode cX1_stepsToRing 24 = .ok (.iload_n 1, 1) := by decide +kernel
theorem dX1_stepsToRing_25 : decode cX1_stepsToRing 25 = .ok (.istore 4, 2) := by decide +kernel
theorem dX1_stepsToRing_27 : decode cX1_stepsToRing 27 = .ok (.iconst 0, 1) := by decide +kernel
theorem dX1_stepsToRing_28 : decode cX1_stepsToRing 28 = .ok (.istore 5, 2) := by decide +kernel
theorem dX1_stepsToRing_30 : decode cX1_stepsToRing 30 = .ok (.iload 5, 2) := by decide +kernel
theorem dX1_stepsToRing_32 : decode cX1_stepsToRing 32 = .ok (.iload_n 3, 1) := by decide +kernel
theorem dX1_stepsToRing_33 : decode cX1_stepsToRing 33 = .ok (.if_icmp .ge 26, 3) := by decide +kernel
theorem dX1_stepsToRing_36 : decode cX1_stepsToRing 36 = .ok (.iload 4, 2) := by decide +kernel
theorem dX1_stepsToRing_38 : decode cX1_stepsToRing 38 = .ok (.iload_n 2, 1) := by decide +kernel
theorem dX1_stepsToRing_39 : decode cX1_stepsToRing 39 = .ok (.if_icmp .ne 5, 3) := by decide +kernel
theorem dX1_stepsToRing_42 : decode cX1_stepsToRing 42 = .ok (.iload_n 3, 1) := by decide +kernel
theorem dX1_stepsToRing_43 : decode cX1_stepsToRing 43 = .ok (.ireturn, 1) := by decide +kernel
theorem dX1_stepsToRing_44 : decode cX1_stepsToRing 44 = .ok (.aload_n 0, 1) := by decide +kernel
theorem dX1_stepsToRing_45 : decode cX1_stepsToRing 45 = .ok (.getfield 35, 3) := by decide +kernel
theorem dX1_stepsToRing_48 : decode cX1_stepsToRing 48 = .ok (.iload 4, 2) := by decide +kernel
theorem dX1_stepsToRing_50 : decode cX1_stepsToRing 50 = .ok (.iaload, 1) := by decide +kernel
theorem dX1_stepsToRing_51 : decode cX1_stepsToRing 51 = .ok (.istore 4, 2) := by decide +kernel
theorem dX1_stepsToRing_53 : decode cX1_stepsToRing 53 = .ok (.iinc 5 1, 3) := by decide +kernel
theorem dX1_stepsToRing_56 : decode cX1_stepsToRing 56 = .ok (.goto (-26), 3) := by decide +kernel
theorem dX1_stepsToRing_59 : decode cX1_stepsToRing 59 = .ok (.iinc 3 1, 3) := by decide +kernel
theorem dX1_stepsToRing_62 : decode cX1_stepsToRing 62 = .ok (.goto (-58), 3) := by decide +kernel
theorem dX1_stepsToRing_65 : decode cX1_stepsToRing 65 = .ok (.bipush (-9), 2) := by decide +kernel
theorem dX1_stepsToRing_67 : decode cX1_stepsToRing 67 = .ok (.ireturn, 1) := by decide +kernel
theorem dX1_bestSet_0 : decode cX1_bestSet 0 = .ok (.iconst 0, 1) := by decide +kernel
theorem dX1_bestSet_1 : decode cX1_bestSet 1 = .ok (.istore_n 2, 1) := by decide +kernel
theorem dX1_bestSet_2 : decode cX1_bestSet 2 = .ok (.iconst (-1), 1) := by decide +kernel
theorem dX1_bestSet_3 : decode cX1_bestSet 3 = .ok (.istore_n 3, 1) := by decide +kernel
theorem dX1_bestSet_4 : decode cX1_bestSet 4 = .ok (.iconst 0, 1) := by decide +kernel
theorem dX1_bestSet_5 : decode cX1_bestSet 5 = .ok (.istore 4, 2) := by decide +kernel
theorem dX1_bestSet_7 : decode cX1_bestSet 7 = .ok (.iload 4, 2) := by decide +kernel
theorem dX1_bestSet_9 : decode cX1_bestSet 9 = .ok (.sipush 256, 3) := by decide +kernel
theorem dX1_bestSet_12 : decode cX1_bestSet 12 = .ok (.if_icmp .ge 38, 3) := by decide +kernel
theorem dX1_bestSet_15 : decode cX1_bestSet 15 = .ok (.iload 4, 2) := by decide +kernel
theorem dX1_bestSet_17 : decode cX1_bestSet 17 = .ok (.invokestatic 124, 3) := by decide +kernel
theorem dX1_bestSet_20 : decode cX1_bestSet 20 = .ok (.iload_n 1, 1) := by decide +kernel
theorem dX1_bestSet_21 : decode cX1_bestSet 21 = .ok (.if_icmp .ne 23, 3) := by decide +kernel
theorem dX1_bestSet_24 : decode cX1_bestSet 24 = .ok (.aload_n 0, 1) := by decide +kernel
theorem dX1_bestSet_25 : decode cX1_bestSet 25 = .ok (.iload 4, 2) := by decide +kernel
theorem dX1_bestSet_27 : decode cX1_bestSet 27 = .ok (.invokevirtual 129, 3) := by decide +kernel
theorem dX1_bestSet_30 : decode cX1_bestSet 30 = .ok (.istore 5, 2) := by decide +kernel
theorem dX1_bestSet_32 : decode cX1_bestSet 32 = .ok (.iload 5, 2) := by decide +kernel
theorem dX1_bestSet_34 : decode cX1_bestSet 34 = .ok (.iload_n 3, 1) := by decide +kernel
theorem dX1_bestSet_35 : decode cX1_bestSet 35 = .ok (.if_icmp .le 9, 3) := by decide +kernel
theorem dX1_bestSet_38 : decode cX1_bestSet 38 = .ok (.iload 4, 2) := by decide +kernel
theorem dX1_bestSet_40 : decode cX1_bestSet 40 = .ok (.istore_n 2, 1) := by decide +kernel
theorem dX1_bestSet_41 : decode cX1_bestSet 41 = .ok (.iload 5, 2) := by decide +kernel
theorem dX1_bestSet_43 : decode cX1_bestSet 43 = .ok (.istore_n 3, 1) := by decide +kernel
theorem dX1_bestSet_44 : decode cX1_bestSet 44 = .ok (.iinc 4 1, 3) := by decide +kernel
theorem dX1_bestSet_47 : decode cX1_bestSet 47 = .ok (.goto (-40), 3) := by decide +kernel
theorem dX1_bestSet_50 : decode cX1_bestSet 50 = .ok (.iload_n 2, 1) := by decide +kernel
theorem dX1_bestSet_51 : decode cX1_bestSet 51 = .ok (.ireturn, 1) := by decide +kernel
theorem dX1_countWithin_0 : decode cX1_countWithin 0 = .ok (.iconst 0, 1) := by decide +kernel
theorem dX1_countWithin_1 : decode cX1_countWithin 1 = .ok (.istore_n 2, 1) := by decide +kernel
theorem dX1_countWithin_2 : decode cX1_countWithin 2 = .ok (.iconst 0, 1) := by decide +kernel
theorem dX1_countWithin_3 : decode cX1_countWithin 3 = .ok (.istore_n 3, 1) := by decide +kernel
theorem dX1_countWithin_4 : decode cX1_countWithin 4 = .ok (.iload_n 3, 1) := by decide +kernel
theorem dX1_countWithin_5 : decode cX1_countWithin 5 = .ok (.sipush 256, 3) := by decide +kernel
theorem dX1_countWithin_8 : decode cX1_countWithin 8 = .ok (.if_icmp .ge 26, 3) := by decide +kernel
theorem dX1_countWithin_11 : decode cX1_countWithin 11 = .ok (.iload_n 3, 1) := by decide +kernel
theorem dX1_countWithin_12 : decode cX1_countWithin 12 = .ok (.iload_n 1, 1) := by decide +kernel
theorem dX1_countWithin_13 : decode cX1_countWithin 13 = .ok (.iconst (-1), 1) := by decide +kernel
theorem dX1_countWithin_14 : decode cX1_countWithin 14 = .ok (.ixor, 1) := by decide +kernel
theorem dX1_countWithin_15 : decode cX1_countWithin 15 = .ok (.iand, 1) := by decide +kernel
theorem dX1_countWithin_16 : decode cX1_countWithin 16 = .ok (.ifCond .ne 12, 3) := by decide +kernel
theorem dX1_countWithin_19 : decode cX1_countWithin 19 = .ok (.iload_n 2, 1) := by decide +kernel
theorem dX1_countWithin_20 : decode cX1_countWithin 20 = .ok (.aload_n 0, 1) := by decide +kernel
theorem dX1_countWithin_21 : decode cX1_countWithin 21 = .ok (.getfield 38, 3) := by decide +kernel
theorem dX1_countWithin_24 : decode cX1_countWithin 24 = .ok (.iload_n 3, 1) := by decide +kernel
theorem dX1_countWithin_25 : decode cX1_countWithin 25 = .ok (.iaload, 1) := by decide +kernel
theorem dX1_countWithin_26 : decode cX1_countWithin 26 = .ok (.iadd, 1) := by decide +kernel
theorem dX1_countWithin_27 : decode cX1_countWithin 27 = .ok (.istore_n 2, 1) := by decide +kernel
theorem dX1_countWithin_28 : decode cX1_countWithin 28 = .ok (.iinc 3 1, 3) := by decide +kernel
theorem dX1_countWithin_31 : decode cX1_countWithin 31 = .ok (.goto (-27), 3) := by decide +kernel
theorem dX1_countWithin_34 : decode cX1_countWithin 34 = .ok (.iload_n 2, 1) := by decide +kernel
theorem dX1_countWithin_35 : decode cX1_countWithin 35 = .ok (.ireturn, 1) := by decide +kernel
theorem dX1_countAsked_0 : decode cX1_countAsked 0 = .ok (.iconst 0, 1) := by decide +kernel
theorem dX1_countAsked_1 : decode cX1_countAsked 1 = .ok (.istore_n 3, 1) := by decide +kernel
theorem dX1_countAsked_2 : decode cX1_countAsked 2 = .ok (.iconst 1, 1) := by decide +kernel
theorem dX1_countAsked_3 : decode cX1_countAsked 3 = .ok (.istore 4, 2) := by decide +kernel
theorem dX1_countAsked_5 : decode cX1_countAsked 5 = .ok (.iload 4, 2) := by decide +kernel
theorem dX1_countAsked_7 : decode cX1_countAsked 7 = .ok (.sipush 1000, 3) := by decide +kernel
theorem dX1_countAsked_10 : decode cX1_countAsked 10 = .ok (.if_icmp .ge 33, 3) := by decide +kernel
theorem dX1_countAsked_13 : decode cX1_countAsked 13 = .ok (.aload_n 0, 1) := by decide +kernel
theorem dX1_countAsked_14 : decode cX1_countAsked 14 = .ok (.iload_n 1, 1) := by decide +kernel
theorem dX1_countAsked_15 : decode cX1_countAsked 15 = .ok (.iload 4, 2) := by decide +kernel
theorem dX1_countAsked_17 : decode cX1_countAsked 17 = .ok (.invokevirtual 132, 3) := by decide +kernel
theorem dX1_countAsked_20 : decode cX1_countAsked 20 = .ok (.ifCond .eq 17, 3) := by decide +kernel
theorem dX1_countAsked_23 : decode cX1_countAsked 23 = .ok (.aload_n 0, 1) := by decide +kernel
theorem dX1_countAsked_24 : decode cX1_countAsked 24 = .ok (.getfield 15, 3) := by decide +kernel
theorem dX1_countAsked_27 : decode cX1_countAsked 27 = .ok (.iload 4, 2) := by decide +kernel
theorem dX1_countAsked_29 : decode cX1_countAsked 29 = .ok (.iaload, 1) := by decide +kernel
theorem dX1_countAsked_30 : decode cX1_countAsked 30 = .ok (.iload_n 2, 1) := by decide +kernel
theorem dX1_countAsked_31 : decode cX1_countAsked 31 = .ok (.if_icmp .ne 6, 3) := by decide +kernel
theorem dX1_countAsked_34 : decode cX1_countAsked 34 = .ok (.iinc 3 1, 3) := by decide +kernel
theorem dX1_countAsked_37 : decode cX1_countAsked 37 = .ok (.iinc 4 1, 3) := by decide +kernel
theorem dX1_countAsked_40 : decode cX1_countAsked 40 = .ok (.goto (-35), 3) := by decide +kernel
theorem dX1_countAsked_43 : decode cX1_countAsked 43 = .ok (.iload_n 3, 1) := by decide +kernel
theorem dX1_countAsked_44 : decode cX1_countAsked 44 = .ok (.ireturn, 1) := by decide +kernel
theorem dX2_init_0 : decode cX2_init 0 = .ok (.aload_n 0, 1) := by decide +kernel
theorem dX2_init_1 : decode cX2_init 1 = .ok (.invokespecial 3, 3) := by decide +kernel
theorem dX2_init_4 : decode cX2_init 4 = .ok (.aload_n 0, 1) := by decide +kernel
theorem dX2_init_5 : decode cX2_init 5 = .ok (.iconst 3, 1) := by decide +kernel
theorem dX2_init_6 : decode cX2_init 6 = .ok (.newarray .int, 2) := by decide +kernel
theorem dX2_init_8 : decode cX2_init 8 = .ok (.putfield 9, 3) := by decide +kernel
theorem dX2_init_11 : decode cX2_init 11 = .ok (.return_, 1) := by decide +kernel
theorem dX2_row_0 : decode cX2_row 0 = .ok (.iconst 0, 1) := by decide +kernel
theorem dX2_row_1 : decode cX2_row 1 = .ok (.istore_n 1, 1) := by decide +kernel
theorem dX2_row_2 : decode cX2_row 2 = .ok (.iconst 0, 1) := by decide +kernel
theorem dX2_row_3 : decode cX2_row 3 = .ok (.istore_n 2, 1) := by decide +kernel
theorem dX2_row_4 : decode cX2_row 4 = .ok (.iload_n 2, 1) := by decide +kernel
theorem dX2_row_5 : decode cX2_row 5 = .ok (.aload_n 0, 1) := by decide +kernel
theorem dX2_row_6 : decode cX2_row 6 = .ok (.getfield 15, 3) := by decide +kernel
theorem dX2_row_9 : decode cX2_row 9 = .ok (.if_icmp .ge 20, 3) := by decide +kernel
theorem dX2_row_12 : decode cX2_row 12 = .ok (.iload_n 1, 1) := by decide +kernel
theorem dX2_row_13 : decode cX2_row 13 = .ok (.aload_n 0, 1) := by decide +kernel
theorem dX2_row_14 : decode cX2_row 14 = .ok (.getfield 9, 3) := by decide +kernel
theorem dX2_row_17 : decode cX2_row 17 = .ok (.iload_n 2, 1) := by decide +kernel
theorem dX2_row_18 : decode cX2_row 18 = .ok (.iaload, 1) := by decide +kernel
theorem dX2_row_19 : decode cX2_row 19 = .ok (.invokestatic 19, 3) := by decide +kernel
theorem dX2_row_22 : decode cX2_row 22 = .ok (.istore_n 1, 1) := by decide +kernel
theorem dX2_row_23 : decode cX2_row 23 = .ok (.iinc 2 1, 3) := by decide +kernel
theorem dX2_row_26 : decode cX2_row 26 = .ok (.goto (-22), 3) := by decide +kernel
theorem dX2_row_29 : decode cX2_row 29 = .ok (.iload_n 1, 1) := by decide +kernel
theorem dX2_row_30 : decode cX2_row 30 = .ok (.ireturn, 1) := by decide +kernel
theorem dX2_lengthened_0 : decode cX2_lengthened 0 = .ok (.iload_n 0, 1) := by decide +kernel
theorem dX2_lengthened_1 : decode cX2_lengthened 1 = .ok (.iconst 4, 1) := by decide +kernel
theorem dX2_lengthened_2 : decode cX2_lengthened 2 = .ok (.imul, 1) := by decide +kernel
theorem dX2_lengthened_3 : decode cX2_lengthened 3 = .ok (.iload_n 1, 1) := by decide +kernel
theorem dX2_lengthened_4 : decode cX2_lengthened 4 = .ok (.iadd, 1) := by decide +kernel
theorem dX2_lengthened_5 : decode cX2_lengthened 5 = .ok (.iconst 1, 1) := by decide +kernel
theorem dX2_lengthened_6 : decode cX2_lengthened 6 = .ok (.iadd, 1) := by decide +kernel
theorem dX2_lengthened_7 : decode cX2_lengthened 7 = .ok (.ireturn, 1) := by decide +kernel
theorem dX3_init_0 : decode cX3_init 0 = .ok (.aload_n 0, 1) := by decide +kernel
theorem dX3_init_1 : decode cX3_init 1 = .ok (.invokespecial 3, 3) := by decide +kernel
theorem dX3_init_4 : decode cX3_init 4 = .ok (.aload_n 0, 1) := by decide +kernel
theorem dX3_init_5 : decode cX3_init 5 = .ok (.sipush 200, 3) := by decide +kernel
theorem dX3_init_8 : decode cX3_init 8 = .ok (.newarray .int, 2) := by decide +kernel
theorem dX3_init_10 : decode cX3_init 10 = .ok (.putfield 9, 3) := by decide +kernel
theorem dX3_init_13 : decode cX3_init 13 = .ok (.return_, 1) := by decide +kernel
theorem dX3_add_0 : decode cX3_add 0 = .ok (.aload_n 0, 1) := by decide +kernel
theorem dX3_add_1 : decode cX3_add 1 = .ok (.getfield 15, 3) := by decide +kernel
theorem dX3_add_4 : decode cX3_add 4 = .ok (.sipush 200, 3) := by decide +kernel
theorem dX3_add_7 : decode cX3_add 7 = .ok (.if_icmp .ge 23, 3) := by decide +kernel
theorem dX3_add_10 : decode cX3_add 10 = .ok (.aload_n 0, 1) := by decide +kernel
theorem dX3_add_11 : decode cX3_add 11 = .ok (.getfield 9, 3) := by decide +kernel
theorem dX3_add_14 : decode cX3_add 14 = .ok (.aload_n 0, 1) := by decide +kernel
theorem dX3_add_15 : decode cX3_add 15 = .ok (.getfield 15, 3) := by decide +kernel
theorem dX3_add_18 : decode cX3_add 18 = .ok (.iload_n 1, 1) := by decide +kernel
theorem dX3_add_19 : decode cX3_add 19 = .ok (.iastore, 1) := by decide +kernel
theorem dX3_add_20 : decode cX3_add 20 = .ok (.aload_n 0, 1) := by decide +kernel
theorem dX3_add_21 : decode cX3_add 21 = .ok (.dup, 1) := by decide +kernel
theorem dX3_add_22 : decode cX3_add 22 = .ok (.getfield 15, 3) := by decide +kernel
theorem dX3_add_25 : decode cX3_add 25 = .ok (.iconst 1, 1) := by decide +kernel
theorem dX3_add_26 : decode cX3_add 26 = .ok (.iadd, 1) := by decide +kernel
theorem dX3_add_27 : decode cX3_add 27 = .ok (.putfield 15, 3) := by decide +kernel
theorem dX3_add_30 : decode cX3_add 30 = .ok (.return_, 1) := by decide +kernel
theorem dX3_rewind_0 : decode cX3_rewind 0 = .ok (.aload_n 0, 1) := by decide +kernel
theorem dX3_rewind_1 : decode cX3_rewind 1 = .ok (.iconst 0, 1) := by decide +kernel
theorem dX3_rewind_2 : decode cX3_rewind 2 = .ok (.putfield 19, 3) := by decide +kernel
theorem dX3_rewind_5 : decode cX3_rewind 5 = .ok (.return_, 1) := by decide +kernel
theorem dX3_advance_0 : decode cX3_advance 0 = .ok (.aload_n 0, 1) := by decide +kernel
theorem dX3_advance_1 : decode cX3_advance 1 = .ok (.aload_n 0, 1) := by decide +kernel
theorem dX3_advance_2 : decode cX3_advance 2 = .ok (.getfield 19, 3) := by decide +kernel
theorem dX3_advance_5 : decode cX3_advance 5 = .ok (.putfield 22, 3) := by decide +kernel
theorem dX3_advance_8 : decode cX3_advance 8 = .ok (.aload_n 0, 1) := by decide +kernel
theorem dX3_advance_9 : decode cX3_advance 9 = .ok (.getfield 22, 3) := by decide +kernel
theorem dX3_advance_12 : decode cX3_advance 12 = .ok (.aload_n 0, 1) := by decide +kernel
theorem dX3_advance_13 : decode cX3_advance 13 = .ok (.getfield 15, 3) := by decide +kernel
theorem dX3_advance_16 : decode cX3_advance 16 = .ok (.if_icmp .ge 30, 3) := by decide +kernel
theorem dX3_advance_19 : decode cX3_advance 19 = .ok (.aload_n 0, 1) := by decide +kernel
theorem dX3_advance_20 : decode cX3_advance 20 = .ok (.getfield 9, 3) := by decide +kernel
theorem dX3_advance_23 : decode cX3_advance 23 = .ok (.aload_n 0, 1) := by decide +kernel
theorem dX3_advance_24 : decode cX3_advance 24 = .ok (.getfield 22, 3) := by decide +kernel
theorem dX3_advance_27 : decode cX3_advance 27 = .ok (.iaload, 1) := by decide +kernel
theorem dX3_advance_28 : decode cX3_advance 28 = .ok (.bipush 32, 2) := by decide +kernel
theorem dX3_advance_30 : decode cX3_advance 30 = .ok (.if_icmp .ne 16, 3) := by decide +kernel
theorem dX3_advance_33 : decode cX3_advance 33 = .ok (.aload_n 0, 1) := by decide +kernel
theorem dX3_advance_34 : decode cX3_advance 34 = .ok (.dup, 1) := by decide +kernel
theorem dX3_advance_35 : decode cX3_advance 35 = .ok (.getfield 22, 3) := by decide +kernel
theorem dX3_advance_38 : decode cX3_advance 38 = .ok (.iconst 1, 1) := by decide +kernel
theorem dX3_advance_39 : decode cX3_advance 39 = .ok (.iadd, 1) := by decide +kernel
theorem dX3_advance_40 : decode cX3_advance 40 = .ok (.putfield 22, 3) := by decide +kernel
theorem dX3_advance_43 : decode cX3_advance 43 = .ok (.goto (-35), 3) := by decide +kernel
theorem dX3_advance_46 : decode cX3_advance 46 = .ok (.aload_n 0, 1) := by decide +kernel
theorem dX3_advance_47 : decode cX3_advance 47 = .ok (.aload_n 0, 1) := by decide +kernel
theorem dX3_advance_48 : decode cX3_advance 48 = .ok (.getfield 22, 3) := by decide +kernel
theorem dX3_advance_51 : decode cX3_advance 51 = .ok (.putfield 19, 3) := by decide +kernel
theorem dX3_advance_54 : decode cX3_advance 54 = .ok (.aload_n 0, 1) := by decide +kernel
theorem dX3_advance_55 : decode cX3_advance 55 = .ok (.getfield 22, 3) := by decide +kernel
theorem dX3_advance_58 : decode cX3_advance 58 = .ok (.aload_n 0, 1) := by decide +kernel
theorem dX3_advance_59 : decode cX3_advance 59 = .ok (.getfield 15, 3) := by decide +kernel
theorem dX3_advance_62 : decode cX3_advance 62 = .ok (.if_icmp .lt 11, 3) := by decide +kernel
theorem dX3_advance_65 : decode cX3_advance 65 = .ok (.aload_n 0, 1) := by decide +kernel
theorem dX3_advance_66 : decode cX3_advance 66 = .ok (.iconst 0, 1) := by decide +kernel
theorem dX3_advance_67 : decode cX3_advance 67 = .ok (.putfield 25, 3) := by decide +kernel
theorem dX3_advance_70 : decode cX3_advance 70 = .ok (.goto 80, 3) := by decide +kernel
theorem dX3_advance_73 : decode cX3_advance 73 = .ok (.aload_n 0, 1) := by decide +kernel
theorem dX3_advance_74 : decode cX3_advance 74 = .ok (.aload_n 0, 1) := by decide +kernel
theorem dX3_advance_75 : decode cX3_advance 75 = .ok (.getfield 22, 3) := by decide +kernel
theorem dX3_advance_78 : decode cX3_advance 78 = .ok (.bipush 97, 2) := by decide +kernel
theorem dX3_advance_80 : decode cX3_advance 80 = .ok (.bipush 122, 2) := by decide +kernel
theorem dX3_advance_82 : decode cX3_advance 82 = .ok (.invokevirtual 28, 3) := by decide +kernel
theorem dX3_advance_85 : decode cX3_advance 85 = .ok (.ifCond .eq 10, 3) := by decide +kernel
theorem dX3_advance_88 : decode cX3_advance 88 = .ok (.aload_n 0, 1) := by decide +kernel
theorem dX3_advance_89 : decode cX3_advance 89 = .ok (.invokevirtual 32, 3) := by decide +kernel
theorem dX3_advance_92 : decode cX3_advance 92 = .ok (.goto 58, 3) := by decide +kernel
theorem dX3_advance_95 : decode cX3_advance 95 = .ok (.aload_n 0, 1) := by decide +kernel
theorem dX3_advance_96 : decode cX3_advance 96 = .ok (.aload_n 0, 1) := by decide +kernel
theorem dX3_advance_97 : decode cX3_advance 97 = .ok (.getfield 22, 3) := by decide +kernel
theorem dX3_advance_100 : decode cX3_advance 100 = .ok (.bipush 48, 2) := by decide +kernel
theorem dX3_advance_102 : decode cX3_advance 102 = .ok (.bipush 57, 2) := by decide +kernel
theorem dX3_advance_104 : decode cX3_advance 104 = .ok (.invokevirtual 28, 3) := by decide +kernel
theorem dX3_advance_107 : decode cX3_advance 107 = .ok (.ifCond .eq 10, 3) := by decide +kernel
theorem dX3_advance_110 : decode cX3_advance 110 = .ok (.aload_n 0, 1) := by decide +kernel
theorem dX3_advance_111 : decode cX3_advance 111 = .ok (.invokevirtual 35, 3) := by decide +kernel
theorem dX3_advance_114 : decode cX3_advance 114 = .ok (.goto 36, 3) := by decide +kernel
theorem dX3_advance_117 : decode cX3_advance 117 = .ok (.aload_n 0, 1) := by decide +kernel
theorem dX3_advance_118 : decode cX3_advance 118 = .ok (.dup, 1) := by decide +kernel
theorem dX3_advance_119 : decode cX3_advance 119 = .ok (.getfield 19, 3) := by decide +kernel
theorem dX3_advance_122 : decode cX3_advance 122 = .ok (.iconst 1, 1) := by decide +kernel
theorem dX3_advance_123 : decode cX3_advance 123 = .ok (.iadd, 1) := by decide +kernel
theorem dX3_advance_124 : decode cX3_advance 124 = .ok (.putfield 19, 3) := by decide +kernel
theorem dX3_advance_127 : decode cX3_advance 127 = .ok (.aload_n 0, 1) := by decide +kernel
theorem dX3_advance_128 : decode cX3_advance 128 = .ok (.aload_n 0, 1) := by decide +kernel
theorem dX3_advance_129 : decode cX3_advance 129 = .ok (.getfield 9, 3) := by decide +kernel
theorem dX3_advance_132 : decode cX3_advance 132 = .ok (.aload_n 0, 1) := by decide +kernel
theorem dX3_advance_133 : decode cX3_advance 133 = .ok (.getfield 22, 3) := by decide +kernel
theorem dX3_advance_136 : decode cX3_advance 136 = .ok (.iaload, 1) := by decide +kernel
theorem dX3_advance_137 : decode cX3_advance 137 = .ok (.bipush 59, 2) := by decide +kernel
theorem dX3_advance_139 : decode cX3_advance 139 = .ok (.if_icmp .ne 7, 3) := by decide +kernel
theorem dX3_advance_142 : decode cX3_advance 142 = .ok (.iconst 2, 1) := by decide +kernel
theorem dX3_advance_143 : decode cX3_advance 143 = .ok (.goto 4, 3) := by decide +kernel
theorem dX3_advance_146 : decode cX3_advance 146 = .ok (.iconst 1, 1) := by decide +kernel
theorem dX3_advance_147 : decode cX3_advance 147 = .ok (.putfield 25, 3) := by decide +kernel
theorem dX3_advance_150 : decode cX3_advance 150 = .ok (.return_, 1) := by decide +kernel
theorem dX3_isIn_0 : decode cX3_isIn 0 = .ok (.aload_n 0, 1) := by decide +kernel
theorem dX3_isIn_1 : decode cX3_isIn 1 = .ok (.getfield 9, 3) := by decide +kernel
theorem dX3_isIn_4 : decode cX3_isIn 4 = .ok (.iload_n 1, 1) := by decide +kernel
theorem dX3_isIn_5 : decode cX3_isIn 5 = .ok (.iaload, 1) := by decide +kernel
theorem dX3_isIn_6 : decode cX3_isIn 6 = .ok (.iload_n 2, 1) := by decide +kernel
theorem dX3_isIn_7 : decode cX3_isIn 7 = .ok (.if_icmp .lt 17, 3) := by decide +kernel
theorem dX3_isIn_10 : decode cX3_isIn 10 = .ok (.aload_n 0, 1) := by decide +kernel
theorem dX3_isIn_11 : decode cX3_isIn 11 = .ok (.getfield 9, 3) := by decide +kernel
theorem dX3_isIn_14 : decode cX3_isIn 14 = .ok (.iload_n 1, 1) := by decide +kernel
theorem dX3_isIn_15 : decode cX3_isIn 15 = .ok (.iaload, 1) := by decide +kernel
theorem dX3_isIn_16 : decode cX3_isIn 16 = .ok (.iload_n 3, 1) := by decide +kernel
theorem dX3_isIn_17 : decode cX3_isIn 17 = .ok (.if_icmp .gt 7, 3) := by decide +kernel
theorem dX3_isIn_20 : decode cX3_isIn 20 = .ok (.iconst 1, 1) := by decide +kernel
theorem dX3_isIn_21 : decode cX3_isIn 21 = .ok (.goto 4, 3) := by decide +kernel
theorem dX3_isIn_24 : decode cX3_isIn 24 = .ok (.iconst 0, 1) := by decide +kernel
theorem dX3_isIn_25 : decode cX3_isIn 25 = .ok (.ireturn, 1) := by decide +kernel
theorem dX3_takeLetters_0 : decode cX3_takeLetters 0 = .ok (.iconst 1, 1) := by decide +kernel
theorem dX3_takeLetters_1 : decode cX3_takeLetters 1 = .ok (.istore_n 1, 1) := by decide +kernel
theorem dX3_takeLetters_2 : decode cX3_takeLetters 2 = .ok (.aload_n 0, 1) := by decide +kernel
theorem dX3_takeLetters_3 : decode cX3_takeLetters 3 = .ok (.getfield 19, 3) := by decide +kernel
theorem dX3_takeLetters_6 : decode cX3_takeLetters 6 = .ok (.aload_n 0, 1) := by decide +kernel
theorem dX3_takeLetters_7 : decode cX3_takeLetters 7 = .ok (.getfield 15, 3) := by decide +kernel
theorem dX3_takeLetters_10 : decode cX3_takeLetters 10 = .ok (.if_icmp .ge 56, 3) := by decide +kernel
theorem dX3_takeLetters_13 : decode cX3_takeLetters 13 = .ok (.aload_n 0, 1) := by decide +kernel
theorem dX3_takeLetters_14 : decode cX3_takeLetters 14 = .ok (.aload_n 0, 1) := by decide +kernel
theorem dX3_takeLetters_15 : decode cX3_takeLetters 15 = .ok (.getfield 19, 3) := by decide +kernel
theorem dX3_takeLetters_18 : decode cX3_takeLetters 18 = .ok (.bipush 97, 2) := by decide +kernel
theorem dX3_takeLetters_20 : decode cX3_takeLetters 20 = .ok (.bipush 122, 2) := by decide +kernel
theorem dX3_takeLetters_22 : decode cX3_takeLetters 22 = .ok (.invokevirtual 28, 3) := by decide +kernel
theorem dX3_takeLetters_25 : decode cX3_takeLetters 25 = .ok (.ifCond .eq 41, 3) := by decide +kernel
theorem dX3_takeLetters_28 : decode cX3_takeLetters 28 = .ok (.iload_n 1, 1) := by decide +kernel
theorem dX3_takeLetters_29 : decode cX3_takeLetters 29 = .ok (.ifCond .eq 22, 3) := by decide +kernel
theorem dX3_takeLetters_32 : decode cX3_takeLetters 32 = .ok (.aload_n 0, 1) := by decide +kernel
theorem dX3_takeLetters_33 : decode cX3_takeLetters 33 = .ok (.aload_n 0, 1) := by decide +kernel
theorem dX3_takeLetters_34 : decode cX3_takeLetters 34 = .ok (.getfield 19, 3) := by decide +kernel
theorem dX3_takeLetters_37 : decode cX3_takeLetters 37 = .ok (.bipush 97, 2) := by decide +kernel
theorem dX3_takeLetters_39 : decode cX3_takeLetters 39 = .ok (.bipush 104, 2) := by decide +kernel
theorem dX3_takeLetters_41 : decode cX3_takeLetters 41 = .ok (.invokevirtual 28, 3) := by decide +kernel
theorem dX3_takeLetters_44 : decode cX3_takeLetters 44 = .ok (.ifCond .eq 7, 3) := by decide +kernel
theorem dX3_takeLetters_47 : decode cX3_takeLetters 47 = .ok (.iconst 1, 1) := by decide +kernel
theorem dX3_takeLetters_48 : decode cX3_takeLetters 48 = .ok (.goto 4, 3) := by decide +kernel
theorem dX3_takeLetters_51 : decode cX3_takeLetters 51 = .ok (.iconst 0, 1) := by decide +kernel
theorem dX3_takeLetters_52 : decode cX3_takeLetters 52 = .ok (.istore_n 1, 1) := by decide +kernel
theorem dX3_takeLetters_53 : decode cX3_takeLetters 53 = .ok (.aload_n 0, 1) := by decide +kernel
theorem dX3_takeLetters_54 : decode cX3_takeLetters 54 = .ok (.dup, 1) := by decide +kernel
theorem dX3_takeLetters_55 : decode cX3_takeLetters 55 = .ok (.getfield 19, 3) := by decide +kernel
theorem dX3_takeLetters_58 : decode cX3_takeLetters 58 = .ok (.iconst 1, 1) := by decide +kernel
theorem dX3_takeLetters_59 : decode cX3_takeLetters 59 = .ok (.iadd, 1) := by decide +kernel
theorem dX3_takeLetters_60 : decode cX3_takeLetters 60 = .ok (.putfield 19, 3) := by decide +kernel
theorem dX3_takeLetters_63 : decode cX3_takeLetters 63 = .ok (.goto (-61), 3) := by decide +kernel
theorem dX3_takeLetters_66 : decode cX3_takeLetters 66 = .ok (.aload_n 0, 1) := by decide +kernel
theorem dX3_takeLetters_67 : decode cX3_takeLetters 67 = .ok (.ldc 38, 2) := by decide +kernel
theorem dX3_takeLetters_69 : decode cX3_takeLetters 69 = .ok (.invokevirtual 40, 3) := by decide +kernel
theorem dX3_takeLetters_72 : decode cX3_takeLetters 72 = .ok (.ifCond .eq 11, 3) := by decide +kernel
theorem dX3_takeLetters_75 : decode cX3_takeLetters 75 = .ok (.aload_n 0, 1) := by decide +kernel
theorem dX3_takeLetters_76 : decode cX3_takeLetters 76 = .ok (.iconst 5, 1) := by decide +kernel
theorem dX3_takeLetters_77 : decode cX3_takeLetters 77 = .ok (.putfield 25, 3) := by decide +kernel
theorem dX3_takeLetters_80 : decode cX3_takeLetters 80 = .ok (.goto 47, 3) := by decide +kernel
theorem dX3_takeLetters_83 : decode cX3_takeLetters 83 = .ok (.aload_n 0, 1) := by decide +kernel
theorem dX3_takeLetters_84 : decode cX3_takeLetters 84 = .ok (.ldc 44, 2) := by decide +kernel
theorem dX3_takeLetters_86 : decode cX3_takeLetters 86 = .ok (.invokevirtual 40, 3) := by decide +kernel
theorem dX3_takeLetters_89 : decode cX3_takeLetters 89 = .ok (.ifCond .eq 12, 3) := by decide +kernel
theorem dX3_takeLetters_92 : decode cX3_takeLetters 92 = .ok (.aload_n 0, 1) := by decide +kernel
theorem dX3_takeLetters_93 : decode cX3_takeLetters 93 = .ok (.bipush 6, 2) := by decide +kernel
theorem dX3_takeLetters_95 : decode cX3_takeLetters 95 = .ok (.putfield 25, 3) := by decide +kernel
theorem dX3_takeLetters_98 : decode cX3_takeLetters 98 = .ok (.goto 29, 3) := by decide +kernel
theorem dX3_takeLetters_101 : decode cX3_takeLetters 101 = .ok (.aload_n 0, 1) := by decide +kernel
theorem dX3_takeLetters_102 : decode cX3_takeLetters 102 = .ok (.iload_n 1, 1) := by decide +kernel
theorem dX3_takeLetters_103 : decode cX3_takeLetters 103 = .ok (.ifCond .eq 20, 3) := by decide +kernel
theorem dX3_takeLetters_106 : decode cX3_takeLetters 106 = .ok (.aload_n 0, 1) := by decide +kernel
theorem dX3_takeLetters_107 : decode cX3_takeLetters 107 = .ok (.getfield 19, 3) := by decide +kernel
theorem dX3_takeLetters_110 : decode cX3_takeLetters 110 = .ok (.aload_n 0, 1) := by decide +kernel
theorem dX3_takeLetters_111 : decode cX3_takeLetters 111 = .ok (.getfield 22, 3) := by decide +kernel
theorem dX3_takeLetters_114 : decode cX3_takeLetters 114 = .ok (.isub, 1) := by decide +kernel
theorem dX3_takeLetters_115 : decode cX3_takeLetters 115 = .ok (.iconst 5, 1) := by decide +kernel
theorem dX3_takeLetters_116 : decode cX3_takeLetters 116 = .ok (.if_icmp .gt 7, 3) := by decide +kernel
theorem dX3_takeLetters_119 : decode cX3_takeLetters 119 = .ok (.iconst 4, 1) := by decide +kernel
theorem dX3_takeLetters_120 : decode cX3_takeLetters 120 = .ok (.goto 4, 3) := by decide +kernel
theorem dX3_takeLetters_123 : decode cX3_takeLetters 123 = .ok (.iconst 1, 1) := by decide +kernel
theorem dX3_takeLetters_124 : decode cX3_takeLetters 124 = .ok (.putfield 25, 3) := by decide +kernel
theorem dX3_takeLetters_127 : decode cX3_takeLetters 127 = .ok (.return_, 1) := by decide +kernel
theorem dX3_isName_0 : decode cX3_isName 0 = .ok (.aload_n 0, 1) := by decide +kernel
theorem dX3_isName_1 : decode cX3_isName 1 = .ok (.getfield 19, 3) := by decide +kernel
theorem dX3_isName_4 : decode cX3_isName 4 = .ok (.aload_n 0, 1) := by decide +kernel
theorem dX3_isName_5 : decode cX3_isName 5 = .ok (.getfield 22, 3) := by decide +kernel
theorem dX3_isName_8 : decode cX3_isName 8 = .ok (.isub, 1) := by decide +kernel
theorem dX3_isName_9 : decode cX3_isName 9 = .ok (.aload_n 1, 1) := by decide +kernel
theorem dX3_isName_10 : decode cX3_isName 10 = .ok (.invokevirtual 46, 3) := by decide +kernel
theorem dX3_isName_13 : decode cX3_isName 13 = .ok (.if_icmp .eq 5, 3) := by decide +kernel
theorem dX3_isName_16 : decode cX3_isName 16 = .ok (.iconst 0, 1) := by decide +kernel
theorem dX3_isName_17 : decode cX3_isName 17 = .ok (.ireturn, 1) := by decide +kernel
theorem dX3_isName_18 : decode cX3_isName 18 = .ok (.iconst 0, 1) := by decide +kernel
theorem dX3_isName_19 : decode cX3_isName 19 = .ok (.istore_n 2, 1) := by decide +kernel
theorem dX3_isName_20 : decode cX3_isName 20 = .ok (.iload_n 2, 1) := by decide +kernel
theorem dX3_isName_21 : decode cX3_isName 21 = .ok (.aload_n 1, 1) := by decide +kernel
theorem dX3_isName_22 : decode cX3_isName 22 = .ok (.invokevirtual 46, 3) := by decide +kernel
theorem dX3_isName_25 : decode cX3_isName 25 = .ok (.if_icmp .ge 30, 3) := by decide +kernel
theorem dX3_isName_28 : decode cX3_isName 28 = .ok (.aload_n 0, 1) := by decide +kernel
theorem dX3_isName_29 : decode cX3_isName 29 = .ok (.getfield 9, 3) := by decide +kernel
theorem dX3_isName_32 : decode cX3_isName 32 = .ok (.aload_n 0, 1) := by decide +kernel
theorem dX3_isName_33 : decode cX3_isName 33 = .ok (.getfield 22, 3) := by decide +kernel
theorem dX3_isName_36 : decode cX3_isName 36 = .ok (.iload_n 2, 1) := by decide +kernel
theorem dX3_isName_37 : decode cX3_isName 37 = .ok (.iadd, 1) := by decide +kernel
theorem dX3_isName_38 : decode cX3_isName 38 = .ok (.iaload, 1) := by decide +kernel
theorem dX3_isName_39 : decode cX3_isName 39 = .ok (.aload_n 1, 1) := by decide +kernel
theorem dX3_isName_40 : decode cX3_isName 40 = .ok (.iload_n 2, 1) := by decide +kernel
theorem dX3_isName_41 : decode cX3_isName 41 = .ok (.invokevirtual 51, 3) := by decide +kernel
theorem dX3_isName_44 : decode cX3_isName 44 = .ok (.if_icmp .eq 5, 3) := by decide +kernel
theorem dX3_isName_47 : decode cX3_isName 47 = .ok (.iconst 0, 1) := by decide +kernel
theorem dX3_isName_48 : decode cX3_isName 48 = .ok (.ireturn, 1) := by decide +kernel
theorem dX3_isName_49 : decode cX3_isName 49 = .ok (.iinc 2 1, 3) := by decide +kernel
theorem dX3_isName_52 : decode cX3_isName 52 = .ok (.goto (-32), 3) := by decide +kernel
theorem dX3_isName_55 : decode cX3_isName 55 = .ok (.iconst 1, 1) := by decide +kernel
theorem dX3_isName_56 : decode cX3_isName 56 = .ok (.ireturn, 1) := by decide +kernel
theorem dX3_takeNumber_0 : decode cX3_takeNumber 0 = .ok (.aload_n 0, 1) := by decide +kernel
theorem dX3_takeNumber_1 : decode cX3_takeNumber 1 = .ok (.iconst 0, 1) := by decide +kernel
theorem dX3_takeNumber_2 : decode cX3_takeNumber 2 = .ok (.putfield 55, 3) := by decide +kernel
theorem dX3_takeNumber_5 : decode cX3_takeNumber 5 = .ok (.aload_n 0, 1) := by decide +kernel
theorem dX3_takeNumber_6 : decode cX3_takeNumber 6 = .ok (.getfield 19, 3) := by decide +kernel
theorem dX3_takeNumber_9 : decode cX3_takeNumber 9 = .ok (.aload_n 0, 1) := by decide +kernel
theorem dX3_takeNumber_10 : decode cX3_takeNumber 10 = .ok (.getfield 15, 3) := by decide +kernel
theorem dX3_takeNumber_13 : decode cX3_takeNumber 13 = .ok (.if_icmp .ge 60, 3) := by decide +kernel
theorem dX3_takeNumber_16 : decode cX3_takeNumber 16 = .ok (.aload_n 0, 1) := by decide +kernel
theorem dX3_takeNumber_17 : decode cX3_takeNumber 17 = .ok (.aload_n 0, 1) := by decide +kernel
theorem dX3_takeNumber_18 : decode cX3_takeNumber 18 = .ok (.getfield 19, 3) := by decide +kernel
theorem dX3_takeNumber_21 : decode cX3_takeNumber 21 = .ok (.bipush 48, 2) := by decide +kernel
theorem dX3_takeNumber_23 : decode cX3_takeNumber 23 = .ok (.bipush 57, 2) := by decide +kernel
theorem dX3_takeNumber_25 : decode cX3_takeNumber 25 = .ok (.invokevirtual 28, 3) := by decide +kernel
theorem dX3_takeNumber_28 : decode cX3_takeNumber 28 = .ok (.ifCond .eq 45, 3) := by decide +kernel
theorem dX3_takeNumber_31 : decode cX3_takeNumber 31 = .ok (.aload_n 0, 1) := by decide +kernel
theorem dX3_takeNumber_32 : decode cX3_takeNumber 32 = .ok (.aload_n 0, 1) := by decide +kernel
theorem dX3_takeNumber_33 : decode cX3_takeNumber 33 = .ok (.getfield 55, 3) := by decide +kernel
theorem dX3_takeNumber_36 : decode cX3_takeNumber 36 = .ok (.bipush 10, 2) := by decide +kernel
theorem dX3_takeNumber_38 : decode cX3_takeNumber 38 = .ok (.imul, 1) := by decide +kernel
theorem dX3_takeNumber_39 : decode cX3_takeNumber 39 = .ok (.aload_n 0, 1) := by decide +kernel
theorem dX3_takeNumber_40 : decode cX3_takeNumber 40 = .ok (.getfield 9, 3) := by decide +kernel
theorem dX3_takeNumber_43 : decode cX3_takeNumber 43 = .ok (.aload_n 0, 1) := by decide +kernel
theorem dX3_takeNumber_44 : decode cX3_takeNumber 44 = .ok (.getfield 19, 3) := by decide +kernel
theorem dX3_takeNumber_47 : decode cX3_takeNumber 47 = .ok (.iaload, 1) := by decide +kernel
theorem dX3_takeNumber_48 : decode cX3_takeNumber 48 = .ok (.iadd, 1) := by decide +kernel
theorem dX3_takeNumber_49 : decode cX3_takeNumber 49 = .ok (.bipush 48, 2) := by decide +kernel
theorem dX3_takeNumber_51 : decode cX3_takeNumber 51 = .ok (.isub, 1) := by decide +kernel
theorem dX3_takeNumber_52 : decode cX3_takeNumber 52 = .ok (.bipush 100, 2) := by decide +kernel
theorem dX3_takeNumber_54 : decode cX3_takeNumber 54 = .ok (.invokestatic 58, 3) := by decide +kernel
theorem dX3_takeNumber_57 : decode cX3_takeNumber 57 = .ok (.putfield 55, 3) := by decide +kernel
theorem dX3_takeNumber_60 : decode cX3_takeNumber 60 = .ok (.aload_n 0, 1) := by decide +kernel
theorem dX3_takeNumber_61 : decode cX3_takeNumber 61 = .ok (.dup, 1) := by decide +kernel
theorem dX3_takeNumber_62 : decode cX3_takeNumber 62 = .ok (.getfield 19, 3) := by decide +kernel
theorem dX3_takeNumber_65 : decode cX3_takeNumber 65 = .ok (.iconst 1, 1) := by decide +kernel
theorem dX3_takeNumber_66 : decode cX3_takeNumber 66 = .ok (.iadd, 1) := by decide +kernel
theorem dX3_takeNumber_67 : decode cX3_takeNumber 67 = .ok (.putfield 19, 3) := by decide +kernel
theorem dX3_takeNumber_70 : decode cX3_takeNumber 70 = .ok (.goto (-65), 3) := by decide +kernel
theorem dX3_takeNumber_73 : decode cX3_takeNumber 73 = .ok (.aload_n 0, 1) := by decide +kernel
theorem dX3_takeNumber_74 : decode cX3_takeNumber 74 = .ok (.getfield 9, 3) := by decide +kernel
theorem dX3_takeNumber_77 : decode cX3_takeNumber 77 = .ok (.aload_n 0, 1) := by decide +kernel
theorem dX3_takeNumber_78 : decode cX3_takeNumber 78 = .ok (.getfield 22, 3) := by decide +kernel
theorem dX3_takeNumber_81 : decode cX3_takeNumber 81 = .ok (.iaload, 1) := by decide +kernel
theorem dX3_takeNumber_82 : decode cX3_takeNumber 82 = .ok (.bipush 48, 2) := by decide +kernel
theorem dX3_takeNumber_84 : decode cX3_takeNumber 84 = .ok (.if_icmp .ne 20, 3) := by decide +kernel
theorem dX3_takeNumber_87 : decode cX3_takeNumber 87 = .ok (.aload_n 0, 1) := by decide +kernel
theorem dX3_takeNumber_88 : decode cX3_takeNumber 88 = .ok (.getfield 19, 3) := by decide +kernel
theorem dX3_takeNumber_91 : decode cX3_takeNumber 91 = .ok (.aload_n 0, 1) := by decide +kernel
theorem dX3_takeNumber_92 : decode cX3_takeNumber 92 = .ok (.getfield 22, 3) := by decide +kernel
theorem dX3_takeNumber_95 : decode cX3_takeNumber 95 = .ok (.isub, 1) := by decide +kernel
theorem dX3_takeNumber_96 : decode cX3_takeNumber 96 = .ok (.iconst 1, 1) := by decide +kernel
theorem dX3_takeNumber_97 : decode cX3_takeNumber 97 = .ok (.if_icmp .le 7, 3) := by decide +kernel
theorem dX3_takeNumber_100 : decode cX3_takeNumber 100 = .ok (.iconst 1, 1) := by decide +kernel
theorem dX3_takeNumber_101 : decode cX3_takeNumber 101 = .ok (.goto 4, 3) := by decide +kernel
theorem dX3_takeNumber_104 : decode cX3_takeNumber 104 = .ok (.iconst 0, 1) := by decide +kernel
theorem dX3_takeNumber_105 : decode cX3_takeNumber 105 = .ok (.istore_n 1, 1) := by decide +kernel
theorem dX3_takeNumber_106 : decode cX3_takeNumber 106 = .ok (.aload_n 0, 1) := by decide +kernel
theorem dX3_takeNumber_107 : decode cX3_takeNumber 107 = .ok (.iload_n 1, 1) := by decide +kernel
theorem dX3_takeNumber_108 : decode cX3_takeNumber 108 = .ok (.ifCond .ne 12, 3) := by decide +kernel
theorem dX3_takeNumber_111 : decode cX3_takeNumber 111 = .ok (.aload_n 0, 1) := by decide +kernel
theorem dX3_takeNumber_112 : decode cX3_takeNumber 112 = .ok (.getfield 55, 3) := by decide +kernel
theorem dX3_takeNumber_115 : decode cX3_takeNumber 115 = .ok (.bipush 99, 2) := by decide +kernel
theorem dX3_takeNumber_117 : decode cX3_takeNumber 117 = .ok (.if_icmp .le 7, 3) := by decide +kernel
theorem dX3_takeNumber_120 : decode cX3_takeNumber 120 = .ok (.iconst 1, 1) := by decide +kernel
theorem dX3_takeNumber_121 : decode cX3_takeNumber 121 = .ok (.goto 4, 3) := by decide +kernel
theorem dX3_takeNumber_124 : decode cX3_takeNumber 124 = .ok (.iconst 3, 1) := by decide +kernel
theorem dX3_takeNumber_125 : decode cX3_takeNumber 125 = .ok (.putfield 25, 3) := by decide +kernel
theorem dX3_takeNumber_128 : decode cX3_takeNumber 128 = .ok (.return_, 1) := by decide +kernel
theorem dX4_init_0 : decode cX4_init 0 = .ok (.aload_n 0, 1) := by decide +kernel
theorem dX4_init_1 : decode cX4_init 1 = .ok (.invokespecial 3, 3) := by decide +kernel
theorem dX4_init_4 : decode cX4_init 4 = .ok (.aload_n 0, 1) := by decide +kernel
theorem dX4_init_5 : decode cX4_init 5 = .ok (.bipush 9, 2) := by decide +kernel
theorem dX4_init_7 : decode cX4_init 7 = .ok (.anewarray 9, 3) := by decide +kernel
theorem dX4_init_10 : decode cX4_init 10 = .ok (.putfield 11, 3) := by decide +kernel
theorem dX4_init_13 : decode cX4_init 13 = .ok (.aload_n 0, 1) := by decide +kernel
theorem dX4_init_14 : decode cX4_init 14 = .ok (.iconst 4, 1) := by decide +kernel
theorem dX4_init_15 : decode cX4_init 15 = .ok (.anewarray 17, 3) := by decide +kernel
theorem dX4_init_18 : decode cX4_init 18 = .ok (.putfield 19, 3) := by decide +kernel
theorem dX4_init_21 : decode cX4_init 21 = .ok (.iconst 0, 1) := by decide +kernel
theorem dX4_init_22 : decode cX4_init 22 = .ok (.istore_n 1, 1) := by decide +kernel
theorem dX4_init_23 : decode cX4_init 23 = .ok (.iload_n 1, 1) := by decide +kernel
theorem dX4_init_24 : decode cX4_init 24 = .ok (.bipush 9, 2) := by decide +kernel
theorem dX4_init_26 : decode cX4_init 26 = .ok (.if_icmp .ge 22, 3) := by decide +kernel
theorem dX4_init_29 : decode cX4_init 29 = .ok (.aload_n 0, 1) := by decide +kernel
theorem dX4_init_30 : decode cX4_init 30 = .ok (.getfield 11, 3) := by decide +kernel
theorem dX4_init_33 : decode cX4_init 33 = .ok (.iload_n 1, 1) := by decide +kernel
theorem dX4_init_34 : decode cX4_init 34 = .ok (.new 9, 3) := by decide +kernel
theorem dX4_init_37 : decode cX4_init 37 = .ok (.dup, 1) := by decide +kernel
theorem dX4_init_38 : decode cX4_init 38 = .ok (.invokespecial 23, 3) := by decide +kernel
theorem dX4_init_41 : decode cX4_init 41 = .ok (.aastore, 1) := by decide +kernel
theorem dX4_init_42 : decode cX4_init 42 = .ok (.iinc 1 1, 3) := by decide +kernel
theorem dX4_init_45 : decode cX4_init 45 = .ok (.goto (-22), 3) := by decide +kernel
theorem dX4_init_48 : decode cX4_init 48 = .ok (.iconst 0, 1) := by decide +kernel
theorem dX4_init_49 : decode cX4_init 49 = .ok (.istore_n 1, 1) := by decide +kernel
theorem dX4_init_50 : decode cX4_init 50 = .ok (.iload_n 1, 1) := by decide +kernel
theorem dX4_init_51 : decode cX4_init 51 = .ok (.iconst 4, 1) := by decide +kernel
theorem dX4_init_52 : decode cX4_init 52 = .ok (.if_icmp .ge 22, 3) := by decide +kernel
theorem dX4_init_55 : decode cX4_init 55 = .ok (.aload_n 0, 1) := by decide +kernel
theorem dX4_init_56 : decode cX4_init 56 = .ok (.getfield 19, 3) := by decide +kernel
theorem dX4_init_59 : decode cX4_init 59 = .ok (.iload_n 1, 1) := by decide +kernel
theorem dX4_init_60 : decode cX4_init 60 = .ok (.new 17, 3) := by decide +kernel
theorem dX4_init_63 : decode cX4_init 63 = .ok (.dup, 1) := by decide +kernel
theorem dX4_init_64 : decode cX4_init 64 = .ok (.invokespecial 24, 3) := by decide +kernel
theorem dX4_init_67 : decode cX4_init 67 = .ok (.aastore, 1) := by decide +kernel
theorem dX4_init_68 : decode cX4_init 68 = .ok (.iinc 1 1, 3) := by decide +kernel
theorem dX4_init_71 : decode cX4_init 71 = .ok (.goto (-21), 3) := by decide +kernel
theorem dX4_init_74 : decode cX4_init 74 = .ok (.return_, 1) := by decide +kernel
theorem dX4_readAll_0 : decode cX4_readAll 0 = .ok (.aload_n 0, 1) := by decide +kernel
theorem dX4_readAll_1 : decode cX4_readAll 1 = .ok (.iconst 0, 1) := by decide +kernel
theorem dX4_readAll_2 : decode cX4_readAll 2 = .ok (.putfield 25, 3) := by decide +kernel
theorem dX4_readAll_5 : decode cX4_readAll 5 = .ok (.aload_n 0, 1) := by decide +kernel
theorem dX4_readAll_6 : decode cX4_readAll 6 = .ok (.iconst 0, 1) := by decide +kernel
theorem dX4_readAll_7 : decode cX4_readAll 7 = .ok (.putfield 29, 3) := by decide +kernel
theorem dX4_readAll_10 : decode cX4_readAll 10 = .ok (.aload_n 1, 1) := by decide +kernel
theorem dX4_readAll_11 : decode cX4_readAll 11 = .ok (.invokevirtual 32, 3) := by decide +kernel
theorem dX4_readAll_14 : decode cX4_readAll 14 = .ok (.iconst 0, 1) := by decide +kernel
theorem dX4_readAll_15 : decode cX4_readAll 15 = .ok (.istore_n 2, 1) := by decide +kernel
theorem dX4_readAll_16 : decode cX4_readAll 16 = .ok (.iload_n 2, 1) := by decide +kernel
theorem dX4_readAll_17 : decode cX4_readAll 17 = .ok (.bipush 13, 2) := by decide +kernel
theorem dX4_readAll_19 : decode cX4_readAll 19 = .ok (.if_icmp .gt 67, 3) := by decide +kernel
theorem dX4_readAll_22 : decode cX4_readAll 22 = .ok (.aload_n 1, 1) := by decide +kernel
theorem dX4_readAll_23 : decode cX4_readAll 23 = .ok (.invokevirtual 37, 3) := by decide +kernel
theorem dX4_readAll_26 : decode cX4_readAll 26 = .ok (.aload_n 1, 1) := by decide +kernel
theorem dX4_readAll_27 : decode cX4_readAll 27 = .ok (.getfield 40, 3) := by decide +kernel
theorem dX4_readAll_30 : decode cX4_readAll 30 = .ok (.ifCond .ne 5, 3) := by decide +kernel
theorem dX4_readAll_33 : decode cX4_readAll 33 = .ok (.iconst 1, 1) := by decide +kernel
theorem dX4_readAll_34 : decode cX4_readAll 34 = .ok (.ireturn, 1) := by decide +kernel
theorem dX4_readAll_35 : decode cX4_readAll 35 = .ok (.aload_n 1, 1) := by decide +kernel
theorem dX4_readAll_36 : decode cX4_readAll 36 = .ok (.getfield 40, 3) := by decide +kernel
theorem dX4_readAll_39 : decode cX4_readAll 39 = .ok (.iconst 5, 1) := by decide +kernel
theorem dX4_readAll_40 : decode cX4_readAll 40 = .ok (.if_icmp .ne 11, 3) := by decide +kernel
theorem dX4_readAll_43 : decode cX4_readAll 43 = .ok (.aload_n 0, 1) := by decide +kernel
theorem dX4_readAll_44 : decode cX4_readAll 44 = .ok (.aload_n 1, 1) := by decide +kernel
theorem dX4_readAll_45 : decode cX4_readAll 45 = .ok (.invokevirtual 43, 3) := by decide +kernel
theorem dX4_readAll_48 : decode cX4_readAll 48 = .ok (.goto 25, 3) := by decide +kernel
theorem dX4_readAll_51 : decode cX4_readAll 51 = .ok (.aload_n 1, 1) := by decide +kernel
theorem dX4_readAll_52 : decode cX4_readAll 52 = .ok (.getfield 40, 3) := by decide +kernel
theorem dX4_readAll_55 : decode cX4_readAll 55 = .ok (.bipush 6, 2) := by decide +kernel
theorem dX4_readAll_57 : decode cX4_readAll 57 = .ok (.if_icmp .ne 15, 3) := by decide +kernel
theorem dX4_readAll_60 : decode cX4_readAll 60 = .ok (.aload_n 0, 1) := by decide +kernel
theorem dX4_readAll_61 : decode cX4_readAll 61 = .ok (.aload_n 1, 1) := by decide +kernel
theorem dX4_readAll_62 : decode cX4_readAll 62 = .ok (.invokevirtual 47, 3) := by decide +kernel
theorem dX4_readAll_65 : decode cX4_readAll 65 = .ok (.ifCond .eq 7, 3) := by decide +kernel
theorem dX4_readAll_68 : decode cX4_readAll 68 = .ok (.iconst 1, 1) := by decide +kernel
theorem dX4_readAll_69 : decode cX4_readAll 69 = .ok (.goto 4, 3) := by decide +kernel
theorem dX4_readAll_72 : decode cX4_readAll 72 = .ok (.iconst 0, 1) := by decide +kernel
theorem dX4_readAll_73 : decode cX4_readAll 73 = .ok (.istore_n 3, 1) := by decide +kernel
theorem dX4_readAll_74 : decode cX4_readAll 74 = .ok (.iload_n 3, 1) := by decide +kernel
theorem dX4_readAll_75 : decode cX4_readAll 75 = .ok (.ifCond .ne 5, 3) := by decide +kernel
theorem dX4_readAll_78 : decode cX4_readAll 78 = .ok (.iconst 0, 1) := by decide +kernel
theorem dX4_readAll_79 : decode cX4_readAll 79 = .ok (.ireturn, 1) := by decide +kernel
theorem dX4_readAll_80 : decode cX4_readAll 80 = .ok (.iinc 2 1, 3) := by decide +kernel
theorem dX4_readAll_83 : decode cX4_readAll 83 = .ok (.goto (-67), 3) := by decide +kernel
theorem dX4_readAll_86 : decode cX4_readAll 86 = .ok (.iconst 0, 1) := by decide +kernel
theorem dX4_readAll_87 : decode cX4_readAll 87 = .ok (.ireturn, 1) := by decide +kernel
theorem dX4_readWord_0 : decode cX4_readWord 0 = .ok (.aload_n 0, 1) := by decide +kernel
theorem dX4_readWord_1 : decode cX4_readWord 1 = .ok (.getfield 25, 3) := by decide +kernel
theorem dX4_readWord_4 : decode cX4_readWord 4 = .ok (.bipush 9, 2) := by decide +kernel
theorem dX4_readWord_6 : decode cX4_readWord 6 = .ok (.if_icmp .lt 5, 3) := by decide +kernel
theorem dX4_readWord_9 : decode cX4_readWord 9 = .ok (.iconst 0, 1) := by decide +kernel
theorem dX4_readWord_10 : decode cX4_readWord 10 = .ok (.ireturn, 1) := by decide +kernel
theorem dX4_readWord_11 : decode cX4_readWord 11 = .ok (.aload_n 0, 1) := by decide +kernel
theorem dX4_readWord_12 : decode cX4_readWord 12 = .ok (.getfield 11, 3) := by decide +kernel
theorem dX4_readWord_15 : decode cX4_readWord 15 = .ok (.aload_n 0, 1) := by decide +kernel
theorem dX4_readWord_16 : decode cX4_readWord 16 = .ok (.getfield 25, 3) := by decide +kernel
theorem dX4_readWord_19 : decode cX4_readWord 19 = .ok (.aaload, 1) := by decide +kernel
theorem dX4_readWord_20 : decode cX4_readWord 20 = .ok (.astore_n 2, 1) := by decide +kernel
theorem dX4_readWord_21 : decode cX4_readWord 21 = .ok (.aload_n 1, 1) := by decide +kernel
theorem dX4_readWord_22 : decode cX4_readWord 22 = .ok (.aload_n 2, 1) := by decide +kernel
theorem dX4_readWord_23 : decode cX4_readWord 23 = .ok (.invokestatic 50, 3) := by decide +kernel
theorem dX4_readWord_26 : decode cX4_readWord 26 = .ok (.ifCond .eq 11, 3) := by decide +kernel
theorem dX4_readWord_29 : decode cX4_readWord 29 = .ok (.aload_n 1, 1) := by decide +kernel
theorem dX4_readWord_30 : decode cX4_readWord 30 = .ok (.iconst 2, 1) := by decide +kernel
theorem dX4_readWord_31 : decode cX4_readWord 31 = .ok (.invokestatic 54, 3) := by decide +kernel
theorem dX4_readWord_34 : decode cX4_readWord 34 = .ok (.ifCond .ne 5, 3) := by decide +kernel
theorem dX4_readWord_37 : decode cX4_readWord 37 = .ok (.iconst 0, 1) := by decide +kernel
theorem dX4_readWord_38 : decode cX4_readWord 38 = .ok (.ireturn, 1) := by decide +kernel
theorem dX4_readWord_39 : decode cX4_readWord 39 = .ok (.aload_n 2, 1) := by decide +kernel
theorem dX4_readWord_40 : decode cX4_readWord 40 = .ok (.aload_n 1, 1) := by decide +kernel
theorem dX4_readWord_41 : decode cX4_readWord 41 = .ok (.getfield 58, 3) := by decide +kernel
theorem dX4_readWord_44 : decode cX4_readWord 44 = .ok (.putfield 61, 3) := by decide +kernel
theorem dX4_readWord_47 : decode cX4_readWord 47 = .ok (.aload_n 1, 1) := by decide +kernel
theorem dX4_readWord_48 : decode cX4_readWord 48 = .ok (.bipush 9, 2) := by decide +kernel
theorem dX4_readWord_50 : decode cX4_readWord 50 = .ok (.invokestatic 54, 3) := by decide +kernel
theorem dX4_readWord_53 : decode cX4_readWord 53 = .ok (.ifCond .ne 5, 3) := by decide +kernel
theorem dX4_readWord_56 : decode cX4_readWord 56 = .ok (.iconst 0, 1) := by decide +kernel
theorem dX4_readWord_57 : decode cX4_readWord 57 = .ok (.ireturn, 1) := by decide +kernel
theorem dX4_readWord_58 : decode cX4_readWord 58 = .ok (.aload_n 2, 1) := by decide +kernel
theorem dX4_readWord_59 : decode cX4_readWord 59 = .ok (.aload_n 1, 1) := by decide +kernel
theorem dX4_readWord_60 : decode cX4_readWord 60 = .ok (.getfield 58, 3) := by decide +kernel
theorem dX4_readWord_63 : decode cX4_readWord 63 = .ok (.putfield 64, 3) := by decide +kernel
theorem dX4_readWord_66 : decode cX4_readWord 66 = .ok (.aload_n 1, 1) := by decide +kernel
theorem dX4_readWord_67 : decode cX4_readWord 67 = .ok (.bipush 9, 2) := by decide +kernel
theorem dX4_readWord_69 : decode cX4_readWord 69 = .ok (.invokestatic 54, 3) := by decide +kernel
theorem dX4_readWord_72 : decode cX4_readWord 72 = .ok (.ifCond .ne 5, 3) := by decide +kernel
theorem dX4_readWord_75 : decode cX4_readWord 75 = .ok (.iconst 0, 1) := by decide +kernel
theorem dX4_readWord_76 : decode cX4_readWord 76 = .ok (.ireturn, 1) := by decide +kernel
theorem dX4_readWord_77 : decode cX4_readWord 77 = .ok (.aload_n 2, 1) := by decide +kernel
theorem dX4_readWord_78 : decode cX4_readWord 78 = .ok (.aload_n 1, 1) := by decide +kernel
theorem dX4_readWord_79 : decode cX4_readWord 79 = .ok (.getfield 58, 3) := by decide +kernel
theorem dX4_readWord_82 : decode cX4_readWord 82 = .ok (.putfield 67, 3) := by decide +kernel
theorem dX4_readWord_85 : decode cX4_readWord 85 = .ok (.aload_n 0, 1) := by decide +kernel
theorem dX4_readWord_86 : decode cX4_readWord 86 = .ok (.dup, 1) := by decide +kernel
theorem dX4_readWord_87 : decode cX4_readWord 87 = .ok (.getfield 25, 3) := by decide +kernel
theorem dX4_readWord_90 : decode cX4_readWord 90 = .ok (.iconst 1, 1) := by decide +kernel
theorem dX4_readWord_91 : decode cX4_readWord 91 = .ok (.iadd, 1) := by decide +kernel
theorem dX4_readWord_92 : decode cX4_readWord 92 = .ok (.putfield 25, 3) := by decide +kernel
theorem dX4_readWord_95 : decode cX4_readWord 95 = .ok (.aload_n 1, 1) := by decide +kernel
theorem dX4_readWord_96 : decode cX4_readWord 96 = .ok (.invokestatic 70, 3) := by decide +kernel
theorem dX4_readWord_99 : decode cX4_readWord 99 = .ok (.ireturn, 1) := by decide +kernel
theorem dX4_readShape_0 : decode cX4_readShape 0 = .ok (.aload_n 0, 1) := by decide +kernel
theorem dX4_readShape_1 : decode cX4_readShape 1 = .ok (.getfield 29, 3) := by decide +kernel
theorem dX4_readShape_4 : decode cX4_readShape 4 = .ok (.iconst 4, 1) := by decide +kernel
theorem dX4_readShape_5 : decode cX4_readShape 5 = .ok (.if_icmp .ge 11, 3) := by decide +kernel
theorem dX4_readShape_8 : decode cX4_readShape 8 = .ok (.aload_n 1, 1) := by decide +kernel
theorem dX4_readShape_9 : decode cX4_readShape 9 = .ok (.iconst 2, 1) := by decide +kernel
theorem dX4_readShape_10 : decode cX4_readShape 10 = .ok (.invokestatic 54, 3) := by decide +kernel
theorem dX4_readShape_13 : decode cX4_readShape 13 = .ok (.ifCond .ne 5, 3) := by decide +kernel
theorem dX4_readShape_16 : decode cX4_readShape 16 = .ok (.iconst 0, 1) := by decide +kernel
theorem dX4_readShape_17 : decode cX4_readShape 17 = .ok (.ireturn, 1) := by decide +kernel
theorem dX4_readShape_18 : decode cX4_readShape 18 = .ok (.aload_n 0, 1) := by decide +kernel
theorem dX4_readShape_19 : decode cX4_readShape 19 = .ok (.getfield 19, 3) := by decide +kernel
theorem dX4_readShape_22 : decode cX4_readShape 22 = .ok (.aload_n 0, 1) := by decide +kernel
theorem dX4_readShape_23 : decode cX4_readShape 23 = .ok (.getfield 29, 3) := by decide +kernel
theorem dX4_readShape_26 : decode cX4_readShape 26 = .ok (.aaload, 1) := by decide +kernel
theorem dX4_readShape_27 : decode cX4_readShape 27 = .ok (.astore_n 2, 1) := by decide +kernel
theorem dX4_readShape_28 : decode cX4_readShape 28 = .ok (.aload_n 2, 1) := by decide +kernel
theorem dX4_readShape_29 : decode cX4_readShape 29 = .ok (.getfield 73, 3) := by decide +kernel
theorem dX4_readShape_32 : decode cX4_readShape 32 = .ok (.iconst 0, 1) := by decide +kernel
theorem dX4_readShape_33 : decode cX4_readShape 33 = .ok (.aload_n 1, 1) := by decide +kernel
theorem dX4_readShape_34 : decode cX4_readShape 34 = .ok (.getfield 58, 3) := by decide +kernel
theorem dX4_readShape_37 : decode cX4_readShape 37 = .ok (.iastore, 1) := by decide +kernel
theorem dX4_readShape_38 : decode cX4_readShape 38 = .ok (.aload_n 2, 1) := by decide +kernel
theorem dX4_readShape_39 : decode cX4_readShape 39 = .ok (.iconst 1, 1) := by decide +kernel
theorem dX4_readShape_40 : decode cX4_readShape 40 = .ok (.putfield 77, 3) := by decide +kernel
theorem dX4_readShape_43 : decode cX4_readShape 43 = .ok (.aload_n 0, 1) := by decide +kernel
theorem dX4_readShape_44 : decode cX4_readShape 44 = .ok (.dup, 1) := by decide +kernel
theorem dX4_readShape_45 : decode cX4_readShape 45 = .ok (.getfield 29, 3) := by decide +kernel
theorem dX4_readShape_48 : decode cX4_readShape 48 = .ok (.iconst 1, 1) := by decide +kernel
theorem dX4_readShape_49 : decode cX4_readShape 49 = .ok (.iadd, 1) := by decide +kernel
theorem dX4_readShape_50 : decode cX4_readShape 50 = .ok (.putfield 29, 3) := by decide +kernel
theorem dX4_readShape_53 : decode cX4_readShape 53 = .ok (.iconst 1, 1) := by decide +kernel
theorem dX4_readShape_54 : decode cX4_readShape 54 = .ok (.istore_n 3, 1) := by decide +kernel
theorem dX4_readShape_55 : decode cX4_readShape 55 = .ok (.iload_n 3, 1) := by decide +kernel
theorem dX4_readShape_56 : decode cX4_readShape 56 = .ok (.iconst 3, 1) := by decide +kernel
theorem dX4_readShape_57 : decode cX4_readShape 57 = .ok (.if_icmp .ge 48, 3) := by decide +kernel
theorem dX4_readShape_60 : decode cX4_readShape 60 = .ok (.aload_n 1, 1) := by decide +kernel
theorem dX4_readShape_61 : decode cX4_readShape 61 = .ok (.iconst 2, 1) := by decide +kernel
theorem dX4_readShape_62 : decode cX4_readShape 62 = .ok (.invokestatic 54, 3) := by decide +kernel
theorem dX4_readShape_65 : decode cX4_readShape 65 = .ok (.ifCond .ne 17, 3) := by decide +kernel
theorem dX4_readShape_68 : decode cX4_readShape 68 = .ok (.aload_n 1, 1) := by decide +kernel
theorem dX4_readShape_69 : decode cX4_readShape 69 = .ok (.getfield 40, 3) := by decide +kernel
theorem dX4_readShape_72 : decode cX4_readShape 72 = .ok (.iconst 2, 1) := by decide +kernel
theorem dX4_readShape_73 : decode cX4_readShape 73 = .ok (.if_icmp .ne 7, 3) := by decide +kernel
theorem dX4_readShape_76 : decode cX4_readShape 76 = .ok (.iconst 1, 1) := by decide +kernel
theorem dX4_readShape_77 : decode cX4_readShape 77 = .ok (.goto 4, 3) := by decide +kernel
theorem dX4_readShape_80 : decode cX4_readShape 80 = .ok (.iconst 0, 1) := by decide +kernel
theorem dX4_readShape_81 : decode cX4_readShape 81 = .ok (.ireturn, 1) := by decide +kernel
theorem dX4_readShape_82 : decode cX4_readShape 82 = .ok (.aload_n 2, 1) := by decide +kernel
theorem dX4_readShape_83 : decode cX4_readShape 83 = .ok (.getfield 73, 3) := by decide +kernel
theorem dX4_readShape_86 : decode cX4_readShape 86 = .ok (.iload_n 3, 1) := by decide +kernel
theorem dX4_readShape_87 : decode cX4_readShape 87 = .ok (.aload_n 1, 1) := by decide +kernel
theorem dX4_readShape_88 : decode cX4_readShape 88 = .ok (.getfield 58, 3) := by decide +kernel
theorem dX4_readShape_91 : decode cX4_readShape 91 = .ok (.iastore, 1) := by decide +kernel
theorem dX4_readShape_92 : decode cX4_readShape 92 = .ok (.aload_n 2, 1) := by decide +kernel
theorem dX4_readShape_93 : decode cX4_readShape 93 = .ok (.iload_n 3, 1) := by decide +kernel
theorem dX4_readShape_94 : decode cX4_readShape 94 = .ok (.iconst 1, 1) := by decide +kernel
theorem dX4_readShape_95 : decode cX4_readShape 95 = .ok (.iadd, 1) := by decide +kernel
theorem dX4_readShape_96 : decode cX4_readShape 96 = .ok (.putfield 77, 3) := by decide +kernel
theorem dX4_readShape_99 : decode cX4_readShape 99 = .ok (.iinc 3 1, 3) := by decide +kernel
theorem dX4_readShape_102 : decode cX4_readShape 102 = .ok (.goto (-47), 3) := by decide +kernel
theorem dX4_readShape_105 : decode cX4_readShape 105 = .ok (.aload_n 1, 1) := by decide +kernel
theorem dX4_readShape_106 : decode cX4_readShape 106 = .ok (.invokestatic 70, 3) := by decide +kernel
theorem dX4_readShape_109 : decode cX4_readShape 109 = .ok (.ireturn, 1) := by decide +kernel
theorem dX4_readSigns_0 : decode cX4_readSigns 0 = .ok (.aload_n 0, 1) := by decide +kernel
theorem dX4_readSigns_1 : decode cX4_readSigns 1 = .ok (.invokevirtual 37, 3) := by decide +kernel
theorem dX4_readSigns_4 : decode cX4_readSigns 4 = .ok (.aload_n 0, 1) := by decide +kernel
theorem dX4_readSigns_5 : decode cX4_readSigns 5 = .ok (.getfield 40, 3) := by decide +kernel
theorem dX4_readSigns_8 : decode cX4_readSigns 8 = .ok (.iconst 4, 1) := by decide +kernel
theorem dX4_readSigns_9 : decode cX4_readSigns 9 = .ok (.if_icmp .eq 5, 3) := by decide +kernel
theorem dX4_readSigns_12 : decode cX4_readSigns 12 = .ok (.iconst 0, 1) := by decide +kernel
theorem dX4_readSigns_13 : decode cX4_readSigns 13 = .ok (.ireturn, 1) := by decide +kernel
theorem dX4_readSigns_14 : decode cX4_readSigns 14 = .ok (.aload_n 1, 1) := by decide +kernel
theorem dX4_readSigns_15 : decode cX4_readSigns 15 = .ok (.aload_n 0, 1) := by decide +kernel
theorem dX4_readSigns_16 : decode cX4_readSigns 16 = .ok (.getfield 80, 3) := by decide +kernel
theorem dX4_readSigns_19 : decode cX4_readSigns 19 = .ok (.aload_n 0, 1) := by decide +kernel
theorem dX4_readSigns_20 : decode cX4_readSigns 20 = .ok (.getfield 83, 3) := by decide +kernel
theorem dX4_readSigns_23 : decode cX4_readSigns 23 = .ok (.isub, 1) := by decide +kernel
theorem dX4_readSigns_24 : decode cX4_readSigns 24 = .ok (.iconst 5, 1) := by decide +kernel
theorem dX4_readSigns_25 : decode cX4_readSigns 25 = .ok (.invokestatic 86, 3) := by decide +kernel
theorem dX4_readSigns_28 : decode cX4_readSigns 28 = .ok (.putfield 92, 3) := by decide +kernel
theorem dX4_readSigns_31 : decode cX4_readSigns 31 = .ok (.iconst 0, 1) := by decide +kernel
theorem dX4_readSigns_32 : decode cX4_readSigns 32 = .ok (.istore_n 2, 1) := by decide +kernel
theorem dX4_readSigns_33 : decode cX4_readSigns 33 = .ok (.iload_n 2, 1) := by decide +kernel
theorem dX4_readSigns_34 : decode cX4_readSigns 34 = .ok (.aload_n 1, 1) := by decide +kernel
theorem dX4_readSigns_35 : decode cX4_readSigns 35 = .ok (.getfield 92, 3) := by decide +kernel
theorem dX4_readSigns_38 : decode cX4_readSigns 38 = .ok (.if_icmp .ge 29, 3) := by decide +kernel
theorem dX4_readSigns_41 : decode cX4_readSigns 41 = .ok (.aload_n 1, 1) := by decide +kernel
theorem dX4_readSigns_42 : decode cX4_readSigns 42 = .ok (.getfield 93, 3) := by decide +kernel
theorem dX4_readSigns_45 : decode cX4_readSigns 45 = .ok (.iload_n 2, 1) := by decide +kernel
theorem dX4_readSigns_46 : decode cX4_readSigns 46 = .ok (.aload_n 0, 1) := by decide +kernel
theorem dX4_readSigns_47 : decode cX4_readSigns 47 = .ok (.getfield 96, 3) := by decide +kernel
theorem dX4_readSigns_50 : decode cX4_readSigns 50 = .ok (.aload_n 0, 1) := by decide +kernel
theorem dX4_readSigns_51 : decode cX4_readSigns 51 = .ok (.getfield 83, 3) := by decide +kernel
theorem dX4_readSigns_54 : decode cX4_readSigns 54 = .ok (.iload_n 2, 1) := by decide +kernel
theorem dX4_readSigns_55 : decode cX4_readSigns 55 = .ok (.iadd, 1) := by decide +kernel
theorem dX4_readSigns_56 : decode cX4_readSigns 56 = .ok (.iaload, 1) := by decide +kernel
theorem dX4_readSigns_57 : decode cX4_readSigns 57 = .ok (.bipush 97, 2) := by decide +kernel
theorem dX4_readSigns_59 : decode cX4_readSigns 59 = .ok (.isub, 1) := by decide +kernel
theorem dX4_readSigns_60 : decode cX4_readSigns 60 = .ok (.iastore, 1) := by decide +kernel
theorem dX4_readSigns_61 : decode cX4_readSigns 61 = .ok (.iinc 2 1, 3) := by decide +kernel
theorem dX4_readSigns_64 : decode cX4_readSigns 64 = .ok (.goto (-31), 3) := by decide +kernel
theorem dX4_readSigns_67 : decode cX4_readSigns 67 = .ok (.iconst 1, 1) := by decide +kernel
theorem dX4_readSigns_68 : decode cX4_readSigns 68 = .ok (.ireturn, 1) := by decide +kernel
theorem dX4_readNumber_0 : decode cX4_readNumber 0 = .ok (.aload_n 0, 1) := by decide +kernel
theorem dX4_readNumber_1 : decode cX4_readNumber 1 = .ok (.invokevirtual 37, 3) := by decide +kernel
theorem dX4_readNumber_4 : decode cX4_readNumber 4 = .ok (.aload_n 0, 1) := by decide +kernel
theorem dX4_readNumber_5 : decode cX4_readNumber 5 = .ok (.getfield 40, 3) := by decide +kernel
theorem dX4_readNumber_8 : decode cX4_readNumber 8 = .ok (.iconst 3, 1) := by decide +kernel
theorem dX4_readNumber_9 : decode cX4_readNumber 9 = .ok (.if_icmp .ne 15, 3) := by decide +kernel
theorem dX4_readNumber_12 : decode cX4_readNumber 12 = .ok (.aload_n 0, 1) := by decide +kernel
theorem dX4_readNumber_13 : decode cX4_readNumber 13 = .ok (.getfield 58, 3) := by decide +kernel
theorem dX4_readNumber_16 : decode cX4_readNumber 16 = .ok (.iload_n 1, 1) := by decide +kernel
theorem dX4_readNumber_17 : decode cX4_readNumber 17 = .ok (.if_icmp .gt 7, 3) := by decide +kernel
theorem dX4_readNumber_20 : decode cX4_readNumber 20 = .ok (.iconst 1, 1) := by decide +kernel
theorem dX4_readNumber_21 : decode cX4_readNumber 21 = .ok (.goto 4, 3) := by decide +kernel
theorem dX4_readNumber_24 : decode cX4_readNumber 24 = .ok (.iconst 0, 1) := by decide +kernel
theorem dX4_readNumber_25 : decode cX4_readNumber 25 = .ok (.ireturn, 1) := by decide +kernel
theorem dX4_readEnd_0 : decode cX4_readEnd 0 = .ok (.aload_n 0, 1) := by decide +kernel
theorem dX4_readEnd_1 : decode cX4_readEnd 1 = .ok (.invokevirtual 37, 3) := by decide +kernel
theorem dX4_readEnd_4 : decode cX4_readEnd 4 = .ok (.aload_n 0, 1) := by decide +kernel
theorem dX4_readEnd_5 : decode cX4_readEnd 5 = .ok (.getfield 40, 3) := by decide +kernel
theorem dX4_readEnd_8 : decode cX4_readEnd 8 = .ok (.iconst 2, 1) := by decide +kernel
theorem dX4_readEnd_9 : decode cX4_readEnd 9 = .ok (.if_icmp .ne 7, 3) := by decide +kernel
theorem dX4_readEnd_12 : decode cX4_readEnd 12 = .ok (.iconst 1, 1) := by decide +kernel
theorem dX4_readEnd_13 : decode cX4_readEnd 13 = .ok (.goto 4, 3) := by decide +kernel
theorem dX4_readEnd_16 : decode cX4_readEnd 16 = .ok (.iconst 0, 1) := by decide +kernel
theorem dX4_readEnd_17 : decode cX4_readEnd 17 = .ok (.ireturn, 1) := by decide +kernel
theorem dX5_init_0 : decode cX5_init 0 = .ok (.aload_n 0, 1) := by decide +kernel
theorem dX5_init_1 : decode cX5_init 1 = .ok (.invokespecial 3, 3) := by decide +kernel
theorem dX5_init_4 : decode cX5_init 4 = .ok (.aload_n 0, 1) := by decide +kernel
theorem dX5_init_5 : decode cX5_init 5 = .ok (.iconst 5, 1) := by decide +kernel
theorem dX5_init_6 : decode cX5_init 6 = .ok (.newarray .int, 2) := by decide +kernel
theorem dX5_init_8 : decode cX5_init 8 = .ok (.putfield 9, 3) := by decide +kernel
theorem dX5_init_11 : decode cX5_init 11 = .ok (.return_, 1) := by decide +kernel
theorem dX6_init_0 : decode cX6_init 0 = .ok (.aload_n 0, 1) := by decide +kernel
theorem dX6_init_1 : decode cX6_init 1 = .ok (.invokespecial 3, 3) := by decide +kernel
theorem dX6_init_4 : decode cX6_init 4 = .ok (.aload_n 0, 1) := by decide +kernel
theorem dX6_init_5 : decode cX6_init 5 = .ok (.new 9, 3) := by decide +kernel
theorem dX6_init_8 : decode cX6_init 8 = .ok (.dup, 1) := by decide +kernel
theorem dX6_init_9 : decode cX6_init 9 = .ok (.invokespecial 11, 3) := by decide +kernel
theorem dX6_init_12 : decode cX6_init 12 = .ok (.putfield 12, 3) := by decide +kernel
theorem dX6_init_15 : decode cX6_init 15 = .ok (.aload_n 0, 1) := by decide +kernel
theorem dX6_init_16 : decode cX6_init 16 = .ok (.new 16, 3) := by decide +kernel
theorem dX6_init_19 : decode cX6_init 19 = .ok (.dup, 1) := by decide +kernel
theorem dX6_init_20 : decode cX6_init 20 = .ok (.invokespecial 18, 3) := by decide +kernel
theorem dX6_init_23 : decode cX6_init 23 = .ok (.putfield 19, 3) := by decide +kernel
theorem dX6_init_26 : decode cX6_init 26 = .ok (.aload_n 0, 1) := by decide +kernel
theorem dX6_init_27 : decode cX6_init 27 = .ok (.new 23, 3) := by decide +kernel
theorem dX6_init_30 : decode cX6_init 30 = .ok (.dup, 1) := by decide +kernel
theorem dX6_init_31 : decode cX6_init 31 = .ok (.invokespecial 25, 3) := by decide +kernel
theorem dX6_init_34 : decode cX6_init 34 = .ok (.putfield 26, 3) := by decide +kernel
theorem dX6_init_37 : decode cX6_init 37 = .ok (.aload_n 0, 1) := by decide +kernel
theorem dX6_init_38 : decode cX6_init 38 = .ok (.iconst 2, 1) := by decide +kernel
theorem dX6_init_39 : decode cX6_init 39 = .ok (.anewarray 23, 3) := by decide +kernel
theorem dX6_init_42 : decode cX6_init 42 = .ok (.putfield 30, 3) := by decide +kernel
theorem dX6_init_45 : decode cX6_init 45 = .ok (.iconst 0, 1) := by decide +kernel
theorem dX6_init_46 : decode cX6_init 46 = .ok (.istore_n 1, 1) := by decide +kernel
theorem dX6_init_47 : decode cX6_init 47 = .ok (.iload_n 1, 1) := by decide +kernel
theorem dX6_init_48 : decode cX6_init 48 = .ok (.iconst 2, 1) := by decide +kernel
theorem dX6_init_49 : decode cX6_init 49 = .ok (.if_icmp .ge 22, 3) := by decide +kernel
theorem dX6_init_52 : decode cX6_init 52 = .ok (.aload_n 0, 1) := by decide +kernel
theorem dX6_init_53 : decode cX6_init 53 = .ok (.getfield 30, 3) := by decide +kernel
theorem dX6_init_56 : decode cX6_init 56 = .ok (.iload_n 1, 1) := by decide +kernel
theorem dX6_init_57 : decode cX6_init 57 = .ok (.new 23, 3) := by decide +kernel
theorem dX6_init_60 : decode cX6_init 60 = .ok (.dup, 1) := by decide +kernel
theorem dX6_init_61 : decode cX6_init 61 = .ok (.invokespecial 25, 3) := by decide +kernel
theorem dX6_init_64 : decode cX6_init 64 = .ok (.aastore, 1) := by decide +kernel
theorem dX6_init_65 : decode cX6_init 65 = .ok (.iinc 1 1, 3) := by decide +kernel
theorem dX6_init_68 : decode cX6_init 68 = .ok (.goto (-21), 3) := by decide +kernel
theorem dX6_init_71 : decode cX6_init 71 = .ok (.aload_n 0, 1) := by decide +kernel
theorem dX6_init_72 : decode cX6_init 72 = .ok (.new 34, 3) := by decide +kernel
theorem dX6_init_75 : decode cX6_init 75 = .ok (.dup, 1) := by decide +kernel
theorem dX6_init_76 : decode cX6_init 76 = .ok (.invokespecial 36, 3) := by decide +kernel
theorem dX6_init_79 : decode cX6_init 79 = .ok (.putfield 37, 3) := by decide +kernel
theorem dX6_init_82 : decode cX6_init 82 = .ok (.aload_n 0, 1) := by decide +kernel
theorem dX6_init_83 : decode cX6_init 83 = .ok (.new 34, 3) := by decide +kernel
theorem dX6_init_86 : decode cX6_init 86 = .ok (.dup, 1) := by decide +kernel
theorem dX6_init_87 : decode cX6_init 87 = .ok (.invokespecial 36, 3) := by decide +kernel
theorem dX6_init_90 : decode cX6_init 90 = .ok (.putfield 41, 3) := by decide +kernel
theorem dX6_init_93 : decode cX6_init 93 = .ok (.aload_n 0, 1) := by decide +kernel
theorem dX6_init_94 : decode cX6_init 94 = .ok (.lconst 0, 1) := by decide +kernel
theorem dX6_init_95 : decode cX6_init 95 = .ok (.putfield 44, 3) := by decide +kernel
theorem dX6_init_98 : decode cX6_init 98 = .ok (.return_, 1) := by decide +kernel
theorem dX6_type_0 : decode cX6_type 0 = .ok (.iload_n 3, 1) := by decide +kernel
theorem dX6_type_1 : decode cX6_type 1 = .ok (.iconst 1, 1) := by decide +kernel
theorem dX6_type_2 : decode cX6_type 2 = .ok (.if_icmp .lt 9, 3) := by decide +kernel
theorem dX6_type_5 : decode cX6_type 5 = .ok (.iload_n 3, 1) := by decide +kernel
theorem dX6_type_6 : decode cX6_type 6 = .ok (.bipush 8, 2) := by decide +kernel
theorem dX6_type_8 : decode cX6_type 8 = .ok (.if_icmp .le 5, 3) := by decide +kernel
theorem dX6_type_11 : decode cX6_type 11 = .ok (.iconst (-1), 1) := by decide +kernel
theorem dX6_type_12 : decode cX6_type 12 = .ok (.ireturn, 1) := by decide +kernel
theorem dX6_type_13 : decode cX6_type 13 = .ok (.aload_n 0, 1) := by decide +kernel
theorem dX6_type_14 : decode cX6_type 14 = .ok (.getfield 12, 3) := by decide +kernel
theorem dX6_type_17 : decode cX6_type 17 = .ok (.getfield 48, 3) := by decide +kernel
theorem dX6_type_20 : decode cX6_type 20 = .ok (.iload_n 3, 1) := by decide +kernel
theorem dX6_type_21 : decode cX6_type 21 = .ok (.iadd, 1) := by decide +kernel
theorem dX6_type_22 : decode cX6_type 22 = .ok (.sipush 200, 3) := by decide +kernel
theorem dX6_type_25 : decode cX6_type 25 = .ok (.if_icmp .le 6, 3) := by decide +kernel
theorem dX6_type_28 : decode cX6_type 28 = .ok (.bipush (-3), 2) := by decide +kernel
theorem dX6_type_30 : decode cX6_type 30 = .ok (.ireturn, 1) := by decide +kernel
theorem dX6_type_31 : decode cX6_type 31 = .ok (.iload_n 3, 1) := by decide +kernel
theorem dX6_type_32 : decode cX6_type 32 = .ok (.iconst 1, 1) := by decide +kernel
theorem dX6_type_33 : decode cX6_type 33 = .ok (.isub, 1) := by decide +kernel
theorem dX6_type_34 : decode cX6_type 34 = .ok (.istore 4, 2) := by decide +kernel
theorem dX6_type_36 : decode cX6_type 36 = .ok (.iload 4, 2) := by decide +kernel
theorem dX6_type_38 : decode cX6_type 38 = .ok (.ifCond .lt 28, 3) := by decide +kernel
theorem dX6_type_41 : decode cX6_type 41 = .ok (.aload_n 0, 1) := by decide +kernel
theorem dX6_type_42 : decode cX6_type 42 = .ok (.getfield 12, 3) := by decide +kernel
theorem dX6_type_45 : decode cX6_type 45 = .ok (.lload_n 1, 1) := by decide +kernel
theorem dX6_type_46 : decode cX6_type 46 = .ok (.bipush 8, 2) := by decide +kernel
theorem dX6_type_48 : decode cX6_type 48 = .ok (.iload 4, 2) := by decide +kernel
theorem dX6_type_50 : decode cX6_type 50 = .ok (.imul, 1) := by decide +kernel
theorem dX6_type_51 : decode cX6_type 51 = .ok (.lushr, 1) := by decide +kernel
theorem dX6_type_52 : decode cX6_type 52 = .ok (.l2i, 1) := by decide +kernel
theorem dX6_type_53 : decode cX6_type 53 = .ok (.sipush 255, 3) := by decide +kernel
theorem dX6_type_56 : decode cX6_type 56 = .ok (.iand, 1) := by decide +kernel
theorem dX6_type_57 : decode cX6_type 57 = .ok (.invokevirtual 52, 3) := by decide +kernel
theorem dX6_type_60 : decode cX6_type 60 = .ok (.iinc 4 (-1), 3) := by decide +kernel
theorem dX6_type_63 : decode cX6_type 63 = .ok (.goto (-27), 3) := by decide +kernel
theorem dX6_type_66 : decode cX6_type 66 = .ok (.aload_n 0, 1) := by decide +kernel
theorem dX6_type_67 : decode cX6_type 67 = .ok (.getfield 12, 3) := by decide +kernel
theorem dX6_type_70 : decode cX6_type 70 = .ok (.getfield 48, 3) := by decide +kernel
theorem dX6_type_73 : decode cX6_type 73 = .ok (.ireturn, 1) := by decide +kernel
theorem dX6_clear_0 : decode cX6_clear 0 = .ok (.aload_n 0, 1) := by decide +kernel
theorem dX6_clear_1 : decode cX6_clear 1 = .ok (.getfield 12, 3) := by decide +kernel
theorem dX6_clear_4 : decode cX6_clear 4 = .ok (.getfield 48, 3) := by decide +kernel
theorem dX6_clear_7 : decode cX6_clear 7 = .ok (.istore_n 1, 1) := by decide +kernel
theorem dX6_clear_8 : decode cX6_clear 8 = .ok (.aload_n 0, 1) := by decide +kernel
theorem dX6_clear_9 : decode cX6_clear 9 = .ok (.getfield 12, 3) := by decide +kernel
theorem dX6_clear_12 : decode cX6_clear 12 = .ok (.iconst 0, 1) := by decide +kernel
theorem dX6_clear_13 : decode cX6_clear 13 = .ok (.putfield 48, 3) := by decide +kernel
theorem dX6_clear_16 : decode cX6_clear 16 = .ok (.iload_n 1, 1) := by decide +kernel
theorem dX6_clear_17 : decode cX6_clear 17 = .ok (.ireturn, 1) := by decide +kernel
theorem dX6_tongue_0 : decode cX6_tongue 0 = .ok (.aload_n 0, 1) := by decide +kernel
theorem dX6_tongue_1 : decode cX6_tongue 1 = .ok (.getfield 41, 3) := by decide +kernel
theorem dX6_tongue_4 : decode cX6_tongue 4 = .ok (.aload_n 0, 1) := by decide +kernel
theorem dX6_tongue_5 : decode cX6_tongue 5 = .ok (.getfield 12, 3) := by decide +kernel
theorem dX6_tongue_8 : decode cX6_tongue 8 = .ok (.invokevirtual 56, 3) := by decide +kernel
theorem dX6_tongue_11 : decode cX6_tongue 11 = .ok (.ifCond .ne 14, 3) := by decide +kernel
theorem dX6_tongue_14 : decode cX6_tongue 14 = .ok (.bipush (-10), 2) := by decide +kernel
theorem dX6_tongue_16 : decode cX6_tongue 16 = .ok (.aload_n 0, 1) := by decide +kernel
theorem dX6_tongue_17 : decode cX6_tongue 17 = .ok (.getfield 12, 3) := by decide +kernel
theorem dX6_tongue_20 : decode cX6_tongue 20 = .ok (.getfield 60, 3) := by decide +kernel
theorem dX6_tongue_23 : decode cX6_tongue 23 = .ok (.isub, 1) := by decide +kernel
theorem dX6_tongue_24 : decode cX6_tongue 24 = .ok (.ireturn, 1) := by decide +kernel
theorem dX6_tongue_25 : decode cX6_tongue 25 = .ok (.aload_n 0, 1) := by decide +kernel
theorem dX6_tongue_26 : decode cX6_tongue 26 = .ok (.getfield 37, 3) := by decide +kernel
theorem dX6_tongue_29 : decode cX6_tongue 29 = .ok (.astore_n 1, 1) := by decide +kernel
theorem dX6_tongue_30 : decode cX6_tongue 30 = .ok (.aload_n 0, 1) := by decide +kernel
theorem dX6_tongue_31 : decode cX6_tongue 31 = .ok (.aload_n 0, 1) := by decide +kernel
theorem dX6_tongue_32 : decode cX6_tongue 32 = .ok (.getfield 41, 3) := by decide +kernel
theorem dX6_tongue_35 : decode cX6_tongue 35 = .ok (.putfield 37, 3) := by decide +kernel
theorem dX6_tongue_38 : decode cX6_tongue 38 = .ok (.aload_n 0, 1) := by decide +kernel
theorem dX6_tongue_39 : decode cX6_tongue 39 = .ok (.aload_n 1, 1) := by decide +kernel
theorem dX6_tongue_40 : decode cX6_tongue 40 = .ok (.putfield 41, 3) := by decide +kernel
theorem dX6_tongue_43 : decode cX6_tongue 43 = .ok (.aload_n 0, 1) := by decide +kernel
theorem dX6_tongue_44 : decode cX6_tongue 44 = .ok (.getfield 12, 3) := by decide +kernel
theorem dX6_tongue_47 : decode cX6_tongue 47 = .ok (.iconst 0, 1) := by decide +kernel
theorem dX6_tongue_48 : decode cX6_tongue 48 = .ok (.putfield 48, 3) := by decide +kernel
theorem dX6_tongue_51 : decode cX6_tongue 51 = .ok (.aload_n 0, 1) := by decide +kernel
theorem dX6_tongue_52 : decode cX6_tongue 52 = .ok (.getfield 19, 3) := by decide +kernel
theorem dX6_tongue_55 : decode cX6_tongue 55 = .ok (.aload_n 0, 1) := by decide +kernel
theorem dX6_tongue_56 : decode cX6_tongue 56 = .ok (.getfield 37, 3) := by decide +kernel
theorem dX6_tongue_59 : decode cX6_tongue 59 = .ok (.invokevirtual 63, 3) := by decide +kernel
theorem dX6_tongue_62 : decode cX6_tongue 62 = .ok (.aload_n 0, 1) := by decide +kernel
theorem dX6_tongue_63 : decode cX6_tongue 63 = .ok (.getfield 26, 3) := by decide +kernel
theorem dX6_tongue_66 : decode cX6_tongue 66 = .ok (.iconst 0, 1) := by decide +kernel
theorem dX6_tongue_67 : decode cX6_tongue 67 = .ok (.putfield 67, 3) := by decide +kernel
theorem dX6_tongue_70 : decode cX6_tongue 70 = .ok (.iconst 0, 1) := by decide +kernel
theorem dX6_tongue_71 : decode cX6_tongue 71 = .ok (.istore_n 2, 1) := by decide +kernel
theorem dX6_tongue_72 : decode cX6_tongue 72 = .ok (.iload_n 2, 1) := by decide +kernel
theorem dX6_tongue_73 : decode cX6_tongue 73 = .ok (.iconst 2, 1) := by decide +kernel
theorem dX6_tongue_74 : decode cX6_tongue 74 = .ok (.if_icmp .ge 19, 3) := by decide +kernel
theorem dX6_tongue_77 : decode cX6_tongue 77 = .ok (.aload_n 0, 1) := by decide +kernel
theorem dX6_tongue_78 : decode cX6_tongue 78 = .ok (.getfield 30, 3) := by decide +kernel
theorem dX6_tongue_81 : decode cX6_tongue 81 = .ok (.iload_n 2, 1) := by decide +kernel
theorem dX6_tongue_82 : decode cX6_tongue 82 = .ok (.aaload, 1) := by decide +kernel
theorem dX6_tongue_83 : decode cX6_tongue 83 = .ok (.iconst 0, 1) := by decide +kernel
theorem dX6_tongue_84 : decode cX6_tongue 84 = .ok (.putfield 70, 3) := by decide +kernel
theorem dX6_tongue_87 : decode cX6_tongue 87 = .ok (.iinc 2 1, 3) := by decide +kernel
theorem dX6_tongue_90 : decode cX6_tongue 90 = .ok (.goto (-18), 3) := by decide +kernel
theorem dX6_tongue_93 : decode cX6_tongue 93 = .ok (.aload_n 0, 1) := by decide +kernel
theorem dX6_tongue_94 : decode cX6_tongue 94 = .ok (.getfield 37, 3) := by decide +kernel
theorem dX6_tongue_97 : decode cX6_tongue 97 = .ok (.getfield 74, 3) := by decide +kernel
theorem dX6_tongue_100 : decode cX6_tongue 100 = .ok (.aload_n 0, 1) := by decide +kernel
theorem dX6_tongue_101 : decode cX6_tongue 101 = .ok (.getfield 37, 3) := by decide +kernel
theorem dX6_tongue_104 : decode cX6_tongue 104 = .ok (.getfield 77, 3) := by decide +kernel
theorem dX6_tongue_107 : decode cX6_tongue 107 = .ok (.iadd, 1) := by decide +kernel
theorem dX6_tongue_108 : decode cX6_tongue 108 = .ok (.ireturn, 1) := by decide +kernel
theorem dX6_word_0 : decode cX6_word 0 = .ok (.aload_n 0, 1) := by decide +kernel
theorem dX6_word_1 : decode cX6_word 1 = .ok (.iload_n 1, 1) := by decide +kernel
theorem dX6_word_2 : decode cX6_word 2 = .ok (.invokevirtual 80, 3) := by decide +kernel
theorem dX6_word_5 : decode cX6_word 5 = .ok (.ifCond .ne 5, 3) := by decide +kernel
theorem dX6_word_8 : decode cX6_word 8 = .ok (.iconst (-1), 1) := by decide +kernel
theorem dX6_word_9 : decode cX6_word 9 = .ok (.ireturn, 1) := by decide +kernel
theorem dX6_word_10 : decode cX6_word 10 = .ok (.aload_n 0, 1) := by decide +kernel
theorem dX6_word_11 : decode cX6_word 11 = .ok (.getfield 37, 3) := by decide +kernel
theorem dX6_word_14 : decode cX6_word 14 = .ok (.getfield 84, 3) := by decide +kernel
theorem dX6_word_17 : decode cX6_word 17 = .ok (.iload_n 1, 1) := by decide +kernel
theorem dX6_word_18 : decode cX6_word 18 = .ok (.aaload, 1) := by decide +kernel
theorem dX6_word_19 : decode cX6_word 19 = .ok (.astore_n 3, 1) := by decide +kernel
theorem dX6_word_20 : decode cX6_word 20 = .ok (.iload_n 2, 1) := by decide +kernel
theorem dX6_word_21 : decode cX6_word 21 = .ok (.tableswitch 51 0 3 #[31, 36, 41, 46], 31) := by decide +kernel
theorem dX6_word_52 : decode cX6_word 52 = .ok (.aload_n 3, 1) := by decide +kernel
theorem dX6_word_53 : decode cX6_word 53 = .ok (.getfield 88, 3) := by decide +kernel
theorem dX6_word_56 : decode cX6_word 56 = .ok (.ireturn, 1) := by decide +kernel
theorem dX6_word_57 : decode cX6_word 57 = .ok (.aload_n 3, 1) := by decide +kernel
theorem dX6_word_58 : decode cX6_word 58 = .ok (.getfield 91, 3) := by decide +kernel
theorem dX6_word_61 : decode cX6_word 61 = .ok (.ireturn, 1) := by decide +kernel
theorem dX6_word_62 : decode cX6_word 62 = .ok (.aload_n 3, 1) := by decide +kernel
theorem dX6_word_63 : decode cX6_word 63 = .ok (.getfield 94, 3) := by decide +kernel
theorem dX6_word_66 : decode cX6_word 66 = .ok (.ireturn, 1) := by decide +kernel
theorem dX6_word_67 : decode cX6_word 67 = .ok (.aload_n 3, 1) := by decide +kernel
theorem dX6_word_68 : decode cX6_word 68 = .ok (.getfield 97, 3) := by decide +kernel
theorem dX6_word_71 : decode cX6_word 71 = .ok (.ireturn, 1) := by decide +kernel
theorem dX6_word_72 : decode cX6_word 72 = .ok (.iconst (-1), 1) := by decide +kernel
theorem dX6_word_73 : decode cX6_word 73 = .ok (.ireturn, 1) := by decide +kernel
theorem dX6_spell_0 : decode cX6_spell 0 = .ok (.aload_n 0, 1) := by decide +kernel
theorem dX6_spell_1 : decode cX6_spell 1 = .ok (.iload_n 1, 1) := by decide +kernel
theorem dX6_spell_2 : decode cX6_spell 2 = .ok (.invokevirtual 80, 3) := by decide +kernel
theorem dX6_spell_5 : decode cX6_spell 5 = .ok (.ifCond .eq 7, 3) := by decide +kernel
theorem dX6_spell_8 : decode cX6_spell 8 = .ok (.iload_n 2, 1) := by decide +kernel
theorem dX6_spell_9 : decode cX6_spell 9 = .ok (.ifCond .ge 5, 3) := by decide +kernel
theorem dX6_spell_12 : decode cX6_spell 12 = .ok (.iconst (-1), 1) := by decide +kernel
theorem dX6_spell_13 : decode cX6_spell 13 = .ok (.ireturn, 1) := by decide +kernel
theorem dX6_spell_14 : decode cX6_spell 14 = .ok (.aload_n 0, 1) := by decide +kernel
theorem dX6_spell_15 : decode cX6_spell 15 = .ok (.getfield 37, 3) := by decide +kernel
theorem dX6_spell_18 : decode cX6_spell 18 = .ok (.getfield 84, 3) := by decide +kernel
theorem dX6_spell_21 : decode cX6_spell 21 = .ok (.iload_n 1, 1) := by decide +kernel
theorem dX6_spell_22 : decode cX6_spell 22 = .ok (.aaload, 1) := by decide +kernel
theorem dX6_spell_23 : decode cX6_spell 23 = .ok (.astore_n 3, 1) := by decide +kernel
theorem dX6_spell_24 : decode cX6_spell 24 = .ok (.iload_n 2, 1) := by decide +kernel
theorem dX6_spell_25 : decode cX6_spell 25 = .ok (.aload_n 3, 1) := by decide +kernel
theorem dX6_spell_26 : decode cX6_spell 26 = .ok (.getfield 88, 3) := by decide +kernel
theorem dX6_spell_29 : decode cX6_spell 29 = .ok (.if_icmp .ge 12, 3) := by decide +kernel
theorem dX6_spell_32 : decode cX6_spell 32 = .ok (.aload_n 3, 1) := by decide +kernel
theorem dX6_spell_33 : decode cX6_spell 33 = .ok (.getfield 100, 3) := by decide +kernel
theorem dX6_spell_36 : decode cX6_spell 36 = .ok (.iload_n 2, 1) := by decide +kernel
theorem dX6_spell_37 : decode cX6_spell 37 = .ok (.iaload, 1) := by decide +kernel
theorem dX6_spell_38 : decode cX6_spell 38 = .ok (.goto 5, 3) := by decide +kernel
theorem dX6_spell_41 : decode cX6_spell 41 = .ok (.bipush (-5), 2) := by decide +kernel
theorem dX6_spell_43 : decode cX6_spell 43 = .ok (.ireturn, 1) := by decide +kernel
theorem dX6_shape_0 : decode cX6_shape 0 = .ok (.aload_n 0, 1) := by decide +kernel
theorem dX6_shape_1 : decode cX6_shape 1 = .ok (.iload_n 1, 1) := by decide +kernel
theorem dX6_shape_2 : decode cX6_shape 2 = .ok (.invokevirtual 104, 3) := by decide +kernel
theorem dX6_shape_5 : decode cX6_shape 5 = .ok (.ifCond .eq 7, 3) := by decide +kernel
theorem dX6_shape_8 : decode cX6_shape 8 = .ok (.iload_n 2, 1) := by decide +kernel
theorem dX6_shape_9 : decode cX6_shape 9 = .ok (.ifCond .ge 5, 3) := by decide +kernel
theorem dX6_shape_12 : decode cX6_shape 12 = .ok (.iconst (-1), 1) := by decide +kernel
theorem dX6_shape_13 : decode cX6_shape 13 = .ok (.ireturn, 1) := by decide +kernel
theorem dX6_shape_14 : decode cX6_shape 14 = .ok (.aload_n 0, 1) := by decide +kernel
theorem dX6_shape_15 : decode cX6_shape 15 = .ok (.getfield 37, 3) := by decide +kernel
theorem dX6_shape_18 : decode cX6_shape 18 = .ok (.getfield 107, 3) := by decide +kernel
theorem dX6_shape_21 : decode cX6_shape 21 = .ok (.iload_n 1, 1) := by decide +kernel
theorem dX6_shape_22 : decode cX6_shape 22 = .ok (.aaload, 1) := by decide +kernel
theorem dX6_shape_23 : decode cX6_shape 23 = .ok (.astore_n 3, 1) := by decide +kernel
theorem dX6_shape_24 : decode cX6_shape 24 = .ok (.iload_n 2, 1) := by decide +kernel
theorem dX6_shape_25 : decode cX6_shape 25 = .ok (.aload_n 3, 1) := by decide +kernel
theorem dX6_shape_26 : decode cX6_shape 26 = .ok (.getfield 111, 3) := by decide +kernel
theorem dX6_shape_29 : decode cX6_shape 29 = .ok (.if_icmp .ge 12, 3) := by decide +kernel
theorem dX6_shape_32 : decode cX6_shape 32 = .ok (.aload_n 3, 1) := by decide +kernel
theorem dX6_shape_33 : decode cX6_shape 33 = .ok (.getfield 114, 3) := by decide +kernel
theorem dX6_shape_36 : decode cX6_shape 36 = .ok (.iload_n 2, 1) := by decide +kernel
theorem dX6_shape_37 : decode cX6_shape 37 = .ok (.iaload, 1) := by decide +kernel
theorem dX6_shape_38 : decode cX6_shape 38 = .ok (.goto 5, 3) := by decide +kernel
theorem dX6_shape_41 : decode cX6_shape 41 = .ok (.bipush (-5), 2) := by decide +kernel
theorem dX6_shape_43 : decode cX6_shape 43 = .ok (.ireturn, 1) := by decide +kernel
theorem dX6_letter_0 : decode cX6_letter 0 = .ok (.aload_n 0, 1) := by decide +kernel
theorem dX6_letter_1 : decode cX6_letter 1 = .ok (.getfield 19, 3) := by decide +kernel
end
section
theorem dX6_letter_4 : decode cX6_letter 4 = .ok (.iload_n 1, 1) := by decide +kernel
theorem dX6_letter_5 : decode cX6_letter 5 = .ok (.invokevirtual 117, 3) := by decide +kernel
theorem dX6_letter_8 : decode cX6_letter 8 = .ok (.ifCond .ne 5, 3) := by decide +kernel
theorem dX6_letter_11 : decode cX6_letter 11 = .ok (.iconst (-1), 1) := by decide +kernel
theorem dX6_letter_12 : decode cX6_letter 12 = .ok (.ireturn, 1) := by decide +kernel
theorem dX6_letter_13 : decode cX6_letter 13 = .ok (.iload_n 2, 1) := by decide +kernel
theorem dX6_letter_14 : decode cX6_letter 14 = .ok (.tableswitch 56 0 2 #[26, 36, 46], 26) := by decide +kernel
theorem dX6_letter_40 : decode cX6_letter 40 = .ok (.aload_n 0, 1) := by decide +kernel
theorem dX6_letter_41 : decode cX6_letter 41 = .ok (.getfield 19, 3) := by decide +kernel
theorem dX6_letter_44 : decode cX6_letter 44 = .ok (.getfield 120, 3) := by decide +kernel
theorem dX6_letter_47 : decode cX6_letter 47 = .ok (.iload_n 1, 1) := by decide +kernel
theorem dX6_letter_48 : decode cX6_letter 48 = .ok (.iaload, 1) := by decide +kernel
theorem dX6_letter_49 : decode cX6_letter 49 = .ok (.ireturn, 1) := by decide +kernel
theorem dX6_letter_50 : decode cX6_letter 50 = .ok (.aload_n 0, 1) := by decide +kernel
theorem dX6_letter_51 : decode cX6_letter 51 = .ok (.getfield 19, 3) := by decide +kernel
theorem dX6_letter_54 : decode cX6_letter 54 = .ok (.getfield 122, 3) := by decide +kernel
theorem dX6_letter_57 : decode cX6_letter 57 = .ok (.iload_n 1, 1) := by decide +kernel
theorem dX6_letter_58 : decode cX6_letter 58 = .ok (.iaload, 1) := by decide +kernel
theorem dX6_letter_59 : decode cX6_letter 59 = .ok (.ireturn, 1) := by decide +kernel
theorem dX6_letter_60 : decode cX6_letter 60 = .ok (.aload_n 0, 1) := by decide +kernel
theorem dX6_letter_61 : decode cX6_letter 61 = .ok (.getfield 19, 3) := by decide +kernel
theorem dX6_letter_64 : decode cX6_letter 64 = .ok (.getfield 124, 3) := by decide +kernel
theorem dX6_letter_67 : decode cX6_letter 67 = .ok (.iload_n 1, 1) := by decide +kernel
theorem dX6_letter_68 : decode cX6_letter 68 = .ok (.iaload, 1) := by decide +kernel
theorem dX6_letter_69 : decode cX6_letter 69 = .ok (.ireturn, 1) := by decide +kernel
theorem dX6_letter_70 : decode cX6_letter 70 = .ok (.iconst (-1), 1) := by decide +kernel
theorem dX6_letter_71 : decode cX6_letter 71 = .ok (.ireturn, 1) := by decide +kernel
theorem dX6_has_0 : decode cX6_has 0 = .ok (.aload_n 0, 1) := by decide +kernel
theorem dX6_has_1 : decode cX6_has 1 = .ok (.getfield 19, 3) := by decide +kernel
theorem dX6_has_4 : decode cX6_has 4 = .ok (.iload_n 1, 1) := by decide +kernel
theorem dX6_has_5 : decode cX6_has 5 = .ok (.invokevirtual 117, 3) := by decide +kernel
theorem dX6_has_8 : decode cX6_has 8 = .ok (.ifCond .eq 13, 3) := by decide +kernel
theorem dX6_has_11 : decode cX6_has 11 = .ok (.iload_n 2, 1) := by decide +kernel
theorem dX6_has_12 : decode cX6_has 12 = .ok (.ifCond .lt 9, 3) := by decide +kernel
theorem dX6_has_15 : decode cX6_has 15 = .ok (.iload_n 2, 1) := by decide +kernel
theorem dX6_has_16 : decode cX6_has 16 = .ok (.bipush 8, 2) := by decide +kernel
theorem dX6_has_18 : decode cX6_has 18 = .ok (.if_icmp .lt 5, 3) := by decide +kernel
theorem dX6_has_21 : decode cX6_has 21 = .ok (.iconst (-1), 1) := by decide +kernel
theorem dX6_has_22 : decode cX6_has 22 = .ok (.ireturn, 1) := by decide +kernel
theorem dX6_has_23 : decode cX6_has 23 = .ok (.aload_n 0, 1) := by decide +kernel
theorem dX6_has_24 : decode cX6_has 24 = .ok (.getfield 19, 3) := by decide +kernel
theorem dX6_has_27 : decode cX6_has 27 = .ok (.iload_n 1, 1) := by decide +kernel
theorem dX6_has_28 : decode cX6_has 28 = .ok (.iload_n 2, 1) := by decide +kernel
theorem dX6_has_29 : decode cX6_has 29 = .ok (.invokevirtual 126, 3) := by decide +kernel
theorem dX6_has_32 : decode cX6_has 32 = .ok (.ireturn, 1) := by decide +kernel
theorem dX6_write_0 : decode cX6_write 0 = .ok (.aload_n 0, 1) := by decide +kernel
theorem dX6_write_1 : decode cX6_write 1 = .ok (.getfield 19, 3) := by decide +kernel
theorem dX6_write_4 : decode cX6_write 4 = .ok (.iload_n 1, 1) := by decide +kernel
theorem dX6_write_5 : decode cX6_write 5 = .ok (.invokevirtual 117, 3) := by decide +kernel
theorem dX6_write_8 : decode cX6_write 8 = .ok (.ifCond .ne 5, 3) := by decide +kernel
theorem dX6_write_11 : decode cX6_write 11 = .ok (.iconst (-1), 1) := by decide +kernel
theorem dX6_write_12 : decode cX6_write 12 = .ok (.ireturn, 1) := by decide +kernel
theorem dX6_write_13 : decode cX6_write 13 = .ok (.aload_n 0, 1) := by decide +kernel
theorem dX6_write_14 : decode cX6_write 14 = .ok (.getfield 26, 3) := by decide +kernel
theorem dX6_write_17 : decode cX6_write 17 = .ok (.getfield 67, 3) := by decide +kernel
theorem dX6_write_20 : decode cX6_write 20 = .ok (.ifCond .le 34, 3) := by decide +kernel
theorem dX6_write_23 : decode cX6_write 23 = .ok (.aload_n 0, 1) := by decide +kernel
theorem dX6_write_24 : decode cX6_write 24 = .ok (.getfield 19, 3) := by decide +kernel
theorem dX6_write_27 : decode cX6_write 27 = .ok (.aload_n 0, 1) := by decide +kernel
theorem dX6_write_28 : decode cX6_write 28 = .ok (.getfield 26, 3) := by decide +kernel
theorem dX6_write_31 : decode cX6_write 31 = .ok (.getfield 130, 3) := by decide +kernel
theorem dX6_write_34 : decode cX6_write 34 = .ok (.aload_n 0, 1) := by decide +kernel
theorem dX6_write_35 : decode cX6_write 35 = .ok (.getfield 26, 3) := by decide +kernel
theorem dX6_write_38 : decode cX6_write 38 = .ok (.getfield 67, 3) := by decide +kernel
theorem dX6_write_41 : decode cX6_write 41 = .ok (.iconst 1, 1) := by decide +kernel
theorem dX6_write_42 : decode cX6_write 42 = .ok (.isub, 1) := by decide +kernel
theorem dX6_write_43 : decode cX6_write 43 = .ok (.iaload, 1) := by decide +kernel
theorem dX6_write_44 : decode cX6_write 44 = .ok (.iload_n 1, 1) := by decide +kernel
theorem dX6_write_45 : decode cX6_write 45 = .ok (.invokevirtual 133, 3) := by decide +kernel
theorem dX6_write_48 : decode cX6_write 48 = .ok (.ifCond .ne 6, 3) := by decide +kernel
theorem dX6_write_51 : decode cX6_write 51 = .ok (.bipush (-2), 2) := by decide +kernel
theorem dX6_write_53 : decode cX6_write 53 = .ok (.ireturn, 1) := by decide +kernel
theorem dX6_write_54 : decode cX6_write 54 = .ok (.aload_n 0, 1) := by decide +kernel
theorem dX6_write_55 : decode cX6_write 55 = .ok (.getfield 26, 3) := by decide +kernel
theorem dX6_write_58 : decode cX6_write 58 = .ok (.getfield 67, 3) := by decide +kernel
theorem dX6_write_61 : decode cX6_write 61 = .ok (.bipush 12, 2) := by decide +kernel
theorem dX6_write_63 : decode cX6_write 63 = .ok (.if_icmp .lt 6, 3) := by decide +kernel
theorem dX6_write_66 : decode cX6_write 66 = .ok (.bipush (-3), 2) := by decide +kernel
theorem dX6_write_68 : decode cX6_write 68 = .ok (.ireturn, 1) := by decide +kernel
theorem dX6_write_69 : decode cX6_write 69 = .ok (.aload_n 0, 1) := by decide +kernel
theorem dX6_write_70 : decode cX6_write 70 = .ok (.getfield 26, 3) := by decide +kernel
theorem dX6_write_73 : decode cX6_write 73 = .ok (.getfield 130, 3) := by decide +kernel
theorem dX6_write_76 : decode cX6_write 76 = .ok (.aload_n 0, 1) := by decide +kernel
theorem dX6_write_77 : decode cX6_write 77 = .ok (.getfield 26, 3) := by decide +kernel
theorem dX6_write_80 : decode cX6_write 80 = .ok (.getfield 67, 3) := by decide +kernel
theorem dX6_write_83 : decode cX6_write 83 = .ok (.iload_n 1, 1) := by decide +kernel
theorem dX6_write_84 : decode cX6_write 84 = .ok (.iastore, 1) := by decide +kernel
theorem dX6_write_85 : decode cX6_write 85 = .ok (.aload_n 0, 1) := by decide +kernel
theorem dX6_write_86 : decode cX6_write 86 = .ok (.getfield 26, 3) := by decide +kernel
theorem dX6_write_89 : decode cX6_write 89 = .ok (.dup, 1) := by decide +kernel
theorem dX6_write_90 : decode cX6_write 90 = .ok (.getfield 67, 3) := by decide +kernel
theorem dX6_write_93 : decode cX6_write 93 = .ok (.iconst 1, 1) := by decide +kernel
theorem dX6_write_94 : decode cX6_write 94 = .ok (.iadd, 1) := by decide +kernel
theorem dX6_write_95 : decode cX6_write 95 = .ok (.putfield 67, 3) := by decide +kernel
theorem dX6_write_98 : decode cX6_write 98 = .ok (.aload_n 0, 1) := by decide +kernel
theorem dX6_write_99 : decode cX6_write 99 = .ok (.getfield 26, 3) := by decide +kernel
theorem dX6_write_102 : decode cX6_write 102 = .ok (.getfield 67, 3) := by decide +kernel
theorem dX6_write_105 : decode cX6_write 105 = .ok (.ireturn, 1) := by decide +kernel
theorem dX6_undo_0 : decode cX6_undo 0 = .ok (.aload_n 0, 1) := by decide +kernel
theorem dX6_undo_1 : decode cX6_undo 1 = .ok (.getfield 26, 3) := by decide +kernel
theorem dX6_undo_4 : decode cX6_undo 4 = .ok (.getfield 67, 3) := by decide +kernel
theorem dX6_undo_7 : decode cX6_undo 7 = .ok (.ifCond .gt 6, 3) := by decide +kernel
theorem dX6_undo_10 : decode cX6_undo 10 = .ok (.bipush (-2), 2) := by decide +kernel
theorem dX6_undo_12 : decode cX6_undo 12 = .ok (.ireturn, 1) := by decide +kernel
theorem dX6_undo_13 : decode cX6_undo 13 = .ok (.aload_n 0, 1) := by decide +kernel
theorem dX6_undo_14 : decode cX6_undo 14 = .ok (.getfield 26, 3) := by decide +kernel
theorem dX6_undo_17 : decode cX6_undo 17 = .ok (.dup, 1) := by decide +kernel
theorem dX6_undo_18 : decode cX6_undo 18 = .ok (.getfield 67, 3) := by decide +kernel
theorem dX6_undo_21 : decode cX6_undo 21 = .ok (.iconst 1, 1) := by decide +kernel
theorem dX6_undo_22 : decode cX6_undo 22 = .ok (.isub, 1) := by decide +kernel
theorem dX6_undo_23 : decode cX6_undo 23 = .ok (.putfield 67, 3) := by decide +kernel
theorem dX6_undo_26 : decode cX6_undo 26 = .ok (.aload_n 0, 1) := by decide +kernel
theorem dX6_undo_27 : decode cX6_undo 27 = .ok (.getfield 26, 3) := by decide +kernel
theorem dX6_undo_30 : decode cX6_undo 30 = .ok (.getfield 67, 3) := by decide +kernel
theorem dX6_undo_33 : decode cX6_undo 33 = .ok (.ireturn, 1) := by decide +kernel
theorem dX6_wrote_0 : decode cX6_wrote 0 = .ok (.iload_n 1, 1) := by decide +kernel
theorem dX6_wrote_1 : decode cX6_wrote 1 = .ok (.ifCond .ge 5, 3) := by decide +kernel
theorem dX6_wrote_4 : decode cX6_wrote 4 = .ok (.iconst (-1), 1) := by decide +kernel
theorem dX6_wrote_5 : decode cX6_wrote 5 = .ok (.ireturn, 1) := by decide +kernel
theorem dX6_wrote_6 : decode cX6_wrote 6 = .ok (.iload_n 1, 1) := by decide +kernel
theorem dX6_wrote_7 : decode cX6_wrote 7 = .ok (.aload_n 0, 1) := by decide +kernel
theorem dX6_wrote_8 : decode cX6_wrote 8 = .ok (.getfield 26, 3) := by decide +kernel
theorem dX6_wrote_11 : decode cX6_wrote 11 = .ok (.getfield 67, 3) := by decide +kernel
theorem dX6_wrote_14 : decode cX6_wrote 14 = .ok (.if_icmp .ge 15, 3) := by decide +kernel
theorem dX6_wrote_17 : decode cX6_wrote 17 = .ok (.aload_n 0, 1) := by decide +kernel
theorem dX6_wrote_18 : decode cX6_wrote 18 = .ok (.getfield 26, 3) := by decide +kernel
theorem dX6_wrote_21 : decode cX6_wrote 21 = .ok (.getfield 130, 3) := by decide +kernel
theorem dX6_wrote_24 : decode cX6_wrote 24 = .ok (.iload_n 1, 1) := by decide +kernel
theorem dX6_wrote_25 : decode cX6_wrote 25 = .ok (.iaload, 1) := by decide +kernel
theorem dX6_wrote_26 : decode cX6_wrote 26 = .ok (.goto 5, 3) := by decide +kernel
theorem dX6_wrote_29 : decode cX6_wrote 29 = .ok (.bipush (-5), 2) := by decide +kernel
theorem dX6_wrote_31 : decode cX6_wrote 31 = .ok (.ireturn, 1) := by decide +kernel
theorem dX6_side_0 : decode cX6_side 0 = .ok (.iload_n 1, 1) := by decide +kernel
theorem dX6_side_1 : decode cX6_side 1 = .ok (.ifCond .lt 8, 3) := by decide +kernel
theorem dX6_side_4 : decode cX6_side 4 = .ok (.iload_n 1, 1) := by decide +kernel
theorem dX6_side_5 : decode cX6_side 5 = .ok (.iconst 2, 1) := by decide +kernel
theorem dX6_side_6 : decode cX6_side 6 = .ok (.if_icmp .lt 5, 3) := by decide +kernel
theorem dX6_side_9 : decode cX6_side 9 = .ok (.iconst (-1), 1) := by decide +kernel
theorem dX6_side_10 : decode cX6_side 10 = .ok (.ireturn, 1) := by decide +kernel
theorem dX6_side_11 : decode cX6_side 11 = .ok (.iconst 0, 1) := by decide +kernel
theorem dX6_side_12 : decode cX6_side 12 = .ok (.istore_n 2, 1) := by decide +kernel
theorem dX6_side_13 : decode cX6_side 13 = .ok (.iconst 0, 1) := by decide +kernel
theorem dX6_side_14 : decode cX6_side 14 = .ok (.istore_n 3, 1) := by decide +kernel
theorem dX6_side_15 : decode cX6_side 15 = .ok (.iload_n 3, 1) := by decide +kernel
theorem dX6_side_16 : decode cX6_side 16 = .ok (.aload_n 0, 1) := by decide +kernel
theorem dX6_side_17 : decode cX6_side 17 = .ok (.getfield 26, 3) := by decide +kernel
theorem dX6_side_20 : decode cX6_side 20 = .ok (.getfield 67, 3) := by decide +kernel
theorem dX6_side_23 : decode cX6_side 23 = .ok (.if_icmp .ge 53, 3) := by decide +kernel
theorem dX6_side_26 : decode cX6_side 26 = .ok (.aload_n 0, 1) := by decide +kernel
theorem dX6_side_27 : decode cX6_side 27 = .ok (.getfield 26, 3) := by decide +kernel
theorem dX6_side_30 : decode cX6_side 30 = .ok (.getfield 130, 3) := by decide +kernel
theorem dX6_side_33 : decode cX6_side 33 = .ok (.iload_n 3, 1) := by decide +kernel
theorem dX6_side_34 : decode cX6_side 34 = .ok (.iaload, 1) := by decide +kernel
theorem dX6_side_35 : decode cX6_side 35 = .ok (.istore 4, 2) := by decide +kernel
theorem dX6_side_37 : decode cX6_side 37 = .ok (.iload_n 2, 1) := by decide +kernel
theorem dX6_side_38 : decode cX6_side 38 = .ok (.iload_n 3, 1) := by decide +kernel
theorem dX6_side_39 : decode cX6_side 39 = .ok (.iconst 2, 1) := by decide +kernel
theorem dX6_side_40 : decode cX6_side 40 = .ok (.irem, 1) := by decide +kernel
theorem dX6_side_41 : decode cX6_side 41 = .ok (.iload_n 1, 1) := by decide +kernel
theorem dX6_side_42 : decode cX6_side 42 = .ok (.if_icmp .ne 16, 3) := by decide +kernel
theorem dX6_side_45 : decode cX6_side 45 = .ok (.aload_n 0, 1) := by decide +kernel
theorem dX6_side_46 : decode cX6_side 46 = .ok (.getfield 19, 3) := by decide +kernel
theorem dX6_side_49 : decode cX6_side 49 = .ok (.getfield 120, 3) := by decide +kernel
theorem dX6_side_52 : decode cX6_side 52 = .ok (.iload 4, 2) := by decide +kernel
theorem dX6_side_54 : decode cX6_side 54 = .ok (.iaload, 1) := by decide +kernel
theorem dX6_side_55 : decode cX6_side 55 = .ok (.goto 13, 3) := by decide +kernel
theorem dX6_side_58 : decode cX6_side 58 = .ok (.aload_n 0, 1) := by decide +kernel
theorem dX6_side_59 : decode cX6_side 59 = .ok (.getfield 19, 3) := by decide +kernel
theorem dX6_side_62 : decode cX6_side 62 = .ok (.getfield 122, 3) := by decide +kernel
theorem dX6_side_65 : decode cX6_side 65 = .ok (.iload 4, 2) := by decide +kernel
theorem dX6_side_67 : decode cX6_side 67 = .ok (.iaload, 1) := by decide +kernel
theorem dX6_side_68 : decode cX6_side 68 = .ok (.iadd, 1) := by decide +kernel
theorem dX6_side_69 : decode cX6_side 69 = .ok (.istore_n 2, 1) := by decide +kernel
theorem dX6_side_70 : decode cX6_side 70 = .ok (.iinc 3 1, 3) := by decide +kernel
theorem dX6_side_73 : decode cX6_side 73 = .ok (.goto (-58), 3) := by decide +kernel
theorem dX6_side_76 : decode cX6_side 76 = .ok (.iload_n 2, 1) := by decide +kernel
theorem dX6_side_77 : decode cX6_side 77 = .ok (.ireturn, 1) := by decide +kernel
theorem dX6_says_0 : decode cX6_says 0 = .ok (.iload_n 1, 1) := by decide +kernel
theorem dX6_says_1 : decode cX6_says 1 = .ok (.bipush (-2), 2) := by decide +kernel
theorem dX6_says_3 : decode cX6_says 3 = .ok (.if_icmp .ge 5, 3) := by decide +kernel
theorem dX6_says_6 : decode cX6_says 6 = .ok (.iconst (-1), 1) := by decide +kernel
theorem dX6_says_7 : decode cX6_says 7 = .ok (.ireturn, 1) := by decide +kernel
theorem dX6_says_8 : decode cX6_says 8 = .ok (.iload_n 1, 1) := by decide +kernel
theorem dX6_says_9 : decode cX6_says 9 = .ok (.bipush (-2), 2) := by decide +kernel
theorem dX6_says_11 : decode cX6_says 11 = .ok (.if_icmp .ne 11, 3) := by decide +kernel
theorem dX6_says_14 : decode cX6_says 14 = .ok (.aload_n 0, 1) := by decide +kernel
theorem dX6_says_15 : decode cX6_says 15 = .ok (.getfield 19, 3) := by decide +kernel
theorem dX6_says_18 : decode cX6_says 18 = .ok (.invokevirtual 137, 3) := by decide +kernel
theorem dX6_says_21 : decode cX6_says 21 = .ok (.ireturn, 1) := by decide +kernel
theorem dX6_says_22 : decode cX6_says 22 = .ok (.iload_n 1, 1) := by decide +kernel
theorem dX6_says_23 : decode cX6_says 23 = .ok (.iconst (-1), 1) := by decide +kernel
theorem dX6_says_24 : decode cX6_says 24 = .ok (.if_icmp .ne 13, 3) := by decide +kernel
theorem dX6_says_27 : decode cX6_says 27 = .ok (.aload_n 0, 1) := by decide +kernel
theorem dX6_says_28 : decode cX6_says 28 = .ok (.getfield 19, 3) := by decide +kernel
theorem dX6_says_31 : decode cX6_says 31 = .ok (.getfield 141, 3) := by decide +kernel
theorem dX6_says_34 : decode cX6_says 34 = .ok (.goto 11, 3) := by decide +kernel
theorem dX6_says_37 : decode cX6_says 37 = .ok (.aload_n 0, 1) := by decide +kernel
theorem dX6_says_38 : decode cX6_says 38 = .ok (.getfield 19, 3) := by decide +kernel
theorem dX6_says_41 : decode cX6_says 41 = .ok (.iload_n 1, 1) := by decide +kernel
theorem dX6_says_42 : decode cX6_says 42 = .ok (.invokevirtual 144, 3) := by decide +kernel
theorem dX6_says_45 : decode cX6_says 45 = .ok (.ireturn, 1) := by decide +kernel
theorem dX6_answers_0 : decode cX6_answers 0 = .ok (.aload_n 0, 1) := by decide +kernel
theorem dX6_answers_1 : decode cX6_answers 1 = .ok (.getfield 19, 3) := by decide +kernel
theorem dX6_answers_4 : decode cX6_answers 4 = .ok (.iload_n 1, 1) := by decide +kernel
theorem dX6_answers_5 : decode cX6_answers 5 = .ok (.invokevirtual 117, 3) := by decide +kernel
theorem dX6_answers_8 : decode cX6_answers 8 = .ok (.ifCond .eq 19, 3) := by decide +kernel
theorem dX6_answers_11 : decode cX6_answers 11 = .ok (.iload_n 2, 1) := by decide +kernel
theorem dX6_answers_12 : decode cX6_answers 12 = .ok (.invokestatic 148, 3) := by decide +kernel
theorem dX6_answers_15 : decode cX6_answers 15 = .ok (.ifCond .eq 12, 3) := by decide +kernel
theorem dX6_answers_18 : decode cX6_answers 18 = .ok (.iload_n 3, 1) := by decide +kernel
theorem dX6_answers_19 : decode cX6_answers 19 = .ok (.ifCond .lt 8, 3) := by decide +kernel
theorem dX6_answers_22 : decode cX6_answers 22 = .ok (.iload_n 3, 1) := by decide +kernel
theorem dX6_answers_23 : decode cX6_answers 23 = .ok (.iconst 1, 1) := by decide +kernel
theorem dX6_answers_24 : decode cX6_answers 24 = .ok (.if_icmp .le 5, 3) := by decide +kernel
theorem dX6_answers_27 : decode cX6_answers 27 = .ok (.iconst (-1), 1) := by decide +kernel
theorem dX6_answers_28 : decode cX6_answers 28 = .ok (.ireturn, 1) := by decide +kernel
theorem dX6_answers_29 : decode cX6_answers 29 = .ok (.iload_n 3, 1) := by decide +kernel
theorem dX6_answers_30 : decode cX6_answers 30 = .ok (.ifCond .ne 15, 3) := by decide +kernel
theorem dX6_answers_33 : decode cX6_answers 33 = .ok (.aload_n 0, 1) := by decide +kernel
theorem dX6_answers_34 : decode cX6_answers 34 = .ok (.getfield 19, 3) := by decide +kernel
theorem dX6_answers_37 : decode cX6_answers 37 = .ok (.iload_n 1, 1) := by decide +kernel
theorem dX6_answers_38 : decode cX6_answers 38 = .ok (.iload_n 2, 1) := by decide +kernel
theorem dX6_answers_39 : decode cX6_answers 39 = .ok (.invokevirtual 151, 3) := by decide +kernel
theorem dX6_answers_42 : decode cX6_answers 42 = .ok (.goto 12, 3) := by decide +kernel
theorem dX6_answers_45 : decode cX6_answers 45 = .ok (.aload_n 0, 1) := by decide +kernel
theorem dX6_answers_46 : decode cX6_answers 46 = .ok (.getfield 19, 3) := by decide +kernel
theorem dX6_answers_49 : decode cX6_answers 49 = .ok (.iload_n 1, 1) := by decide +kernel
theorem dX6_answers_50 : decode cX6_answers 50 = .ok (.iload_n 2, 1) := by decide +kernel
theorem dX6_answers_51 : decode cX6_answers 51 = .ok (.invokevirtual 154, 3) := by decide +kernel
theorem dX6_answers_54 : decode cX6_answers 54 = .ok (.ireturn, 1) := by decide +kernel
theorem dX6_mute_0 : decode cX6_mute 0 = .ok (.iload_n 1, 1) := by decide +kernel
theorem dX6_mute_1 : decode cX6_mute 1 = .ok (.ifCond .lt 8, 3) := by decide +kernel
theorem dX6_mute_4 : decode cX6_mute 4 = .ok (.iload_n 1, 1) := by decide +kernel
theorem dX6_mute_5 : decode cX6_mute 5 = .ok (.iconst 1, 1) := by decide +kernel
theorem dX6_mute_6 : decode cX6_mute 6 = .ok (.if_icmp .le 5, 3) := by decide +kernel
theorem dX6_mute_9 : decode cX6_mute 9 = .ok (.iconst (-1), 1) := by decide +kernel
theorem dX6_mute_10 : decode cX6_mute 10 = .ok (.ireturn, 1) := by decide +kernel
theorem dX6_mute_11 : decode cX6_mute 11 = .ok (.iload_n 1, 1) := by decide +kernel
theorem dX6_mute_12 : decode cX6_mute 12 = .ok (.ifCond .ne 13, 3) := by decide +kernel
theorem dX6_mute_15 : decode cX6_mute 15 = .ok (.aload_n 0, 1) := by decide +kernel
theorem dX6_mute_16 : decode cX6_mute 16 = .ok (.getfield 19, 3) := by decide +kernel
theorem dX6_mute_19 : decode cX6_mute 19 = .ok (.invokevirtual 157, 3) := by decide +kernel
theorem dX6_mute_22 : decode cX6_mute 22 = .ok (.goto 10, 3) := by decide +kernel
theorem dX6_mute_25 : decode cX6_mute 25 = .ok (.aload_n 0, 1) := by decide +kernel
theorem dX6_mute_26 : decode cX6_mute 26 = .ok (.getfield 19, 3) := by decide +kernel
theorem dX6_mute_29 : decode cX6_mute 29 = .ok (.invokevirtual 160, 3) := by decide +kernel
theorem dX6_mute_32 : decode cX6_mute 32 = .ok (.ireturn, 1) := by decide +kernel
theorem dX6_best_0 : decode cX6_best 0 = .ok (.iload_n 1, 1) := by decide +kernel
theorem dX6_best_1 : decode cX6_best 1 = .ok (.ifCond .lt 8, 3) := by decide +kernel
theorem dX6_best_4 : decode cX6_best 4 = .ok (.iload_n 1, 1) := by decide +kernel
theorem dX6_best_5 : decode cX6_best 5 = .ok (.iconst 1, 1) := by decide +kernel
theorem dX6_best_6 : decode cX6_best 6 = .ok (.if_icmp .le 5, 3) := by decide +kernel
theorem dX6_best_9 : decode cX6_best 9 = .ok (.iconst (-1), 1) := by decide +kernel
theorem dX6_best_10 : decode cX6_best 10 = .ok (.ireturn, 1) := by decide +kernel
theorem dX6_best_11 : decode cX6_best 11 = .ok (.aload_n 0, 1) := by decide +kernel
theorem dX6_best_12 : decode cX6_best 12 = .ok (.getfield 19, 3) := by decide +kernel
theorem dX6_best_15 : decode cX6_best 15 = .ok (.invokevirtual 163, 3) := by decide +kernel
theorem dX6_best_18 : decode cX6_best 18 = .ok (.istore_n 2, 1) := by decide +kernel
theorem dX6_best_19 : decode cX6_best 19 = .ok (.iload_n 2, 1) := by decide +kernel
theorem dX6_best_20 : decode cX6_best 20 = .ok (.ifCond .ne 6, 3) := by decide +kernel
theorem dX6_best_23 : decode cX6_best 23 = .ok (.bipush (-9), 2) := by decide +kernel
theorem dX6_best_25 : decode cX6_best 25 = .ok (.ireturn, 1) := by decide +kernel
theorem dX6_best_26 : decode cX6_best 26 = .ok (.iload_n 1, 1) := by decide +kernel
theorem dX6_best_27 : decode cX6_best 27 = .ok (.ifCond .ne 7, 3) := by decide +kernel
theorem dX6_best_30 : decode cX6_best 30 = .ok (.iload_n 2, 1) := by decide +kernel
theorem dX6_best_31 : decode cX6_best 31 = .ok (.goto 20, 3) := by decide +kernel
theorem dX6_best_34 : decode cX6_best 34 = .ok (.aload_n 0, 1) := by decide +kernel
theorem dX6_best_35 : decode cX6_best 35 = .ok (.getfield 19, 3) := by decide +kernel
theorem dX6_best_38 : decode cX6_best 38 = .ok (.getfield 122, 3) := by decide +kernel
theorem dX6_best_41 : decode cX6_best 41 = .ok (.aload_n 0, 1) := by decide +kernel
theorem dX6_best_42 : decode cX6_best 42 = .ok (.getfield 19, 3) := by decide +kernel
theorem dX6_best_45 : decode cX6_best 45 = .ok (.getfield 166, 3) := by decide +kernel
theorem dX6_best_48 : decode cX6_best 48 = .ok (.iload_n 2, 1) := by decide +kernel
theorem dX6_best_49 : decode cX6_best 49 = .ok (.iaload, 1) := by decide +kernel
theorem dX6_best_50 : decode cX6_best 50 = .ok (.iaload, 1) := by decide +kernel
theorem dX6_best_51 : decode cX6_best 51 = .ok (.ireturn, 1) := by decide +kernel
theorem dX6_bar_0 : decode cX6_bar 0 = .ok (.aload_n 0, 1) := by decide +kernel
theorem dX6_bar_1 : decode cX6_bar 1 = .ok (.getfield 19, 3) := by decide +kernel
theorem dX6_bar_4 : decode cX6_bar 4 = .ok (.iload_n 1, 1) := by decide +kernel
theorem dX6_bar_5 : decode cX6_bar 5 = .ok (.invokevirtual 117, 3) := by decide +kernel
theorem dX6_bar_8 : decode cX6_bar 8 = .ok (.ifCond .eq 10, 3) := by decide +kernel
theorem dX6_bar_11 : decode cX6_bar 11 = .ok (.iload_n 2, 1) := by decide +kernel
theorem dX6_bar_12 : decode cX6_bar 12 = .ok (.invokestatic 148, 3) := by decide +kernel
theorem dX6_bar_15 : decode cX6_bar 15 = .ok (.ifCond .ne 5, 3) := by decide +kernel
theorem dX6_bar_18 : decode cX6_bar 18 = .ok (.iconst (-1), 1) := by decide +kernel
theorem dX6_bar_19 : decode cX6_bar 19 = .ok (.ireturn, 1) := by decide +kernel
theorem dX6_bar_20 : decode cX6_bar 20 = .ok (.aload_n 0, 1) := by decide +kernel
theorem dX6_bar_21 : decode cX6_bar 21 = .ok (.getfield 19, 3) := by decide +kernel
theorem dX6_bar_24 : decode cX6_bar 24 = .ok (.iload_n 1, 1) := by decide +kernel
theorem dX6_bar_25 : decode cX6_bar 25 = .ok (.iload_n 2, 1) := by decide +kernel
theorem dX6_bar_26 : decode cX6_bar 26 = .ok (.invokevirtual 169, 3) := by decide +kernel
theorem dX6_bar_29 : decode cX6_bar 29 = .ok (.ireturn, 1) := by decide +kernel
theorem dX6_chain_0 : decode cX6_chain 0 = .ok (.aload_n 0, 1) := by decide +kernel
theorem dX6_chain_1 : decode cX6_chain 1 = .ok (.getfield 19, 3) := by decide +kernel
theorem dX6_chain_4 : decode cX6_chain 4 = .ok (.iload_n 1, 1) := by decide +kernel
theorem dX6_chain_5 : decode cX6_chain 5 = .ok (.invokevirtual 117, 3) := by decide +kernel
theorem dX6_chain_8 : decode cX6_chain 8 = .ok (.ifCond .eq 13, 3) := by decide +kernel
theorem dX6_chain_11 : decode cX6_chain 11 = .ok (.iload_n 2, 1) := by decide +kernel
theorem dX6_chain_12 : decode cX6_chain 12 = .ok (.ifCond .lt 9, 3) := by decide +kernel
theorem dX6_chain_15 : decode cX6_chain 15 = .ok (.iload_n 2, 1) := by decide +kernel
theorem dX6_chain_16 : decode cX6_chain 16 = .ok (.bipush 99, 2) := by decide +kernel
theorem dX6_chain_18 : decode cX6_chain 18 = .ok (.if_icmp .le 5, 3) := by decide +kernel
theorem dX6_chain_21 : decode cX6_chain 21 = .ok (.iconst (-1), 1) := by decide +kernel
theorem dX6_chain_22 : decode cX6_chain 22 = .ok (.ireturn, 1) := by decide +kernel
theorem dX6_chain_23 : decode cX6_chain 23 = .ok (.aload_n 0, 1) := by decide +kernel
theorem dX6_chain_24 : decode cX6_chain 24 = .ok (.getfield 19, 3) := by decide +kernel
theorem dX6_chain_27 : decode cX6_chain 27 = .ok (.iload_n 1, 1) := by decide +kernel
theorem dX6_chain_28 : decode cX6_chain 28 = .ok (.iload_n 2, 1) := by decide +kernel
theorem dX6_chain_29 : decode cX6_chain 29 = .ok (.invokevirtual 172, 3) := by decide +kernel
theorem dX6_chain_32 : decode cX6_chain 32 = .ok (.ireturn, 1) := by decide +kernel
theorem dX6_ring_0 : decode cX6_ring 0 = .ok (.aload_n 0, 1) := by decide +kernel
theorem dX6_ring_1 : decode cX6_ring 1 = .ok (.getfield 19, 3) := by decide +kernel
theorem dX6_ring_4 : decode cX6_ring 4 = .ok (.iload_n 1, 1) := by decide +kernel
theorem dX6_ring_5 : decode cX6_ring 5 = .ok (.invokevirtual 117, 3) := by decide +kernel
theorem dX6_ring_8 : decode cX6_ring 8 = .ok (.ifCond .ne 5, 3) := by decide +kernel
theorem dX6_ring_11 : decode cX6_ring 11 = .ok (.iconst (-1), 1) := by decide +kernel
theorem dX6_ring_12 : decode cX6_ring 12 = .ok (.ireturn, 1) := by decide +kernel
theorem dX6_ring_13 : decode cX6_ring 13 = .ok (.aload_n 0, 1) := by decide +kernel
theorem dX6_ring_14 : decode cX6_ring 14 = .ok (.getfield 19, 3) := by decide +kernel
theorem dX6_ring_17 : decode cX6_ring 17 = .ok (.iload_n 1, 1) := by decide +kernel
theorem dX6_ring_18 : decode cX6_ring 18 = .ok (.invokevirtual 175, 3) := by decide +kernel
theorem dX6_ring_21 : decode cX6_ring 21 = .ok (.ireturn, 1) := by decide +kernel
theorem dX6_alphabet_0 : decode cX6_alphabet 0 = .ok (.iload_n 1, 1) := by decide +kernel
theorem dX6_alphabet_1 : decode cX6_alphabet 1 = .ok (.iconst 1, 1) := by decide +kernel
theorem dX6_alphabet_2 : decode cX6_alphabet 2 = .ok (.if_icmp .lt 18, 3) := by decide +kernel
theorem dX6_alphabet_5 : decode cX6_alphabet 5 = .ok (.iload_n 1, 1) := by decide +kernel
theorem dX6_alphabet_6 : decode cX6_alphabet 6 = .ok (.bipush 8, 2) := by decide +kernel
theorem dX6_alphabet_8 : decode cX6_alphabet 8 = .ok (.if_icmp .gt 12, 3) := by decide +kernel
theorem dX6_alphabet_11 : decode cX6_alphabet 11 = .ok (.iload_n 2, 1) := by decide +kernel
theorem dX6_alphabet_12 : decode cX6_alphabet 12 = .ok (.ifCond .lt 8, 3) := by decide +kernel
theorem dX6_alphabet_15 : decode cX6_alphabet 15 = .ok (.iload_n 2, 1) := by decide +kernel
theorem dX6_alphabet_16 : decode cX6_alphabet 16 = .ok (.iconst 1, 1) := by decide +kernel
theorem dX6_alphabet_17 : decode cX6_alphabet 17 = .ok (.if_icmp .le 5, 3) := by decide +kernel
theorem dX6_alphabet_20 : decode cX6_alphabet 20 = .ok (.iconst (-1), 1) := by decide +kernel
theorem dX6_alphabet_21 : decode cX6_alphabet 21 = .ok (.ireturn, 1) := by decide +kernel
theorem dX6_alphabet_22 : decode cX6_alphabet 22 = .ok (.aload_n 0, 1) := by decide +kernel
theorem dX6_alphabet_23 : decode cX6_alphabet 23 = .ok (.getfield 19, 3) := by decide +kernel
theorem dX6_alphabet_26 : decode cX6_alphabet 26 = .ok (.iload_n 1, 1) := by decide +kernel
theorem dX6_alphabet_27 : decode cX6_alphabet 27 = .ok (.invokevirtual 178, 3) := by decide +kernel
theorem dX6_alphabet_30 : decode cX6_alphabet 30 = .ok (.istore_n 3, 1) := by decide +kernel
theorem dX6_alphabet_31 : decode cX6_alphabet 31 = .ok (.iload_n 2, 1) := by decide +kernel
theorem dX6_alphabet_32 : decode cX6_alphabet 32 = .ok (.ifCond .ne 7, 3) := by decide +kernel
theorem dX6_alphabet_35 : decode cX6_alphabet 35 = .ok (.iload_n 3, 1) := by decide +kernel
theorem dX6_alphabet_36 : decode cX6_alphabet 36 = .ok (.goto 11, 3) := by decide +kernel
theorem dX6_alphabet_39 : decode cX6_alphabet 39 = .ok (.aload_n 0, 1) := by decide +kernel
theorem dX6_alphabet_40 : decode cX6_alphabet 40 = .ok (.getfield 19, 3) := by decide +kernel
theorem dX6_alphabet_43 : decode cX6_alphabet 43 = .ok (.iload_n 3, 1) := by decide +kernel
theorem dX6_alphabet_44 : decode cX6_alphabet 44 = .ok (.invokevirtual 181, 3) := by decide +kernel
theorem dX6_alphabet_47 : decode cX6_alphabet 47 = .ok (.ireturn, 1) := by decide +kernel
theorem dX6_asked_0 : decode cX6_asked 0 = .ok (.aload_n 0, 1) := by decide +kernel
theorem dX6_asked_1 : decode cX6_asked 1 = .ok (.getfield 19, 3) := by decide +kernel
theorem dX6_asked_4 : decode cX6_asked 4 = .ok (.iload_n 1, 1) := by decide +kernel
theorem dX6_asked_5 : decode cX6_asked 5 = .ok (.invokevirtual 117, 3) := by decide +kernel
theorem dX6_asked_8 : decode cX6_asked 8 = .ok (.ifCond .eq 11, 3) := by decide +kernel
theorem dX6_asked_11 : decode cX6_asked 11 = .ok (.aload_n 0, 1) := by decide +kernel
theorem dX6_asked_12 : decode cX6_asked 12 = .ok (.iload_n 2, 1) := by decide +kernel
theorem dX6_asked_13 : decode cX6_asked 13 = .ok (.invokevirtual 104, 3) := by decide +kernel
theorem dX6_asked_16 : decode cX6_asked 16 = .ok (.ifCond .ne 5, 3) := by decide +kernel
theorem dX6_asked_19 : decode cX6_asked 19 = .ok (.iconst (-1), 1) := by decide +kernel
theorem dX6_asked_20 : decode cX6_asked 20 = .ok (.ireturn, 1) := by decide +kernel
theorem dX6_asked_21 : decode cX6_asked 21 = .ok (.aload_n 0, 1) := by decide +kernel
theorem dX6_asked_22 : decode cX6_asked 22 = .ok (.getfield 19, 3) := by decide +kernel
theorem dX6_asked_25 : decode cX6_asked 25 = .ok (.iload_n 1, 1) := by decide +kernel
theorem dX6_asked_26 : decode cX6_asked 26 = .ok (.aload_n 0, 1) := by decide +kernel
theorem dX6_asked_27 : decode cX6_asked 27 = .ok (.getfield 37, 3) := by decide +kernel
theorem dX6_asked_30 : decode cX6_asked 30 = .ok (.getfield 107, 3) := by decide +kernel
theorem dX6_asked_33 : decode cX6_asked 33 = .ok (.iload_n 2, 1) := by decide +kernel
theorem dX6_asked_34 : decode cX6_asked 34 = .ok (.aaload, 1) := by decide +kernel
theorem dX6_asked_35 : decode cX6_asked 35 = .ok (.invokevirtual 184, 3) := by decide +kernel
theorem dX6_asked_38 : decode cX6_asked 38 = .ok (.invokevirtual 187, 3) := by decide +kernel
theorem dX6_asked_41 : decode cX6_asked 41 = .ok (.ireturn, 1) := by decide +kernel
theorem dX6_rate_0 : decode cX6_rate 0 = .ok (.aload_n 0, 1) := by decide +kernel
theorem dX6_rate_1 : decode cX6_rate 1 = .ok (.iload_n 2, 1) := by decide +kernel
theorem dX6_rate_2 : decode cX6_rate 2 = .ok (.invokevirtual 80, 3) := by decide +kernel
theorem dX6_rate_5 : decode cX6_rate 5 = .ok (.ifCond .ne 6, 3) := by decide +kernel
theorem dX6_rate_8 : decode cX6_rate 8 = .ok (.ldc 190, 2) := by decide +kernel
theorem dX6_rate_10 : decode cX6_rate 10 = .ok (.ireturn, 1) := by decide +kernel
theorem dX6_rate_11 : decode cX6_rate 11 = .ok (.iload_n 1, 1) := by decide +kernel
theorem dX6_rate_12 : decode cX6_rate 12 = .ok (.tableswitch 76 0 5 #[40, 46, 52, 58, 64, 70], 40) := by decide +kernel
theorem dX6_rate_52 : decode cX6_rate 52 = .ok (.aload_n 0, 1) := by decide +kernel
theorem dX6_rate_53 : decode cX6_rate 53 = .ok (.iload_n 2, 1) := by decide +kernel
theorem dX6_rate_54 : decode cX6_rate 54 = .ok (.invokevirtual 191, 3) := by decide +kernel
theorem dX6_rate_57 : decode cX6_rate 57 = .ok (.ireturn, 1) := by decide +kernel
theorem dX6_rate_58 : decode cX6_rate 58 = .ok (.aload_n 0, 1) := by decide +kernel
theorem dX6_rate_59 : decode cX6_rate 59 = .ok (.iload_n 2, 1) := by decide +kernel
theorem dX6_rate_60 : decode cX6_rate 60 = .ok (.invokevirtual 194, 3) := by decide +kernel
theorem dX6_rate_63 : decode cX6_rate 63 = .ok (.ireturn, 1) := by decide +kernel
theorem dX6_rate_64 : decode cX6_rate 64 = .ok (.aload_n 0, 1) := by decide +kernel
theorem dX6_rate_65 : decode cX6_rate 65 = .ok (.iload_n 2, 1) := by decide +kernel
theorem dX6_rate_66 : decode cX6_rate 66 = .ok (.invokevirtual 197, 3) := by decide +kernel
theorem dX6_rate_69 : decode cX6_rate 69 = .ok (.ireturn, 1) := by decide +kernel
theorem dX6_rate_70 : decode cX6_rate 70 = .ok (.aload_n 0, 1) := by decide +kernel
theorem dX6_rate_71 : decode cX6_rate 71 = .ok (.iload_n 2, 1) := by decide +kernel
theorem dX6_rate_72 : decode cX6_rate 72 = .ok (.invokevirtual 200, 3) := by decide +kernel
theorem dX6_rate_75 : decode cX6_rate 75 = .ok (.ireturn, 1) := by decide +kernel
theorem dX6_rate_76 : decode cX6_rate 76 = .ok (.aload_n 0, 1) := by decide +kernel
theorem dX6_rate_77 : decode cX6_rate 77 = .ok (.iload_n 2, 1) := by decide +kernel
theorem dX6_rate_78 : decode cX6_rate 78 = .ok (.invokevirtual 203, 3) := by decide +kernel
theorem dX6_rate_81 : decode cX6_rate 81 = .ok (.ireturn, 1) := by decide +kernel
theorem dX6_rate_82 : decode cX6_rate 82 = .ok (.aload_n 0, 1) := by decide +kernel
theorem dX6_rate_83 : decode cX6_rate 83 = .ok (.iload_n 2, 1) := by decide +kernel
theorem dX6_rate_84 : decode cX6_rate 84 = .ok (.invokevirtual 206, 3) := by decide +kernel
theorem dX6_rate_87 : decode cX6_rate 87 = .ok (.ireturn, 1) := by decide +kernel
theorem dX6_rate_88 : decode cX6_rate 88 = .ok (.ldc 190, 2) := by decide +kernel
theorem dX6_rate_90 : decode cX6_rate 90 = .ok (.ireturn, 1) := by decide +kernel
theorem dX6_keep_0 : decode cX6_keep 0 = .ok (.iload_n 1, 1) := by decide +kernel
theorem dX6_keep_1 : decode cX6_keep 1 = .ok (.ifCond .lt 8, 3) := by decide +kernel
theorem dX6_keep_4 : decode cX6_keep 4 = .ok (.iload_n 1, 1) := by decide +kernel
theorem dX6_keep_5 : decode cX6_keep 5 = .ok (.iconst 2, 1) := by decide +kernel
theorem dX6_keep_6 : decode cX6_keep 6 = .ok (.if_icmp .lt 5, 3) := by decide +kernel
theorem dX6_keep_9 : decode cX6_keep 9 = .ok (.iconst (-1), 1) := by decide +kernel
theorem dX6_keep_10 : decode cX6_keep 10 = .ok (.ireturn, 1) := by decide +kernel
theorem dX6_keep_11 : decode cX6_keep 11 = .ok (.aload_n 0, 1) := by decide +kernel
theorem dX6_keep_12 : decode cX6_keep 12 = .ok (.getfield 30, 3) := by decide +kernel
theorem dX6_keep_15 : decode cX6_keep 15 = .ok (.iload_n 1, 1) := by decide +kernel
theorem dX6_keep_16 : decode cX6_keep 16 = .ok (.aaload, 1) := by decide +kernel
theorem dX6_keep_17 : decode cX6_keep 17 = .ok (.aload_n 0, 1) := by decide +kernel
theorem dX6_keep_18 : decode cX6_keep 18 = .ok (.getfield 26, 3) := by decide +kernel
theorem dX6_keep_21 : decode cX6_keep 21 = .ok (.invokevirtual 209, 3) := by decide +kernel
theorem dX6_keep_24 : decode cX6_keep 24 = .ok (.aload_n 0, 1) := by decide +kernel
theorem dX6_keep_25 : decode cX6_keep 25 = .ok (.getfield 30, 3) := by decide +kernel
theorem dX6_keep_28 : decode cX6_keep 28 = .ok (.iload_n 1, 1) := by decide +kernel
theorem dX6_keep_29 : decode cX6_keep 29 = .ok (.aaload, 1) := by decide +kernel
theorem dX6_keep_30 : decode cX6_keep 30 = .ok (.iconst 1, 1) := by decide +kernel
theorem dX6_keep_31 : decode cX6_keep 31 = .ok (.putfield 70, 3) := by decide +kernel
theorem dX6_keep_34 : decode cX6_keep 34 = .ok (.aload_n 0, 1) := by decide +kernel
theorem dX6_keep_35 : decode cX6_keep 35 = .ok (.getfield 26, 3) := by decide +kernel
theorem dX6_keep_38 : decode cX6_keep 38 = .ok (.getfield 67, 3) := by decide +kernel
theorem dX6_keep_41 : decode cX6_keep 41 = .ok (.ireturn, 1) := by decide +kernel
theorem dX6_back_0 : decode cX6_back 0 = .ok (.iload_n 1, 1) := by decide +kernel
theorem dX6_back_1 : decode cX6_back 1 = .ok (.ifCond .lt 8, 3) := by decide +kernel
theorem dX6_back_4 : decode cX6_back 4 = .ok (.iload_n 1, 1) := by decide +kernel
theorem dX6_back_5 : decode cX6_back 5 = .ok (.iconst 2, 1) := by decide +kernel
theorem dX6_back_6 : decode cX6_back 6 = .ok (.if_icmp .lt 5, 3) := by decide +kernel
theorem dX6_back_9 : decode cX6_back 9 = .ok (.iconst (-1), 1) := by decide +kernel
theorem dX6_back_10 : decode cX6_back 10 = .ok (.ireturn, 1) := by decide +kernel
theorem dX6_back_11 : decode cX6_back 11 = .ok (.aload_n 0, 1) := by decide +kernel
theorem dX6_back_12 : decode cX6_back 12 = .ok (.getfield 30, 3) := by decide +kernel
theorem dX6_back_15 : decode cX6_back 15 = .ok (.iload_n 1, 1) := by decide +kernel
theorem dX6_back_16 : decode cX6_back 16 = .ok (.aaload, 1) := by decide +kernel
theorem dX6_back_17 : decode cX6_back 17 = .ok (.getfield 70, 3) := by decide +kernel
theorem dX6_back_20 : decode cX6_back 20 = .ok (.ifCond .ne 6, 3) := by decide +kernel
theorem dX6_back_23 : decode cX6_back 23 = .ok (.bipush (-2), 2) := by decide +kernel
theorem dX6_back_25 : decode cX6_back 25 = .ok (.ireturn, 1) := by decide +kernel
theorem dX6_back_26 : decode cX6_back 26 = .ok (.aload_n 0, 1) := by decide +kernel
theorem dX6_back_27 : decode cX6_back 27 = .ok (.getfield 26, 3) := by decide +kernel
theorem dX6_back_30 : decode cX6_back 30 = .ok (.aload_n 0, 1) := by decide +kernel
theorem dX6_back_31 : decode cX6_back 31 = .ok (.getfield 30, 3) := by decide +kernel
theorem dX6_back_34 : decode cX6_back 34 = .ok (.iload_n 1, 1) := by decide +kernel
theorem dX6_back_35 : decode cX6_back 35 = .ok (.aaload, 1) := by decide +kernel
theorem dX6_back_36 : decode cX6_back 36 = .ok (.invokevirtual 209, 3) := by decide +kernel
theorem dX6_back_39 : decode cX6_back 39 = .ok (.aload_n 0, 1) := by decide +kernel
theorem dX6_back_40 : decode cX6_back 40 = .ok (.getfield 26, 3) := by decide +kernel
theorem dX6_back_43 : decode cX6_back 43 = .ok (.getfield 67, 3) := by decide +kernel
theorem dX6_back_46 : decode cX6_back 46 = .ok (.ireturn, 1) := by decide +kernel
theorem dX6_count_0 : decode cX6_count 0 = .ok (.iload_n 1, 1) := by decide +kernel
theorem dX6_count_1 : decode cX6_count 1 = .ok (.tableswitch 63 0 3 #[31, 39, 47, 55], 31) := by decide +kernel
theorem dX6_count_32 : decode cX6_count 32 = .ok (.aload_n 0, 1) := by decide +kernel
theorem dX6_count_33 : decode cX6_count 33 = .ok (.getfield 37, 3) := by decide +kernel
theorem dX6_count_36 : decode cX6_count 36 = .ok (.getfield 74, 3) := by decide +kernel
theorem dX6_count_39 : decode cX6_count 39 = .ok (.ireturn, 1) := by decide +kernel
theorem dX6_count_40 : decode cX6_count 40 = .ok (.aload_n 0, 1) := by decide +kernel
theorem dX6_count_41 : decode cX6_count 41 = .ok (.getfield 37, 3) := by decide +kernel
theorem dX6_count_44 : decode cX6_count 44 = .ok (.getfield 77, 3) := by decide +kernel
theorem dX6_count_47 : decode cX6_count 47 = .ok (.ireturn, 1) := by decide +kernel
theorem dX6_count_48 : decode cX6_count 48 = .ok (.aload_n 0, 1) := by decide +kernel
theorem dX6_count_49 : decode cX6_count 49 = .ok (.getfield 26, 3) := by decide +kernel
theorem dX6_count_52 : decode cX6_count 52 = .ok (.getfield 67, 3) := by decide +kernel
theorem dX6_count_55 : decode cX6_count 55 = .ok (.ireturn, 1) := by decide +kernel
theorem dX6_count_56 : decode cX6_count 56 = .ok (.aload_n 0, 1) := by decide +kernel
theorem dX6_count_57 : decode cX6_count 57 = .ok (.getfield 12, 3) := by decide +kernel
theorem dX6_count_60 : decode cX6_count 60 = .ok (.getfield 48, 3) := by decide +kernel
theorem dX6_count_63 : decode cX6_count 63 = .ok (.ireturn, 1) := by decide +kernel
theorem dX6_count_64 : decode cX6_count 64 = .ok (.iconst (-1), 1) := by decide +kernel
theorem dX6_count_65 : decode cX6_count 65 = .ok (.ireturn, 1) := by decide +kernel
theorem dX6_trace_0 : decode cX6_trace 0 = .ok (.aload_n 0, 1) := by decide +kernel
theorem dX6_trace_1 : decode cX6_trace 1 = .ok (.getfield 44, 3) := by decide +kernel
theorem dX6_trace_4 : decode cX6_trace 4 = .ok (.lreturn, 1) := by decide +kernel
theorem dX6_isWord_0 : decode cX6_isWord 0 = .ok (.iload_n 1, 1) := by decide +kernel
theorem dX6_isWord_1 : decode cX6_isWord 1 = .ok (.ifCond .lt 18, 3) := by decide +kernel
theorem dX6_isWord_4 : decode cX6_isWord 4 = .ok (.iload_n 1, 1) := by decide +kernel
theorem dX6_isWord_5 : decode cX6_isWord 5 = .ok (.aload_n 0, 1) := by decide +kernel
theorem dX6_isWord_6 : decode cX6_isWord 6 = .ok (.getfield 37, 3) := by decide +kernel
theorem dX6_isWord_9 : decode cX6_isWord 9 = .ok (.getfield 74, 3) := by decide +kernel
theorem dX6_isWord_12 : decode cX6_isWord 12 = .ok (.if_icmp .ge 7, 3) := by decide +kernel
theorem dX6_isWord_15 : decode cX6_isWord 15 = .ok (.iconst 1, 1) := by decide +kernel
theorem dX6_isWord_16 : decode cX6_isWord 16 = .ok (.goto 4, 3) := by decide +kernel
theorem dX6_isWord_19 : decode cX6_isWord 19 = .ok (.iconst 0, 1) := by decide +kernel
theorem dX6_isWord_20 : decode cX6_isWord 20 = .ok (.ireturn, 1) := by decide +kernel
theorem dX6_isShape_0 : decode cX6_isShape 0 = .ok (.iload_n 1, 1) := by decide +kernel
theorem dX6_isShape_1 : decode cX6_isShape 1 = .ok (.ifCond .lt 18, 3) := by decide +kernel
theorem dX6_isShape_4 : decode cX6_isShape 4 = .ok (.iload_n 1, 1) := by decide +kernel
theorem dX6_isShape_5 : decode cX6_isShape 5 = .ok (.aload_n 0, 1) := by decide +kernel
theorem dX6_isShape_6 : decode cX6_isShape 6 = .ok (.getfield 37, 3) := by decide +kernel
theorem dX6_isShape_9 : decode cX6_isShape 9 = .ok (.getfield 77, 3) := by decide +kernel
theorem dX6_isShape_12 : decode cX6_isShape 12 = .ok (.if_icmp .ge 7, 3) := by decide +kernel
theorem dX6_isShape_15 : decode cX6_isShape 15 = .ok (.iconst 1, 1) := by decide +kernel
theorem dX6_isShape_16 : decode cX6_isShape 16 = .ok (.goto 4, 3) := by decide +kernel
theorem dX6_isShape_19 : decode cX6_isShape 19 = .ok (.iconst 0, 1) := by decide +kernel
theorem dX6_isShape_20 : decode cX6_isShape 20 = .ok (.ireturn, 1) := by decide +kernel
theorem dX6_isSlack_0 : decode cX6_isSlack 0 = .ok (.iload_n 0, 1) := by decide +kernel
theorem dX6_isSlack_1 : decode cX6_isSlack 1 = .ok (.ifCond .lt 12, 3) := by decide +kernel
theorem dX6_isSlack_4 : decode cX6_isSlack 4 = .ok (.iload_n 0, 1) := by decide +kernel
theorem dX6_isSlack_5 : decode cX6_isSlack 5 = .ok (.iconst 2, 1) := by decide +kernel
theorem dX6_isSlack_6 : decode cX6_isSlack 6 = .ok (.if_icmp .gt 7, 3) := by decide +kernel
theorem dX6_isSlack_9 : decode cX6_isSlack 9 = .ok (.iconst 1, 1) := by decide +kernel
theorem dX6_isSlack_10 : decode cX6_isSlack 10 = .ok (.goto 4, 3) := by decide +kernel
theorem dX6_isSlack_13 : decode cX6_isSlack 13 = .ok (.iconst 0, 1) := by decide +kernel
theorem dX6_isSlack_14 : decode cX6_isSlack 14 = .ok (.ireturn, 1) := by decide +kernel
theorem dX6_rateWord_0 : decode cX6_rateWord 0 = .ok (.aload_n 0, 1) := by decide +kernel
theorem dX6_rateWord_1 : decode cX6_rateWord 1 = .ok (.dup, 1) := by decide +kernel
theorem dX6_rateWord_2 : decode cX6_rateWord 2 = .ok (.getfield 44, 3) := by decide +kernel
theorem dX6_rateWord_5 : decode cX6_rateWord 5 = .ok (.lconst 1, 1) := by decide +kernel
theorem dX6_rateWord_6 : decode cX6_rateWord 6 = .ok (.ladd, 1) := by decide +kernel
theorem dX6_rateWord_7 : decode cX6_rateWord 7 = .ok (.putfield 44, 3) := by decide +kernel
theorem dX6_rateWord_10 : decode cX6_rateWord 10 = .ok (.aload_n 0, 1) := by decide +kernel
theorem dX6_rateWord_11 : decode cX6_rateWord 11 = .ok (.getfield 37, 3) := by decide +kernel
theorem dX6_rateWord_14 : decode cX6_rateWord 14 = .ok (.getfield 84, 3) := by decide +kernel
theorem dX6_rateWord_17 : decode cX6_rateWord 17 = .ok (.iload_n 1, 1) := by decide +kernel
theorem dX6_rateWord_18 : decode cX6_rateWord 18 = .ok (.aaload, 1) := by decide +kernel
theorem dX6_rateWord_19 : decode cX6_rateWord 19 = .ok (.getfield 94, 3) := by decide +kernel
theorem dX6_rateWord_22 : decode cX6_rateWord 22 = .ok (.ireturn, 1) := by decide +kernel
theorem dX6_rateVow_0 : decode cX6_rateVow 0 = .ok (.aload_n 0, 1) := by decide +kernel
theorem dX6_rateVow_1 : decode cX6_rateVow 1 = .ok (.dup, 1) := by decide +kernel
theorem dX6_rateVow_2 : decode cX6_rateVow 2 = .ok (.getfield 44, 3) := by decide +kernel
theorem dX6_rateVow_5 : decode cX6_rateVow 5 = .ok (.ldc2_w 213, 3) := by decide +kernel
theorem dX6_rateVow_8 : decode cX6_rateVow 8 = .ok (.ladd, 1) := by decide +kernel
theorem dX6_rateVow_9 : decode cX6_rateVow 9 = .ok (.putfield 44, 3) := by decide +kernel
theorem dX6_rateVow_12 : decode cX6_rateVow 12 = .ok (.aload_n 0, 1) := by decide +kernel
theorem dX6_rateVow_13 : decode cX6_rateVow 13 = .ok (.iload_n 1, 1) := by decide +kernel
theorem dX6_rateVow_14 : decode cX6_rateVow 14 = .ok (.invokevirtual 191, 3) := by decide +kernel
theorem dX6_rateVow_17 : decode cX6_rateVow 17 = .ok (.aload_n 0, 1) := by decide +kernel
theorem dX6_rateVow_18 : decode cX6_rateVow 18 = .ok (.getfield 37, 3) := by decide +kernel
theorem dX6_rateVow_21 : decode cX6_rateVow 21 = .ok (.getfield 84, 3) := by decide +kernel
theorem dX6_rateVow_24 : decode cX6_rateVow 24 = .ok (.iload_n 1, 1) := by decide +kernel
theorem dX6_rateVow_25 : decode cX6_rateVow 25 = .ok (.aaload, 1) := by decide +kernel
theorem dX6_rateVow_26 : decode cX6_rateVow 26 = .ok (.getfield 88, 3) := by decide +kernel
theorem dX6_rateVow_29 : decode cX6_rateVow 29 = .ok (.iadd, 1) := by decide +kernel
theorem dX6_rateVow_30 : decode cX6_rateVow 30 = .ok (.ireturn, 1) := by decide +kernel
theorem dX6_rateBill_0 : decode cX6_rateBill 0 = .ok (.aload_n 0, 1) := by decide +kernel
theorem dX6_rateBill_1 : decode cX6_rateBill 1 = .ok (.dup, 1) := by decide +kernel
theorem dX6_rateBill_2 : decode cX6_rateBill 2 = .ok (.getfield 44, 3) := by decide +kernel
theorem dX6_rateBill_5 : decode cX6_rateBill 5 = .ok (.ldc2_w 215, 3) := by decide +kernel
theorem dX6_rateBill_8 : decode cX6_rateBill 8 = .ok (.ladd, 1) := by decide +kernel
theorem dX6_rateBill_9 : decode cX6_rateBill 9 = .ok (.putfield 44, 3) := by decide +kernel
theorem dX6_rateBill_12 : decode cX6_rateBill 12 = .ok (.aload_n 0, 1) := by decide +kernel
theorem dX6_rateBill_13 : decode cX6_rateBill 13 = .ok (.iload_n 1, 1) := by decide +kernel
theorem dX6_rateBill_14 : decode cX6_rateBill 14 = .ok (.invokevirtual 191, 3) := by decide +kernel
theorem dX6_rateBill_17 : decode cX6_rateBill 17 = .ok (.aload_n 0, 1) := by decide +kernel
theorem dX6_rateBill_18 : decode cX6_rateBill 18 = .ok (.getfield 37, 3) := by decide +kernel
theorem dX6_rateBill_21 : decode cX6_rateBill 21 = .ok (.getfield 84, 3) := by decide +kernel
theorem dX6_rateBill_24 : decode cX6_rateBill 24 = .ok (.iload_n 1, 1) := by decide +kernel
theorem dX6_rateBill_25 : decode cX6_rateBill 25 = .ok (.aaload, 1) := by decide +kernel
theorem dX6_rateBill_26 : decode cX6_rateBill 26 = .ok (.getfield 97, 3) := by decide +kernel
theorem dX6_rateBill_29 : decode cX6_rateBill 29 = .ok (.isub, 1) := by decide +kernel
theorem dX6_rateBill_30 : decode cX6_rateBill 30 = .ok (.ireturn, 1) := by decide +kernel
theorem dX6_rateVerse_0 : decode cX6_rateVerse 0 = .ok (.aload_n 0, 1) := by decide +kernel
theorem dX6_rateVerse_1 : decode cX6_rateVerse 1 = .ok (.dup, 1) := by decide +kernel
theorem dX6_rateVerse_2 : decode cX6_rateVerse 2 = .ok (.getfield 44, 3) := by decide +kernel
theorem dX6_rateVerse_5 : decode cX6_rateVerse 5 = .ok (.ldc2_w 217, 3) := by decide +kernel
theorem dX6_rateVerse_8 : decode cX6_rateVerse 8 = .ok (.ladd, 1) := by decide +kernel
theorem dX6_rateVerse_9 : decode cX6_rateVerse 9 = .ok (.putfield 44, 3) := by decide +kernel
theorem dX6_rateVerse_12 : decode cX6_rateVerse 12 = .ok (.iconst 2, 1) := by decide +kernel
theorem dX6_rateVerse_13 : decode cX6_rateVerse 13 = .ok (.aload_n 0, 1) := by decide +kernel
theorem dX6_rateVerse_14 : decode cX6_rateVerse 14 = .ok (.iload_n 1, 1) := by decide +kernel
theorem dX6_rateVerse_15 : decode cX6_rateVerse 15 = .ok (.invokevirtual 194, 3) := by decide +kernel
theorem dX6_rateVerse_18 : decode cX6_rateVerse 18 = .ok (.imul, 1) := by decide +kernel
theorem dX6_rateVerse_19 : decode cX6_rateVerse 19 = .ok (.ireturn, 1) := by decide +kernel
theorem dX6_rateInsult_0 : decode cX6_rateInsult 0 = .ok (.aload_n 0, 1) := by decide +kernel
theorem dX6_rateInsult_1 : decode cX6_rateInsult 1 = .ok (.dup, 1) := by decide +kernel
theorem dX6_rateInsult_2 : decode cX6_rateInsult 2 = .ok (.getfield 44, 3) := by decide +kernel
theorem dX6_rateInsult_5 : decode cX6_rateInsult 5 = .ok (.ldc2_w 219, 3) := by decide +kernel
theorem dX6_rateInsult_8 : decode cX6_rateInsult 8 = .ok (.ladd, 1) := by decide +kernel
theorem dX6_rateInsult_9 : decode cX6_rateInsult 9 = .ok (.putfield 44, 3) := by decide +kernel
theorem dX6_rateInsult_12 : decode cX6_rateInsult 12 = .ok (.aload_n 0, 1) := by decide +kernel
theorem dX6_rateInsult_13 : decode cX6_rateInsult 13 = .ok (.iload_n 1, 1) := by decide +kernel
theorem dX6_rateInsult_14 : decode cX6_rateInsult 14 = .ok (.invokevirtual 197, 3) := by decide +kernel
theorem dX6_rateInsult_17 : decode cX6_rateInsult 17 = .ok (.iload_n 1, 1) := by decide +kernel
theorem dX6_rateInsult_18 : decode cX6_rateInsult 18 = .ok (.iadd, 1) := by decide +kernel
theorem dX6_rateInsult_19 : decode cX6_rateInsult 19 = .ok (.ireturn, 1) := by decide +kernel
theorem dX6_rateThreat_0 : decode cX6_rateThreat 0 = .ok (.aload_n 0, 1) := by decide +kernel
theorem dX6_rateThreat_1 : decode cX6_rateThreat 1 = .ok (.dup, 1) := by decide +kernel
theorem dX6_rateThreat_2 : decode cX6_rateThreat 2 = .ok (.getfield 44, 3) := by decide +kernel
theorem dX6_rateThreat_5 : decode cX6_rateThreat 5 = .ok (.ldc2_w 221, 3) := by decide +kernel
theorem dX6_rateThreat_8 : decode cX6_rateThreat 8 = .ok (.ladd, 1) := by decide +kernel
theorem dX6_rateThreat_9 : decode cX6_rateThreat 9 = .ok (.putfield 44, 3) := by decide +kernel
theorem dX6_rateThreat_12 : decode cX6_rateThreat 12 = .ok (.aload_n 0, 1) := by decide +kernel
theorem dX6_rateThreat_13 : decode cX6_rateThreat 13 = .ok (.iload_n 1, 1) := by decide +kernel
theorem dX6_rateThreat_14 : decode cX6_rateThreat 14 = .ok (.invokevirtual 191, 3) := by decide +kernel
theorem dX6_rateThreat_17 : decode cX6_rateThreat 17 = .ok (.aload_n 0, 1) := by decide +kernel
theorem dX6_rateThreat_18 : decode cX6_rateThreat 18 = .ok (.getfield 26, 3) := by decide +kernel
theorem dX6_rateThreat_21 : decode cX6_rateThreat 21 = .ok (.iload_n 1, 1) := by decide +kernel
theorem dX6_rateThreat_22 : decode cX6_rateThreat 22 = .ok (.invokevirtual 223, 3) := by decide +kernel
theorem dX6_rateThreat_25 : decode cX6_rateThreat 25 = .ok (.iadd, 1) := by decide +kernel
theorem dX6_rateThreat_26 : decode cX6_rateThreat 26 = .ok (.ireturn, 1) := by decide +kernel
theorem dX7_init_0 : decode cX7_init 0 = .ok (.aload_n 0, 1) := by decide +kernel
theorem dX7_init_1 : decode cX7_init 1 = .ok (.invokespecial 1, 3) := by decide +kernel
theorem dX7_init_4 : decode cX7_init 4 = .ok (.aload_n 0, 1) := by decide +kernel
theorem dX7_init_5 : decode cX7_init 5 = .ok (.sipush 200, 3) := by decide +kernel
theorem dX7_init_8 : decode cX7_init 8 = .ok (.newarray .int, 2) := by decide +kernel
theorem dX7_init_10 : decode cX7_init 10 = .ok (.putfield 7, 3) := by decide +kernel
theorem dX7_init_13 : decode cX7_init 13 = .ok (.aload_n 0, 1) := by decide +kernel
theorem dX7_init_14 : decode cX7_init 14 = .ok (.bipush 110, 2) := by decide +kernel
theorem dX7_init_16 : decode cX7_init 16 = .ok (.newarray .int, 2) := by decide +kernel
theorem dX7_init_18 : decode cX7_init 18 = .ok (.putfield 13, 3) := by decide +kernel
theorem dX7_init_21 : decode cX7_init 21 = .ok (.aload_n 0, 1) := by decide +kernel
theorem dX7_init_22 : decode cX7_init 22 = .ok (.bipush 110, 2) := by decide +kernel
theorem dX7_init_24 : decode cX7_init 24 = .ok (.newarray .int, 2) := by decide +kernel
theorem dX7_init_26 : decode cX7_init 26 = .ok (.putfield 16, 3) := by decide +kernel
theorem dX7_init_29 : decode cX7_init 29 = .ok (.aload_n 0, 1) := by decide +kernel
theorem dX7_init_30 : decode cX7_init 30 = .ok (.bipush 13, 2) := by decide +kernel
theorem dX7_init_32 : decode cX7_init 32 = .ok (.newarray .int, 2) := by decide +kernel
theorem dX7_init_34 : decode cX7_init 34 = .ok (.putfield 19, 3) := by decide +kernel
theorem dX7_init_37 : decode cX7_init 37 = .ok (.aload_n 0, 1) := by decide +kernel
theorem dX7_init_38 : decode cX7_init 38 = .ok (.bipush 26, 2) := by decide +kernel
theorem dX7_init_40 : decode cX7_init 40 = .ok (.newarray .int, 2) := by decide +kernel
theorem dX7_init_42 : decode cX7_init 42 = .ok (.putfield 22, 3) := by decide +kernel
theorem dX7_init_45 : decode cX7_init 45 = .ok (.aload_n 0, 1) := by decide +kernel
theorem dX7_init_46 : decode cX7_init 46 = .ok (.iconst 2, 1) := by decide +kernel
theorem dX7_init_47 : decode cX7_init 47 = .ok (.newarray .boolean, 2) := by decide +kernel
theorem dX7_init_49 : decode cX7_init 49 = .ok (.putfield 25, 3) := by decide +kernel
theorem dX7_init_52 : decode cX7_init 52 = .ok (.aload_n 0, 1) := by decide +kernel
theorem dX7_init_53 : decode cX7_init 53 = .ok (.sipush 820, 3) := by decide +kernel
theorem dX7_init_56 : decode cX7_init 56 = .ok (.newarray .int, 2) := by decide +kernel
theorem dX7_init_58 : decode cX7_init 58 = .ok (.putfield 29, 3) := by decide +kernel
theorem dX7_init_61 : decode cX7_init 61 = .ok (.aload_n 0, 1) := by decide +kernel
theorem dX7_init_62 : decode cX7_init 62 = .ok (.sipush 820, 3) := by decide +kernel
theorem dX7_init_65 : decode cX7_init 65 = .ok (.newarray .int, 2) := by decide +kernel
theorem dX7_init_67 : decode cX7_init 67 = .ok (.putfield 32, 3) := by decide +kernel
theorem dX7_init_70 : decode cX7_init 70 = .ok (.aload_n 0, 1) := by decide +kernel
theorem dX7_init_71 : decode cX7_init 71 = .ok (.sipush 820, 3) := by decide +kernel
theorem dX7_init_74 : decode cX7_init 74 = .ok (.newarray .int, 2) := by decide +kernel
theorem dX7_init_76 : decode cX7_init 76 = .ok (.putfield 35, 3) := by decide +kernel
theorem dX7_init_79 : decode cX7_init 79 = .ok (.aload_n 0, 1) := by decide +kernel
theorem dX7_init_80 : decode cX7_init 80 = .ok (.sipush 820, 3) := by decide +kernel
theorem dX7_init_83 : decode cX7_init 83 = .ok (.newarray .int, 2) := by decide +kernel
theorem dX7_init_85 : decode cX7_init 85 = .ok (.putfield 38, 3) := by decide +kernel
theorem dX7_init_88 : decode cX7_init 88 = .ok (.aload_n 0, 1) := by decide +kernel
theorem dX7_init_89 : decode cX7_init 89 = .ok (.bipush 100, 2) := by decide +kernel
theorem dX7_init_91 : decode cX7_init 91 = .ok (.newarray .int, 2) := by decide +kernel
theorem dX7_init_93 : decode cX7_init 93 = .ok (.putfield 41, 3) := by decide +kernel
theorem dX7_init_96 : decode cX7_init 96 = .ok (.aload_n 0, 1) := by decide +kernel
theorem dX7_init_97 : decode cX7_init 97 = .ok (.invokevirtual 44, 3) := by decide +kernel
theorem dX7_init_100 : decode cX7_init 100 = .ok (.return_, 1) := by decide +kernel
theorem dX7_in_0 : decode cX7_in 0 = .ok (.iload_n 0, 1) := by decide +kernel
theorem dX7_in_1 : decode cX7_in 1 = .ok (.iload_n 1, 1) := by decide +kernel
theorem dX7_in_2 : decode cX7_in 2 = .ok (.if_icmp .lt 12, 3) := by decide +kernel
theorem dX7_in_5 : decode cX7_in 5 = .ok (.iload_n 0, 1) := by decide +kernel
theorem dX7_in_6 : decode cX7_in 6 = .ok (.iload_n 2, 1) := by decide +kernel
theorem dX7_in_7 : decode cX7_in 7 = .ok (.if_icmp .gt 7, 3) := by decide +kernel
theorem dX7_in_10 : decode cX7_in 10 = .ok (.iconst 1, 1) := by decide +kernel
theorem dX7_in_11 : decode cX7_in 11 = .ok (.goto 4, 3) := by decide +kernel
theorem dX7_in_14 : decode cX7_in 14 = .ok (.iconst 0, 1) := by decide +kernel
theorem dX7_in_15 : decode cX7_in 15 = .ok (.ireturn, 1) := by decide +kernel
theorem dX7_isWord_0 : decode cX7_isWord 0 = .ok (.iload_n 1, 1) := by decide +kernel
theorem dX7_isWord_1 : decode cX7_isWord 1 = .ok (.iconst 0, 1) := by decide +kernel
theorem dX7_isWord_2 : decode cX7_isWord 2 = .ok (.aload_n 0, 1) := by decide +kernel
theorem dX7_isWord_3 : decode cX7_isWord 3 = .ok (.getfield 13, 3) := by decide +kernel
theorem dX7_isWord_6 : decode cX7_isWord 6 = .ok (.iconst 0, 1) := by decide +kernel
theorem dX7_isWord_7 : decode cX7_isWord 7 = .ok (.iaload, 1) := by decide +kernel
theorem dX7_isWord_8 : decode cX7_isWord 8 = .ok (.iconst 1, 1) := by decide +kernel
theorem dX7_isWord_9 : decode cX7_isWord 9 = .ok (.isub, 1) := by decide +kernel
theorem dX7_isWord_10 : decode cX7_isWord 10 = .ok (.invokestatic 47, 3) := by decide +kernel
theorem dX7_isWord_13 : decode cX7_isWord 13 = .ok (.ireturn, 1) := by decide +kernel
theorem dX7_isShape_0 : decode cX7_isShape 0 = .ok (.iload_n 1, 1) := by decide +kernel
theorem dX7_isShape_1 : decode cX7_isShape 1 = .ok (.iconst 0, 1) := by decide +kernel
theorem dX7_isShape_2 : decode cX7_isShape 2 = .ok (.aload_n 0, 1) := by decide +kernel
theorem dX7_isShape_3 : decode cX7_isShape 3 = .ok (.getfield 13, 3) := by decide +kernel
theorem dX7_isShape_6 : decode cX7_isShape 6 = .ok (.iconst 1, 1) := by decide +kernel
theorem dX7_isShape_7 : decode cX7_isShape 7 = .ok (.iaload, 1) := by decide +kernel
theorem dX7_isShape_8 : decode cX7_isShape 8 = .ok (.iconst 1, 1) := by decide +kernel
theorem dX7_isShape_9 : decode cX7_isShape 9 = .ok (.isub, 1) := by decide +kernel
theorem dX7_isShape_10 : decode cX7_isShape 10 = .ok (.invokestatic 47, 3) := by decide +kernel
theorem dX7_isShape_13 : decode cX7_isShape 13 = .ok (.ireturn, 1) := by decide +kernel
theorem dX7_type_0 : decode cX7_type 0 = .ok (.iload_n 3, 1) := by decide +kernel
theorem dX7_type_1 : decode cX7_type 1 = .ok (.iconst 1, 1) := by decide +kernel
theorem dX7_type_2 : decode cX7_type 2 = .ok (.bipush 8, 2) := by decide +kernel
theorem dX7_type_4 : decode cX7_type 4 = .ok (.invokestatic 47, 3) := by decide +kernel
theorem dX7_type_7 : decode cX7_type 7 = .ok (.ifCond .ne 5, 3) := by decide +kernel
theorem dX7_type_10 : decode cX7_type 10 = .ok (.iconst (-1), 1) := by decide +kernel
theorem dX7_type_11 : decode cX7_type 11 = .ok (.ireturn, 1) := by decide +kernel
theorem dX7_type_12 : decode cX7_type 12 = .ok (.aload_n 0, 1) := by decide +kernel
theorem dX7_type_13 : decode cX7_type 13 = .ok (.getfield 51, 3) := by decide +kernel
theorem dX7_type_16 : decode cX7_type 16 = .ok (.iload_n 3, 1) := by decide +kernel
theorem dX7_type_17 : decode cX7_type 17 = .ok (.iadd, 1) := by decide +kernel
theorem dX7_type_18 : decode cX7_type 18 = .ok (.sipush 200, 3) := by decide +kernel
theorem dX7_type_21 : decode cX7_type 21 = .ok (.if_icmp .le 6, 3) := by decide +kernel
theorem dX7_type_24 : decode cX7_type 24 = .ok (.bipush (-3), 2) := by decide +kernel
theorem dX7_type_26 : decode cX7_type 26 = .ok (.ireturn, 1) := by decide +kernel
theorem dX7_type_27 : decode cX7_type 27 = .ok (.iload_n 3, 1) := by decide +kernel
theorem dX7_type_28 : decode cX7_type 28 = .ok (.iconst 1, 1) := by decide +kernel
theorem dX7_type_29 : decode cX7_type 29 = .ok (.isub, 1) := by decide +kernel
theorem dX7_type_30 : decode cX7_type 30 = .ok (.istore 4, 2) := by decide +kernel
theorem dX7_type_32 : decode cX7_type 32 = .ok (.iload 4, 2) := by decide +kernel
theorem dX7_type_34 : decode cX7_type 34 = .ok (.ifCond .lt 40, 3) := by decide +kernel
theorem dX7_type_37 : decode cX7_type 37 = .ok (.aload_n 0, 1) := by decide +kernel
theorem dX7_type_38 : decode cX7_type 38 = .ok (.getfield 7, 3) := by decide +kernel
theorem dX7_type_41 : decode cX7_type 41 = .ok (.aload_n 0, 1) := by decide +kernel
theorem dX7_type_42 : decode cX7_type 42 = .ok (.getfield 51, 3) := by decide +kernel
theorem dX7_type_45 : decode cX7_type 45 = .ok (.lload_n 1, 1) := by decide +kernel
theorem dX7_type_46 : decode cX7_type 46 = .ok (.bipush 8, 2) := by decide +kernel
theorem dX7_type_48 : decode cX7_type 48 = .ok (.iload 4, 2) := by decide +kernel
theorem dX7_type_50 : decode cX7_type 50 = .ok (.imul, 1) := by decide +kernel
theorem dX7_type_51 : decode cX7_type 51 = .ok (.lshr, 1) := by decide +kernel
theorem dX7_type_52 : decode cX7_type 52 = .ok (.ldc2_w 55, 3) := by decide +kernel
theorem dX7_type_55 : decode cX7_type 55 = .ok (.land, 1) := by decide +kernel
theorem dX7_type_56 : decode cX7_type 56 = .ok (.l2i, 1) := by decide +kernel
theorem dX7_type_57 : decode cX7_type 57 = .ok (.iastore, 1) := by decide +kernel
theorem dX7_type_58 : decode cX7_type 58 = .ok (.aload_n 0, 1) := by decide +kernel
theorem dX7_type_59 : decode cX7_type 59 = .ok (.dup, 1) := by decide +kernel
theorem dX7_type_60 : decode cX7_type 60 = .ok (.getfield 51, 3) := by decide +kernel
theorem dX7_type_63 : decode cX7_type 63 = .ok (.iconst 1, 1) := by decide +kernel
theorem dX7_type_64 : decode cX7_type 64 = .ok (.iadd, 1) := by decide +kernel
theorem dX7_type_65 : decode cX7_type 65 = .ok (.putfield 51, 3) := by decide +kernel
theorem dX7_type_68 : decode cX7_type 68 = .ok (.iinc 4 (-1), 3) := by decide +kernel
theorem dX7_type_71 : decode cX7_type 71 = .ok (.goto (-39), 3) := by decide +kernel
theorem dX7_type_74 : decode cX7_type 74 = .ok (.aload_n 0, 1) := by decide +kernel
theorem dX7_type_75 : decode cX7_type 75 = .ok (.getfield 51, 3) := by decide +kernel
theorem dX7_type_78 : decode cX7_type 78 = .ok (.ireturn, 1) := by decide +kernel
theorem dX7_clear_0 : decode cX7_clear 0 = .ok (.aload_n 0, 1) := by decide +kernel
theorem dX7_clear_1 : decode cX7_clear 1 = .ok (.getfield 51, 3) := by decide +kernel
theorem dX7_clear_4 : decode cX7_clear 4 = .ok (.istore_n 1, 1) := by decide +kernel
theorem dX7_clear_5 : decode cX7_clear 5 = .ok (.aload_n 0, 1) := by decide +kernel
theorem dX7_clear_6 : decode cX7_clear 6 = .ok (.iconst 0, 1) := by decide +kernel
theorem dX7_clear_7 : decode cX7_clear 7 = .ok (.putfield 51, 3) := by decide +kernel
theorem dX7_clear_10 : decode cX7_clear 10 = .ok (.iload_n 1, 1) := by decide +kernel
theorem dX7_clear_11 : decode cX7_clear 11 = .ok (.ireturn, 1) := by decide +kernel
theorem dX7_byteAt_0 : decode cX7_byteAt 0 = .ok (.iload_n 1, 1) := by decide +kernel
theorem dX7_byteAt_1 : decode cX7_byteAt 1 = .ok (.aload_n 0, 1) := by decide +kernel
theorem dX7_byteAt_2 : decode cX7_byteAt 2 = .ok (.getfield 51, 3) := by decide +kernel
theorem dX7_byteAt_5 : decode cX7_byteAt 5 = .ok (.if_icmp .ge 12, 3) := by decide +kernel
theorem dX7_byteAt_8 : decode cX7_byteAt 8 = .ok (.aload_n 0, 1) := by decide +kernel
theorem dX7_byteAt_9 : decode cX7_byteAt 9 = .ok (.getfield 7, 3) := by decide +kernel
theorem dX7_byteAt_12 : decode cX7_byteAt 12 = .ok (.iload_n 1, 1) := by decide +kernel
theorem dX7_byteAt_13 : decode cX7_byteAt 13 = .ok (.iaload, 1) := by decide +kernel
theorem dX7_byteAt_14 : decode cX7_byteAt 14 = .ok (.goto 4, 3) := by decide +kernel
theorem dX7_byteAt_17 : decode cX7_byteAt 17 = .ok (.iconst (-1), 1) := by decide +kernel
theorem dX7_byteAt_18 : decode cX7_byteAt 18 = .ok (.ireturn, 1) := by decide +kernel
theorem dX7_sortOf_0 : decode cX7_sortOf 0 = .ok (.iload_n 0, 1) := by decide +kernel
theorem dX7_sortOf_1 : decode cX7_sortOf 1 = .ok (.ifCond .ge 7, 3) := by decide +kernel
theorem dX7_sortOf_4 : decode cX7_sortOf 4 = .ok (.iconst 0, 1) := by decide +kernel
theorem dX7_sortOf_5 : decode cX7_sortOf 5 = .ok (.goto 44, 3) := by decide +kernel
theorem dX7_sortOf_8 : decode cX7_sortOf 8 = .ok (.iload_n 0, 1) := by decide +kernel
theorem dX7_sortOf_9 : decode cX7_sortOf 9 = .ok (.bipush 97, 2) := by decide +kernel
theorem dX7_sortOf_11 : decode cX7_sortOf 11 = .ok (.bipush 122, 2) := by decide +kernel
theorem dX7_sortOf_13 : decode cX7_sortOf 13 = .ok (.invokestatic 47, 3) := by decide +kernel
theorem dX7_sortOf_16 : decode cX7_sortOf 16 = .ok (.ifCond .eq 7, 3) := by decide +kernel
theorem dX7_sortOf_19 : decode cX7_sortOf 19 = .ok (.iconst 1, 1) := by decide +kernel
theorem dX7_sortOf_20 : decode cX7_sortOf 20 = .ok (.goto 29, 3) := by decide +kernel
theorem dX7_sortOf_23 : decode cX7_sortOf 23 = .ok (.iload_n 0, 1) := by decide +kernel
theorem dX7_sortOf_24 : decode cX7_sortOf 24 = .ok (.bipush 48, 2) := by decide +kernel
theorem dX7_sortOf_26 : decode cX7_sortOf 26 = .ok (.bipush 57, 2) := by decide +kernel
theorem dX7_sortOf_28 : decode cX7_sortOf 28 = .ok (.invokestatic 47, 3) := by decide +kernel
theorem dX7_sortOf_31 : decode cX7_sortOf 31 = .ok (.ifCond .eq 7, 3) := by decide +kernel
theorem dX7_sortOf_34 : decode cX7_sortOf 34 = .ok (.iconst 2, 1) := by decide +kernel
theorem dX7_sortOf_35 : decode cX7_sortOf 35 = .ok (.goto 14, 3) := by decide +kernel
theorem dX7_sortOf_38 : decode cX7_sortOf 38 = .ok (.iload_n 0, 1) := by decide +kernel
theorem dX7_sortOf_39 : decode cX7_sortOf 39 = .ok (.bipush 59, 2) := by decide +kernel
theorem dX7_sortOf_41 : decode cX7_sortOf 41 = .ok (.if_icmp .ne 7, 3) := by decide +kernel
theorem dX7_sortOf_44 : decode cX7_sortOf 44 = .ok (.iconst 3, 1) := by decide +kernel
theorem dX7_sortOf_45 : decode cX7_sortOf 45 = .ok (.goto 4, 3) := by decide +kernel
theorem dX7_sortOf_48 : decode cX7_sortOf 48 = .ok (.iconst 4, 1) := by decide +kernel
theorem dX7_sortOf_49 : decode cX7_sortOf 49 = .ok (.ireturn, 1) := by decide +kernel
theorem dX7_token_0 : decode cX7_token 0 = .ok (.aload_n 0, 1) := by decide +kernel
theorem dX7_token_1 : decode cX7_token 1 = .ok (.aload_n 0, 1) := by decide +kernel
theorem dX7_token_2 : decode cX7_token 2 = .ok (.getfield 57, 3) := by decide +kernel
theorem dX7_token_5 : decode cX7_token 5 = .ok (.invokevirtual 60, 3) := by decide +kernel
theorem dX7_token_8 : decode cX7_token 8 = .ok (.bipush 32, 2) := by decide +kernel
theorem dX7_token_10 : decode cX7_token 10 = .ok (.if_icmp .ne 16, 3) := by decide +kernel
theorem dX7_token_13 : decode cX7_token 13 = .ok (.aload_n 0, 1) := by decide +kernel
theorem dX7_token_14 : decode cX7_token 14 = .ok (.dup, 1) := by decide +kernel
theorem dX7_token_15 : decode cX7_token 15 = .ok (.getfield 57, 3) := by decide +kernel
theorem dX7_token_18 : decode cX7_token 18 = .ok (.iconst 1, 1) := by decide +kernel
theorem dX7_token_19 : decode cX7_token 19 = .ok (.iadd, 1) := by decide +kernel
theorem dX7_token_20 : decode cX7_token 20 = .ok (.putfield 57, 3) := by decide +kernel
theorem dX7_token_23 : decode cX7_token 23 = .ok (.goto (-23), 3) := by decide +kernel
theorem dX7_token_26 : decode cX7_token 26 = .ok (.aload_n 0, 1) := by decide +kernel
theorem dX7_token_27 : decode cX7_token 27 = .ok (.aload_n 0, 1) := by decide +kernel
theorem dX7_token_28 : decode cX7_token 28 = .ok (.getfield 57, 3) := by decide +kernel
theorem dX7_token_31 : decode cX7_token 31 = .ok (.putfield 64, 3) := by decide +kernel
theorem dX7_token_34 : decode cX7_token 34 = .ok (.aload_n 0, 1) := by decide +kernel
theorem dX7_token_35 : decode cX7_token 35 = .ok (.aload_n 0, 1) := by decide +kernel
theorem dX7_token_36 : decode cX7_token 36 = .ok (.aload_n 0, 1) := by decide +kernel
theorem dX7_token_37 : decode cX7_token 37 = .ok (.getfield 57, 3) := by decide +kernel
theorem dX7_token_40 : decode cX7_token 40 = .ok (.invokevirtual 60, 3) := by decide +kernel
theorem dX7_token_43 : decode cX7_token 43 = .ok (.invokestatic 67, 3) := by decide +kernel
theorem dX7_token_46 : decode cX7_token 46 = .ok (.putfield 70, 3) := by decide +kernel
theorem dX7_token_49 : decode cX7_token 49 = .ok (.aload_n 0, 1) := by decide +kernel
theorem dX7_token_50 : decode cX7_token 50 = .ok (.iconst 0, 1) := by decide +kernel
theorem dX7_token_51 : decode cX7_token 51 = .ok (.putfield 73, 3) := by decide +kernel
theorem dX7_token_54 : decode cX7_token 54 = .ok (.aload_n 0, 1) := by decide +kernel
theorem dX7_token_55 : decode cX7_token 55 = .ok (.getfield 73, 3) := by decide +kernel
theorem dX7_token_58 : decode cX7_token 58 = .ok (.ifCond .ne 10, 3) := by decide +kernel
theorem dX7_token_61 : decode cX7_token 61 = .ok (.aload_n 0, 1) := by decide +kernel
theorem dX7_token_62 : decode cX7_token 62 = .ok (.getfield 70, 3) := by decide +kernel
theorem dX7_token_65 : decode cX7_token 65 = .ok (.ifCond .ne 37, 3) := by decide +kernel
theorem dX7_token_68 : decode cX7_token 68 = .ok (.aload_n 0, 1) := by decide +kernel
theorem dX7_token_69 : decode cX7_token 69 = .ok (.getfield 70, 3) := by decide +kernel
theorem dX7_token_72 : decode cX7_token 72 = .ok (.iconst 1, 1) := by decide +kernel
theorem dX7_token_73 : decode cX7_token 73 = .ok (.if_icmp .eq 11, 3) := by decide +kernel
theorem dX7_token_76 : decode cX7_token 76 = .ok (.aload_n 0, 1) := by decide +kernel
theorem dX7_token_77 : decode cX7_token 77 = .ok (.getfield 70, 3) := by decide +kernel
theorem dX7_token_80 : decode cX7_token 80 = .ok (.iconst 2, 1) := by decide +kernel
theorem dX7_token_81 : decode cX7_token 81 = .ok (.if_icmp .ne 44, 3) := by decide +kernel
theorem dX7_token_84 : decode cX7_token 84 = .ok (.aload_n 0, 1) := by decide +kernel
theorem dX7_token_85 : decode cX7_token 85 = .ok (.aload_n 0, 1) := by decide +kernel
theorem dX7_token_86 : decode cX7_token 86 = .ok (.getfield 57, 3) := by decide +kernel
theorem dX7_token_89 : decode cX7_token 89 = .ok (.invokevirtual 60, 3) := by decide +kernel
theorem dX7_token_92 : decode cX7_token 92 = .ok (.invokestatic 67, 3) := by decide +kernel
theorem dX7_token_95 : decode cX7_token 95 = .ok (.aload_n 0, 1) := by decide +kernel
theorem dX7_token_96 : decode cX7_token 96 = .ok (.getfield 70, 3) := by decide +kernel
theorem dX7_token_99 : decode cX7_token 99 = .ok (.if_icmp .ne 26, 3) := by decide +kernel
theorem dX7_token_102 : decode cX7_token 102 = .ok (.aload_n 0, 1) := by decide +kernel
theorem dX7_token_103 : decode cX7_token 103 = .ok (.dup, 1) := by decide +kernel
theorem dX7_token_104 : decode cX7_token 104 = .ok (.getfield 57, 3) := by decide +kernel
theorem dX7_token_107 : decode cX7_token 107 = .ok (.iconst 1, 1) := by decide +kernel
theorem dX7_token_108 : decode cX7_token 108 = .ok (.iadd, 1) := by decide +kernel
theorem dX7_token_109 : decode cX7_token 109 = .ok (.putfield 57, 3) := by decide +kernel
theorem dX7_token_112 : decode cX7_token 112 = .ok (.aload_n 0, 1) := by decide +kernel
theorem dX7_token_113 : decode cX7_token 113 = .ok (.dup, 1) := by decide +kernel
theorem dX7_token_114 : decode cX7_token 114 = .ok (.getfield 73, 3) := by decide +kernel
theorem dX7_token_117 : decode cX7_token 117 = .ok (.iconst 1, 1) := by decide +kernel
theorem dX7_token_118 : decode cX7_token 118 = .ok (.iadd, 1) := by decide +kernel
theorem dX7_token_119 : decode cX7_token 119 = .ok (.putfield 73, 3) := by decide +kernel
theorem dX7_token_122 : decode cX7_token 122 = .ok (.goto (-68), 3) := by decide +kernel
theorem dX7_token_125 : decode cX7_token 125 = .ok (.return_, 1) := by decide +kernel
theorem dX7_verb_0 : decode cX7_verb 0 = .ok (.lconst 0, 1) := by decide +kernel
theorem dX7_verb_1 : decode cX7_verb 1 = .ok (.lstore_n 1, 1) := by decide +kernel
theorem dX7_verb_2 : decode cX7_verb 2 = .ok (.iconst 0, 1) := by decide +kernel
theorem dX7_verb_3 : decode cX7_verb 3 = .ok (.istore_n 3, 1) := by decide +kernel
theorem dX7_verb_4 : decode cX7_verb 4 = .ok (.iload_n 3, 1) := by decide +kernel
theorem dX7_verb_5 : decode cX7_verb 5 = .ok (.aload_n 0, 1) := by decide +kernel
theorem dX7_verb_6 : decode cX7_verb 6 = .ok (.getfield 73, 3) := by decide +kernel
theorem dX7_verb_9 : decode cX7_verb 9 = .ok (.if_icmp .ge 44, 3) := by decide +kernel
theorem dX7_verb_12 : decode cX7_verb 12 = .ok (.aload_n 0, 1) := by decide +kernel
theorem dX7_verb_13 : decode cX7_verb 13 = .ok (.getfield 73, 3) := by decide +kernel
theorem dX7_verb_16 : decode cX7_verb 16 = .ok (.bipush 6, 2) := by decide +kernel
theorem dX7_verb_18 : decode cX7_verb 18 = .ok (.if_icmp .ge 35, 3) := by decide +kernel
theorem dX7_verb_21 : decode cX7_verb 21 = .ok (.aload_n 0, 1) := by decide +kernel
theorem dX7_verb_22 : decode cX7_verb 22 = .ok (.getfield 70, 3) := by decide +kernel
theorem dX7_verb_25 : decode cX7_verb 25 = .ok (.iconst 1, 1) := by decide +kernel
theorem dX7_verb_26 : decode cX7_verb 26 = .ok (.if_icmp .ne 27, 3) := by decide +kernel
theorem dX7_verb_29 : decode cX7_verb 29 = .ok (.ldc2_w 76, 3) := by decide +kernel
theorem dX7_verb_32 : decode cX7_verb 32 = .ok (.lload_n 1, 1) := by decide +kernel
theorem dX7_verb_33 : decode cX7_verb 33 = .ok (.lmul, 1) := by decide +kernel
theorem dX7_verb_34 : decode cX7_verb 34 = .ok (.aload_n 0, 1) := by decide +kernel
theorem dX7_verb_35 : decode cX7_verb 35 = .ok (.aload_n 0, 1) := by decide +kernel
theorem dX7_verb_36 : decode cX7_verb 36 = .ok (.getfield 64, 3) := by decide +kernel
theorem dX7_verb_39 : decode cX7_verb 39 = .ok (.iload_n 3, 1) := by decide +kernel
theorem dX7_verb_40 : decode cX7_verb 40 = .ok (.iadd, 1) := by decide +kernel
theorem dX7_verb_41 : decode cX7_verb 41 = .ok (.invokevirtual 60, 3) := by decide +kernel
theorem dX7_verb_44 : decode cX7_verb 44 = .ok (.i2l, 1) := by decide +kernel
theorem dX7_verb_45 : decode cX7_verb 45 = .ok (.ladd, 1) := by decide +kernel
theorem dX7_verb_46 : decode cX7_verb 46 = .ok (.lstore_n 1, 1) := by decide +kernel
theorem dX7_verb_47 : decode cX7_verb 47 = .ok (.iinc 3 1, 3) := by decide +kernel
theorem dX7_verb_50 : decode cX7_verb 50 = .ok (.goto (-46), 3) := by decide +kernel
theorem dX7_verb_53 : decode cX7_verb 53 = .ok (.lload_n 1, 1) := by decide +kernel
theorem dX7_verb_54 : decode cX7_verb 54 = .ok (.ldc2_w 78, 3) := by decide +kernel
theorem dX7_verb_57 : decode cX7_verb 57 = .ok (.lcmp, 1) := by decide +kernel
theorem dX7_verb_58 : decode cX7_verb 58 = .ok (.ifCond .ne 7, 3) := by decide +kernel
theorem dX7_verb_61 : decode cX7_verb 61 = .ok (.iconst 0, 1) := by decide +kernel
theorem dX7_verb_62 : decode cX7_verb 62 = .ok (.goto 17, 3) := by decide +kernel
theorem dX7_verb_65 : decode cX7_verb 65 = .ok (.lload_n 1, 1) := by decide +kernel
theorem dX7_verb_66 : decode cX7_verb 66 = .ok (.ldc2_w 80, 3) := by decide +kernel
theorem dX7_verb_69 : decode cX7_verb 69 = .ok (.lcmp, 1) := by decide +kernel
theorem dX7_verb_70 : decode cX7_verb 70 = .ok (.ifCond .ne 7, 3) := by decide +kernel
theorem dX7_verb_73 : decode cX7_verb 73 = .ok (.iconst 1, 1) := by decide +kernel
theorem dX7_verb_74 : decode cX7_verb 74 = .ok (.goto 5, 3) := by decide +kernel
theorem dX7_verb_77 : decode cX7_verb 77 = .ok (.bipush (-9), 2) := by decide +kernel
theorem dX7_verb_79 : decode cX7_verb 79 = .ok (.ireturn, 1) := by decide +kernel
theorem dX7_figure_0 : decode cX7_figure 0 = .ok (.aload_n 0, 1) := by decide +kernel
theorem dX7_figure_1 : decode cX7_figure 1 = .ok (.aload_n 0, 1) := by decide +kernel
theorem dX7_figure_2 : decode cX7_figure 2 = .ok (.getfield 64, 3) := by decide +kernel
theorem dX7_figure_5 : decode cX7_figure 5 = .ok (.invokevirtual 60, 3) := by decide +kernel
theorem dX7_figure_8 : decode cX7_figure 8 = .ok (.bipush 48, 2) := by decide +kernel
theorem dX7_figure_10 : decode cX7_figure 10 = .ok (.isub, 1) := by decide +kernel
theorem dX7_figure_11 : decode cX7_figure 11 = .ok (.istore_n 2, 1) := by decide +kernel
theorem dX7_figure_12 : decode cX7_figure 12 = .ok (.aload_n 0, 1) := by decide +kernel
theorem dX7_figure_13 : decode cX7_figure 13 = .ok (.getfield 70, 3) := by decide +kernel
theorem dX7_figure_16 : decode cX7_figure 16 = .ok (.iconst 2, 1) := by decide +kernel
theorem dX7_figure_17 : decode cX7_figure 17 = .ok (.if_icmp .ne 20, 3) := by decide +kernel
theorem dX7_figure_20 : decode cX7_figure 20 = .ok (.aload_n 0, 1) := by decide +kernel
theorem dX7_figure_21 : decode cX7_figure 21 = .ok (.getfield 73, 3) := by decide +kernel
theorem dX7_figure_24 : decode cX7_figure 24 = .ok (.iconst 1, 1) := by decide +kernel
theorem dX7_figure_25 : decode cX7_figure 25 = .ok (.if_icmp .ne 12, 3) := by decide +kernel
theorem dX7_figure_28 : decode cX7_figure 28 = .ok (.iload_n 2, 1) := by decide +kernel
theorem dX7_figure_29 : decode cX7_figure 29 = .ok (.iload_n 1, 1) := by decide +kernel
theorem dX7_figure_30 : decode cX7_figure 30 = .ok (.if_icmp .gt 7, 3) := by decide +kernel
theorem dX7_figure_33 : decode cX7_figure 33 = .ok (.iload_n 2, 1) := by decide +kernel
theorem dX7_figure_34 : decode cX7_figure 34 = .ok (.goto 5, 3) := by decide +kernel
theorem dX7_figure_37 : decode cX7_figure 37 = .ok (.bipush (-9), 2) := by decide +kernel
theorem dX7_figure_39 : decode cX7_figure 39 = .ok (.ireturn, 1) := by decide +kernel
theorem dX7_readsSigns_0 : decode cX7_readsSigns 0 = .ok (.aload_n 0, 1) := by decide +kernel
theorem dX7_readsSigns_1 : decode cX7_readsSigns 1 = .ok (.invokevirtual 82, 3) := by decide +kernel
theorem dX7_readsSigns_4 : decode cX7_readsSigns 4 = .ok (.aload_n 0, 1) := by decide +kernel
theorem dX7_readsSigns_5 : decode cX7_readsSigns 5 = .ok (.getfield 70, 3) := by decide +kernel
theorem dX7_readsSigns_8 : decode cX7_readsSigns 8 = .ok (.iconst 1, 1) := by decide +kernel
theorem dX7_readsSigns_9 : decode cX7_readsSigns 9 = .ok (.if_icmp .ne 16, 3) := by decide +kernel
theorem dX7_readsSigns_12 : decode cX7_readsSigns 12 = .ok (.aload_n 0, 1) := by decide +kernel
theorem dX7_readsSigns_13 : decode cX7_readsSigns 13 = .ok (.getfield 73, 3) := by decide +kernel
theorem dX7_readsSigns_16 : decode cX7_readsSigns 16 = .ok (.bipush 6, 2) := by decide +kernel
theorem dX7_readsSigns_18 : decode cX7_readsSigns 18 = .ok (.if_icmp .ge 7, 3) := by decide +kernel
theorem dX7_readsSigns_21 : decode cX7_readsSigns 21 = .ok (.iconst 1, 1) := by decide +kernel
theorem dX7_readsSigns_22 : decode cX7_readsSigns 22 = .ok (.goto 4, 3) := by decide +kernel
theorem dX7_readsSigns_25 : decode cX7_readsSigns 25 = .ok (.iconst 0, 1) := by decide +kernel
theorem dX7_readsSigns_26 : decode cX7_readsSigns 26 = .ok (.istore_n 2, 1) := by decide +kernel
theorem dX7_readsSigns_27 : decode cX7_readsSigns 27 = .ok (.iconst 0, 1) := by decide +kernel
theorem dX7_readsSigns_28 : decode cX7_readsSigns 28 = .ok (.istore_n 3, 1) := by decide +kernel
theorem dX7_readsSigns_29 : decode cX7_readsSigns 29 = .ok (.iload_n 3, 1) := by decide +kernel
theorem dX7_readsSigns_30 : decode cX7_readsSigns 30 = .ok (.aload_n 0, 1) := by decide +kernel
theorem dX7_readsSigns_31 : decode cX7_readsSigns 31 = .ok (.getfield 73, 3) := by decide +kernel
theorem dX7_readsSigns_34 : decode cX7_readsSigns 34 = .ok (.if_icmp .ge 60, 3) := by decide +kernel
theorem dX7_readsSigns_37 : decode cX7_readsSigns 37 = .ok (.iload_n 2, 1) := by decide +kernel
theorem dX7_readsSigns_38 : decode cX7_readsSigns 38 = .ok (.ifCond .eq 56, 3) := by decide +kernel
theorem dX7_readsSigns_41 : decode cX7_readsSigns 41 = .ok (.aload_n 0, 1) := by decide +kernel
theorem dX7_readsSigns_42 : decode cX7_readsSigns 42 = .ok (.getfield 16, 3) := by decide +kernel
theorem dX7_readsSigns_45 : decode cX7_readsSigns 45 = .ok (.bipush 39, 2) := by decide +kernel
theorem dX7_readsSigns_47 : decode cX7_readsSigns 47 = .ok (.iconst 5, 1) := by decide +kernel
theorem dX7_readsSigns_48 : decode cX7_readsSigns 48 = .ok (.iload_n 1, 1) := by decide +kernel
theorem dX7_readsSigns_49 : decode cX7_readsSigns 49 = .ok (.imul, 1) := by decide +kernel
theorem dX7_readsSigns_50 : decode cX7_readsSigns 50 = .ok (.iadd, 1) := by decide +kernel
theorem dX7_readsSigns_51 : decode cX7_readsSigns 51 = .ok (.iload_n 3, 1) := by decide +kernel
theorem dX7_readsSigns_52 : decode cX7_readsSigns 52 = .ok (.iadd, 1) := by decide +kernel
theorem dX7_readsSigns_53 : decode cX7_readsSigns 53 = .ok (.aload_n 0, 1) := by decide +kernel
theorem dX7_readsSigns_54 : decode cX7_readsSigns 54 = .ok (.aload_n 0, 1) := by decide +kernel
theorem dX7_readsSigns_55 : decode cX7_readsSigns 55 = .ok (.getfield 64, 3) := by decide +kernel
theorem dX7_readsSigns_58 : decode cX7_readsSigns 58 = .ok (.iload_n 3, 1) := by decide +kernel
theorem dX7_readsSigns_59 : decode cX7_readsSigns 59 = .ok (.iadd, 1) := by decide +kernel
theorem dX7_readsSigns_60 : decode cX7_readsSigns 60 = .ok (.invokevirtual 60, 3) := by decide +kernel
theorem dX7_readsSigns_63 : decode cX7_readsSigns 63 = .ok (.bipush 97, 2) := by decide +kernel
theorem dX7_readsSigns_65 : decode cX7_readsSigns 65 = .ok (.isub, 1) := by decide +kernel
theorem dX7_readsSigns_66 : decode cX7_readsSigns 66 = .ok (.iastore, 1) := by decide +kernel
theorem dX7_readsSigns_67 : decode cX7_readsSigns 67 = .ok (.aload_n 0, 1) := by decide +kernel
theorem dX7_readsSigns_68 : decode cX7_readsSigns 68 = .ok (.aload_n 0, 1) := by decide +kernel
theorem dX7_readsSigns_69 : decode cX7_readsSigns 69 = .ok (.getfield 64, 3) := by decide +kernel
theorem dX7_readsSigns_72 : decode cX7_readsSigns 72 = .ok (.iload_n 3, 1) := by decide +kernel
theorem dX7_readsSigns_73 : decode cX7_readsSigns 73 = .ok (.iadd, 1) := by decide +kernel
theorem dX7_readsSigns_74 : decode cX7_readsSigns 74 = .ok (.invokevirtual 60, 3) := by decide +kernel
theorem dX7_readsSigns_77 : decode cX7_readsSigns 77 = .ok (.bipush 104, 2) := by decide +kernel
theorem dX7_readsSigns_79 : decode cX7_readsSigns 79 = .ok (.if_icmp .gt 7, 3) := by decide +kernel
theorem dX7_readsSigns_82 : decode cX7_readsSigns 82 = .ok (.iconst 1, 1) := by decide +kernel
theorem dX7_readsSigns_83 : decode cX7_readsSigns 83 = .ok (.goto 4, 3) := by decide +kernel
theorem dX7_readsSigns_86 : decode cX7_readsSigns 86 = .ok (.iconst 0, 1) := by decide +kernel
theorem dX7_readsSigns_87 : decode cX7_readsSigns 87 = .ok (.istore_n 2, 1) := by decide +kernel
theorem dX7_readsSigns_88 : decode cX7_readsSigns 88 = .ok (.iinc 3 1, 3) := by decide +kernel
theorem dX7_readsSigns_91 : decode cX7_readsSigns 91 = .ok (.goto (-62), 3) := by decide +kernel
theorem dX7_readsSigns_94 : decode cX7_readsSigns 94 = .ok (.aload_n 0, 1) := by decide +kernel
theorem dX7_readsSigns_95 : decode cX7_readsSigns 95 = .ok (.getfield 16, 3) := by decide +kernel
theorem dX7_readsSigns_98 : decode cX7_readsSigns 98 = .ok (.bipush 30, 2) := by decide +kernel
theorem dX7_readsSigns_100 : decode cX7_readsSigns 100 = .ok (.iload_n 1, 1) := by decide +kernel
theorem dX7_readsSigns_101 : decode cX7_readsSigns 101 = .ok (.iadd, 1) := by decide +kernel
theorem dX7_readsSigns_102 : decode cX7_readsSigns 102 = .ok (.iload_n 2, 1) := by decide +kernel
theorem dX7_readsSigns_103 : decode cX7_readsSigns 103 = .ok (.ifCond .eq 10, 3) := by decide +kernel
theorem dX7_readsSigns_106 : decode cX7_readsSigns 106 = .ok (.aload_n 0, 1) := by decide +kernel
theorem dX7_readsSigns_107 : decode cX7_readsSigns 107 = .ok (.getfield 73, 3) := by decide +kernel
theorem dX7_readsSigns_110 : decode cX7_readsSigns 110 = .ok (.goto 4, 3) := by decide +kernel
theorem dX7_readsSigns_113 : decode cX7_readsSigns 113 = .ok (.iconst 0, 1) := by decide +kernel
theorem dX7_readsSigns_114 : decode cX7_readsSigns 114 = .ok (.iastore, 1) := by decide +kernel
theorem dX7_readsSigns_115 : decode cX7_readsSigns 115 = .ok (.iload_n 2, 1) := by decide +kernel
theorem dX7_readsSigns_116 : decode cX7_readsSigns 116 = .ok (.ireturn, 1) := by decide +kernel
theorem dX7_readsNumber_0 : decode cX7_readsNumber 0 = .ok (.aload_n 0, 1) := by decide +kernel
theorem dX7_readsNumber_1 : decode cX7_readsNumber 1 = .ok (.invokevirtual 82, 3) := by decide +kernel
theorem dX7_readsNumber_4 : decode cX7_readsNumber 4 = .ok (.aload_n 0, 1) := by decide +kernel
theorem dX7_readsNumber_5 : decode cX7_readsNumber 5 = .ok (.iload_n 2, 1) := by decide +kernel
theorem dX7_readsNumber_6 : decode cX7_readsNumber 6 = .ok (.invokevirtual 85, 3) := by decide +kernel
theorem dX7_readsNumber_9 : decode cX7_readsNumber 9 = .ok (.istore_n 3, 1) := by decide +kernel
theorem dX7_readsNumber_10 : decode cX7_readsNumber 10 = .ok (.aload_n 0, 1) := by decide +kernel
theorem dX7_readsNumber_11 : decode cX7_readsNumber 11 = .ok (.getfield 16, 3) := by decide +kernel
theorem dX7_readsNumber_14 : decode cX7_readsNumber 14 = .ok (.iload_n 1, 1) := by decide +kernel
theorem dX7_readsNumber_15 : decode cX7_readsNumber 15 = .ok (.iload_n 3, 1) := by decide +kernel
theorem dX7_readsNumber_16 : decode cX7_readsNumber 16 = .ok (.iastore, 1) := by decide +kernel
theorem dX7_readsNumber_17 : decode cX7_readsNumber 17 = .ok (.iload_n 3, 1) := by decide +kernel
theorem dX7_readsNumber_18 : decode cX7_readsNumber 18 = .ok (.bipush (-9), 2) := by decide +kernel
theorem dX7_readsNumber_20 : decode cX7_readsNumber 20 = .ok (.if_icmp .eq 7, 3) := by decide +kernel
theorem dX7_readsNumber_23 : decode cX7_readsNumber 23 = .ok (.iconst 1, 1) := by decide +kernel
theorem dX7_readsNumber_24 : decode cX7_readsNumber 24 = .ok (.goto 4, 3) := by decide +kernel
theorem dX7_readsNumber_27 : decode cX7_readsNumber 27 = .ok (.iconst 0, 1) := by decide +kernel
theorem dX7_readsNumber_28 : decode cX7_readsNumber 28 = .ok (.ireturn, 1) := by decide +kernel
theorem dX7_readsWord_0 : decode cX7_readsWord 0 = .ok (.aload_n 0, 1) := by decide +kernel
theorem dX7_readsWord_1 : decode cX7_readsWord 1 = .ok (.getfield 16, 3) := by decide +kernel
theorem dX7_readsWord_4 : decode cX7_readsWord 4 = .ok (.iconst 0, 1) := by decide +kernel
theorem dX7_readsWord_5 : decode cX7_readsWord 5 = .ok (.iaload, 1) := by decide +kernel
theorem dX7_readsWord_6 : decode cX7_readsWord 6 = .ok (.istore_n 1, 1) := by decide +kernel
theorem dX7_readsWord_7 : decode cX7_readsWord 7 = .ok (.iload_n 1, 1) := by decide +kernel
theorem dX7_readsWord_8 : decode cX7_readsWord 8 = .ok (.bipush 9, 2) := by decide +kernel
theorem dX7_readsWord_10 : decode cX7_readsWord 10 = .ok (.if_icmp .eq 48, 3) := by decide +kernel
theorem dX7_readsWord_13 : decode cX7_readsWord 13 = .ok (.aload_n 0, 1) := by decide +kernel
theorem dX7_readsWord_14 : decode cX7_readsWord 14 = .ok (.iload_n 1, 1) := by decide +kernel
theorem dX7_readsWord_15 : decode cX7_readsWord 15 = .ok (.invokevirtual 88, 3) := by decide +kernel
theorem dX7_readsWord_18 : decode cX7_readsWord 18 = .ok (.ifCond .eq 40, 3) := by decide +kernel
theorem dX7_readsWord_21 : decode cX7_readsWord 21 = .ok (.aload_n 0, 1) := by decide +kernel
theorem dX7_readsWord_22 : decode cX7_readsWord 22 = .ok (.iconst 3, 1) := by decide +kernel
theorem dX7_readsWord_23 : decode cX7_readsWord 23 = .ok (.iload_n 1, 1) := by decide +kernel
theorem dX7_readsWord_24 : decode cX7_readsWord 24 = .ok (.iadd, 1) := by decide +kernel
theorem dX7_readsWord_25 : decode cX7_readsWord 25 = .ok (.iconst 2, 1) := by decide +kernel
theorem dX7_readsWord_26 : decode cX7_readsWord 26 = .ok (.invokevirtual 92, 3) := by decide +kernel
theorem dX7_readsWord_29 : decode cX7_readsWord 29 = .ok (.ifCond .eq 29, 3) := by decide +kernel
theorem dX7_readsWord_32 : decode cX7_readsWord 32 = .ok (.aload_n 0, 1) := by decide +kernel
theorem dX7_readsWord_33 : decode cX7_readsWord 33 = .ok (.bipush 12, 2) := by decide +kernel
theorem dX7_readsWord_35 : decode cX7_readsWord 35 = .ok (.iload_n 1, 1) := by decide +kernel
theorem dX7_readsWord_36 : decode cX7_readsWord 36 = .ok (.iadd, 1) := by decide +kernel
theorem dX7_readsWord_37 : decode cX7_readsWord 37 = .ok (.bipush 9, 2) := by decide +kernel
theorem dX7_readsWord_39 : decode cX7_readsWord 39 = .ok (.invokevirtual 92, 3) := by decide +kernel
theorem dX7_readsWord_42 : decode cX7_readsWord 42 = .ok (.ifCond .eq 16, 3) := by decide +kernel
theorem dX7_readsWord_45 : decode cX7_readsWord 45 = .ok (.aload_n 0, 1) := by decide +kernel
theorem dX7_readsWord_46 : decode cX7_readsWord 46 = .ok (.bipush 21, 2) := by decide +kernel
theorem dX7_readsWord_48 : decode cX7_readsWord 48 = .ok (.iload_n 1, 1) := by decide +kernel
theorem dX7_readsWord_49 : decode cX7_readsWord 49 = .ok (.iadd, 1) := by decide +kernel
theorem dX7_readsWord_50 : decode cX7_readsWord 50 = .ok (.bipush 9, 2) := by decide +kernel
theorem dX7_readsWord_52 : decode cX7_readsWord 52 = .ok (.invokevirtual 92, 3) := by decide +kernel
theorem dX7_readsWord_55 : decode cX7_readsWord 55 = .ok (.ifCond .ne 5, 3) := by decide +kernel
theorem dX7_readsWord_58 : decode cX7_readsWord 58 = .ok (.iconst 0, 1) := by decide +kernel
theorem dX7_readsWord_59 : decode cX7_readsWord 59 = .ok (.ireturn, 1) := by decide +kernel
theorem dX7_readsWord_60 : decode cX7_readsWord 60 = .ok (.aload_n 0, 1) := by decide +kernel
theorem dX7_readsWord_61 : decode cX7_readsWord 61 = .ok (.getfield 16, 3) := by decide +kernel
theorem dX7_readsWord_64 : decode cX7_readsWord 64 = .ok (.iconst 0, 1) := by decide +kernel
theorem dX7_readsWord_65 : decode cX7_readsWord 65 = .ok (.dup2, 1) := by decide +kernel
theorem dX7_readsWord_66 : decode cX7_readsWord 66 = .ok (.iaload, 1) := by decide +kernel
theorem dX7_readsWord_67 : decode cX7_readsWord 67 = .ok (.iconst 1, 1) := by decide +kernel
theorem dX7_readsWord_68 : decode cX7_readsWord 68 = .ok (.iadd, 1) := by decide +kernel
theorem dX7_readsWord_69 : decode cX7_readsWord 69 = .ok (.iastore, 1) := by decide +kernel
theorem dX7_readsWord_70 : decode cX7_readsWord 70 = .ok (.aload_n 0, 1) := by decide +kernel
theorem dX7_readsWord_71 : decode cX7_readsWord 71 = .ok (.invokevirtual 82, 3) := by decide +kernel
theorem dX7_readsWord_74 : decode cX7_readsWord 74 = .ok (.iconst 1, 1) := by decide +kernel
theorem dX7_readsWord_75 : decode cX7_readsWord 75 = .ok (.ireturn, 1) := by decide +kernel
theorem dX7_readsShape_0 : decode cX7_readsShape 0 = .ok (.aload_n 0, 1) := by decide +kernel
theorem dX7_readsShape_1 : decode cX7_readsShape 1 = .ok (.getfield 16, 3) := by decide +kernel
theorem dX7_readsShape_4 : decode cX7_readsShape 4 = .ok (.iconst 1, 1) := by decide +kernel
theorem dX7_readsShape_5 : decode cX7_readsShape 5 = .ok (.iaload, 1) := by decide +kernel
theorem dX7_readsShape_6 : decode cX7_readsShape 6 = .ok (.istore_n 1, 1) := by decide +kernel
theorem dX7_readsShape_7 : decode cX7_readsShape 7 = .ok (.iload_n 1, 1) := by decide +kernel
theorem dX7_readsShape_8 : decode cX7_readsShape 8 = .ok (.iconst 4, 1) := by decide +kernel
theorem dX7_readsShape_9 : decode cX7_readsShape 9 = .ok (.if_icmp .eq 17, 3) := by decide +kernel
theorem dX7_readsShape_12 : decode cX7_readsShape 12 = .ok (.aload_n 0, 1) := by decide +kernel
theorem dX7_readsShape_13 : decode cX7_readsShape 13 = .ok (.bipush 88, 2) := by decide +kernel
theorem dX7_readsShape_15 : decode cX7_readsShape 15 = .ok (.iconst 3, 1) := by decide +kernel
theorem dX7_readsShape_16 : decode cX7_readsShape 16 = .ok (.iload_n 1, 1) := by decide +kernel
theorem dX7_readsShape_17 : decode cX7_readsShape 17 = .ok (.imul, 1) := by decide +kernel
theorem dX7_readsShape_18 : decode cX7_readsShape 18 = .ok (.iadd, 1) := by decide +kernel
theorem dX7_readsShape_19 : decode cX7_readsShape 19 = .ok (.iconst 2, 1) := by decide +kernel
theorem dX7_readsShape_20 : decode cX7_readsShape 20 = .ok (.invokevirtual 92, 3) := by decide +kernel
theorem dX7_readsShape_23 : decode cX7_readsShape 23 = .ok (.ifCond .ne 5, 3) := by decide +kernel
theorem dX7_readsShape_26 : decode cX7_readsShape 26 = .ok (.iconst 0, 1) := by decide +kernel
theorem dX7_readsShape_27 : decode cX7_readsShape 27 = .ok (.ireturn, 1) := by decide +kernel
theorem dX7_readsShape_28 : decode cX7_readsShape 28 = .ok (.iconst 1, 1) := by decide +kernel
theorem dX7_readsShape_29 : decode cX7_readsShape 29 = .ok (.istore_n 2, 1) := by decide +kernel
theorem dX7_readsShape_30 : decode cX7_readsShape 30 = .ok (.aload_n 0, 1) := by decide +kernel
theorem dX7_readsShape_31 : decode cX7_readsShape 31 = .ok (.invokevirtual 82, 3) := by decide +kernel
theorem dX7_readsShape_34 : decode cX7_readsShape 34 = .ok (.iload_n 2, 1) := by decide +kernel
theorem dX7_readsShape_35 : decode cX7_readsShape 35 = .ok (.iconst 3, 1) := by decide +kernel
theorem dX7_readsShape_36 : decode cX7_readsShape 36 = .ok (.if_icmp .ge 49, 3) := by decide +kernel
theorem dX7_readsShape_39 : decode cX7_readsShape 39 = .ok (.aload_n 0, 1) := by decide +kernel
theorem dX7_readsShape_40 : decode cX7_readsShape 40 = .ok (.getfield 70, 3) := by decide +kernel
theorem dX7_readsShape_43 : decode cX7_readsShape 43 = .ok (.iconst 2, 1) := by decide +kernel
theorem dX7_readsShape_44 : decode cX7_readsShape 44 = .ok (.if_icmp .ne 41, 3) := by decide +kernel
theorem dX7_readsShape_47 : decode cX7_readsShape 47 = .ok (.aload_n 0, 1) := by decide +kernel
theorem dX7_readsShape_48 : decode cX7_readsShape 48 = .ok (.iconst 2, 1) := by decide +kernel
theorem dX7_readsShape_49 : decode cX7_readsShape 49 = .ok (.invokevirtual 85, 3) := by decide +kernel
theorem dX7_readsShape_52 : decode cX7_readsShape 52 = .ok (.istore_n 3, 1) := by decide +kernel
theorem dX7_readsShape_53 : decode cX7_readsShape 53 = .ok (.iload_n 3, 1) := by decide +kernel
theorem dX7_readsShape_54 : decode cX7_readsShape 54 = .ok (.bipush (-9), 2) := by decide +kernel
theorem dX7_readsShape_56 : decode cX7_readsShape 56 = .ok (.if_icmp .ne 5, 3) := by decide +kernel
theorem dX7_readsShape_59 : decode cX7_readsShape 59 = .ok (.iconst 0, 1) := by decide +kernel
theorem dX7_readsShape_60 : decode cX7_readsShape 60 = .ok (.ireturn, 1) := by decide +kernel
theorem dX7_readsShape_61 : decode cX7_readsShape 61 = .ok (.aload_n 0, 1) := by decide +kernel
theorem dX7_readsShape_62 : decode cX7_readsShape 62 = .ok (.getfield 16, 3) := by decide +kernel
theorem dX7_readsShape_65 : decode cX7_readsShape 65 = .ok (.bipush 88, 2) := by decide +kernel
theorem dX7_readsShape_67 : decode cX7_readsShape 67 = .ok (.iconst 3, 1) := by decide +kernel
theorem dX7_readsShape_68 : decode cX7_readsShape 68 = .ok (.iload_n 1, 1) := by decide +kernel
theorem dX7_readsShape_69 : decode cX7_readsShape 69 = .ok (.imul, 1) := by decide +kernel
theorem dX7_readsShape_70 : decode cX7_readsShape 70 = .ok (.iadd, 1) := by decide +kernel
theorem dX7_readsShape_71 : decode cX7_readsShape 71 = .ok (.iload_n 2, 1) := by decide +kernel
theorem dX7_readsShape_72 : decode cX7_readsShape 72 = .ok (.iadd, 1) := by decide +kernel
theorem dX7_readsShape_73 : decode cX7_readsShape 73 = .ok (.iload_n 3, 1) := by decide +kernel
theorem dX7_readsShape_74 : decode cX7_readsShape 74 = .ok (.iastore, 1) := by decide +kernel
theorem dX7_readsShape_75 : decode cX7_readsShape 75 = .ok (.iinc 2 1, 3) := by decide +kernel
theorem dX7_readsShape_78 : decode cX7_readsShape 78 = .ok (.aload_n 0, 1) := by decide +kernel
theorem dX7_readsShape_79 : decode cX7_readsShape 79 = .ok (.invokevirtual 82, 3) := by decide +kernel
theorem dX7_readsShape_82 : decode cX7_readsShape 82 = .ok (.goto (-48), 3) := by decide +kernel
theorem dX7_readsShape_85 : decode cX7_readsShape 85 = .ok (.aload_n 0, 1) := by decide +kernel
theorem dX7_readsShape_86 : decode cX7_readsShape 86 = .ok (.getfield 16, 3) := by decide +kernel
theorem dX7_readsShape_89 : decode cX7_readsShape 89 = .ok (.bipush 84, 2) := by decide +kernel
theorem dX7_readsShape_91 : decode cX7_readsShape 91 = .ok (.iload_n 1, 1) := by decide +kernel
theorem dX7_readsShape_92 : decode cX7_readsShape 92 = .ok (.iadd, 1) := by decide +kernel
theorem dX7_readsShape_93 : decode cX7_readsShape 93 = .ok (.iload_n 2, 1) := by decide +kernel
theorem dX7_readsShape_94 : decode cX7_readsShape 94 = .ok (.iastore, 1) := by decide +kernel
theorem dX7_readsShape_95 : decode cX7_readsShape 95 = .ok (.aload_n 0, 1) := by decide +kernel
theorem dX7_readsShape_96 : decode cX7_readsShape 96 = .ok (.getfield 16, 3) := by decide +kernel
theorem dX7_readsShape_99 : decode cX7_readsShape 99 = .ok (.iconst 1, 1) := by decide +kernel
theorem dX7_readsShape_100 : decode cX7_readsShape 100 = .ok (.dup2, 1) := by decide +kernel
theorem dX7_readsShape_101 : decode cX7_readsShape 101 = .ok (.iaload, 1) := by decide +kernel
theorem dX7_readsShape_102 : decode cX7_readsShape 102 = .ok (.iconst 1, 1) := by decide +kernel
theorem dX7_readsShape_103 : decode cX7_readsShape 103 = .ok (.iadd, 1) := by decide +kernel
theorem dX7_readsShape_104 : decode cX7_readsShape 104 = .ok (.iastore, 1) := by decide +kernel
theorem dX7_readsShape_105 : decode cX7_readsShape 105 = .ok (.iconst 1, 1) := by decide +kernel
theorem dX7_readsShape_106 : decode cX7_readsShape 106 = .ok (.ireturn, 1) := by decide +kernel
theorem dX7_reads_0 : decode cX7_reads 0 = .ok (.iconst 0, 1) := by decide +kernel
theorem dX7_reads_1 : decode cX7_reads 1 = .ok (.istore_n 1, 1) := by decide +kernel
theorem dX7_reads_2 : decode cX7_reads 2 = .ok (.iload_n 1, 1) := by decide +kernel
theorem dX7_reads_3 : decode cX7_reads 3 = .ok (.bipush 110, 2) := by decide +kernel
theorem dX7_reads_5 : decode cX7_reads 5 = .ok (.if_icmp .ge 16, 3) := by decide +kernel
theorem dX7_reads_8 : decode cX7_reads 8 = .ok (.aload_n 0, 1) := by decide +kernel
theorem dX7_reads_9 : decode cX7_reads 9 = .ok (.getfield 16, 3) := by decide +kernel
theorem dX7_reads_12 : decode cX7_reads 12 = .ok (.iload_n 1, 1) := by decide +kernel
theorem dX7_reads_13 : decode cX7_reads 13 = .ok (.iconst 0, 1) := by decide +kernel
theorem dX7_reads_14 : decode cX7_reads 14 = .ok (.iastore, 1) := by decide +kernel
theorem dX7_reads_15 : decode cX7_reads 15 = .ok (.iinc 1 1, 3) := by decide +kernel
theorem dX7_reads_18 : decode cX7_reads 18 = .ok (.goto (-16), 3) := by decide +kernel
theorem dX7_reads_21 : decode cX7_reads 21 = .ok (.aload_n 0, 1) := by decide +kernel
theorem dX7_reads_22 : decode cX7_reads 22 = .ok (.iconst 0, 1) := by decide +kernel
theorem dX7_reads_23 : decode cX7_reads 23 = .ok (.putfield 57, 3) := by decide +kernel
theorem dX7_reads_26 : decode cX7_reads 26 = .ok (.aload_n 0, 1) := by decide +kernel
theorem dX7_reads_27 : decode cX7_reads 27 = .ok (.invokevirtual 82, 3) := by decide +kernel
theorem dX7_reads_30 : decode cX7_reads 30 = .ok (.aload_n 0, 1) := by decide +kernel
theorem dX7_reads_31 : decode cX7_reads 31 = .ok (.getfield 70, 3) := by decide +kernel
theorem dX7_reads_34 : decode cX7_reads 34 = .ok (.ifCond .eq 68, 3) := by decide +kernel
theorem dX7_reads_37 : decode cX7_reads 37 = .ok (.aload_n 0, 1) := by decide +kernel
theorem dX7_reads_38 : decode cX7_reads 38 = .ok (.invokevirtual 96, 3) := by decide +kernel
theorem dX7_reads_41 : decode cX7_reads 41 = .ok (.istore_n 1, 1) := by decide +kernel
theorem dX7_reads_42 : decode cX7_reads 42 = .ok (.iload_n 1, 1) := by decide +kernel
theorem dX7_reads_43 : decode cX7_reads 43 = .ok (.ifCond .ne 10, 3) := by decide +kernel
theorem dX7_reads_46 : decode cX7_reads 46 = .ok (.aload_n 0, 1) := by decide +kernel
theorem dX7_reads_47 : decode cX7_reads 47 = .ok (.invokevirtual 100, 3) := by decide +kernel
theorem dX7_reads_50 : decode cX7_reads 50 = .ok (.goto 20, 3) := by decide +kernel
theorem dX7_reads_53 : decode cX7_reads 53 = .ok (.iload_n 1, 1) := by decide +kernel
theorem dX7_reads_54 : decode cX7_reads 54 = .ok (.iconst 1, 1) := by decide +kernel
theorem dX7_reads_55 : decode cX7_reads 55 = .ok (.if_icmp .ne 14, 3) := by decide +kernel
theorem dX7_reads_58 : decode cX7_reads 58 = .ok (.aload_n 0, 1) := by decide +kernel
theorem dX7_reads_59 : decode cX7_reads 59 = .ok (.invokevirtual 104, 3) := by decide +kernel
theorem dX7_reads_62 : decode cX7_reads 62 = .ok (.ifCond .eq 7, 3) := by decide +kernel
theorem dX7_reads_65 : decode cX7_reads 65 = .ok (.iconst 1, 1) := by decide +kernel
theorem dX7_reads_66 : decode cX7_reads 66 = .ok (.goto 4, 3) := by decide +kernel
theorem dX7_reads_69 : decode cX7_reads 69 = .ok (.iconst 0, 1) := by decide +kernel
theorem dX7_reads_70 : decode cX7_reads 70 = .ok (.istore_n 2, 1) := by decide +kernel
theorem dX7_reads_71 : decode cX7_reads 71 = .ok (.iload_n 2, 1) := by decide +kernel
theorem dX7_reads_72 : decode cX7_reads 72 = .ok (.ifCond .eq 11, 3) := by decide +kernel
theorem dX7_reads_75 : decode cX7_reads 75 = .ok (.aload_n 0, 1) := by decide +kernel
theorem dX7_reads_76 : decode cX7_reads 76 = .ok (.getfield 70, 3) := by decide +kernel
theorem dX7_reads_79 : decode cX7_reads 79 = .ok (.iconst 3, 1) := by decide +kernel
theorem dX7_reads_80 : decode cX7_reads 80 = .ok (.if_icmp .eq 5, 3) := by decide +kernel
theorem dX7_reads_83 : decode cX7_reads 83 = .ok (.iconst 0, 1) := by decide +kernel
theorem dX7_reads_84 : decode cX7_reads 84 = .ok (.ireturn, 1) := by decide +kernel
theorem dX7_reads_85 : decode cX7_reads 85 = .ok (.aload_n 0, 1) := by decide +kernel
theorem dX7_reads_86 : decode cX7_reads 86 = .ok (.getfield 16, 3) := by decide +kernel
theorem dX7_reads_89 : decode cX7_reads 89 = .ok (.iconst 2, 1) := by decide +kernel
theorem dX7_reads_90 : decode cX7_reads 90 = .ok (.dup2, 1) := by decide +kernel
theorem dX7_reads_91 : decode cX7_reads 91 = .ok (.iaload, 1) := by decide +kernel
theorem dX7_reads_92 : decode cX7_reads 92 = .ok (.iconst 1, 1) := by decide +kernel
theorem dX7_reads_93 : decode cX7_reads 93 = .ok (.iadd, 1) := by decide +kernel
theorem dX7_reads_94 : decode cX7_reads 94 = .ok (.iastore, 1) := by decide +kernel
theorem dX7_reads_95 : decode cX7_reads 95 = .ok (.aload_n 0, 1) := by decide +kernel
theorem dX7_reads_96 : decode cX7_reads 96 = .ok (.invokevirtual 82, 3) := by decide +kernel
theorem dX7_reads_99 : decode cX7_reads 99 = .ok (.goto (-69), 3) := by decide +kernel
theorem dX7_reads_102 : decode cX7_reads 102 = .ok (.iconst 1, 1) := by decide +kernel
theorem dX7_reads_103 : decode cX7_reads 103 = .ok (.ireturn, 1) := by decide +kernel
theorem dX7_tongue_0 : decode cX7_tongue 0 = .ok (.aload_n 0, 1) := by decide +kernel
theorem dX7_tongue_1 : decode cX7_tongue 1 = .ok (.invokevirtual 107, 3) := by decide +kernel
theorem dX7_tongue_4 : decode cX7_tongue 4 = .ok (.ifCond .ne 11, 3) := by decide +kernel
theorem dX7_tongue_7 : decode cX7_tongue 7 = .ok (.bipush (-10), 2) := by decide +kernel
theorem dX7_tongue_9 : decode cX7_tongue 9 = .ok (.aload_n 0, 1) := by decide +kernel
theorem dX7_tongue_10 : decode cX7_tongue 10 = .ok (.getfield 64, 3) := by decide +kernel
theorem dX7_tongue_13 : decode cX7_tongue 13 = .ok (.isub, 1) := by decide +kernel
theorem dX7_tongue_14 : decode cX7_tongue 14 = .ok (.ireturn, 1) := by decide +kernel
theorem dX7_tongue_15 : decode cX7_tongue 15 = .ok (.iconst 0, 1) := by decide +kernel
theorem dX7_tongue_16 : decode cX7_tongue 16 = .ok (.istore_n 1, 1) := by decide +kernel
theorem dX7_tongue_17 : decode cX7_tongue 17 = .ok (.iload_n 1, 1) := by decide +kernel
theorem dX7_tongue_18 : decode cX7_tongue 18 = .ok (.bipush 110, 2) := by decide +kernel
theorem dX7_tongue_20 : decode cX7_tongue 20 = .ok (.if_icmp .ge 21, 3) := by decide +kernel
theorem dX7_tongue_23 : decode cX7_tongue 23 = .ok (.aload_n 0, 1) := by decide +kernel
theorem dX7_tongue_24 : decode cX7_tongue 24 = .ok (.getfield 13, 3) := by decide +kernel
theorem dX7_tongue_27 : decode cX7_tongue 27 = .ok (.iload_n 1, 1) := by decide +kernel
theorem dX7_tongue_28 : decode cX7_tongue 28 = .ok (.aload_n 0, 1) := by decide +kernel
theorem dX7_tongue_29 : decode cX7_tongue 29 = .ok (.getfield 16, 3) := by decide +kernel
theorem dX7_tongue_32 : decode cX7_tongue 32 = .ok (.iload_n 1, 1) := by decide +kernel
theorem dX7_tongue_33 : decode cX7_tongue 33 = .ok (.iaload, 1) := by decide +kernel
theorem dX7_tongue_34 : decode cX7_tongue 34 = .ok (.iastore, 1) := by decide +kernel
theorem dX7_tongue_35 : decode cX7_tongue 35 = .ok (.iinc 1 1, 3) := by decide +kernel
theorem dX7_tongue_38 : decode cX7_tongue 38 = .ok (.goto (-21), 3) := by decide +kernel
theorem dX7_tongue_41 : decode cX7_tongue 41 = .ok (.aload_n 0, 1) := by decide +kernel
theorem dX7_tongue_42 : decode cX7_tongue 42 = .ok (.getfield 19, 3) := by decide +kernel
theorem dX7_tongue_45 : decode cX7_tongue 45 = .ok (.iconst 0, 1) := by decide +kernel
theorem dX7_tongue_46 : decode cX7_tongue 46 = .ok (.iconst 0, 1) := by decide +kernel
theorem dX7_tongue_47 : decode cX7_tongue 47 = .ok (.iastore, 1) := by decide +kernel
theorem dX7_tongue_48 : decode cX7_tongue 48 = .ok (.aload_n 0, 1) := by decide +kernel
theorem dX7_tongue_49 : decode cX7_tongue 49 = .ok (.getfield 25, 3) := by decide +kernel
theorem dX7_tongue_52 : decode cX7_tongue 52 = .ok (.iconst 0, 1) := by decide +kernel
theorem dX7_tongue_53 : decode cX7_tongue 53 = .ok (.iconst 0, 1) := by decide +kernel
theorem dX7_tongue_54 : decode cX7_tongue 54 = .ok (.bastore, 1) := by decide +kernel
theorem dX7_tongue_55 : decode cX7_tongue 55 = .ok (.aload_n 0, 1) := by decide +kernel
theorem dX7_tongue_56 : decode cX7_tongue 56 = .ok (.getfield 25, 3) := by decide +kernel
theorem dX7_tongue_59 : decode cX7_tongue 59 = .ok (.iconst 1, 1) := by decide +kernel
theorem dX7_tongue_60 : decode cX7_tongue 60 = .ok (.iconst 0, 1) := by decide +kernel
theorem dX7_tongue_61 : decode cX7_tongue 61 = .ok (.bastore, 1) := by decide +kernel
theorem dX7_tongue_62 : decode cX7_tongue 62 = .ok (.aload_n 0, 1) := by decide +kernel
theorem dX7_tongue_63 : decode cX7_tongue 63 = .ok (.iconst 0, 1) := by decide +kernel
theorem dX7_tongue_64 : decode cX7_tongue 64 = .ok (.putfield 51, 3) := by decide +kernel
theorem dX7_tongue_67 : decode cX7_tongue 67 = .ok (.aload_n 0, 1) := by decide +kernel
theorem dX7_tongue_68 : decode cX7_tongue 68 = .ok (.invokevirtual 44, 3) := by decide +kernel
theorem dX7_tongue_71 : decode cX7_tongue 71 = .ok (.aload_n 0, 1) := by decide +kernel
theorem dX7_tongue_72 : decode cX7_tongue 72 = .ok (.getfield 13, 3) := by decide +kernel
theorem dX7_tongue_75 : decode cX7_tongue 75 = .ok (.iconst 2, 1) := by decide +kernel
theorem dX7_tongue_76 : decode cX7_tongue 76 = .ok (.iaload, 1) := by decide +kernel
theorem dX7_tongue_77 : decode cX7_tongue 77 = .ok (.ireturn, 1) := by decide +kernel
theorem dX7_length_0 : decode cX7_length 0 = .ok (.iload_n 0, 1) := by decide +kernel
theorem dX7_length_1 : decode cX7_length 1 = .ok (.bipush 10, 2) := by decide +kernel
theorem dX7_length_3 : decode cX7_length 3 = .ok (.if_icmp .ge 7, 3) := by decide +kernel
theorem dX7_length_6 : decode cX7_length 6 = .ok (.iconst 1, 1) := by decide +kernel
theorem dX7_length_7 : decode cX7_length 7 = .ok (.goto 14, 3) := by decide +kernel
theorem dX7_length_10 : decode cX7_length 10 = .ok (.iload_n 0, 1) := by decide +kernel
theorem dX7_length_11 : decode cX7_length 11 = .ok (.bipush 100, 2) := by decide +kernel
theorem dX7_length_13 : decode cX7_length 13 = .ok (.if_icmp .ge 7, 3) := by decide +kernel
theorem dX7_length_16 : decode cX7_length 16 = .ok (.iconst 2, 1) := by decide +kernel
theorem dX7_length_17 : decode cX7_length 17 = .ok (.goto 4, 3) := by decide +kernel
theorem dX7_length_20 : decode cX7_length 20 = .ok (.iconst 3, 1) := by decide +kernel
theorem dX7_length_21 : decode cX7_length 21 = .ok (.ireturn, 1) := by decide +kernel
theorem dX7_wordOf_0 : decode cX7_wordOf 0 = .ok (.iload_n 0, 1) := by decide +kernel
theorem dX7_wordOf_1 : decode cX7_wordOf 1 = .ok (.istore_n 2, 1) := by decide +kernel
theorem dX7_wordOf_2 : decode cX7_wordOf 2 = .ok (.iload_n 0, 1) := by decide +kernel
theorem dX7_wordOf_3 : decode cX7_wordOf 3 = .ok (.invokestatic 110, 3) := by decide +kernel
theorem dX7_wordOf_6 : decode cX7_wordOf 6 = .ok (.iconst 1, 1) := by decide +kernel
theorem dX7_wordOf_7 : decode cX7_wordOf 7 = .ok (.isub, 1) := by decide +kernel
theorem dX7_wordOf_8 : decode cX7_wordOf 8 = .ok (.istore_n 3, 1) := by decide +kernel
theorem dX7_wordOf_9 : decode cX7_wordOf 9 = .ok (.iload_n 3, 1) := by decide +kernel
theorem dX7_wordOf_10 : decode cX7_wordOf 10 = .ok (.iload_n 1, 1) := by decide +kernel
theorem dX7_wordOf_11 : decode cX7_wordOf 11 = .ok (.if_icmp .le 14, 3) := by decide +kernel
theorem dX7_wordOf_14 : decode cX7_wordOf 14 = .ok (.iload_n 2, 1) := by decide +kernel
theorem dX7_wordOf_15 : decode cX7_wordOf 15 = .ok (.bipush 10, 2) := by decide +kernel
theorem dX7_wordOf_17 : decode cX7_wordOf 17 = .ok (.idiv, 1) := by decide +kernel
theorem dX7_wordOf_18 : decode cX7_wordOf 18 = .ok (.istore_n 2, 1) := by decide +kernel
theorem dX7_wordOf_19 : decode cX7_wordOf 19 = .ok (.iinc 3 (-1), 3) := by decide +kernel
theorem dX7_wordOf_22 : decode cX7_wordOf 22 = .ok (.goto (-13), 3) := by decide +kernel
theorem dX7_wordOf_25 : decode cX7_wordOf 25 = .ok (.iload_n 2, 1) := by decide +kernel
theorem dX7_wordOf_26 : decode cX7_wordOf 26 = .ok (.bipush 10, 2) := by decide +kernel
theorem dX7_wordOf_28 : decode cX7_wordOf 28 = .ok (.irem, 1) := by decide +kernel
theorem dX7_wordOf_29 : decode cX7_wordOf 29 = .ok (.iconst 1, 1) := by decide +kernel
theorem dX7_wordOf_30 : decode cX7_wordOf 30 = .ok (.isub, 1) := by decide +kernel
theorem dX7_wordOf_31 : decode cX7_wordOf 31 = .ok (.ireturn, 1) := by decide +kernel
theorem dX7_isOf_0 : decode cX7_isOf 0 = .ok (.aload_n 0, 1) := by decide +kernel
theorem dX7_isOf_1 : decode cX7_isOf 1 = .ok (.getfield 13, 3) := by decide +kernel
theorem dX7_isOf_4 : decode cX7_isOf 4 = .ok (.bipush 84, 2) := by decide +kernel
theorem dX7_isOf_6 : decode cX7_isOf 6 = .ok (.iload_n 2, 1) := by decide +kernel
theorem dX7_isOf_7 : decode cX7_isOf 7 = .ok (.iadd, 1) := by decide +kernel
theorem dX7_isOf_8 : decode cX7_isOf 8 = .ok (.iaload, 1) := by decide +kernel
theorem dX7_isOf_9 : decode cX7_isOf 9 = .ok (.iload_n 1, 1) := by decide +kernel
theorem dX7_isOf_10 : decode cX7_isOf 10 = .ok (.invokestatic 110, 3) := by decide +kernel
theorem dX7_isOf_13 : decode cX7_isOf 13 = .ok (.if_icmp .ne 7, 3) := by decide +kernel
theorem dX7_isOf_16 : decode cX7_isOf 16 = .ok (.iconst 1, 1) := by decide +kernel
theorem dX7_isOf_17 : decode cX7_isOf 17 = .ok (.goto 4, 3) := by decide +kernel
theorem dX7_isOf_20 : decode cX7_isOf 20 = .ok (.iconst 0, 1) := by decide +kernel
theorem dX7_isOf_21 : decode cX7_isOf 21 = .ok (.istore_n 3, 1) := by decide +kernel
theorem dX7_isOf_22 : decode cX7_isOf 22 = .ok (.iconst 0, 1) := by decide +kernel
theorem dX7_isOf_23 : decode cX7_isOf 23 = .ok (.istore 4, 2) := by decide +kernel
theorem dX7_isOf_25 : decode cX7_isOf 25 = .ok (.iload 4, 2) := by decide +kernel
theorem dX7_isOf_27 : decode cX7_isOf 27 = .ok (.iload_n 1, 1) := by decide +kernel
theorem dX7_isOf_28 : decode cX7_isOf 28 = .ok (.invokestatic 110, 3) := by decide +kernel
theorem dX7_isOf_31 : decode cX7_isOf 31 = .ok (.if_icmp .ge 49, 3) := by decide +kernel
theorem dX7_isOf_34 : decode cX7_isOf 34 = .ok (.iload_n 3, 1) := by decide +kernel
theorem dX7_isOf_35 : decode cX7_isOf 35 = .ok (.ifCond .eq 45, 3) := by decide +kernel
theorem dX7_isOf_38 : decode cX7_isOf 38 = .ok (.aload_n 0, 1) := by decide +kernel
theorem dX7_isOf_39 : decode cX7_isOf 39 = .ok (.getfield 13, 3) := by decide +kernel
theorem dX7_isOf_42 : decode cX7_isOf 42 = .ok (.bipush 88, 2) := by decide +kernel
theorem dX7_isOf_44 : decode cX7_isOf 44 = .ok (.iconst 3, 1) := by decide +kernel
theorem dX7_isOf_45 : decode cX7_isOf 45 = .ok (.iload_n 2, 1) := by decide +kernel
theorem dX7_isOf_46 : decode cX7_isOf 46 = .ok (.imul, 1) := by decide +kernel
theorem dX7_isOf_47 : decode cX7_isOf 47 = .ok (.iadd, 1) := by decide +kernel
theorem dX7_isOf_48 : decode cX7_isOf 48 = .ok (.iload 4, 2) := by decide +kernel
theorem dX7_isOf_50 : decode cX7_isOf 50 = .ok (.iadd, 1) := by decide +kernel
theorem dX7_isOf_51 : decode cX7_isOf 51 = .ok (.iaload, 1) := by decide +kernel
theorem dX7_isOf_52 : decode cX7_isOf 52 = .ok (.aload_n 0, 1) := by decide +kernel
theorem dX7_isOf_53 : decode cX7_isOf 53 = .ok (.getfield 13, 3) := by decide +kernel
theorem dX7_isOf_56 : decode cX7_isOf 56 = .ok (.iconst 3, 1) := by decide +kernel
theorem dX7_isOf_57 : decode cX7_isOf 57 = .ok (.iload_n 1, 1) := by decide +kernel
theorem dX7_isOf_58 : decode cX7_isOf 58 = .ok (.iload 4, 2) := by decide +kernel
theorem dX7_isOf_60 : decode cX7_isOf 60 = .ok (.invokestatic 113, 3) := by decide +kernel
theorem dX7_isOf_63 : decode cX7_isOf 63 = .ok (.iadd, 1) := by decide +kernel
theorem dX7_isOf_64 : decode cX7_isOf 64 = .ok (.iaload, 1) := by decide +kernel
theorem dX7_isOf_65 : decode cX7_isOf 65 = .ok (.if_icmp .ne 7, 3) := by decide +kernel
theorem dX7_isOf_68 : decode cX7_isOf 68 = .ok (.iconst 1, 1) := by decide +kernel
theorem dX7_isOf_69 : decode cX7_isOf 69 = .ok (.goto 4, 3) := by decide +kernel
theorem dX7_isOf_72 : decode cX7_isOf 72 = .ok (.iconst 0, 1) := by decide +kernel
theorem dX7_isOf_73 : decode cX7_isOf 73 = .ok (.istore_n 3, 1) := by decide +kernel
theorem dX7_isOf_74 : decode cX7_isOf 74 = .ok (.iinc 4 1, 3) := by decide +kernel
theorem dX7_isOf_77 : decode cX7_isOf 77 = .ok (.goto (-52), 3) := by decide +kernel
theorem dX7_isOf_80 : decode cX7_isOf 80 = .ok (.iload_n 3, 1) := by decide +kernel
theorem dX7_isOf_81 : decode cX7_isOf 81 = .ok (.ireturn, 1) := by decide +kernel
theorem dX7_isSaid_0 : decode cX7_isSaid 0 = .ok (.iconst 1, 1) := by decide +kernel
theorem dX7_isSaid_1 : decode cX7_isSaid 1 = .ok (.istore_n 2, 1) := by decide +kernel
theorem dX7_isSaid_2 : decode cX7_isSaid 2 = .ok (.iconst 0, 1) := by decide +kernel
theorem dX7_isSaid_3 : decode cX7_isSaid 3 = .ok (.istore_n 3, 1) := by decide +kernel
theorem dX7_isSaid_4 : decode cX7_isSaid 4 = .ok (.iload_n 3, 1) := by decide +kernel
theorem dX7_isSaid_5 : decode cX7_isSaid 5 = .ok (.iload_n 1, 1) := by decide +kernel
theorem dX7_isSaid_6 : decode cX7_isSaid 6 = .ok (.invokestatic 110, 3) := by decide +kernel
theorem dX7_isSaid_9 : decode cX7_isSaid 9 = .ok (.if_icmp .ge 31, 3) := by decide +kernel
theorem dX7_isSaid_12 : decode cX7_isSaid 12 = .ok (.iload_n 2, 1) := by decide +kernel
theorem dX7_isSaid_13 : decode cX7_isSaid 13 = .ok (.ifCond .eq 19, 3) := by decide +kernel
theorem dX7_isSaid_16 : decode cX7_isSaid 16 = .ok (.aload_n 0, 1) := by decide +kernel
theorem dX7_isSaid_17 : decode cX7_isSaid 17 = .ok (.iload_n 1, 1) := by decide +kernel
theorem dX7_isSaid_18 : decode cX7_isSaid 18 = .ok (.iload_n 3, 1) := by decide +kernel
theorem dX7_isSaid_19 : decode cX7_isSaid 19 = .ok (.invokestatic 113, 3) := by decide +kernel
theorem dX7_isSaid_22 : decode cX7_isSaid 22 = .ok (.invokevirtual 117, 3) := by decide +kernel
theorem dX7_isSaid_25 : decode cX7_isSaid 25 = .ok (.ifCond .eq 7, 3) := by decide +kernel
theorem dX7_isSaid_28 : decode cX7_isSaid 28 = .ok (.iconst 1, 1) := by decide +kernel
theorem dX7_isSaid_29 : decode cX7_isSaid 29 = .ok (.goto 4, 3) := by decide +kernel
theorem dX7_isSaid_32 : decode cX7_isSaid 32 = .ok (.iconst 0, 1) := by decide +kernel
theorem dX7_isSaid_33 : decode cX7_isSaid 33 = .ok (.istore_n 2, 1) := by decide +kernel
theorem dX7_isSaid_34 : decode cX7_isSaid 34 = .ok (.iinc 3 1, 3) := by decide +kernel
theorem dX7_isSaid_37 : decode cX7_isSaid 37 = .ok (.goto (-33), 3) := by decide +kernel
theorem dX7_isSaid_40 : decode cX7_isSaid 40 = .ok (.iconst 0, 1) := by decide +kernel
theorem dX7_isSaid_41 : decode cX7_isSaid 41 = .ok (.istore_n 3, 1) := by decide +kernel
theorem dX7_isSaid_42 : decode cX7_isSaid 42 = .ok (.iconst 0, 1) := by decide +kernel
theorem dX7_isSaid_43 : decode cX7_isSaid 43 = .ok (.istore 4, 2) := by decide +kernel
theorem dX7_isSaid_45 : decode cX7_isSaid 45 = .ok (.iload 4, 2) := by decide +kernel
theorem dX7_isSaid_47 : decode cX7_isSaid 47 = .ok (.aload_n 0, 1) := by decide +kernel
theorem dX7_isSaid_48 : decode cX7_isSaid 48 = .ok (.getfield 13, 3) := by decide +kernel
theorem dX7_isSaid_51 : decode cX7_isSaid 51 = .ok (.iconst 1, 1) := by decide +kernel
theorem dX7_isSaid_52 : decode cX7_isSaid 52 = .ok (.iaload, 1) := by decide +kernel
theorem dX7_isSaid_53 : decode cX7_isSaid 53 = .ok (.if_icmp .ge 33, 3) := by decide +kernel
theorem dX7_isSaid_56 : decode cX7_isSaid 56 = .ok (.iload_n 2, 1) := by decide +kernel
theorem dX7_isSaid_57 : decode cX7_isSaid 57 = .ok (.ifCond .eq 29, 3) := by decide +kernel
theorem dX7_isSaid_60 : decode cX7_isSaid 60 = .ok (.iload_n 3, 1) := by decide +kernel
theorem dX7_isSaid_61 : decode cX7_isSaid 61 = .ok (.ifCond .ne 13, 3) := by decide +kernel
theorem dX7_isSaid_64 : decode cX7_isSaid 64 = .ok (.aload_n 0, 1) := by decide +kernel
theorem dX7_isSaid_65 : decode cX7_isSaid 65 = .ok (.iload_n 1, 1) := by decide +kernel
theorem dX7_isSaid_66 : decode cX7_isSaid 66 = .ok (.iload 4, 2) := by decide +kernel
theorem dX7_isSaid_68 : decode cX7_isSaid 68 = .ok (.invokevirtual 120, 3) := by decide +kernel
theorem dX7_isSaid_71 : decode cX7_isSaid 71 = .ok (.ifCond .eq 7, 3) := by decide +kernel
theorem dX7_isSaid_74 : decode cX7_isSaid 74 = .ok (.iconst 1, 1) := by decide +kernel
theorem dX7_isSaid_75 : decode cX7_isSaid 75 = .ok (.goto 4, 3) := by decide +kernel
theorem dX7_isSaid_78 : decode cX7_isSaid 78 = .ok (.iconst 0, 1) := by decide +kernel
theorem dX7_isSaid_79 : decode cX7_isSaid 79 = .ok (.istore_n 3, 1) := by decide +kernel
theorem dX7_isSaid_80 : decode cX7_isSaid 80 = .ok (.iinc 4 1, 3) := by decide +kernel
theorem dX7_isSaid_83 : decode cX7_isSaid 83 = .ok (.goto (-38), 3) := by decide +kernel
theorem dX7_isSaid_86 : decode cX7_isSaid 86 = .ok (.iload_n 3, 1) := by decide +kernel
theorem dX7_isSaid_87 : decode cX7_isSaid 87 = .ok (.ireturn, 1) := by decide +kernel
theorem dX7_lists_0 : decode cX7_lists 0 = .ok (.aload_n 0, 1) := by decide +kernel
theorem dX7_lists_1 : decode cX7_lists 1 = .ok (.iconst 0, 1) := by decide +kernel
theorem dX7_lists_2 : decode cX7_lists 2 = .ok (.putfield 123, 3) := by decide +kernel
theorem dX7_lists_5 : decode cX7_lists 5 = .ok (.iconst 1, 1) := by decide +kernel
theorem dX7_lists_6 : decode cX7_lists 6 = .ok (.istore_n 1, 1) := by decide +kernel
theorem dX7_lists_7 : decode cX7_lists 7 = .ok (.iload_n 1, 1) := by decide +kernel
theorem dX7_lists_8 : decode cX7_lists 8 = .ok (.sipush 1000, 3) := by decide +kernel
theorem dX7_lists_11 : decode cX7_lists 11 = .ok (.if_icmp .ge 92, 3) := by decide +kernel
theorem dX7_lists_14 : decode cX7_lists 14 = .ok (.aload_n 0, 1) := by decide +kernel
theorem dX7_lists_15 : decode cX7_lists 15 = .ok (.iload_n 1, 1) := by decide +kernel
theorem dX7_lists_16 : decode cX7_lists 16 = .ok (.invokevirtual 126, 3) := by decide +kernel
theorem dX7_lists_19 : decode cX7_lists 19 = .ok (.ifCond .eq 78, 3) := by decide +kernel
theorem dX7_lists_22 : decode cX7_lists 22 = .ok (.aload_n 0, 1) := by decide +kernel
theorem dX7_lists_23 : decode cX7_lists 23 = .ok (.getfield 29, 3) := by decide +kernel
theorem dX7_lists_26 : decode cX7_lists 26 = .ok (.aload_n 0, 1) := by decide +kernel
theorem dX7_lists_27 : decode cX7_lists 27 = .ok (.getfield 123, 3) := by decide +kernel
theorem dX7_lists_30 : decode cX7_lists 30 = .ok (.iload_n 1, 1) := by decide +kernel
theorem dX7_lists_31 : decode cX7_lists 31 = .ok (.iastore, 1) := by decide +kernel
theorem dX7_lists_32 : decode cX7_lists 32 = .ok (.aload_n 0, 1) := by decide +kernel
theorem dX7_lists_33 : decode cX7_lists 33 = .ok (.getfield 32, 3) := by decide +kernel
theorem dX7_lists_36 : decode cX7_lists 36 = .ok (.aload_n 0, 1) := by decide +kernel
theorem dX7_lists_37 : decode cX7_lists 37 = .ok (.getfield 123, 3) := by decide +kernel
theorem dX7_lists_40 : decode cX7_lists 40 = .ok (.iconst 0, 1) := by decide +kernel
theorem dX7_lists_41 : decode cX7_lists 41 = .ok (.iastore, 1) := by decide +kernel
theorem dX7_lists_42 : decode cX7_lists 42 = .ok (.aload_n 0, 1) := by decide +kernel
theorem dX7_lists_43 : decode cX7_lists 43 = .ok (.getfield 35, 3) := by decide +kernel
theorem dX7_lists_46 : decode cX7_lists 46 = .ok (.aload_n 0, 1) := by decide +kernel
theorem dX7_lists_47 : decode cX7_lists 47 = .ok (.getfield 123, 3) := by decide +kernel
theorem dX7_lists_50 : decode cX7_lists 50 = .ok (.iconst 0, 1) := by decide +kernel
theorem dX7_lists_51 : decode cX7_lists 51 = .ok (.iastore, 1) := by decide +kernel
theorem dX7_lists_52 : decode cX7_lists 52 = .ok (.aload_n 0, 1) := by decide +kernel
theorem dX7_lists_53 : decode cX7_lists 53 = .ok (.getfield 38, 3) := by decide +kernel
theorem dX7_lists_56 : decode cX7_lists 56 = .ok (.aload_n 0, 1) := by decide +kernel
theorem dX7_lists_57 : decode cX7_lists 57 = .ok (.getfield 123, 3) := by decide +kernel
theorem dX7_lists_60 : decode cX7_lists 60 = .ok (.iconst 0, 1) := by decide +kernel
theorem dX7_lists_61 : decode cX7_lists 61 = .ok (.iastore, 1) := by decide +kernel
theorem dX7_lists_62 : decode cX7_lists 62 = .ok (.iconst 0, 1) := by decide +kernel
theorem dX7_lists_63 : decode cX7_lists 63 = .ok (.istore_n 2, 1) := by decide +kernel
theorem dX7_lists_64 : decode cX7_lists 64 = .ok (.iload_n 2, 1) := by decide +kernel
theorem dX7_lists_65 : decode cX7_lists 65 = .ok (.iload_n 1, 1) := by decide +kernel
theorem dX7_lists_66 : decode cX7_lists 66 = .ok (.invokestatic 110, 3) := by decide +kernel
theorem dX7_lists_69 : decode cX7_lists 69 = .ok (.if_icmp .ge 18, 3) := by decide +kernel
theorem dX7_lists_72 : decode cX7_lists 72 = .ok (.aload_n 0, 1) := by decide +kernel
theorem dX7_lists_73 : decode cX7_lists 73 = .ok (.iload_n 1, 1) := by decide +kernel
theorem dX7_lists_74 : decode cX7_lists 74 = .ok (.iload_n 2, 1) := by decide +kernel
theorem dX7_lists_75 : decode cX7_lists 75 = .ok (.invokestatic 113, 3) := by decide +kernel
theorem dX7_lists_78 : decode cX7_lists 78 = .ok (.invokevirtual 129, 3) := by decide +kernel
theorem dX7_lists_81 : decode cX7_lists 81 = .ok (.iinc 2 1, 3) := by decide +kernel
theorem dX7_lists_84 : decode cX7_lists 84 = .ok (.goto (-20), 3) := by decide +kernel
theorem dX7_lists_87 : decode cX7_lists 87 = .ok (.aload_n 0, 1) := by decide +kernel
theorem dX7_lists_88 : decode cX7_lists 88 = .ok (.dup, 1) := by decide +kernel
theorem dX7_lists_89 : decode cX7_lists 89 = .ok (.getfield 123, 3) := by decide +kernel
theorem dX7_lists_92 : decode cX7_lists 92 = .ok (.iconst 1, 1) := by decide +kernel
theorem dX7_lists_93 : decode cX7_lists 93 = .ok (.iadd, 1) := by decide +kernel
theorem dX7_lists_94 : decode cX7_lists 94 = .ok (.putfield 123, 3) := by decide +kernel
theorem dX7_lists_97 : decode cX7_lists 97 = .ok (.iinc 1 1, 3) := by decide +kernel
theorem dX7_lists_100 : decode cX7_lists 100 = .ok (.goto (-93), 3) := by decide +kernel
theorem dX7_lists_103 : decode cX7_lists 103 = .ok (.return_, 1) := by decide +kernel
theorem dX7_adds_0 : decode cX7_adds 0 = .ok (.aload_n 0, 1) := by decide +kernel
theorem dX7_adds_1 : decode cX7_adds 1 = .ok (.getfield 35, 3) := by decide +kernel
theorem dX7_adds_4 : decode cX7_adds 4 = .ok (.aload_n 0, 1) := by decide +kernel
theorem dX7_adds_5 : decode cX7_adds 5 = .ok (.getfield 123, 3) := by decide +kernel
theorem dX7_adds_8 : decode cX7_adds 8 = .ok (.dup2, 1) := by decide +kernel
theorem dX7_adds_9 : decode cX7_adds 9 = .ok (.iaload, 1) := by decide +kernel
theorem dX7_adds_10 : decode cX7_adds 10 = .ok (.aload_n 0, 1) := by decide +kernel
theorem dX7_adds_11 : decode cX7_adds 11 = .ok (.getfield 13, 3) := by decide +kernel
theorem dX7_adds_14 : decode cX7_adds 14 = .ok (.bipush 12, 2) := by decide +kernel
theorem dX7_adds_16 : decode cX7_adds 16 = .ok (.iload_n 1, 1) := by decide +kernel
theorem dX7_adds_17 : decode cX7_adds 17 = .ok (.iadd, 1) := by decide +kernel
theorem dX7_adds_18 : decode cX7_adds 18 = .ok (.iaload, 1) := by decide +kernel
theorem dX7_adds_19 : decode cX7_adds 19 = .ok (.iadd, 1) := by decide +kernel
theorem dX7_adds_20 : decode cX7_adds 20 = .ok (.iastore, 1) := by decide +kernel
theorem dX7_adds_21 : decode cX7_adds 21 = .ok (.aload_n 0, 1) := by decide +kernel
theorem dX7_adds_22 : decode cX7_adds 22 = .ok (.getfield 38, 3) := by decide +kernel
theorem dX7_adds_25 : decode cX7_adds 25 = .ok (.aload_n 0, 1) := by decide +kernel
theorem dX7_adds_26 : decode cX7_adds 26 = .ok (.getfield 123, 3) := by decide +kernel
theorem dX7_adds_29 : decode cX7_adds 29 = .ok (.dup2, 1) := by decide +kernel
theorem dX7_adds_30 : decode cX7_adds 30 = .ok (.iaload, 1) := by decide +kernel
theorem dX7_adds_31 : decode cX7_adds 31 = .ok (.aload_n 0, 1) := by decide +kernel
theorem dX7_adds_32 : decode cX7_adds 32 = .ok (.getfield 13, 3) := by decide +kernel
theorem dX7_adds_35 : decode cX7_adds 35 = .ok (.bipush 21, 2) := by decide +kernel
theorem dX7_adds_37 : decode cX7_adds 37 = .ok (.iload_n 1, 1) := by decide +kernel
theorem dX7_adds_38 : decode cX7_adds 38 = .ok (.iadd, 1) := by decide +kernel
theorem dX7_adds_39 : decode cX7_adds 39 = .ok (.iaload, 1) := by decide +kernel
theorem dX7_adds_40 : decode cX7_adds 40 = .ok (.iadd, 1) := by decide +kernel
theorem dX7_adds_41 : decode cX7_adds 41 = .ok (.iastore, 1) := by decide +kernel
theorem dX7_adds_42 : decode cX7_adds 42 = .ok (.iconst 0, 1) := by decide +kernel
theorem dX7_adds_43 : decode cX7_adds 43 = .ok (.istore_n 2, 1) := by decide +kernel
theorem dX7_adds_44 : decode cX7_adds 44 = .ok (.iload_n 2, 1) := by decide +kernel
theorem dX7_adds_45 : decode cX7_adds 45 = .ok (.aload_n 0, 1) := by decide +kernel
theorem dX7_adds_46 : decode cX7_adds 46 = .ok (.getfield 13, 3) := by decide +kernel
theorem dX7_adds_49 : decode cX7_adds 49 = .ok (.bipush 30, 2) := by decide +kernel
theorem dX7_adds_51 : decode cX7_adds 51 = .ok (.iload_n 1, 1) := by decide +kernel
theorem dX7_adds_52 : decode cX7_adds 52 = .ok (.iadd, 1) := by decide +kernel
theorem dX7_adds_53 : decode cX7_adds 53 = .ok (.iaload, 1) := by decide +kernel
theorem dX7_adds_54 : decode cX7_adds 54 = .ok (.if_icmp .ge 38, 3) := by decide +kernel
theorem dX7_adds_57 : decode cX7_adds 57 = .ok (.aload_n 0, 1) := by decide +kernel
theorem dX7_adds_58 : decode cX7_adds 58 = .ok (.getfield 32, 3) := by decide +kernel
theorem dX7_adds_61 : decode cX7_adds 61 = .ok (.aload_n 0, 1) := by decide +kernel
theorem dX7_adds_62 : decode cX7_adds 62 = .ok (.getfield 123, 3) := by decide +kernel
theorem dX7_adds_65 : decode cX7_adds 65 = .ok (.dup2, 1) := by decide +kernel
theorem dX7_adds_66 : decode cX7_adds 66 = .ok (.iaload, 1) := by decide +kernel
theorem dX7_adds_67 : decode cX7_adds 67 = .ok (.iconst 1, 1) := by decide +kernel
theorem dX7_adds_68 : decode cX7_adds 68 = .ok (.iconst 4, 1) := by decide +kernel
theorem dX7_adds_69 : decode cX7_adds 69 = .ok (.aload_n 0, 1) := by decide +kernel
theorem dX7_adds_70 : decode cX7_adds 70 = .ok (.getfield 13, 3) := by decide +kernel
theorem dX7_adds_73 : decode cX7_adds 73 = .ok (.bipush 39, 2) := by decide +kernel
theorem dX7_adds_75 : decode cX7_adds 75 = .ok (.iconst 5, 1) := by decide +kernel
theorem dX7_adds_76 : decode cX7_adds 76 = .ok (.iload_n 1, 1) := by decide +kernel
theorem dX7_adds_77 : decode cX7_adds 77 = .ok (.imul, 1) := by decide +kernel
theorem dX7_adds_78 : decode cX7_adds 78 = .ok (.iadd, 1) := by decide +kernel
theorem dX7_adds_79 : decode cX7_adds 79 = .ok (.iload_n 2, 1) := by decide +kernel
theorem dX7_adds_80 : decode cX7_adds 80 = .ok (.iadd, 1) := by decide +kernel
theorem dX7_adds_81 : decode cX7_adds 81 = .ok (.iaload, 1) := by decide +kernel
theorem dX7_adds_82 : decode cX7_adds 82 = .ok (.imul, 1) := by decide +kernel
theorem dX7_adds_83 : decode cX7_adds 83 = .ok (.ishl, 1) := by decide +kernel
theorem dX7_adds_84 : decode cX7_adds 84 = .ok (.iadd, 1) := by decide +kernel
theorem dX7_adds_85 : decode cX7_adds 85 = .ok (.iastore, 1) := by decide +kernel
theorem dX7_adds_86 : decode cX7_adds 86 = .ok (.iinc 2 1, 3) := by decide +kernel
theorem dX7_adds_89 : decode cX7_adds 89 = .ok (.goto (-45), 3) := by decide +kernel
theorem dX7_adds_92 : decode cX7_adds 92 = .ok (.return_, 1) := by decide +kernel
theorem dX7_placeOf_0 : decode cX7_placeOf 0 = .ok (.bipush (-9), 2) := by decide +kernel
theorem dX7_placeOf_2 : decode cX7_placeOf 2 = .ok (.istore_n 2, 1) := by decide +kernel
theorem dX7_placeOf_3 : decode cX7_placeOf 3 = .ok (.iconst 0, 1) := by decide +kernel
theorem dX7_placeOf_4 : decode cX7_placeOf 4 = .ok (.istore_n 3, 1) := by decide +kernel
theorem dX7_placeOf_5 : decode cX7_placeOf 5 = .ok (.iload_n 3, 1) := by decide +kernel
theorem dX7_placeOf_6 : decode cX7_placeOf 6 = .ok (.aload_n 0, 1) := by decide +kernel
theorem dX7_placeOf_7 : decode cX7_placeOf 7 = .ok (.getfield 123, 3) := by decide +kernel
theorem dX7_placeOf_10 : decode cX7_placeOf 10 = .ok (.if_icmp .ge 25, 3) := by decide +kernel
theorem dX7_placeOf_13 : decode cX7_placeOf 13 = .ok (.aload_n 0, 1) := by decide +kernel
theorem dX7_placeOf_14 : decode cX7_placeOf 14 = .ok (.getfield 29, 3) := by decide +kernel
theorem dX7_placeOf_17 : decode cX7_placeOf 17 = .ok (.iload_n 3, 1) := by decide +kernel
theorem dX7_placeOf_18 : decode cX7_placeOf 18 = .ok (.iaload, 1) := by decide +kernel
theorem dX7_placeOf_19 : decode cX7_placeOf 19 = .ok (.iload_n 1, 1) := by decide +kernel
theorem dX7_placeOf_20 : decode cX7_placeOf 20 = .ok (.if_icmp .ne 7, 3) := by decide +kernel
theorem dX7_placeOf_23 : decode cX7_placeOf 23 = .ok (.iload_n 3, 1) := by decide +kernel
theorem dX7_placeOf_24 : decode cX7_placeOf 24 = .ok (.goto 4, 3) := by decide +kernel
theorem dX7_placeOf_27 : decode cX7_placeOf 27 = .ok (.iload_n 2, 1) := by decide +kernel
theorem dX7_placeOf_28 : decode cX7_placeOf 28 = .ok (.istore_n 2, 1) := by decide +kernel
theorem dX7_placeOf_29 : decode cX7_placeOf 29 = .ok (.iinc 3 1, 3) := by decide +kernel
theorem dX7_placeOf_32 : decode cX7_placeOf 32 = .ok (.goto (-27), 3) := by decide +kernel
theorem dX7_placeOf_35 : decode cX7_placeOf 35 = .ok (.iload_n 2, 1) := by decide +kernel
theorem dX7_placeOf_36 : decode cX7_placeOf 36 = .ok (.ireturn, 1) := by decide +kernel
theorem dX7_countOf_0 : decode cX7_countOf 0 = .ok (.iload_n 0, 1) := by decide +kernel
theorem dX7_countOf_1 : decode cX7_countOf 1 = .ok (.iconst 4, 1) := by decide +kernel
theorem dX7_countOf_2 : decode cX7_countOf 2 = .ok (.iload_n 1, 1) := by decide +kernel
theorem dX7_countOf_3 : decode cX7_countOf 3 = .ok (.imul, 1) := by decide +kernel
theorem dX7_countOf_4 : decode cX7_countOf 4 = .ok (.ishr, 1) := by decide +kernel
theorem dX7_countOf_5 : decode cX7_countOf 5 = .ok (.bipush 15, 2) := by decide +kernel
theorem dX7_countOf_7 : decode cX7_countOf 7 = .ok (.iand, 1) := by decide +kernel
theorem dX7_countOf_8 : decode cX7_countOf 8 = .ok (.ireturn, 1) := by decide +kernel
theorem dX7_word_0 : decode cX7_word 0 = .ok (.aload_n 0, 1) := by decide +kernel
theorem dX7_word_1 : decode cX7_word 1 = .ok (.iload_n 1, 1) := by decide +kernel
theorem dX7_word_2 : decode cX7_word 2 = .ok (.invokevirtual 117, 3) := by decide +kernel
theorem dX7_word_5 : decode cX7_word 5 = .ok (.ifCond .eq 12, 3) := by decide +kernel
theorem dX7_word_8 : decode cX7_word 8 = .ok (.iload_n 2, 1) := by decide +kernel
theorem dX7_word_9 : decode cX7_word 9 = .ok (.iconst 0, 1) := by decide +kernel
theorem dX7_word_10 : decode cX7_word 10 = .ok (.iconst 3, 1) := by decide +kernel
theorem dX7_word_11 : decode cX7_word 11 = .ok (.invokestatic 47, 3) := by decide +kernel
theorem dX7_word_14 : decode cX7_word 14 = .ok (.ifCond .ne 5, 3) := by decide +kernel
theorem dX7_word_17 : decode cX7_word 17 = .ok (.iconst (-1), 1) := by decide +kernel
theorem dX7_word_18 : decode cX7_word 18 = .ok (.ireturn, 1) := by decide +kernel
theorem dX7_word_19 : decode cX7_word 19 = .ok (.iload_n 2, 1) := by decide +kernel
theorem dX7_word_20 : decode cX7_word 20 = .ok (.ifCond .ne 15, 3) := by decide +kernel
theorem dX7_word_23 : decode cX7_word 23 = .ok (.aload_n 0, 1) := by decide +kernel
theorem dX7_word_24 : decode cX7_word 24 = .ok (.getfield 13, 3) := by decide +kernel
theorem dX7_word_27 : decode cX7_word 27 = .ok (.bipush 30, 2) := by decide +kernel
theorem dX7_word_29 : decode cX7_word 29 = .ok (.iload_n 1, 1) := by decide +kernel
theorem dX7_word_30 : decode cX7_word 30 = .ok (.iadd, 1) := by decide +kernel
theorem dX7_word_31 : decode cX7_word 31 = .ok (.iaload, 1) := by decide +kernel
theorem dX7_word_32 : decode cX7_word 32 = .ok (.goto 45, 3) := by decide +kernel
theorem dX7_word_35 : decode cX7_word 35 = .ok (.iload_n 2, 1) := by decide +kernel
theorem dX7_word_36 : decode cX7_word 36 = .ok (.iconst 1, 1) := by decide +kernel
theorem dX7_word_37 : decode cX7_word 37 = .ok (.if_icmp .ne 14, 3) := by decide +kernel
theorem dX7_word_40 : decode cX7_word 40 = .ok (.aload_n 0, 1) := by decide +kernel
theorem dX7_word_41 : decode cX7_word 41 = .ok (.getfield 13, 3) := by decide +kernel
theorem dX7_word_44 : decode cX7_word 44 = .ok (.iconst 3, 1) := by decide +kernel
theorem dX7_word_45 : decode cX7_word 45 = .ok (.iload_n 1, 1) := by decide +kernel
theorem dX7_word_46 : decode cX7_word 46 = .ok (.iadd, 1) := by decide +kernel
theorem dX7_word_47 : decode cX7_word 47 = .ok (.iaload, 1) := by decide +kernel
theorem dX7_word_48 : decode cX7_word 48 = .ok (.goto 29, 3) := by decide +kernel
theorem dX7_word_51 : decode cX7_word 51 = .ok (.iload_n 2, 1) := by decide +kernel
theorem dX7_word_52 : decode cX7_word 52 = .ok (.iconst 2, 1) := by decide +kernel
theorem dX7_word_53 : decode cX7_word 53 = .ok (.if_icmp .ne 15, 3) := by decide +kernel
theorem dX7_word_56 : decode cX7_word 56 = .ok (.aload_n 0, 1) := by decide +kernel
theorem dX7_word_57 : decode cX7_word 57 = .ok (.getfield 13, 3) := by decide +kernel
theorem dX7_word_60 : decode cX7_word 60 = .ok (.bipush 12, 2) := by decide +kernel
theorem dX7_word_62 : decode cX7_word 62 = .ok (.iload_n 1, 1) := by decide +kernel
theorem dX7_word_63 : decode cX7_word 63 = .ok (.iadd, 1) := by decide +kernel
theorem dX7_word_64 : decode cX7_word 64 = .ok (.iaload, 1) := by decide +kernel
theorem dX7_word_65 : decode cX7_word 65 = .ok (.goto 12, 3) := by decide +kernel
theorem dX7_word_68 : decode cX7_word 68 = .ok (.aload_n 0, 1) := by decide +kernel
theorem dX7_word_69 : decode cX7_word 69 = .ok (.getfield 13, 3) := by decide +kernel
theorem dX7_word_72 : decode cX7_word 72 = .ok (.bipush 21, 2) := by decide +kernel
theorem dX7_word_74 : decode cX7_word 74 = .ok (.iload_n 1, 1) := by decide +kernel
theorem dX7_word_75 : decode cX7_word 75 = .ok (.iadd, 1) := by decide +kernel
theorem dX7_word_76 : decode cX7_word 76 = .ok (.iaload, 1) := by decide +kernel
theorem dX7_word_77 : decode cX7_word 77 = .ok (.ireturn, 1) := by decide +kernel
theorem dX7_spell_0 : decode cX7_spell 0 = .ok (.aload_n 0, 1) := by decide +kernel
theorem dX7_spell_1 : decode cX7_spell 1 = .ok (.iload_n 1, 1) := by decide +kernel
theorem dX7_spell_2 : decode cX7_spell 2 = .ok (.invokevirtual 117, 3) := by decide +kernel
theorem dX7_spell_5 : decode cX7_spell 5 = .ok (.ifCond .eq 7, 3) := by decide +kernel
theorem dX7_spell_8 : decode cX7_spell 8 = .ok (.iload_n 2, 1) := by decide +kernel
theorem dX7_spell_9 : decode cX7_spell 9 = .ok (.ifCond .ge 5, 3) := by decide +kernel
theorem dX7_spell_12 : decode cX7_spell 12 = .ok (.iconst (-1), 1) := by decide +kernel
theorem dX7_spell_13 : decode cX7_spell 13 = .ok (.ireturn, 1) := by decide +kernel
theorem dX7_spell_14 : decode cX7_spell 14 = .ok (.iload_n 2, 1) := by decide +kernel
theorem dX7_spell_15 : decode cX7_spell 15 = .ok (.aload_n 0, 1) := by decide +kernel
theorem dX7_spell_16 : decode cX7_spell 16 = .ok (.getfield 13, 3) := by decide +kernel
theorem dX7_spell_19 : decode cX7_spell 19 = .ok (.bipush 30, 2) := by decide +kernel
theorem dX7_spell_21 : decode cX7_spell 21 = .ok (.iload_n 1, 1) := by decide +kernel
theorem dX7_spell_22 : decode cX7_spell 22 = .ok (.iadd, 1) := by decide +kernel
theorem dX7_spell_23 : decode cX7_spell 23 = .ok (.iaload, 1) := by decide +kernel
theorem dX7_spell_24 : decode cX7_spell 24 = .ok (.if_icmp .ge 19, 3) := by decide +kernel
theorem dX7_spell_27 : decode cX7_spell 27 = .ok (.aload_n 0, 1) := by decide +kernel
theorem dX7_spell_28 : decode cX7_spell 28 = .ok (.getfield 13, 3) := by decide +kernel
theorem dX7_spell_31 : decode cX7_spell 31 = .ok (.bipush 39, 2) := by decide +kernel
theorem dX7_spell_33 : decode cX7_spell 33 = .ok (.iconst 5, 1) := by decide +kernel
theorem dX7_spell_34 : decode cX7_spell 34 = .ok (.iload_n 1, 1) := by decide +kernel
theorem dX7_spell_35 : decode cX7_spell 35 = .ok (.imul, 1) := by decide +kernel
theorem dX7_spell_36 : decode cX7_spell 36 = .ok (.iadd, 1) := by decide +kernel
theorem dX7_spell_37 : decode cX7_spell 37 = .ok (.iload_n 2, 1) := by decide +kernel
theorem dX7_spell_38 : decode cX7_spell 38 = .ok (.iadd, 1) := by decide +kernel
theorem dX7_spell_39 : decode cX7_spell 39 = .ok (.iaload, 1) := by decide +kernel
theorem dX7_spell_40 : decode cX7_spell 40 = .ok (.goto 5, 3) := by decide +kernel
theorem dX7_spell_43 : decode cX7_spell 43 = .ok (.bipush (-5), 2) := by decide +kernel
theorem dX7_spell_45 : decode cX7_spell 45 = .ok (.ireturn, 1) := by decide +kernel
theorem dX7_shape_0 : decode cX7_shape 0 = .ok (.aload_n 0, 1) := by decide +kernel
theorem dX7_shape_1 : decode cX7_shape 1 = .ok (.iload_n 1, 1) := by decide +kernel
theorem dX7_shape_2 : decode cX7_shape 2 = .ok (.invokevirtual 133, 3) := by decide +kernel
theorem dX7_shape_5 : decode cX7_shape 5 = .ok (.ifCond .eq 7, 3) := by decide +kernel
theorem dX7_shape_8 : decode cX7_shape 8 = .ok (.iload_n 2, 1) := by decide +kernel
theorem dX7_shape_9 : decode cX7_shape 9 = .ok (.ifCond .ge 5, 3) := by decide +kernel
theorem dX7_shape_12 : decode cX7_shape 12 = .ok (.iconst (-1), 1) := by decide +kernel
theorem dX7_shape_13 : decode cX7_shape 13 = .ok (.ireturn, 1) := by decide +kernel
theorem dX7_shape_14 : decode cX7_shape 14 = .ok (.iload_n 2, 1) := by decide +kernel
theorem dX7_shape_15 : decode cX7_shape 15 = .ok (.aload_n 0, 1) := by decide +kernel
theorem dX7_shape_16 : decode cX7_shape 16 = .ok (.getfield 13, 3) := by decide +kernel
theorem dX7_shape_19 : decode cX7_shape 19 = .ok (.bipush 84, 2) := by decide +kernel
theorem dX7_shape_21 : decode cX7_shape 21 = .ok (.iload_n 1, 1) := by decide +kernel
theorem dX7_shape_22 : decode cX7_shape 22 = .ok (.iadd, 1) := by decide +kernel
theorem dX7_shape_23 : decode cX7_shape 23 = .ok (.iaload, 1) := by decide +kernel
theorem dX7_shape_24 : decode cX7_shape 24 = .ok (.if_icmp .ge 19, 3) := by decide +kernel
theorem dX7_shape_27 : decode cX7_shape 27 = .ok (.aload_n 0, 1) := by decide +kernel
theorem dX7_shape_28 : decode cX7_shape 28 = .ok (.getfield 13, 3) := by decide +kernel
theorem dX7_shape_31 : decode cX7_shape 31 = .ok (.bipush 88, 2) := by decide +kernel
theorem dX7_shape_33 : decode cX7_shape 33 = .ok (.iconst 3, 1) := by decide +kernel
theorem dX7_shape_34 : decode cX7_shape 34 = .ok (.iload_n 1, 1) := by decide +kernel
theorem dX7_shape_35 : decode cX7_shape 35 = .ok (.imul, 1) := by decide +kernel
theorem dX7_shape_36 : decode cX7_shape 36 = .ok (.iadd, 1) := by decide +kernel
theorem dX7_shape_37 : decode cX7_shape 37 = .ok (.iload_n 2, 1) := by decide +kernel
theorem dX7_shape_38 : decode cX7_shape 38 = .ok (.iadd, 1) := by decide +kernel
theorem dX7_shape_39 : decode cX7_shape 39 = .ok (.iaload, 1) := by decide +kernel
theorem dX7_shape_40 : decode cX7_shape 40 = .ok (.goto 5, 3) := by decide +kernel
theorem dX7_shape_43 : decode cX7_shape 43 = .ok (.bipush (-5), 2) := by decide +kernel
theorem dX7_shape_45 : decode cX7_shape 45 = .ok (.ireturn, 1) := by decide +kernel
theorem dX7_letter_0 : decode cX7_letter 0 = .ok (.aload_n 0, 1) := by decide +kernel
theorem dX7_letter_1 : decode cX7_letter 1 = .ok (.iload_n 1, 1) := by decide +kernel
theorem dX7_letter_2 : decode cX7_letter 2 = .ok (.invokevirtual 136, 3) := by decide +kernel
theorem dX7_letter_5 : decode cX7_letter 5 = .ok (.istore_n 3, 1) := by decide +kernel
theorem dX7_letter_6 : decode cX7_letter 6 = .ok (.iload_n 3, 1) := by decide +kernel
theorem dX7_letter_7 : decode cX7_letter 7 = .ok (.bipush (-9), 2) := by decide +kernel
theorem dX7_letter_9 : decode cX7_letter 9 = .ok (.if_icmp .eq 12, 3) := by decide +kernel
theorem dX7_letter_12 : decode cX7_letter 12 = .ok (.iload_n 2, 1) := by decide +kernel
theorem dX7_letter_13 : decode cX7_letter 13 = .ok (.iconst 0, 1) := by decide +kernel
theorem dX7_letter_14 : decode cX7_letter 14 = .ok (.iconst 2, 1) := by decide +kernel
theorem dX7_letter_15 : decode cX7_letter 15 = .ok (.invokestatic 47, 3) := by decide +kernel
theorem dX7_letter_18 : decode cX7_letter 18 = .ok (.ifCond .ne 5, 3) := by decide +kernel
theorem dX7_letter_21 : decode cX7_letter 21 = .ok (.iconst (-1), 1) := by decide +kernel
theorem dX7_letter_22 : decode cX7_letter 22 = .ok (.ireturn, 1) := by decide +kernel
theorem dX7_letter_23 : decode cX7_letter 23 = .ok (.iconst 0, 1) := by decide +kernel
theorem dX7_letter_24 : decode cX7_letter 24 = .ok (.istore 4, 2) := by decide +kernel
theorem dX7_letter_26 : decode cX7_letter 26 = .ok (.iconst 0, 1) := by decide +kernel
theorem dX7_letter_27 : decode cX7_letter 27 = .ok (.istore 5, 2) := by decide +kernel
theorem dX7_letter_29 : decode cX7_letter 29 = .ok (.iload 5, 2) := by decide +kernel
theorem dX7_letter_31 : decode cX7_letter 31 = .ok (.bipush 8, 2) := by decide +kernel
theorem dX7_letter_33 : decode cX7_letter 33 = .ok (.if_icmp .ge 25, 3) := by decide +kernel
theorem dX7_letter_36 : decode cX7_letter 36 = .ok (.iload 4, 2) := by decide +kernel
theorem dX7_letter_38 : decode cX7_letter 38 = .ok (.aload_n 0, 1) := by decide +kernel
theorem dX7_letter_39 : decode cX7_letter 39 = .ok (.getfield 32, 3) := by decide +kernel
theorem dX7_letter_42 : decode cX7_letter 42 = .ok (.iload_n 3, 1) := by decide +kernel
theorem dX7_letter_43 : decode cX7_letter 43 = .ok (.iaload, 1) := by decide +kernel
theorem dX7_letter_44 : decode cX7_letter 44 = .ok (.iload 5, 2) := by decide +kernel
theorem dX7_letter_46 : decode cX7_letter 46 = .ok (.invokestatic 139, 3) := by decide +kernel
theorem dX7_letter_49 : decode cX7_letter 49 = .ok (.iadd, 1) := by decide +kernel
theorem dX7_letter_50 : decode cX7_letter 50 = .ok (.istore 4, 2) := by decide +kernel
theorem dX7_letter_52 : decode cX7_letter 52 = .ok (.iinc 5 1, 3) := by decide +kernel
theorem dX7_letter_55 : decode cX7_letter 55 = .ok (.goto (-26), 3) := by decide +kernel
theorem dX7_letter_58 : decode cX7_letter 58 = .ok (.iload_n 2, 1) := by decide +kernel
theorem dX7_letter_59 : decode cX7_letter 59 = .ok (.ifCond .ne 12, 3) := by decide +kernel
theorem dX7_letter_62 : decode cX7_letter 62 = .ok (.aload_n 0, 1) := by decide +kernel
theorem dX7_letter_63 : decode cX7_letter 63 = .ok (.getfield 35, 3) := by decide +kernel
theorem dX7_letter_66 : decode cX7_letter 66 = .ok (.iload_n 3, 1) := by decide +kernel
theorem dX7_letter_67 : decode cX7_letter 67 = .ok (.iaload, 1) := by decide +kernel
theorem dX7_letter_68 : decode cX7_letter 68 = .ok (.goto 19, 3) := by decide +kernel
theorem dX7_letter_71 : decode cX7_letter 71 = .ok (.iload_n 2, 1) := by decide +kernel
theorem dX7_letter_72 : decode cX7_letter 72 = .ok (.iconst 1, 1) := by decide +kernel
theorem dX7_letter_73 : decode cX7_letter 73 = .ok (.if_icmp .ne 12, 3) := by decide +kernel
theorem dX7_letter_76 : decode cX7_letter 76 = .ok (.aload_n 0, 1) := by decide +kernel
theorem dX7_letter_77 : decode cX7_letter 77 = .ok (.getfield 38, 3) := by decide +kernel
theorem dX7_letter_80 : decode cX7_letter 80 = .ok (.iload_n 3, 1) := by decide +kernel
theorem dX7_letter_81 : decode cX7_letter 81 = .ok (.iaload, 1) := by decide +kernel
theorem dX7_letter_82 : decode cX7_letter 82 = .ok (.goto 5, 3) := by decide +kernel
theorem dX7_letter_85 : decode cX7_letter 85 = .ok (.iload 4, 2) := by decide +kernel
theorem dX7_letter_87 : decode cX7_letter 87 = .ok (.ireturn, 1) := by decide +kernel
theorem dX7_has_0 : decode cX7_has 0 = .ok (.aload_n 0, 1) := by decide +kernel
theorem dX7_has_1 : decode cX7_has 1 = .ok (.iload_n 1, 1) := by decide +kernel
theorem dX7_has_2 : decode cX7_has 2 = .ok (.invokevirtual 136, 3) := by decide +kernel
theorem dX7_has_5 : decode cX7_has 5 = .ok (.istore_n 3, 1) := by decide +kernel
theorem dX7_has_6 : decode cX7_has 6 = .ok (.iload_n 3, 1) := by decide +kernel
theorem dX7_has_7 : decode cX7_has 7 = .ok (.bipush (-9), 2) := by decide +kernel
theorem dX7_has_9 : decode cX7_has 9 = .ok (.if_icmp .eq 13, 3) := by decide +kernel
theorem dX7_has_12 : decode cX7_has 12 = .ok (.iload_n 2, 1) := by decide +kernel
theorem dX7_has_13 : decode cX7_has 13 = .ok (.iconst 0, 1) := by decide +kernel
theorem dX7_has_14 : decode cX7_has 14 = .ok (.bipush 7, 2) := by decide +kernel
theorem dX7_has_16 : decode cX7_has 16 = .ok (.invokestatic 47, 3) := by decide +kernel
theorem dX7_has_19 : decode cX7_has 19 = .ok (.ifCond .ne 7, 3) := by decide +kernel
theorem dX7_has_22 : decode cX7_has 22 = .ok (.iconst (-1), 1) := by decide +kernel
theorem dX7_has_23 : decode cX7_has 23 = .ok (.goto 13, 3) := by decide +kernel
theorem dX7_has_26 : decode cX7_has 26 = .ok (.aload_n 0, 1) := by decide +kernel
theorem dX7_has_27 : decode cX7_has 27 = .ok (.getfield 32, 3) := by decide +kernel
theorem dX7_has_30 : decode cX7_has 30 = .ok (.iload_n 3, 1) := by decide +kernel
theorem dX7_has_31 : decode cX7_has 31 = .ok (.iaload, 1) := by decide +kernel
theorem dX7_has_32 : decode cX7_has 32 = .ok (.iload_n 2, 1) := by decide +kernel
theorem dX7_has_33 : decode cX7_has 33 = .ok (.invokestatic 139, 3) := by decide +kernel
theorem dX7_has_36 : decode cX7_has 36 = .ok (.ireturn, 1) := by decide +kernel
theorem dX7_write_0 : decode cX7_write 0 = .ok (.aload_n 0, 1) := by decide +kernel
theorem dX7_write_1 : decode cX7_write 1 = .ok (.iload_n 1, 1) := by decide +kernel
theorem dX7_write_2 : decode cX7_write 2 = .ok (.invokevirtual 136, 3) := by decide +kernel
theorem dX7_write_5 : decode cX7_write 5 = .ok (.istore_n 2, 1) := by decide +kernel
theorem dX7_write_6 : decode cX7_write 6 = .ok (.iload_n 2, 1) := by decide +kernel
theorem dX7_write_7 : decode cX7_write 7 = .ok (.bipush (-9), 2) := by decide +kernel
theorem dX7_write_9 : decode cX7_write 9 = .ok (.if_icmp .ne 5, 3) := by decide +kernel
theorem dX7_write_12 : decode cX7_write 12 = .ok (.iconst (-1), 1) := by decide +kernel
theorem dX7_write_13 : decode cX7_write 13 = .ok (.ireturn, 1) := by decide +kernel
theorem dX7_write_14 : decode cX7_write 14 = .ok (.aload_n 0, 1) := by decide +kernel
theorem dX7_write_15 : decode cX7_write 15 = .ok (.getfield 19, 3) := by decide +kernel
theorem dX7_write_18 : decode cX7_write 18 = .ok (.iconst 0, 1) := by decide +kernel
theorem dX7_write_19 : decode cX7_write 19 = .ok (.iaload, 1) := by decide +kernel
theorem dX7_write_20 : decode cX7_write 20 = .ok (.ifCond .le 50, 3) := by decide +kernel
theorem dX7_write_23 : decode cX7_write 23 = .ok (.aload_n 0, 1) := by decide +kernel
theorem dX7_write_24 : decode cX7_write 24 = .ok (.getfield 19, 3) := by decide +kernel
theorem dX7_write_27 : decode cX7_write 27 = .ok (.aload_n 0, 1) := by decide +kernel
theorem dX7_write_28 : decode cX7_write 28 = .ok (.getfield 19, 3) := by decide +kernel
theorem dX7_write_31 : decode cX7_write 31 = .ok (.iconst 0, 1) := by decide +kernel
theorem dX7_write_32 : decode cX7_write 32 = .ok (.iaload, 1) := by decide +kernel
theorem dX7_write_33 : decode cX7_write 33 = .ok (.iaload, 1) := by decide +kernel
theorem dX7_write_34 : decode cX7_write 34 = .ok (.iload_n 1, 1) := by decide +kernel
theorem dX7_write_35 : decode cX7_write 35 = .ok (.if_icmp .eq 32, 3) := by decide +kernel
theorem dX7_write_38 : decode cX7_write 38 = .ok (.aload_n 0, 1) := by decide +kernel
theorem dX7_write_39 : decode cX7_write 39 = .ok (.getfield 32, 3) := by decide +kernel
theorem dX7_write_42 : decode cX7_write 42 = .ok (.aload_n 0, 1) := by decide +kernel
theorem dX7_write_43 : decode cX7_write 43 = .ok (.aload_n 0, 1) := by decide +kernel
theorem dX7_write_44 : decode cX7_write 44 = .ok (.getfield 19, 3) := by decide +kernel
theorem dX7_write_47 : decode cX7_write 47 = .ok (.aload_n 0, 1) := by decide +kernel
theorem dX7_write_48 : decode cX7_write 48 = .ok (.getfield 19, 3) := by decide +kernel
theorem dX7_write_51 : decode cX7_write 51 = .ok (.iconst 0, 1) := by decide +kernel
theorem dX7_write_52 : decode cX7_write 52 = .ok (.iaload, 1) := by decide +kernel
theorem dX7_write_53 : decode cX7_write 53 = .ok (.iaload, 1) := by decide +kernel
theorem dX7_write_54 : decode cX7_write 54 = .ok (.invokevirtual 136, 3) := by decide +kernel
theorem dX7_write_57 : decode cX7_write 57 = .ok (.iaload, 1) := by decide +kernel
theorem dX7_write_58 : decode cX7_write 58 = .ok (.aload_n 0, 1) := by decide +kernel
theorem dX7_write_59 : decode cX7_write 59 = .ok (.getfield 32, 3) := by decide +kernel
theorem dX7_write_62 : decode cX7_write 62 = .ok (.iload_n 2, 1) := by decide +kernel
theorem dX7_write_63 : decode cX7_write 63 = .ok (.iaload, 1) := by decide +kernel
theorem dX7_write_64 : decode cX7_write 64 = .ok (.if_icmp .eq 6, 3) := by decide +kernel
theorem dX7_write_67 : decode cX7_write 67 = .ok (.bipush (-2), 2) := by decide +kernel
theorem dX7_write_69 : decode cX7_write 69 = .ok (.ireturn, 1) := by decide +kernel
theorem dX7_write_70 : decode cX7_write 70 = .ok (.aload_n 0, 1) := by decide +kernel
theorem dX7_write_71 : decode cX7_write 71 = .ok (.getfield 19, 3) := by decide +kernel
theorem dX7_write_74 : decode cX7_write 74 = .ok (.iconst 0, 1) := by decide +kernel
theorem dX7_write_75 : decode cX7_write 75 = .ok (.iaload, 1) := by decide +kernel
theorem dX7_write_76 : decode cX7_write 76 = .ok (.bipush 12, 2) := by decide +kernel
theorem dX7_write_78 : decode cX7_write 78 = .ok (.if_icmp .ne 6, 3) := by decide +kernel
theorem dX7_write_81 : decode cX7_write 81 = .ok (.bipush (-3), 2) := by decide +kernel
theorem dX7_write_83 : decode cX7_write 83 = .ok (.ireturn, 1) := by decide +kernel
theorem dX7_write_84 : decode cX7_write 84 = .ok (.aload_n 0, 1) := by decide +kernel
theorem dX7_write_85 : decode cX7_write 85 = .ok (.getfield 19, 3) := by decide +kernel
theorem dX7_write_88 : decode cX7_write 88 = .ok (.iconst 0, 1) := by decide +kernel
theorem dX7_write_89 : decode cX7_write 89 = .ok (.dup2, 1) := by decide +kernel
theorem dX7_write_90 : decode cX7_write 90 = .ok (.iaload, 1) := by decide +kernel
theorem dX7_write_91 : decode cX7_write 91 = .ok (.iconst 1, 1) := by decide +kernel
theorem dX7_write_92 : decode cX7_write 92 = .ok (.iadd, 1) := by decide +kernel
theorem dX7_write_93 : decode cX7_write 93 = .ok (.iastore, 1) := by decide +kernel
theorem dX7_write_94 : decode cX7_write 94 = .ok (.aload_n 0, 1) := by decide +kernel
theorem dX7_write_95 : decode cX7_write 95 = .ok (.getfield 19, 3) := by decide +kernel
theorem dX7_write_98 : decode cX7_write 98 = .ok (.aload_n 0, 1) := by decide +kernel
theorem dX7_write_99 : decode cX7_write 99 = .ok (.getfield 19, 3) := by decide +kernel
theorem dX7_write_102 : decode cX7_write 102 = .ok (.iconst 0, 1) := by decide +kernel
theorem dX7_write_103 : decode cX7_write 103 = .ok (.iaload, 1) := by decide +kernel
theorem dX7_write_104 : decode cX7_write 104 = .ok (.iload_n 1, 1) := by decide +kernel
theorem dX7_write_105 : decode cX7_write 105 = .ok (.iastore, 1) := by decide +kernel
theorem dX7_write_106 : decode cX7_write 106 = .ok (.aload_n 0, 1) := by decide +kernel
theorem dX7_write_107 : decode cX7_write 107 = .ok (.getfield 19, 3) := by decide +kernel
theorem dX7_write_110 : decode cX7_write 110 = .ok (.iconst 0, 1) := by decide +kernel
theorem dX7_write_111 : decode cX7_write 111 = .ok (.iaload, 1) := by decide +kernel
theorem dX7_write_112 : decode cX7_write 112 = .ok (.ireturn, 1) := by decide +kernel
theorem dX7_undo_0 : decode cX7_undo 0 = .ok (.aload_n 0, 1) := by decide +kernel
theorem dX7_undo_1 : decode cX7_undo 1 = .ok (.getfield 19, 3) := by decide +kernel
theorem dX7_undo_4 : decode cX7_undo 4 = .ok (.iconst 0, 1) := by decide +kernel
theorem dX7_undo_5 : decode cX7_undo 5 = .ok (.iaload, 1) := by decide +kernel
theorem dX7_undo_6 : decode cX7_undo 6 = .ok (.ifCond .ne 6, 3) := by decide +kernel
theorem dX7_undo_9 : decode cX7_undo 9 = .ok (.bipush (-2), 2) := by decide +kernel
theorem dX7_undo_11 : decode cX7_undo 11 = .ok (.ireturn, 1) := by decide +kernel
theorem dX7_undo_12 : decode cX7_undo 12 = .ok (.aload_n 0, 1) := by decide +kernel
theorem dX7_undo_13 : decode cX7_undo 13 = .ok (.getfield 19, 3) := by decide +kernel
theorem dX7_undo_16 : decode cX7_undo 16 = .ok (.iconst 0, 1) := by decide +kernel
theorem dX7_undo_17 : decode cX7_undo 17 = .ok (.dup2, 1) := by decide +kernel
theorem dX7_undo_18 : decode cX7_undo 18 = .ok (.iaload, 1) := by decide +kernel
theorem dX7_undo_19 : decode cX7_undo 19 = .ok (.iconst 1, 1) := by decide +kernel
theorem dX7_undo_20 : decode cX7_undo 20 = .ok (.isub, 1) := by decide +kernel
theorem dX7_undo_21 : decode cX7_undo 21 = .ok (.iastore, 1) := by decide +kernel
theorem dX7_undo_22 : decode cX7_undo 22 = .ok (.aload_n 0, 1) := by decide +kernel
theorem dX7_undo_23 : decode cX7_undo 23 = .ok (.getfield 19, 3) := by decide +kernel
theorem dX7_undo_26 : decode cX7_undo 26 = .ok (.iconst 0, 1) := by decide +kernel
theorem dX7_undo_27 : decode cX7_undo 27 = .ok (.iaload, 1) := by decide +kernel
theorem dX7_undo_28 : decode cX7_undo 28 = .ok (.ireturn, 1) := by decide +kernel
theorem dX7_wrote_0 : decode cX7_wrote 0 = .ok (.iload_n 1, 1) := by decide +kernel
theorem dX7_wrote_1 : decode cX7_wrote 1 = .ok (.ifCond .ge 5, 3) := by decide +kernel
theorem dX7_wrote_4 : decode cX7_wrote 4 = .ok (.iconst (-1), 1) := by decide +kernel
theorem dX7_wrote_5 : decode cX7_wrote 5 = .ok (.ireturn, 1) := by decide +kernel
theorem dX7_wrote_6 : decode cX7_wrote 6 = .ok (.iload_n 1, 1) := by decide +kernel
theorem dX7_wrote_7 : decode cX7_wrote 7 = .ok (.aload_n 0, 1) := by decide +kernel
end
section
theorem dX7_wrote_8 : decode cX7_wrote 8 = .ok (.getfield 19, 3) := by decide +kernel
theorem dX7_wrote_11 : decode cX7_wrote 11 = .ok (.iconst 0, 1) := by decide +kernel
theorem dX7_wrote_12 : decode cX7_wrote 12 = .ok (.iaload, 1) := by decide +kernel
theorem dX7_wrote_13 : decode cX7_wrote 13 = .ok (.if_icmp .ge 14, 3) := by decide +kernel
theorem dX7_wrote_16 : decode cX7_wrote 16 = .ok (.aload_n 0, 1) := by decide +kernel
theorem dX7_wrote_17 : decode cX7_wrote 17 = .ok (.getfield 19, 3) := by decide +kernel
theorem dX7_wrote_20 : decode cX7_wrote 20 = .ok (.iload_n 1, 1) := by decide +kernel
theorem dX7_wrote_21 : decode cX7_wrote 21 = .ok (.iconst 1, 1) := by decide +kernel
theorem dX7_wrote_22 : decode cX7_wrote 22 = .ok (.iadd, 1) := by decide +kernel
theorem dX7_wrote_23 : decode cX7_wrote 23 = .ok (.iaload, 1) := by decide +kernel
theorem dX7_wrote_24 : decode cX7_wrote 24 = .ok (.goto 5, 3) := by decide +kernel
theorem dX7_wrote_27 : decode cX7_wrote 27 = .ok (.bipush (-5), 2) := by decide +kernel
theorem dX7_wrote_29 : decode cX7_wrote 29 = .ok (.ireturn, 1) := by decide +kernel
theorem dX7_side_0 : decode cX7_side 0 = .ok (.iload_n 1, 1) := by decide +kernel
theorem dX7_side_1 : decode cX7_side 1 = .ok (.iconst 0, 1) := by decide +kernel
theorem dX7_side_2 : decode cX7_side 2 = .ok (.iconst 1, 1) := by decide +kernel
theorem dX7_side_3 : decode cX7_side 3 = .ok (.invokestatic 47, 3) := by decide +kernel
theorem dX7_side_6 : decode cX7_side 6 = .ok (.ifCond .ne 5, 3) := by decide +kernel
theorem dX7_side_9 : decode cX7_side 9 = .ok (.iconst (-1), 1) := by decide +kernel
theorem dX7_side_10 : decode cX7_side 10 = .ok (.ireturn, 1) := by decide +kernel
theorem dX7_side_11 : decode cX7_side 11 = .ok (.iconst 0, 1) := by decide +kernel
theorem dX7_side_12 : decode cX7_side 12 = .ok (.istore_n 2, 1) := by decide +kernel
theorem dX7_side_13 : decode cX7_side 13 = .ok (.iconst 0, 1) := by decide +kernel
theorem dX7_side_14 : decode cX7_side 14 = .ok (.istore_n 3, 1) := by decide +kernel
theorem dX7_side_15 : decode cX7_side 15 = .ok (.iload_n 3, 1) := by decide +kernel
theorem dX7_side_16 : decode cX7_side 16 = .ok (.aload_n 0, 1) := by decide +kernel
theorem dX7_side_17 : decode cX7_side 17 = .ok (.getfield 19, 3) := by decide +kernel
theorem dX7_side_20 : decode cX7_side 20 = .ok (.iconst 0, 1) := by decide +kernel
theorem dX7_side_21 : decode cX7_side 21 = .ok (.iaload, 1) := by decide +kernel
theorem dX7_side_22 : decode cX7_side 22 = .ok (.if_icmp .ge 50, 3) := by decide +kernel
theorem dX7_side_25 : decode cX7_side 25 = .ok (.aload_n 0, 1) := by decide +kernel
theorem dX7_side_26 : decode cX7_side 26 = .ok (.aload_n 0, 1) := by decide +kernel
theorem dX7_side_27 : decode cX7_side 27 = .ok (.getfield 19, 3) := by decide +kernel
theorem dX7_side_30 : decode cX7_side 30 = .ok (.iload_n 3, 1) := by decide +kernel
theorem dX7_side_31 : decode cX7_side 31 = .ok (.iconst 1, 1) := by decide +kernel
theorem dX7_side_32 : decode cX7_side 32 = .ok (.iadd, 1) := by decide +kernel
theorem dX7_side_33 : decode cX7_side 33 = .ok (.iaload, 1) := by decide +kernel
theorem dX7_side_34 : decode cX7_side 34 = .ok (.invokevirtual 136, 3) := by decide +kernel
theorem dX7_side_37 : decode cX7_side 37 = .ok (.istore 4, 2) := by decide +kernel
theorem dX7_side_39 : decode cX7_side 39 = .ok (.iload_n 2, 1) := by decide +kernel
theorem dX7_side_40 : decode cX7_side 40 = .ok (.iload_n 3, 1) := by decide +kernel
theorem dX7_side_41 : decode cX7_side 41 = .ok (.iconst 2, 1) := by decide +kernel
theorem dX7_side_42 : decode cX7_side 42 = .ok (.irem, 1) := by decide +kernel
theorem dX7_side_43 : decode cX7_side 43 = .ok (.iload_n 1, 1) := by decide +kernel
theorem dX7_side_44 : decode cX7_side 44 = .ok (.if_icmp .ne 13, 3) := by decide +kernel
theorem dX7_side_47 : decode cX7_side 47 = .ok (.aload_n 0, 1) := by decide +kernel
theorem dX7_side_48 : decode cX7_side 48 = .ok (.getfield 35, 3) := by decide +kernel
theorem dX7_side_51 : decode cX7_side 51 = .ok (.iload 4, 2) := by decide +kernel
theorem dX7_side_53 : decode cX7_side 53 = .ok (.iaload, 1) := by decide +kernel
theorem dX7_side_54 : decode cX7_side 54 = .ok (.goto 10, 3) := by decide +kernel
theorem dX7_side_57 : decode cX7_side 57 = .ok (.aload_n 0, 1) := by decide +kernel
theorem dX7_side_58 : decode cX7_side 58 = .ok (.getfield 38, 3) := by decide +kernel
theorem dX7_side_61 : decode cX7_side 61 = .ok (.iload 4, 2) := by decide +kernel
theorem dX7_side_63 : decode cX7_side 63 = .ok (.iaload, 1) := by decide +kernel
theorem dX7_side_64 : decode cX7_side 64 = .ok (.iadd, 1) := by decide +kernel
theorem dX7_side_65 : decode cX7_side 65 = .ok (.istore_n 2, 1) := by decide +kernel
theorem dX7_side_66 : decode cX7_side 66 = .ok (.iinc 3 1, 3) := by decide +kernel
theorem dX7_side_69 : decode cX7_side 69 = .ok (.goto (-54), 3) := by decide +kernel
theorem dX7_side_72 : decode cX7_side 72 = .ok (.iload_n 2, 1) := by decide +kernel
theorem dX7_side_73 : decode cX7_side 73 = .ok (.ireturn, 1) := by decide +kernel
theorem dX7_says_0 : decode cX7_says 0 = .ok (.iload_n 1, 1) := by decide +kernel
theorem dX7_says_1 : decode cX7_says 1 = .ok (.bipush (-2), 2) := by decide +kernel
theorem dX7_says_3 : decode cX7_says 3 = .ok (.if_icmp .ge 5, 3) := by decide +kernel
theorem dX7_says_6 : decode cX7_says 6 = .ok (.iconst (-1), 1) := by decide +kernel
theorem dX7_says_7 : decode cX7_says 7 = .ok (.ireturn, 1) := by decide +kernel
theorem dX7_says_8 : decode cX7_says 8 = .ok (.iload_n 1, 1) := by decide +kernel
theorem dX7_says_9 : decode cX7_says 9 = .ok (.iconst (-1), 1) := by decide +kernel
theorem dX7_says_10 : decode cX7_says 10 = .ok (.if_icmp .ne 8, 3) := by decide +kernel
theorem dX7_says_13 : decode cX7_says 13 = .ok (.aload_n 0, 1) := by decide +kernel
theorem dX7_says_14 : decode cX7_says 14 = .ok (.getfield 123, 3) := by decide +kernel
theorem dX7_says_17 : decode cX7_says 17 = .ok (.ireturn, 1) := by decide +kernel
theorem dX7_says_18 : decode cX7_says 18 = .ok (.bipush (-9), 2) := by decide +kernel
theorem dX7_says_20 : decode cX7_says 20 = .ok (.istore_n 2, 1) := by decide +kernel
theorem dX7_says_21 : decode cX7_says 21 = .ok (.iconst 0, 1) := by decide +kernel
theorem dX7_says_22 : decode cX7_says 22 = .ok (.istore_n 3, 1) := by decide +kernel
theorem dX7_says_23 : decode cX7_says 23 = .ok (.iload_n 3, 1) := by decide +kernel
theorem dX7_says_24 : decode cX7_says 24 = .ok (.aload_n 0, 1) := by decide +kernel
theorem dX7_says_25 : decode cX7_says 25 = .ok (.getfield 123, 3) := by decide +kernel
theorem dX7_says_28 : decode cX7_says 28 = .ok (.if_icmp .ge 30, 3) := by decide +kernel
theorem dX7_says_31 : decode cX7_says 31 = .ok (.aload_n 0, 1) := by decide +kernel
theorem dX7_says_32 : decode cX7_says 32 = .ok (.getfield 35, 3) := by decide +kernel
theorem dX7_says_35 : decode cX7_says 35 = .ok (.iload_n 3, 1) := by decide +kernel
theorem dX7_says_36 : decode cX7_says 36 = .ok (.iaload, 1) := by decide +kernel
theorem dX7_says_37 : decode cX7_says 37 = .ok (.iload_n 2, 1) := by decide +kernel
theorem dX7_says_38 : decode cX7_says 38 = .ok (.if_icmp .le 12, 3) := by decide +kernel
theorem dX7_says_41 : decode cX7_says 41 = .ok (.aload_n 0, 1) := by decide +kernel
theorem dX7_says_42 : decode cX7_says 42 = .ok (.getfield 35, 3) := by decide +kernel
theorem dX7_says_45 : decode cX7_says 45 = .ok (.iload_n 3, 1) := by decide +kernel
theorem dX7_says_46 : decode cX7_says 46 = .ok (.iaload, 1) := by decide +kernel
theorem dX7_says_47 : decode cX7_says 47 = .ok (.goto 4, 3) := by decide +kernel
theorem dX7_says_50 : decode cX7_says 50 = .ok (.iload_n 2, 1) := by decide +kernel
theorem dX7_says_51 : decode cX7_says 51 = .ok (.istore_n 2, 1) := by decide +kernel
theorem dX7_says_52 : decode cX7_says 52 = .ok (.iinc 3 1, 3) := by decide +kernel
theorem dX7_says_55 : decode cX7_says 55 = .ok (.goto (-32), 3) := by decide +kernel
theorem dX7_says_58 : decode cX7_says 58 = .ok (.iload_n 1, 1) := by decide +kernel
theorem dX7_says_59 : decode cX7_says 59 = .ok (.bipush (-2), 2) := by decide +kernel
theorem dX7_says_61 : decode cX7_says 61 = .ok (.if_icmp .ne 7, 3) := by decide +kernel
theorem dX7_says_64 : decode cX7_says 64 = .ok (.iload_n 2, 1) := by decide +kernel
theorem dX7_says_65 : decode cX7_says 65 = .ok (.goto 22, 3) := by decide +kernel
theorem dX7_says_68 : decode cX7_says 68 = .ok (.iload_n 1, 1) := by decide +kernel
theorem dX7_says_69 : decode cX7_says 69 = .ok (.aload_n 0, 1) := by decide +kernel
theorem dX7_says_70 : decode cX7_says 70 = .ok (.getfield 123, 3) := by decide +kernel
theorem dX7_says_73 : decode cX7_says 73 = .ok (.if_icmp .ge 12, 3) := by decide +kernel
theorem dX7_says_76 : decode cX7_says 76 = .ok (.aload_n 0, 1) := by decide +kernel
theorem dX7_says_77 : decode cX7_says 77 = .ok (.getfield 29, 3) := by decide +kernel
theorem dX7_says_80 : decode cX7_says 80 = .ok (.iload_n 1, 1) := by decide +kernel
theorem dX7_says_81 : decode cX7_says 81 = .ok (.iaload, 1) := by decide +kernel
theorem dX7_says_82 : decode cX7_says 82 = .ok (.goto 5, 3) := by decide +kernel
theorem dX7_says_85 : decode cX7_says 85 = .ok (.bipush (-5), 2) := by decide +kernel
theorem dX7_says_87 : decode cX7_says 87 = .ok (.ireturn, 1) := by decide +kernel
theorem dX7_apart_0 : decode cX7_apart 0 = .ok (.iconst 0, 1) := by decide +kernel
theorem dX7_apart_1 : decode cX7_apart 1 = .ok (.istore_n 2, 1) := by decide +kernel
theorem dX7_apart_2 : decode cX7_apart 2 = .ok (.iconst 0, 1) := by decide +kernel
theorem dX7_apart_3 : decode cX7_apart 3 = .ok (.istore_n 3, 1) := by decide +kernel
theorem dX7_apart_4 : decode cX7_apart 4 = .ok (.iload_n 3, 1) := by decide +kernel
theorem dX7_apart_5 : decode cX7_apart 5 = .ok (.bipush 8, 2) := by decide +kernel
theorem dX7_apart_7 : decode cX7_apart 7 = .ok (.if_icmp .ge 38, 3) := by decide +kernel
theorem dX7_apart_10 : decode cX7_apart 10 = .ok (.iload_n 0, 1) := by decide +kernel
theorem dX7_apart_11 : decode cX7_apart 11 = .ok (.iload_n 3, 1) := by decide +kernel
theorem dX7_apart_12 : decode cX7_apart 12 = .ok (.invokestatic 139, 3) := by decide +kernel
theorem dX7_apart_15 : decode cX7_apart 15 = .ok (.iload_n 1, 1) := by decide +kernel
theorem dX7_apart_16 : decode cX7_apart 16 = .ok (.iload_n 3, 1) := by decide +kernel
theorem dX7_apart_17 : decode cX7_apart 17 = .ok (.invokestatic 139, 3) := by decide +kernel
theorem dX7_apart_20 : decode cX7_apart 20 = .ok (.isub, 1) := by decide +kernel
theorem dX7_apart_21 : decode cX7_apart 21 = .ok (.istore 4, 2) := by decide +kernel
theorem dX7_apart_23 : decode cX7_apart 23 = .ok (.iload_n 2, 1) := by decide +kernel
theorem dX7_apart_24 : decode cX7_apart 24 = .ok (.iload 4, 2) := by decide +kernel
theorem dX7_apart_26 : decode cX7_apart 26 = .ok (.ifCond .ge 9, 3) := by decide +kernel
theorem dX7_apart_29 : decode cX7_apart 29 = .ok (.iload 4, 2) := by decide +kernel
theorem dX7_apart_31 : decode cX7_apart 31 = .ok (.ineg, 1) := by decide +kernel
theorem dX7_apart_32 : decode cX7_apart 32 = .ok (.goto 5, 3) := by decide +kernel
theorem dX7_apart_35 : decode cX7_apart 35 = .ok (.iload 4, 2) := by decide +kernel
theorem dX7_apart_37 : decode cX7_apart 37 = .ok (.iadd, 1) := by decide +kernel
theorem dX7_apart_38 : decode cX7_apart 38 = .ok (.istore_n 2, 1) := by decide +kernel
theorem dX7_apart_39 : decode cX7_apart 39 = .ok (.iinc 3 1, 3) := by decide +kernel
theorem dX7_apart_42 : decode cX7_apart 42 = .ok (.goto (-38), 3) := by decide +kernel
theorem dX7_apart_45 : decode cX7_apart 45 = .ok (.iload_n 2, 1) := by decide +kernel
theorem dX7_apart_46 : decode cX7_apart 46 = .ok (.ireturn, 1) := by decide +kernel
theorem dX7_isAnswer_0 : decode cX7_isAnswer 0 = .ok (.iload_n 2, 1) := by decide +kernel
theorem dX7_isAnswer_1 : decode cX7_isAnswer 1 = .ok (.iload_n 1, 1) := by decide +kernel
theorem dX7_isAnswer_2 : decode cX7_isAnswer 2 = .ok (.if_icmp .eq 45, 3) := by decide +kernel
theorem dX7_isAnswer_5 : decode cX7_isAnswer 5 = .ok (.aload_n 0, 1) := by decide +kernel
theorem dX7_isAnswer_6 : decode cX7_isAnswer 6 = .ok (.getfield 32, 3) := by decide +kernel
theorem dX7_isAnswer_9 : decode cX7_isAnswer 9 = .ok (.iload_n 2, 1) := by decide +kernel
theorem dX7_isAnswer_10 : decode cX7_isAnswer 10 = .ok (.iaload, 1) := by decide +kernel
theorem dX7_isAnswer_11 : decode cX7_isAnswer 11 = .ok (.aload_n 0, 1) := by decide +kernel
theorem dX7_isAnswer_12 : decode cX7_isAnswer 12 = .ok (.getfield 32, 3) := by decide +kernel
theorem dX7_isAnswer_15 : decode cX7_isAnswer 15 = .ok (.iload_n 1, 1) := by decide +kernel
theorem dX7_isAnswer_16 : decode cX7_isAnswer 16 = .ok (.iaload, 1) := by decide +kernel
theorem dX7_isAnswer_17 : decode cX7_isAnswer 17 = .ok (.if_icmp .eq 26, 3) := by decide +kernel
theorem dX7_isAnswer_20 : decode cX7_isAnswer 20 = .ok (.iload_n 3, 1) := by decide +kernel
theorem dX7_isAnswer_21 : decode cX7_isAnswer 21 = .ok (.ifCond .le 26, 3) := by decide +kernel
theorem dX7_isAnswer_24 : decode cX7_isAnswer 24 = .ok (.aload_n 0, 1) := by decide +kernel
theorem dX7_isAnswer_25 : decode cX7_isAnswer 25 = .ok (.getfield 32, 3) := by decide +kernel
theorem dX7_isAnswer_28 : decode cX7_isAnswer 28 = .ok (.iload_n 2, 1) := by decide +kernel
theorem dX7_isAnswer_29 : decode cX7_isAnswer 29 = .ok (.iaload, 1) := by decide +kernel
theorem dX7_isAnswer_30 : decode cX7_isAnswer 30 = .ok (.aload_n 0, 1) := by decide +kernel
theorem dX7_isAnswer_31 : decode cX7_isAnswer 31 = .ok (.getfield 32, 3) := by decide +kernel
theorem dX7_isAnswer_34 : decode cX7_isAnswer 34 = .ok (.iload_n 1, 1) := by decide +kernel
theorem dX7_isAnswer_35 : decode cX7_isAnswer 35 = .ok (.iaload, 1) := by decide +kernel
theorem dX7_isAnswer_36 : decode cX7_isAnswer 36 = .ok (.invokestatic 142, 3) := by decide +kernel
theorem dX7_isAnswer_39 : decode cX7_isAnswer 39 = .ok (.iload_n 3, 1) := by decide +kernel
theorem dX7_isAnswer_40 : decode cX7_isAnswer 40 = .ok (.if_icmp .gt 7, 3) := by decide +kernel
theorem dX7_isAnswer_43 : decode cX7_isAnswer 43 = .ok (.iconst 1, 1) := by decide +kernel
theorem dX7_isAnswer_44 : decode cX7_isAnswer 44 = .ok (.goto 4, 3) := by decide +kernel
theorem dX7_isAnswer_47 : decode cX7_isAnswer 47 = .ok (.iconst 0, 1) := by decide +kernel
theorem dX7_isAnswer_48 : decode cX7_isAnswer 48 = .ok (.ireturn, 1) := by decide +kernel
theorem dX7_bestOf_0 : decode cX7_bestOf 0 = .ok (.bipush (-9), 2) := by decide +kernel
theorem dX7_bestOf_2 : decode cX7_bestOf 2 = .ok (.istore_n 3, 1) := by decide +kernel
theorem dX7_bestOf_3 : decode cX7_bestOf 3 = .ok (.iconst 0, 1) := by decide +kernel
theorem dX7_bestOf_4 : decode cX7_bestOf 4 = .ok (.istore 4, 2) := by decide +kernel
theorem dX7_bestOf_6 : decode cX7_bestOf 6 = .ok (.iload 4, 2) := by decide +kernel
theorem dX7_bestOf_8 : decode cX7_bestOf 8 = .ok (.aload_n 0, 1) := by decide +kernel
theorem dX7_bestOf_9 : decode cX7_bestOf 9 = .ok (.getfield 123, 3) := by decide +kernel
theorem dX7_bestOf_12 : decode cX7_bestOf 12 = .ok (.if_icmp .ge 57, 3) := by decide +kernel
theorem dX7_bestOf_15 : decode cX7_bestOf 15 = .ok (.aload_n 0, 1) := by decide +kernel
theorem dX7_bestOf_16 : decode cX7_bestOf 16 = .ok (.iload_n 1, 1) := by decide +kernel
theorem dX7_bestOf_17 : decode cX7_bestOf 17 = .ok (.iload 4, 2) := by decide +kernel
theorem dX7_bestOf_19 : decode cX7_bestOf 19 = .ok (.iload_n 2, 1) := by decide +kernel
theorem dX7_bestOf_20 : decode cX7_bestOf 20 = .ok (.invokevirtual 145, 3) := by decide +kernel
theorem dX7_bestOf_23 : decode cX7_bestOf 23 = .ok (.ifCond .eq 38, 3) := by decide +kernel
theorem dX7_bestOf_26 : decode cX7_bestOf 26 = .ok (.iload_n 3, 1) := by decide +kernel
theorem dX7_bestOf_27 : decode cX7_bestOf 27 = .ok (.bipush (-9), 2) := by decide +kernel
theorem dX7_bestOf_29 : decode cX7_bestOf 29 = .ok (.if_icmp .eq 27, 3) := by decide +kernel
theorem dX7_bestOf_32 : decode cX7_bestOf 32 = .ok (.aload_n 0, 1) := by decide +kernel
theorem dX7_bestOf_33 : decode cX7_bestOf 33 = .ok (.getfield 35, 3) := by decide +kernel
theorem dX7_bestOf_36 : decode cX7_bestOf 36 = .ok (.iload 4, 2) := by decide +kernel
theorem dX7_bestOf_38 : decode cX7_bestOf 38 = .ok (.iaload, 1) := by decide +kernel
theorem dX7_bestOf_39 : decode cX7_bestOf 39 = .ok (.aload_n 0, 1) := by decide +kernel
theorem dX7_bestOf_40 : decode cX7_bestOf 40 = .ok (.getfield 35, 3) := by decide +kernel
theorem dX7_bestOf_43 : decode cX7_bestOf 43 = .ok (.iload_n 3, 1) := by decide +kernel
theorem dX7_bestOf_44 : decode cX7_bestOf 44 = .ok (.ifCond .ge 7, 3) := by decide +kernel
theorem dX7_bestOf_47 : decode cX7_bestOf 47 = .ok (.iconst 0, 1) := by decide +kernel
theorem dX7_bestOf_48 : decode cX7_bestOf 48 = .ok (.goto 4, 3) := by decide +kernel
theorem dX7_bestOf_51 : decode cX7_bestOf 51 = .ok (.iload_n 3, 1) := by decide +kernel
theorem dX7_bestOf_52 : decode cX7_bestOf 52 = .ok (.iaload, 1) := by decide +kernel
theorem dX7_bestOf_53 : decode cX7_bestOf 53 = .ok (.if_icmp .le 8, 3) := by decide +kernel
theorem dX7_bestOf_56 : decode cX7_bestOf 56 = .ok (.iload 4, 2) := by decide +kernel
theorem dX7_bestOf_58 : decode cX7_bestOf 58 = .ok (.goto 4, 3) := by decide +kernel
theorem dX7_bestOf_61 : decode cX7_bestOf 61 = .ok (.iload_n 3, 1) := by decide +kernel
theorem dX7_bestOf_62 : decode cX7_bestOf 62 = .ok (.istore_n 3, 1) := by decide +kernel
theorem dX7_bestOf_63 : decode cX7_bestOf 63 = .ok (.iinc 4 1, 3) := by decide +kernel
theorem dX7_bestOf_66 : decode cX7_bestOf 66 = .ok (.goto (-60), 3) := by decide +kernel
theorem dX7_bestOf_69 : decode cX7_bestOf 69 = .ok (.iload_n 3, 1) := by decide +kernel
theorem dX7_bestOf_70 : decode cX7_bestOf 70 = .ok (.ireturn, 1) := by decide +kernel
theorem dX7_answers_0 : decode cX7_answers 0 = .ok (.aload_n 0, 1) := by decide +kernel
theorem dX7_answers_1 : decode cX7_answers 1 = .ok (.iload_n 1, 1) := by decide +kernel
theorem dX7_answers_2 : decode cX7_answers 2 = .ok (.invokevirtual 136, 3) := by decide +kernel
theorem dX7_answers_5 : decode cX7_answers 5 = .ok (.istore 4, 2) := by decide +kernel
theorem dX7_answers_7 : decode cX7_answers 7 = .ok (.iload 4, 2) := by decide +kernel
theorem dX7_answers_9 : decode cX7_answers 9 = .ok (.bipush (-9), 2) := by decide +kernel
theorem dX7_answers_11 : decode cX7_answers 11 = .ok (.if_icmp .eq 21, 3) := by decide +kernel
theorem dX7_answers_14 : decode cX7_answers 14 = .ok (.iload_n 2, 1) := by decide +kernel
theorem dX7_answers_15 : decode cX7_answers 15 = .ok (.iconst 0, 1) := by decide +kernel
theorem dX7_answers_16 : decode cX7_answers 16 = .ok (.iconst 2, 1) := by decide +kernel
theorem dX7_answers_17 : decode cX7_answers 17 = .ok (.invokestatic 47, 3) := by decide +kernel
theorem dX7_answers_20 : decode cX7_answers 20 = .ok (.ifCond .eq 12, 3) := by decide +kernel
theorem dX7_answers_23 : decode cX7_answers 23 = .ok (.iload_n 3, 1) := by decide +kernel
theorem dX7_answers_24 : decode cX7_answers 24 = .ok (.iconst 0, 1) := by decide +kernel
theorem dX7_answers_25 : decode cX7_answers 25 = .ok (.iconst 1, 1) := by decide +kernel
theorem dX7_answers_26 : decode cX7_answers 26 = .ok (.invokestatic 47, 3) := by decide +kernel
theorem dX7_answers_29 : decode cX7_answers 29 = .ok (.ifCond .ne 5, 3) := by decide +kernel
theorem dX7_answers_32 : decode cX7_answers 32 = .ok (.iconst (-1), 1) := by decide +kernel
theorem dX7_answers_33 : decode cX7_answers 33 = .ok (.ireturn, 1) := by decide +kernel
theorem dX7_answers_34 : decode cX7_answers 34 = .ok (.iconst 0, 1) := by decide +kernel
theorem dX7_answers_35 : decode cX7_answers 35 = .ok (.istore 5, 2) := by decide +kernel
theorem dX7_answers_37 : decode cX7_answers 37 = .ok (.iconst 0, 1) := by decide +kernel
theorem dX7_answers_38 : decode cX7_answers 38 = .ok (.istore 6, 2) := by decide +kernel
theorem dX7_answers_40 : decode cX7_answers 40 = .ok (.iload 6, 2) := by decide +kernel
theorem dX7_answers_42 : decode cX7_answers 42 = .ok (.aload_n 0, 1) := by decide +kernel
theorem dX7_answers_43 : decode cX7_answers 43 = .ok (.getfield 123, 3) := by decide +kernel
theorem dX7_answers_46 : decode cX7_answers 46 = .ok (.if_icmp .ge 31, 3) := by decide +kernel
theorem dX7_answers_49 : decode cX7_answers 49 = .ok (.iload 5, 2) := by decide +kernel
theorem dX7_answers_51 : decode cX7_answers 51 = .ok (.aload_n 0, 1) := by decide +kernel
theorem dX7_answers_52 : decode cX7_answers 52 = .ok (.iload 4, 2) := by decide +kernel
theorem dX7_answers_54 : decode cX7_answers 54 = .ok (.iload 6, 2) := by decide +kernel
theorem dX7_answers_56 : decode cX7_answers 56 = .ok (.iload_n 2, 1) := by decide +kernel
theorem dX7_answers_57 : decode cX7_answers 57 = .ok (.invokevirtual 145, 3) := by decide +kernel
theorem dX7_answers_60 : decode cX7_answers 60 = .ok (.ifCond .eq 7, 3) := by decide +kernel
theorem dX7_answers_63 : decode cX7_answers 63 = .ok (.iconst 1, 1) := by decide +kernel
theorem dX7_answers_64 : decode cX7_answers 64 = .ok (.goto 4, 3) := by decide +kernel
theorem dX7_answers_67 : decode cX7_answers 67 = .ok (.iconst 0, 1) := by decide +kernel
theorem dX7_answers_68 : decode cX7_answers 68 = .ok (.iadd, 1) := by decide +kernel
theorem dX7_answers_69 : decode cX7_answers 69 = .ok (.istore 5, 2) := by decide +kernel
theorem dX7_answers_71 : decode cX7_answers 71 = .ok (.iinc 6 1, 3) := by decide +kernel
theorem dX7_answers_74 : decode cX7_answers 74 = .ok (.goto (-34), 3) := by decide +kernel
theorem dX7_answers_77 : decode cX7_answers 77 = .ok (.aload_n 0, 1) := by decide +kernel
theorem dX7_answers_78 : decode cX7_answers 78 = .ok (.iload 4, 2) := by decide +kernel
theorem dX7_answers_80 : decode cX7_answers 80 = .ok (.iload_n 2, 1) := by decide +kernel
theorem dX7_answers_81 : decode cX7_answers 81 = .ok (.invokevirtual 148, 3) := by decide +kernel
theorem dX7_answers_84 : decode cX7_answers 84 = .ok (.istore 6, 2) := by decide +kernel
theorem dX7_answers_86 : decode cX7_answers 86 = .ok (.iload_n 3, 1) := by decide +kernel
theorem dX7_answers_87 : decode cX7_answers 87 = .ok (.ifCond .ne 8, 3) := by decide +kernel
theorem dX7_answers_90 : decode cX7_answers 90 = .ok (.iload 5, 2) := by decide +kernel
theorem dX7_answers_92 : decode cX7_answers 92 = .ok (.goto 22, 3) := by decide +kernel
theorem dX7_answers_95 : decode cX7_answers 95 = .ok (.iload 6, 2) := by decide +kernel
theorem dX7_answers_97 : decode cX7_answers 97 = .ok (.bipush (-9), 2) := by decide +kernel
theorem dX7_answers_99 : decode cX7_answers 99 = .ok (.if_icmp .ne 8, 3) := by decide +kernel
theorem dX7_answers_102 : decode cX7_answers 102 = .ok (.bipush (-9), 2) := by decide +kernel
theorem dX7_answers_104 : decode cX7_answers 104 = .ok (.goto 10, 3) := by decide +kernel
theorem dX7_answers_107 : decode cX7_answers 107 = .ok (.aload_n 0, 1) := by decide +kernel
theorem dX7_answers_108 : decode cX7_answers 108 = .ok (.getfield 29, 3) := by decide +kernel
theorem dX7_answers_111 : decode cX7_answers 111 = .ok (.iload 6, 2) := by decide +kernel
theorem dX7_answers_113 : decode cX7_answers 113 = .ok (.iaload, 1) := by decide +kernel
theorem dX7_answers_114 : decode cX7_answers 114 = .ok (.ireturn, 1) := by decide +kernel
theorem dX7_mute_0 : decode cX7_mute 0 = .ok (.iload_n 1, 1) := by decide +kernel
theorem dX7_mute_1 : decode cX7_mute 1 = .ok (.iconst 0, 1) := by decide +kernel
theorem dX7_mute_2 : decode cX7_mute 2 = .ok (.iconst 1, 1) := by decide +kernel
theorem dX7_mute_3 : decode cX7_mute 3 = .ok (.invokestatic 47, 3) := by decide +kernel
theorem dX7_mute_6 : decode cX7_mute 6 = .ok (.ifCond .ne 5, 3) := by decide +kernel
theorem dX7_mute_9 : decode cX7_mute 9 = .ok (.iconst (-1), 1) := by decide +kernel
theorem dX7_mute_10 : decode cX7_mute 10 = .ok (.ireturn, 1) := by decide +kernel
theorem dX7_mute_11 : decode cX7_mute 11 = .ok (.iconst 0, 1) := by decide +kernel
theorem dX7_mute_12 : decode cX7_mute 12 = .ok (.istore_n 2, 1) := by decide +kernel
theorem dX7_mute_13 : decode cX7_mute 13 = .ok (.bipush (-9), 2) := by decide +kernel
theorem dX7_mute_15 : decode cX7_mute 15 = .ok (.istore_n 3, 1) := by decide +kernel
theorem dX7_mute_16 : decode cX7_mute 16 = .ok (.iconst 0, 1) := by decide +kernel
theorem dX7_mute_17 : decode cX7_mute 17 = .ok (.istore 4, 2) := by decide +kernel
theorem dX7_mute_19 : decode cX7_mute 19 = .ok (.iload 4, 2) := by decide +kernel
theorem dX7_mute_21 : decode cX7_mute 21 = .ok (.aload_n 0, 1) := by decide +kernel
theorem dX7_mute_22 : decode cX7_mute 22 = .ok (.getfield 123, 3) := by decide +kernel
theorem dX7_mute_25 : decode cX7_mute 25 = .ok (.if_icmp .ge 62, 3) := by decide +kernel
theorem dX7_mute_28 : decode cX7_mute 28 = .ok (.aload_n 0, 1) := by decide +kernel
theorem dX7_mute_29 : decode cX7_mute 29 = .ok (.iload 4, 2) := by decide +kernel
theorem dX7_mute_31 : decode cX7_mute 31 = .ok (.iconst 0, 1) := by decide +kernel
theorem dX7_mute_32 : decode cX7_mute 32 = .ok (.invokevirtual 148, 3) := by decide +kernel
theorem dX7_mute_35 : decode cX7_mute 35 = .ok (.bipush (-9), 2) := by decide +kernel
theorem dX7_mute_37 : decode cX7_mute 37 = .ok (.if_icmp .ne 7, 3) := by decide +kernel
theorem dX7_mute_40 : decode cX7_mute 40 = .ok (.iconst 1, 1) := by decide +kernel
theorem dX7_mute_41 : decode cX7_mute 41 = .ok (.goto 4, 3) := by decide +kernel
theorem dX7_mute_44 : decode cX7_mute 44 = .ok (.iconst 0, 1) := by decide +kernel
theorem dX7_mute_45 : decode cX7_mute 45 = .ok (.istore 5, 2) := by decide +kernel
theorem dX7_mute_47 : decode cX7_mute 47 = .ok (.iload 5, 2) := by decide +kernel
theorem dX7_mute_49 : decode cX7_mute 49 = .ok (.ifCond .eq 17, 3) := by decide +kernel
theorem dX7_mute_52 : decode cX7_mute 52 = .ok (.iload_n 2, 1) := by decide +kernel
theorem dX7_mute_53 : decode cX7_mute 53 = .ok (.ifCond .ne 13, 3) := by decide +kernel
theorem dX7_mute_56 : decode cX7_mute 56 = .ok (.aload_n 0, 1) := by decide +kernel
theorem dX7_mute_57 : decode cX7_mute 57 = .ok (.getfield 29, 3) := by decide +kernel
theorem dX7_mute_60 : decode cX7_mute 60 = .ok (.iload 4, 2) := by decide +kernel
theorem dX7_mute_62 : decode cX7_mute 62 = .ok (.iaload, 1) := by decide +kernel
theorem dX7_mute_63 : decode cX7_mute 63 = .ok (.goto 4, 3) := by decide +kernel
theorem dX7_mute_66 : decode cX7_mute 66 = .ok (.iload_n 3, 1) := by decide +kernel
theorem dX7_mute_67 : decode cX7_mute 67 = .ok (.istore_n 3, 1) := by decide +kernel
theorem dX7_mute_68 : decode cX7_mute 68 = .ok (.iload_n 2, 1) := by decide +kernel
theorem dX7_mute_69 : decode cX7_mute 69 = .ok (.iload 5, 2) := by decide +kernel
theorem dX7_mute_71 : decode cX7_mute 71 = .ok (.ifCond .eq 7, 3) := by decide +kernel
theorem dX7_mute_74 : decode cX7_mute 74 = .ok (.iconst 1, 1) := by decide +kernel
theorem dX7_mute_75 : decode cX7_mute 75 = .ok (.goto 4, 3) := by decide +kernel
theorem dX7_mute_78 : decode cX7_mute 78 = .ok (.iconst 0, 1) := by decide +kernel
theorem dX7_mute_79 : decode cX7_mute 79 = .ok (.iadd, 1) := by decide +kernel
theorem dX7_mute_80 : decode cX7_mute 80 = .ok (.istore_n 2, 1) := by decide +kernel
theorem dX7_mute_81 : decode cX7_mute 81 = .ok (.iinc 4 1, 3) := by decide +kernel
theorem dX7_mute_84 : decode cX7_mute 84 = .ok (.goto (-65), 3) := by decide +kernel
theorem dX7_mute_87 : decode cX7_mute 87 = .ok (.iload_n 1, 1) := by decide +kernel
theorem dX7_mute_88 : decode cX7_mute 88 = .ok (.ifCond .ne 7, 3) := by decide +kernel
theorem dX7_mute_91 : decode cX7_mute 91 = .ok (.iload_n 2, 1) := by decide +kernel
theorem dX7_mute_92 : decode cX7_mute 92 = .ok (.goto 4, 3) := by decide +kernel
theorem dX7_mute_95 : decode cX7_mute 95 = .ok (.iload_n 3, 1) := by decide +kernel
theorem dX7_mute_96 : decode cX7_mute 96 = .ok (.ireturn, 1) := by decide +kernel
theorem dX7_best_0 : decode cX7_best 0 = .ok (.iload_n 1, 1) := by decide +kernel
theorem dX7_best_1 : decode cX7_best 1 = .ok (.iconst 0, 1) := by decide +kernel
theorem dX7_best_2 : decode cX7_best 2 = .ok (.iconst 1, 1) := by decide +kernel
theorem dX7_best_3 : decode cX7_best 3 = .ok (.invokestatic 47, 3) := by decide +kernel
theorem dX7_best_6 : decode cX7_best 6 = .ok (.ifCond .ne 5, 3) := by decide +kernel
theorem dX7_best_9 : decode cX7_best 9 = .ok (.iconst (-1), 1) := by decide +kernel
theorem dX7_best_10 : decode cX7_best 10 = .ok (.ireturn, 1) := by decide +kernel
theorem dX7_best_11 : decode cX7_best 11 = .ok (.bipush (-9), 2) := by decide +kernel
theorem dX7_best_13 : decode cX7_best 13 = .ok (.istore_n 2, 1) := by decide +kernel
theorem dX7_best_14 : decode cX7_best 14 = .ok (.bipush (-9), 2) := by decide +kernel
theorem dX7_best_16 : decode cX7_best 16 = .ok (.istore_n 3, 1) := by decide +kernel
theorem dX7_best_17 : decode cX7_best 17 = .ok (.iconst 0, 1) := by decide +kernel
theorem dX7_best_18 : decode cX7_best 18 = .ok (.istore 4, 2) := by decide +kernel
theorem dX7_best_20 : decode cX7_best 20 = .ok (.iload 4, 2) := by decide +kernel
theorem dX7_best_22 : decode cX7_best 22 = .ok (.aload_n 0, 1) := by decide +kernel
theorem dX7_best_23 : decode cX7_best 23 = .ok (.getfield 123, 3) := by decide +kernel
theorem dX7_best_26 : decode cX7_best 26 = .ok (.if_icmp .ge 70, 3) := by decide +kernel
theorem dX7_best_29 : decode cX7_best 29 = .ok (.aload_n 0, 1) := by decide +kernel
theorem dX7_best_30 : decode cX7_best 30 = .ok (.iload 4, 2) := by decide +kernel
theorem dX7_best_32 : decode cX7_best 32 = .ok (.iconst 0, 1) := by decide +kernel
theorem dX7_best_33 : decode cX7_best 33 = .ok (.invokevirtual 148, 3) := by decide +kernel
theorem dX7_best_36 : decode cX7_best 36 = .ok (.istore 5, 2) := by decide +kernel
theorem dX7_best_38 : decode cX7_best 38 = .ok (.iload 5, 2) := by decide +kernel
theorem dX7_best_40 : decode cX7_best 40 = .ok (.bipush (-9), 2) := by decide +kernel
theorem dX7_best_42 : decode cX7_best 42 = .ok (.if_icmp .ne 8, 3) := by decide +kernel
theorem dX7_best_45 : decode cX7_best 45 = .ok (.bipush (-9), 2) := by decide +kernel
theorem dX7_best_47 : decode cX7_best 47 = .ok (.goto 10, 3) := by decide +kernel
theorem dX7_best_50 : decode cX7_best 50 = .ok (.aload_n 0, 1) := by decide +kernel
theorem dX7_best_51 : decode cX7_best 51 = .ok (.getfield 38, 3) := by decide +kernel
theorem dX7_best_54 : decode cX7_best 54 = .ok (.iload 5, 2) := by decide +kernel
theorem dX7_best_56 : decode cX7_best 56 = .ok (.iaload, 1) := by decide +kernel
theorem dX7_best_57 : decode cX7_best 57 = .ok (.istore 6, 2) := by decide +kernel
theorem dX7_best_59 : decode cX7_best 59 = .ok (.iload 6, 2) := by decide +kernel
theorem dX7_best_61 : decode cX7_best 61 = .ok (.iload_n 2, 1) := by decide +kernel
theorem dX7_best_62 : decode cX7_best 62 = .ok (.if_icmp .le 13, 3) := by decide +kernel
theorem dX7_best_65 : decode cX7_best 65 = .ok (.aload_n 0, 1) := by decide +kernel
theorem dX7_best_66 : decode cX7_best 66 = .ok (.getfield 29, 3) := by decide +kernel
theorem dX7_best_69 : decode cX7_best 69 = .ok (.iload 4, 2) := by decide +kernel
theorem dX7_best_71 : decode cX7_best 71 = .ok (.iaload, 1) := by decide +kernel
theorem dX7_best_72 : decode cX7_best 72 = .ok (.goto 4, 3) := by decide +kernel
theorem dX7_best_75 : decode cX7_best 75 = .ok (.iload_n 3, 1) := by decide +kernel
theorem dX7_best_76 : decode cX7_best 76 = .ok (.istore_n 3, 1) := by decide +kernel
theorem dX7_best_77 : decode cX7_best 77 = .ok (.iload 6, 2) := by decide +kernel
theorem dX7_best_79 : decode cX7_best 79 = .ok (.iload_n 2, 1) := by decide +kernel
theorem dX7_best_80 : decode cX7_best 80 = .ok (.if_icmp .le 8, 3) := by decide +kernel
theorem dX7_best_83 : decode cX7_best 83 = .ok (.iload 6, 2) := by decide +kernel
theorem dX7_best_85 : decode cX7_best 85 = .ok (.goto 4, 3) := by decide +kernel
theorem dX7_best_88 : decode cX7_best 88 = .ok (.iload_n 2, 1) := by decide +kernel
theorem dX7_best_89 : decode cX7_best 89 = .ok (.istore_n 2, 1) := by decide +kernel
theorem dX7_best_90 : decode cX7_best 90 = .ok (.iinc 4 1, 3) := by decide +kernel
theorem dX7_best_93 : decode cX7_best 93 = .ok (.goto (-73), 3) := by decide +kernel
theorem dX7_best_96 : decode cX7_best 96 = .ok (.iload_n 1, 1) := by decide +kernel
theorem dX7_best_97 : decode cX7_best 97 = .ok (.ifCond .ne 7, 3) := by decide +kernel
theorem dX7_best_100 : decode cX7_best 100 = .ok (.iload_n 3, 1) := by decide +kernel
theorem dX7_best_101 : decode cX7_best 101 = .ok (.goto 4, 3) := by decide +kernel
theorem dX7_best_104 : decode cX7_best 104 = .ok (.iload_n 2, 1) := by decide +kernel
theorem dX7_best_105 : decode cX7_best 105 = .ok (.ireturn, 1) := by decide +kernel
theorem dX7_bar_0 : decode cX7_bar 0 = .ok (.aload_n 0, 1) := by decide +kernel
theorem dX7_bar_1 : decode cX7_bar 1 = .ok (.iload_n 1, 1) := by decide +kernel
theorem dX7_bar_2 : decode cX7_bar 2 = .ok (.invokevirtual 136, 3) := by decide +kernel
theorem dX7_bar_5 : decode cX7_bar 5 = .ok (.istore_n 3, 1) := by decide +kernel
theorem dX7_bar_6 : decode cX7_bar 6 = .ok (.iload_n 3, 1) := by decide +kernel
theorem dX7_bar_7 : decode cX7_bar 7 = .ok (.bipush (-9), 2) := by decide +kernel
theorem dX7_bar_9 : decode cX7_bar 9 = .ok (.if_icmp .eq 12, 3) := by decide +kernel
theorem dX7_bar_12 : decode cX7_bar 12 = .ok (.iload_n 2, 1) := by decide +kernel
theorem dX7_bar_13 : decode cX7_bar 13 = .ok (.iconst 0, 1) := by decide +kernel
theorem dX7_bar_14 : decode cX7_bar 14 = .ok (.iconst 2, 1) := by decide +kernel
theorem dX7_bar_15 : decode cX7_bar 15 = .ok (.invokestatic 47, 3) := by decide +kernel
theorem dX7_bar_18 : decode cX7_bar 18 = .ok (.ifCond .ne 5, 3) := by decide +kernel
theorem dX7_bar_21 : decode cX7_bar 21 = .ok (.iconst (-1), 1) := by decide +kernel
theorem dX7_bar_22 : decode cX7_bar 22 = .ok (.ireturn, 1) := by decide +kernel
theorem dX7_bar_23 : decode cX7_bar 23 = .ok (.sipush 255, 3) := by decide +kernel
theorem dX7_bar_26 : decode cX7_bar 26 = .ok (.istore 4, 2) := by decide +kernel
theorem dX7_bar_28 : decode cX7_bar 28 = .ok (.iconst 0, 1) := by decide +kernel
theorem dX7_bar_29 : decode cX7_bar 29 = .ok (.istore 5, 2) := by decide +kernel
theorem dX7_bar_31 : decode cX7_bar 31 = .ok (.iconst 0, 1) := by decide +kernel
theorem dX7_bar_32 : decode cX7_bar 32 = .ok (.istore 6, 2) := by decide +kernel
theorem dX7_bar_34 : decode cX7_bar 34 = .ok (.iload 6, 2) := by decide +kernel
theorem dX7_bar_36 : decode cX7_bar 36 = .ok (.aload_n 0, 1) := by decide +kernel
theorem dX7_bar_37 : decode cX7_bar 37 = .ok (.getfield 123, 3) := by decide +kernel
theorem dX7_bar_40 : decode cX7_bar 40 = .ok (.if_icmp .ge 87, 3) := by decide +kernel
theorem dX7_bar_43 : decode cX7_bar 43 = .ok (.aload_n 0, 1) := by decide +kernel
theorem dX7_bar_44 : decode cX7_bar 44 = .ok (.iload_n 3, 1) := by decide +kernel
theorem dX7_bar_45 : decode cX7_bar 45 = .ok (.iload 6, 2) := by decide +kernel
theorem dX7_bar_47 : decode cX7_bar 47 = .ok (.iload_n 2, 1) := by decide +kernel
theorem dX7_bar_48 : decode cX7_bar 48 = .ok (.invokevirtual 145, 3) := by decide +kernel
theorem dX7_bar_51 : decode cX7_bar 51 = .ok (.istore 7, 2) := by decide +kernel
theorem dX7_bar_53 : decode cX7_bar 53 = .ok (.iload 5, 2) := by decide +kernel
theorem dX7_bar_55 : decode cX7_bar 55 = .ok (.iload 7, 2) := by decide +kernel
theorem dX7_bar_57 : decode cX7_bar 57 = .ok (.ifCond .eq 7, 3) := by decide +kernel
theorem dX7_bar_60 : decode cX7_bar 60 = .ok (.iconst 1, 1) := by decide +kernel
theorem dX7_bar_61 : decode cX7_bar 61 = .ok (.goto 4, 3) := by decide +kernel
theorem dX7_bar_64 : decode cX7_bar 64 = .ok (.iconst 0, 1) := by decide +kernel
theorem dX7_bar_65 : decode cX7_bar 65 = .ok (.iadd, 1) := by decide +kernel
theorem dX7_bar_66 : decode cX7_bar 66 = .ok (.istore 5, 2) := by decide +kernel
theorem dX7_bar_68 : decode cX7_bar 68 = .ok (.iconst 0, 1) := by decide +kernel
theorem dX7_bar_69 : decode cX7_bar 69 = .ok (.istore 8, 2) := by decide +kernel
theorem dX7_bar_71 : decode cX7_bar 71 = .ok (.iload 8, 2) := by decide +kernel
theorem dX7_bar_73 : decode cX7_bar 73 = .ok (.bipush 8, 2) := by decide +kernel
theorem dX7_bar_75 : decode cX7_bar 75 = .ok (.if_icmp .ge 46, 3) := by decide +kernel
theorem dX7_bar_78 : decode cX7_bar 78 = .ok (.iload 7, 2) := by decide +kernel
theorem dX7_bar_80 : decode cX7_bar 80 = .ok (.ifCond .eq 41, 3) := by decide +kernel
theorem dX7_bar_83 : decode cX7_bar 83 = .ok (.iload 4, 2) := by decide +kernel
theorem dX7_bar_85 : decode cX7_bar 85 = .ok (.aload_n 0, 1) := by decide +kernel
theorem dX7_bar_86 : decode cX7_bar 86 = .ok (.getfield 32, 3) := by decide +kernel
theorem dX7_bar_89 : decode cX7_bar 89 = .ok (.iload 6, 2) := by decide +kernel
theorem dX7_bar_91 : decode cX7_bar 91 = .ok (.iaload, 1) := by decide +kernel
theorem dX7_bar_92 : decode cX7_bar 92 = .ok (.iload 8, 2) := by decide +kernel
theorem dX7_bar_94 : decode cX7_bar 94 = .ok (.invokestatic 139, 3) := by decide +kernel
theorem dX7_bar_97 : decode cX7_bar 97 = .ok (.ifCond .le 9, 3) := by decide +kernel
theorem dX7_bar_100 : decode cX7_bar 100 = .ok (.sipush 255, 3) := by decide +kernel
theorem dX7_bar_103 : decode cX7_bar 103 = .ok (.goto 9, 3) := by decide +kernel
theorem dX7_bar_106 : decode cX7_bar 106 = .ok (.iconst 1, 1) := by decide +kernel
theorem dX7_bar_107 : decode cX7_bar 107 = .ok (.iload 8, 2) := by decide +kernel
theorem dX7_bar_109 : decode cX7_bar 109 = .ok (.ishl, 1) := by decide +kernel
theorem dX7_bar_110 : decode cX7_bar 110 = .ok (.iconst (-1), 1) := by decide +kernel
theorem dX7_bar_111 : decode cX7_bar 111 = .ok (.ixor, 1) := by decide +kernel
theorem dX7_bar_112 : decode cX7_bar 112 = .ok (.iand, 1) := by decide +kernel
theorem dX7_bar_113 : decode cX7_bar 113 = .ok (.istore 4, 2) := by decide +kernel
theorem dX7_bar_115 : decode cX7_bar 115 = .ok (.iinc 8 1, 3) := by decide +kernel
theorem dX7_bar_118 : decode cX7_bar 118 = .ok (.goto (-47), 3) := by decide +kernel
theorem dX7_bar_121 : decode cX7_bar 121 = .ok (.iinc 6 1, 3) := by decide +kernel
theorem dX7_bar_124 : decode cX7_bar 124 = .ok (.goto (-90), 3) := by decide +kernel
theorem dX7_bar_127 : decode cX7_bar 127 = .ok (.bipush (-9), 2) := by decide +kernel
theorem dX7_bar_129 : decode cX7_bar 129 = .ok (.istore 6, 2) := by decide +kernel
theorem dX7_bar_131 : decode cX7_bar 131 = .ok (.bipush 7, 2) := by decide +kernel
theorem dX7_bar_133 : decode cX7_bar 133 = .ok (.istore 7, 2) := by decide +kernel
theorem dX7_bar_135 : decode cX7_bar 135 = .ok (.iload 7, 2) := by decide +kernel
theorem dX7_bar_137 : decode cX7_bar 137 = .ok (.ifCond .lt 29, 3) := by decide +kernel
theorem dX7_bar_140 : decode cX7_bar 140 = .ok (.iload 4, 2) := by decide +kernel
theorem dX7_bar_142 : decode cX7_bar 142 = .ok (.iload 7, 2) := by decide +kernel
theorem dX7_bar_144 : decode cX7_bar 144 = .ok (.ishr, 1) := by decide +kernel
theorem dX7_bar_145 : decode cX7_bar 145 = .ok (.iconst 1, 1) := by decide +kernel
theorem dX7_bar_146 : decode cX7_bar 146 = .ok (.iand, 1) := by decide +kernel
theorem dX7_bar_147 : decode cX7_bar 147 = .ok (.iconst 1, 1) := by decide +kernel
theorem dX7_bar_148 : decode cX7_bar 148 = .ok (.if_icmp .ne 8, 3) := by decide +kernel
theorem dX7_bar_151 : decode cX7_bar 151 = .ok (.iload 7, 2) := by decide +kernel
theorem dX7_bar_153 : decode cX7_bar 153 = .ok (.goto 5, 3) := by decide +kernel
theorem dX7_bar_156 : decode cX7_bar 156 = .ok (.iload 6, 2) := by decide +kernel
theorem dX7_bar_158 : decode cX7_bar 158 = .ok (.istore 6, 2) := by decide +kernel
theorem dX7_bar_160 : decode cX7_bar 160 = .ok (.iinc 7 (-1), 3) := by decide +kernel
theorem dX7_bar_163 : decode cX7_bar 163 = .ok (.goto (-28), 3) := by decide +kernel
theorem dX7_bar_166 : decode cX7_bar 166 = .ok (.iload 5, 2) := by decide +kernel
theorem dX7_bar_168 : decode cX7_bar 168 = .ok (.ifCond .ne 8, 3) := by decide +kernel
theorem dX7_bar_171 : decode cX7_bar 171 = .ok (.bipush (-5), 2) := by decide +kernel
theorem dX7_bar_173 : decode cX7_bar 173 = .ok (.goto 5, 3) := by decide +kernel
theorem dX7_bar_176 : decode cX7_bar 176 = .ok (.iload 6, 2) := by decide +kernel
theorem dX7_bar_178 : decode cX7_bar 178 = .ok (.ireturn, 1) := by decide +kernel
theorem dX7_lays_0 : decode cX7_lays 0 = .ok (.aload_n 0, 1) := by decide +kernel
theorem dX7_lays_1 : decode cX7_lays 1 = .ok (.getfield 41, 3) := by decide +kernel
theorem dX7_lays_4 : decode cX7_lays 4 = .ok (.iconst 0, 1) := by decide +kernel
theorem dX7_lays_5 : decode cX7_lays 5 = .ok (.iload_n 1, 1) := by decide +kernel
theorem dX7_lays_6 : decode cX7_lays 6 = .ok (.iastore, 1) := by decide +kernel
theorem dX7_lays_7 : decode cX7_lays 7 = .ok (.iconst 1, 1) := by decide +kernel
theorem dX7_lays_8 : decode cX7_lays 8 = .ok (.istore_n 2, 1) := by decide +kernel
theorem dX7_lays_9 : decode cX7_lays 9 = .ok (.iload_n 2, 1) := by decide +kernel
theorem dX7_lays_10 : decode cX7_lays 10 = .ok (.bipush 100, 2) := by decide +kernel
theorem dX7_lays_12 : decode cX7_lays 12 = .ok (.if_icmp .ge 46, 3) := by decide +kernel
theorem dX7_lays_15 : decode cX7_lays 15 = .ok (.aload_n 0, 1) := by decide +kernel
theorem dX7_lays_16 : decode cX7_lays 16 = .ok (.aload_n 0, 1) := by decide +kernel
theorem dX7_lays_17 : decode cX7_lays 17 = .ok (.getfield 41, 3) := by decide +kernel
theorem dX7_lays_20 : decode cX7_lays 20 = .ok (.iload_n 2, 1) := by decide +kernel
theorem dX7_lays_21 : decode cX7_lays 21 = .ok (.iconst 1, 1) := by decide +kernel
theorem dX7_lays_22 : decode cX7_lays 22 = .ok (.isub, 1) := by decide +kernel
theorem dX7_lays_23 : decode cX7_lays 23 = .ok (.iaload, 1) := by decide +kernel
theorem dX7_lays_24 : decode cX7_lays 24 = .ok (.iconst 0, 1) := by decide +kernel
theorem dX7_lays_25 : decode cX7_lays 25 = .ok (.invokevirtual 148, 3) := by decide +kernel
theorem dX7_lays_28 : decode cX7_lays 28 = .ok (.bipush (-9), 2) := by decide +kernel
theorem dX7_lays_30 : decode cX7_lays 30 = .ok (.if_icmp .eq 28, 3) := by decide +kernel
theorem dX7_lays_33 : decode cX7_lays 33 = .ok (.aload_n 0, 1) := by decide +kernel
theorem dX7_lays_34 : decode cX7_lays 34 = .ok (.getfield 41, 3) := by decide +kernel
theorem dX7_lays_37 : decode cX7_lays 37 = .ok (.iload_n 2, 1) := by decide +kernel
theorem dX7_lays_38 : decode cX7_lays 38 = .ok (.aload_n 0, 1) := by decide +kernel
theorem dX7_lays_39 : decode cX7_lays 39 = .ok (.aload_n 0, 1) := by decide +kernel
theorem dX7_lays_40 : decode cX7_lays 40 = .ok (.getfield 41, 3) := by decide +kernel
theorem dX7_lays_43 : decode cX7_lays 43 = .ok (.iload_n 2, 1) := by decide +kernel
theorem dX7_lays_44 : decode cX7_lays 44 = .ok (.iconst 1, 1) := by decide +kernel
theorem dX7_lays_45 : decode cX7_lays 45 = .ok (.isub, 1) := by decide +kernel
theorem dX7_lays_46 : decode cX7_lays 46 = .ok (.iaload, 1) := by decide +kernel
theorem dX7_lays_47 : decode cX7_lays 47 = .ok (.iconst 0, 1) := by decide +kernel
theorem dX7_lays_48 : decode cX7_lays 48 = .ok (.invokevirtual 148, 3) := by decide +kernel
theorem dX7_lays_51 : decode cX7_lays 51 = .ok (.iastore, 1) := by decide +kernel
theorem dX7_lays_52 : decode cX7_lays 52 = .ok (.iinc 2 1, 3) := by decide +kernel
theorem dX7_lays_55 : decode cX7_lays 55 = .ok (.goto (-46), 3) := by decide +kernel
theorem dX7_lays_58 : decode cX7_lays 58 = .ok (.iload_n 2, 1) := by decide +kernel
theorem dX7_lays_59 : decode cX7_lays 59 = .ok (.ireturn, 1) := by decide +kernel
theorem dX7_chain_0 : decode cX7_chain 0 = .ok (.aload_n 0, 1) := by decide +kernel
theorem dX7_chain_1 : decode cX7_chain 1 = .ok (.iload_n 1, 1) := by decide +kernel
theorem dX7_chain_2 : decode cX7_chain 2 = .ok (.invokevirtual 136, 3) := by decide +kernel
theorem dX7_chain_5 : decode cX7_chain 5 = .ok (.istore_n 3, 1) := by decide +kernel
theorem dX7_chain_6 : decode cX7_chain 6 = .ok (.iload_n 3, 1) := by decide +kernel
theorem dX7_chain_7 : decode cX7_chain 7 = .ok (.bipush (-9), 2) := by decide +kernel
theorem dX7_chain_9 : decode cX7_chain 9 = .ok (.if_icmp .eq 13, 3) := by decide +kernel
theorem dX7_chain_12 : decode cX7_chain 12 = .ok (.iload_n 2, 1) := by decide +kernel
theorem dX7_chain_13 : decode cX7_chain 13 = .ok (.iconst 0, 1) := by decide +kernel
theorem dX7_chain_14 : decode cX7_chain 14 = .ok (.bipush 99, 2) := by decide +kernel
theorem dX7_chain_16 : decode cX7_chain 16 = .ok (.invokestatic 47, 3) := by decide +kernel
theorem dX7_chain_19 : decode cX7_chain 19 = .ok (.ifCond .ne 5, 3) := by decide +kernel
theorem dX7_chain_22 : decode cX7_chain 22 = .ok (.iconst (-1), 1) := by decide +kernel
theorem dX7_chain_23 : decode cX7_chain 23 = .ok (.ireturn, 1) := by decide +kernel
theorem dX7_chain_24 : decode cX7_chain 24 = .ok (.iload_n 2, 1) := by decide +kernel
theorem dX7_chain_25 : decode cX7_chain 25 = .ok (.aload_n 0, 1) := by decide +kernel
theorem dX7_chain_26 : decode cX7_chain 26 = .ok (.iload_n 3, 1) := by decide +kernel
theorem dX7_chain_27 : decode cX7_chain 27 = .ok (.invokevirtual 151, 3) := by decide +kernel
theorem dX7_chain_30 : decode cX7_chain 30 = .ok (.if_icmp .ge 17, 3) := by decide +kernel
theorem dX7_chain_33 : decode cX7_chain 33 = .ok (.aload_n 0, 1) := by decide +kernel
theorem dX7_chain_34 : decode cX7_chain 34 = .ok (.getfield 29, 3) := by decide +kernel
theorem dX7_chain_37 : decode cX7_chain 37 = .ok (.aload_n 0, 1) := by decide +kernel
theorem dX7_chain_38 : decode cX7_chain 38 = .ok (.getfield 41, 3) := by decide +kernel
theorem dX7_chain_41 : decode cX7_chain 41 = .ok (.iload_n 2, 1) := by decide +kernel
theorem dX7_chain_42 : decode cX7_chain 42 = .ok (.iaload, 1) := by decide +kernel
theorem dX7_chain_43 : decode cX7_chain 43 = .ok (.iaload, 1) := by decide +kernel
theorem dX7_chain_44 : decode cX7_chain 44 = .ok (.goto 5, 3) := by decide +kernel
theorem dX7_chain_47 : decode cX7_chain 47 = .ok (.bipush (-9), 2) := by decide +kernel
theorem dX7_chain_49 : decode cX7_chain 49 = .ok (.ireturn, 1) := by decide +kernel
theorem dX7_ring_0 : decode cX7_ring 0 = .ok (.aload_n 0, 1) := by decide +kernel
theorem dX7_ring_1 : decode cX7_ring 1 = .ok (.iload_n 1, 1) := by decide +kernel
theorem dX7_ring_2 : decode cX7_ring 2 = .ok (.invokevirtual 136, 3) := by decide +kernel
theorem dX7_ring_5 : decode cX7_ring 5 = .ok (.istore_n 2, 1) := by decide +kernel
theorem dX7_ring_6 : decode cX7_ring 6 = .ok (.iload_n 2, 1) := by decide +kernel
theorem dX7_ring_7 : decode cX7_ring 7 = .ok (.bipush (-9), 2) := by decide +kernel
theorem dX7_ring_9 : decode cX7_ring 9 = .ok (.if_icmp .ne 5, 3) := by decide +kernel
theorem dX7_ring_12 : decode cX7_ring 12 = .ok (.iconst (-1), 1) := by decide +kernel
theorem dX7_ring_13 : decode cX7_ring 13 = .ok (.ireturn, 1) := by decide +kernel
theorem dX7_ring_14 : decode cX7_ring 14 = .ok (.aload_n 0, 1) := by decide +kernel
theorem dX7_ring_15 : decode cX7_ring 15 = .ok (.iload_n 2, 1) := by decide +kernel
theorem dX7_ring_16 : decode cX7_ring 16 = .ok (.invokevirtual 151, 3) := by decide +kernel
theorem dX7_ring_19 : decode cX7_ring 19 = .ok (.istore_n 3, 1) := by decide +kernel
theorem dX7_ring_20 : decode cX7_ring 20 = .ok (.iconst 1, 1) := by decide +kernel
theorem dX7_ring_21 : decode cX7_ring 21 = .ok (.istore 4, 2) := by decide +kernel
theorem dX7_ring_23 : decode cX7_ring 23 = .ok (.iload 4, 2) := by decide +kernel
theorem dX7_ring_25 : decode cX7_ring 25 = .ok (.iload_n 3, 1) := by decide +kernel
theorem dX7_ring_26 : decode cX7_ring 26 = .ok (.if_icmp .ge 45, 3) := by decide +kernel
theorem dX7_ring_29 : decode cX7_ring 29 = .ok (.iconst 0, 1) := by decide +kernel
theorem dX7_ring_30 : decode cX7_ring 30 = .ok (.istore 5, 2) := by decide +kernel
theorem dX7_ring_32 : decode cX7_ring 32 = .ok (.iload 5, 2) := by decide +kernel
theorem dX7_ring_34 : decode cX7_ring 34 = .ok (.iload 4, 2) := by decide +kernel
theorem dX7_ring_36 : decode cX7_ring 36 = .ok (.if_icmp .ge 29, 3) := by decide +kernel
theorem dX7_ring_39 : decode cX7_ring 39 = .ok (.aload_n 0, 1) := by decide +kernel
theorem dX7_ring_40 : decode cX7_ring 40 = .ok (.getfield 41, 3) := by decide +kernel
theorem dX7_ring_43 : decode cX7_ring 43 = .ok (.iload 5, 2) := by decide +kernel
theorem dX7_ring_45 : decode cX7_ring 45 = .ok (.iaload, 1) := by decide +kernel
theorem dX7_ring_46 : decode cX7_ring 46 = .ok (.aload_n 0, 1) := by decide +kernel
theorem dX7_ring_47 : decode cX7_ring 47 = .ok (.getfield 41, 3) := by decide +kernel
theorem dX7_ring_50 : decode cX7_ring 50 = .ok (.iload 4, 2) := by decide +kernel
theorem dX7_ring_52 : decode cX7_ring 52 = .ok (.iaload, 1) := by decide +kernel
theorem dX7_ring_53 : decode cX7_ring 53 = .ok (.if_icmp .ne 6, 3) := by decide +kernel
theorem dX7_ring_56 : decode cX7_ring 56 = .ok (.iload 4, 2) := by decide +kernel
theorem dX7_ring_58 : decode cX7_ring 58 = .ok (.ireturn, 1) := by decide +kernel
theorem dX7_ring_59 : decode cX7_ring 59 = .ok (.iinc 5 1, 3) := by decide +kernel
theorem dX7_ring_62 : decode cX7_ring 62 = .ok (.goto (-30), 3) := by decide +kernel
theorem dX7_ring_65 : decode cX7_ring 65 = .ok (.iinc 4 1, 3) := by decide +kernel
theorem dX7_ring_68 : decode cX7_ring 68 = .ok (.goto (-45), 3) := by decide +kernel
theorem dX7_ring_71 : decode cX7_ring 71 = .ok (.bipush (-9), 2) := by decide +kernel
theorem dX7_ring_73 : decode cX7_ring 73 = .ok (.ireturn, 1) := by decide +kernel
theorem dX7_ones_0 : decode cX7_ones 0 = .ok (.iconst 0, 1) := by decide +kernel
theorem dX7_ones_1 : decode cX7_ones 1 = .ok (.istore_n 1, 1) := by decide +kernel
theorem dX7_ones_2 : decode cX7_ones 2 = .ok (.iconst 0, 1) := by decide +kernel
theorem dX7_ones_3 : decode cX7_ones 3 = .ok (.istore_n 2, 1) := by decide +kernel
theorem dX7_ones_4 : decode cX7_ones 4 = .ok (.iload_n 2, 1) := by decide +kernel
theorem dX7_ones_5 : decode cX7_ones 5 = .ok (.bipush 8, 2) := by decide +kernel
theorem dX7_ones_7 : decode cX7_ones 7 = .ok (.if_icmp .ge 17, 3) := by decide +kernel
theorem dX7_ones_10 : decode cX7_ones 10 = .ok (.iload_n 1, 1) := by decide +kernel
theorem dX7_ones_11 : decode cX7_ones 11 = .ok (.iload_n 0, 1) := by decide +kernel
theorem dX7_ones_12 : decode cX7_ones 12 = .ok (.iload_n 2, 1) := by decide +kernel
theorem dX7_ones_13 : decode cX7_ones 13 = .ok (.ishr, 1) := by decide +kernel
theorem dX7_ones_14 : decode cX7_ones 14 = .ok (.iconst 1, 1) := by decide +kernel
theorem dX7_ones_15 : decode cX7_ones 15 = .ok (.iand, 1) := by decide +kernel
theorem dX7_ones_16 : decode cX7_ones 16 = .ok (.iadd, 1) := by decide +kernel
theorem dX7_ones_17 : decode cX7_ones 17 = .ok (.istore_n 1, 1) := by decide +kernel
theorem dX7_ones_18 : decode cX7_ones 18 = .ok (.iinc 2 1, 3) := by decide +kernel
theorem dX7_ones_21 : decode cX7_ones 21 = .ok (.goto (-17), 3) := by decide +kernel
theorem dX7_ones_24 : decode cX7_ones 24 = .ok (.iload_n 1, 1) := by decide +kernel
theorem dX7_ones_25 : decode cX7_ones 25 = .ok (.ireturn, 1) := by decide +kernel
theorem dX7_alphabet_0 : decode cX7_alphabet 0 = .ok (.iload_n 1, 1) := by decide +kernel
theorem dX7_alphabet_1 : decode cX7_alphabet 1 = .ok (.iconst 1, 1) := by decide +kernel
theorem dX7_alphabet_2 : decode cX7_alphabet 2 = .ok (.bipush 8, 2) := by decide +kernel
theorem dX7_alphabet_4 : decode cX7_alphabet 4 = .ok (.invokestatic 47, 3) := by decide +kernel
theorem dX7_alphabet_7 : decode cX7_alphabet 7 = .ok (.ifCond .eq 12, 3) := by decide +kernel
theorem dX7_alphabet_10 : decode cX7_alphabet 10 = .ok (.iload_n 2, 1) := by decide +kernel
theorem dX7_alphabet_11 : decode cX7_alphabet 11 = .ok (.iconst 0, 1) := by decide +kernel
theorem dX7_alphabet_12 : decode cX7_alphabet 12 = .ok (.iconst 1, 1) := by decide +kernel
theorem dX7_alphabet_13 : decode cX7_alphabet 13 = .ok (.invokestatic 47, 3) := by decide +kernel
theorem dX7_alphabet_16 : decode cX7_alphabet 16 = .ok (.ifCond .ne 5, 3) := by decide +kernel
theorem dX7_alphabet_19 : decode cX7_alphabet 19 = .ok (.iconst (-1), 1) := by decide +kernel
theorem dX7_alphabet_20 : decode cX7_alphabet 20 = .ok (.ireturn, 1) := by decide +kernel
theorem dX7_alphabet_21 : decode cX7_alphabet 21 = .ok (.bipush (-9), 2) := by decide +kernel
theorem dX7_alphabet_23 : decode cX7_alphabet 23 = .ok (.istore_n 3, 1) := by decide +kernel
theorem dX7_alphabet_24 : decode cX7_alphabet 24 = .ok (.iconst 0, 1) := by decide +kernel
theorem dX7_alphabet_25 : decode cX7_alphabet 25 = .ok (.istore 4, 2) := by decide +kernel
theorem dX7_alphabet_27 : decode cX7_alphabet 27 = .ok (.iconst 0, 1) := by decide +kernel
theorem dX7_alphabet_28 : decode cX7_alphabet 28 = .ok (.istore 5, 2) := by decide +kernel
theorem dX7_alphabet_30 : decode cX7_alphabet 30 = .ok (.iload 5, 2) := by decide +kernel
theorem dX7_alphabet_32 : decode cX7_alphabet 32 = .ok (.sipush 256, 3) := by decide +kernel
theorem dX7_alphabet_35 : decode cX7_alphabet 35 = .ok (.if_icmp .ge 59, 3) := by decide +kernel
theorem dX7_alphabet_38 : decode cX7_alphabet 38 = .ok (.iload 5, 2) := by decide +kernel
theorem dX7_alphabet_40 : decode cX7_alphabet 40 = .ok (.invokestatic 154, 3) := by decide +kernel
theorem dX7_alphabet_43 : decode cX7_alphabet 43 = .ok (.iload_n 1, 1) := by decide +kernel
theorem dX7_alphabet_44 : decode cX7_alphabet 44 = .ok (.if_icmp .ne 12, 3) := by decide +kernel
theorem dX7_alphabet_47 : decode cX7_alphabet 47 = .ok (.aload_n 0, 1) := by decide +kernel
theorem dX7_alphabet_48 : decode cX7_alphabet 48 = .ok (.iload 5, 2) := by decide +kernel
theorem dX7_alphabet_50 : decode cX7_alphabet 50 = .ok (.invokevirtual 157, 3) := by decide +kernel
theorem dX7_alphabet_53 : decode cX7_alphabet 53 = .ok (.goto 5, 3) := by decide +kernel
theorem dX7_alphabet_56 : decode cX7_alphabet 56 = .ok (.bipush (-9), 2) := by decide +kernel
theorem dX7_alphabet_58 : decode cX7_alphabet 58 = .ok (.istore 6, 2) := by decide +kernel
theorem dX7_alphabet_60 : decode cX7_alphabet 60 = .ok (.iload 6, 2) := by decide +kernel
theorem dX7_alphabet_62 : decode cX7_alphabet 62 = .ok (.iload_n 3, 1) := by decide +kernel
theorem dX7_alphabet_63 : decode cX7_alphabet 63 = .ok (.if_icmp .le 8, 3) := by decide +kernel
theorem dX7_alphabet_66 : decode cX7_alphabet 66 = .ok (.iload 5, 2) := by decide +kernel
theorem dX7_alphabet_68 : decode cX7_alphabet 68 = .ok (.goto 5, 3) := by decide +kernel
theorem dX7_alphabet_71 : decode cX7_alphabet 71 = .ok (.iload 4, 2) := by decide +kernel
theorem dX7_alphabet_73 : decode cX7_alphabet 73 = .ok (.istore 4, 2) := by decide +kernel
theorem dX7_alphabet_75 : decode cX7_alphabet 75 = .ok (.iload 6, 2) := by decide +kernel
theorem dX7_alphabet_77 : decode cX7_alphabet 77 = .ok (.iload_n 3, 1) := by decide +kernel
theorem dX7_alphabet_78 : decode cX7_alphabet 78 = .ok (.if_icmp .le 8, 3) := by decide +kernel
theorem dX7_alphabet_81 : decode cX7_alphabet 81 = .ok (.iload 6, 2) := by decide +kernel
theorem dX7_alphabet_83 : decode cX7_alphabet 83 = .ok (.goto 4, 3) := by decide +kernel
theorem dX7_alphabet_86 : decode cX7_alphabet 86 = .ok (.iload_n 3, 1) := by decide +kernel
theorem dX7_alphabet_87 : decode cX7_alphabet 87 = .ok (.istore_n 3, 1) := by decide +kernel
theorem dX7_alphabet_88 : decode cX7_alphabet 88 = .ok (.iinc 5 1, 3) := by decide +kernel
theorem dX7_alphabet_91 : decode cX7_alphabet 91 = .ok (.goto (-61), 3) := by decide +kernel
theorem dX7_alphabet_94 : decode cX7_alphabet 94 = .ok (.iload_n 2, 1) := by decide +kernel
theorem dX7_alphabet_95 : decode cX7_alphabet 95 = .ok (.ifCond .ne 8, 3) := by decide +kernel
theorem dX7_alphabet_98 : decode cX7_alphabet 98 = .ok (.iload 4, 2) := by decide +kernel
theorem dX7_alphabet_100 : decode cX7_alphabet 100 = .ok (.goto 4, 3) := by decide +kernel
theorem dX7_alphabet_103 : decode cX7_alphabet 103 = .ok (.iload_n 3, 1) := by decide +kernel
theorem dX7_alphabet_104 : decode cX7_alphabet 104 = .ok (.ireturn, 1) := by decide +kernel
theorem dX7_writtenIn_0 : decode cX7_writtenIn 0 = .ok (.iconst 0, 1) := by decide +kernel
theorem dX7_writtenIn_1 : decode cX7_writtenIn 1 = .ok (.istore_n 2, 1) := by decide +kernel
theorem dX7_writtenIn_2 : decode cX7_writtenIn 2 = .ok (.iconst 0, 1) := by decide +kernel
theorem dX7_writtenIn_3 : decode cX7_writtenIn 3 = .ok (.istore_n 3, 1) := by decide +kernel
theorem dX7_writtenIn_4 : decode cX7_writtenIn 4 = .ok (.iload_n 3, 1) := by decide +kernel
theorem dX7_writtenIn_5 : decode cX7_writtenIn 5 = .ok (.bipush 8, 2) := by decide +kernel
theorem dX7_writtenIn_7 : decode cX7_writtenIn 7 = .ok (.if_icmp .ge 31, 3) := by decide +kernel
theorem dX7_writtenIn_10 : decode cX7_writtenIn 10 = .ok (.iload_n 2, 1) := by decide +kernel
theorem dX7_writtenIn_11 : decode cX7_writtenIn 11 = .ok (.iload_n 1, 1) := by decide +kernel
theorem dX7_writtenIn_12 : decode cX7_writtenIn 12 = .ok (.iload_n 3, 1) := by decide +kernel
theorem dX7_writtenIn_13 : decode cX7_writtenIn 13 = .ok (.ishr, 1) := by decide +kernel
theorem dX7_writtenIn_14 : decode cX7_writtenIn 14 = .ok (.iconst 1, 1) := by decide +kernel
theorem dX7_writtenIn_15 : decode cX7_writtenIn 15 = .ok (.iand, 1) := by decide +kernel
theorem dX7_writtenIn_16 : decode cX7_writtenIn 16 = .ok (.iconst 1, 1) := by decide +kernel
theorem dX7_writtenIn_17 : decode cX7_writtenIn 17 = .ok (.if_icmp .ne 12, 3) := by decide +kernel
theorem dX7_writtenIn_20 : decode cX7_writtenIn 20 = .ok (.bipush 15, 2) := by decide +kernel
theorem dX7_writtenIn_22 : decode cX7_writtenIn 22 = .ok (.iconst 4, 1) := by decide +kernel
theorem dX7_writtenIn_23 : decode cX7_writtenIn 23 = .ok (.iload_n 3, 1) := by decide +kernel
theorem dX7_writtenIn_24 : decode cX7_writtenIn 24 = .ok (.imul, 1) := by decide +kernel
theorem dX7_writtenIn_25 : decode cX7_writtenIn 25 = .ok (.ishl, 1) := by decide +kernel
theorem dX7_writtenIn_26 : decode cX7_writtenIn 26 = .ok (.goto 4, 3) := by decide +kernel
theorem dX7_writtenIn_29 : decode cX7_writtenIn 29 = .ok (.iconst 0, 1) := by decide +kernel
theorem dX7_writtenIn_30 : decode cX7_writtenIn 30 = .ok (.ior, 1) := by decide +kernel
theorem dX7_writtenIn_31 : decode cX7_writtenIn 31 = .ok (.istore_n 2, 1) := by decide +kernel
theorem dX7_writtenIn_32 : decode cX7_writtenIn 32 = .ok (.iinc 3 1, 3) := by decide +kernel
theorem dX7_writtenIn_35 : decode cX7_writtenIn 35 = .ok (.goto (-31), 3) := by decide +kernel
theorem dX7_writtenIn_38 : decode cX7_writtenIn 38 = .ok (.iconst 0, 1) := by decide +kernel
theorem dX7_writtenIn_39 : decode cX7_writtenIn 39 = .ok (.istore_n 3, 1) := by decide +kernel
theorem dX7_writtenIn_40 : decode cX7_writtenIn 40 = .ok (.iconst 0, 1) := by decide +kernel
theorem dX7_writtenIn_41 : decode cX7_writtenIn 41 = .ok (.istore 4, 2) := by decide +kernel
theorem dX7_writtenIn_43 : decode cX7_writtenIn 43 = .ok (.iload 4, 2) := by decide +kernel
theorem dX7_writtenIn_45 : decode cX7_writtenIn 45 = .ok (.aload_n 0, 1) := by decide +kernel
theorem dX7_writtenIn_46 : decode cX7_writtenIn 46 = .ok (.getfield 123, 3) := by decide +kernel
theorem dX7_writtenIn_49 : decode cX7_writtenIn 49 = .ok (.if_icmp .ge 31, 3) := by decide +kernel
theorem dX7_writtenIn_52 : decode cX7_writtenIn 52 = .ok (.iload_n 3, 1) := by decide +kernel
theorem dX7_writtenIn_53 : decode cX7_writtenIn 53 = .ok (.aload_n 0, 1) := by decide +kernel
theorem dX7_writtenIn_54 : decode cX7_writtenIn 54 = .ok (.getfield 32, 3) := by decide +kernel
theorem dX7_writtenIn_57 : decode cX7_writtenIn 57 = .ok (.iload 4, 2) := by decide +kernel
theorem dX7_writtenIn_59 : decode cX7_writtenIn 59 = .ok (.iaload, 1) := by decide +kernel
theorem dX7_writtenIn_60 : decode cX7_writtenIn 60 = .ok (.iload_n 2, 1) := by decide +kernel
theorem dX7_writtenIn_61 : decode cX7_writtenIn 61 = .ok (.iconst (-1), 1) := by decide +kernel
theorem dX7_writtenIn_62 : decode cX7_writtenIn 62 = .ok (.ixor, 1) := by decide +kernel
theorem dX7_writtenIn_63 : decode cX7_writtenIn 63 = .ok (.iand, 1) := by decide +kernel
theorem dX7_writtenIn_64 : decode cX7_writtenIn 64 = .ok (.ifCond .ne 7, 3) := by decide +kernel
theorem dX7_writtenIn_67 : decode cX7_writtenIn 67 = .ok (.iconst 1, 1) := by decide +kernel
theorem dX7_writtenIn_68 : decode cX7_writtenIn 68 = .ok (.goto 4, 3) := by decide +kernel
theorem dX7_writtenIn_71 : decode cX7_writtenIn 71 = .ok (.iconst 0, 1) := by decide +kernel
theorem dX7_writtenIn_72 : decode cX7_writtenIn 72 = .ok (.iadd, 1) := by decide +kernel
theorem dX7_writtenIn_73 : decode cX7_writtenIn 73 = .ok (.istore_n 3, 1) := by decide +kernel
theorem dX7_writtenIn_74 : decode cX7_writtenIn 74 = .ok (.iinc 4 1, 3) := by decide +kernel
theorem dX7_writtenIn_77 : decode cX7_writtenIn 77 = .ok (.goto (-34), 3) := by decide +kernel
theorem dX7_writtenIn_80 : decode cX7_writtenIn 80 = .ok (.iload_n 3, 1) := by decide +kernel
theorem dX7_writtenIn_81 : decode cX7_writtenIn 81 = .ok (.ireturn, 1) := by decide +kernel
theorem dX7_asked_0 : decode cX7_asked 0 = .ok (.aload_n 0, 1) := by decide +kernel
theorem dX7_asked_1 : decode cX7_asked 1 = .ok (.iload_n 1, 1) := by decide +kernel
theorem dX7_asked_2 : decode cX7_asked 2 = .ok (.invokevirtual 136, 3) := by decide +kernel
theorem dX7_asked_5 : decode cX7_asked 5 = .ok (.istore_n 3, 1) := by decide +kernel
theorem dX7_asked_6 : decode cX7_asked 6 = .ok (.iload_n 3, 1) := by decide +kernel
theorem dX7_asked_7 : decode cX7_asked 7 = .ok (.bipush (-9), 2) := by decide +kernel
theorem dX7_asked_9 : decode cX7_asked 9 = .ok (.if_icmp .eq 11, 3) := by decide +kernel
theorem dX7_asked_12 : decode cX7_asked 12 = .ok (.aload_n 0, 1) := by decide +kernel
theorem dX7_asked_13 : decode cX7_asked 13 = .ok (.iload_n 2, 1) := by decide +kernel
theorem dX7_asked_14 : decode cX7_asked 14 = .ok (.invokevirtual 133, 3) := by decide +kernel
theorem dX7_asked_17 : decode cX7_asked 17 = .ok (.ifCond .ne 5, 3) := by decide +kernel
theorem dX7_asked_20 : decode cX7_asked 20 = .ok (.iconst (-1), 1) := by decide +kernel
theorem dX7_asked_21 : decode cX7_asked 21 = .ok (.ireturn, 1) := by decide +kernel
theorem dX7_asked_22 : decode cX7_asked 22 = .ok (.iconst 0, 1) := by decide +kernel
theorem dX7_asked_23 : decode cX7_asked 23 = .ok (.istore 4, 2) := by decide +kernel
theorem dX7_asked_25 : decode cX7_asked 25 = .ok (.iconst 0, 1) := by decide +kernel
theorem dX7_asked_26 : decode cX7_asked 26 = .ok (.istore 5, 2) := by decide +kernel
theorem dX7_asked_28 : decode cX7_asked 28 = .ok (.iload 5, 2) := by decide +kernel
theorem dX7_asked_30 : decode cX7_asked 30 = .ok (.aload_n 0, 1) := by decide +kernel
theorem dX7_asked_31 : decode cX7_asked 31 = .ok (.getfield 123, 3) := by decide +kernel
theorem dX7_asked_34 : decode cX7_asked 34 = .ok (.if_icmp .ge 45, 3) := by decide +kernel
theorem dX7_asked_37 : decode cX7_asked 37 = .ok (.iload 4, 2) := by decide +kernel
theorem dX7_asked_39 : decode cX7_asked 39 = .ok (.aload_n 0, 1) := by decide +kernel
theorem dX7_asked_40 : decode cX7_asked 40 = .ok (.iload_n 3, 1) := by decide +kernel
theorem dX7_asked_41 : decode cX7_asked 41 = .ok (.iload 5, 2) := by decide +kernel
theorem dX7_asked_43 : decode cX7_asked 43 = .ok (.iconst 0, 1) := by decide +kernel
theorem dX7_asked_44 : decode cX7_asked 44 = .ok (.invokevirtual 145, 3) := by decide +kernel
theorem dX7_asked_47 : decode cX7_asked 47 = .ok (.ifCond .eq 22, 3) := by decide +kernel
theorem dX7_asked_50 : decode cX7_asked 50 = .ok (.aload_n 0, 1) := by decide +kernel
theorem dX7_asked_51 : decode cX7_asked 51 = .ok (.aload_n 0, 1) := by decide +kernel
theorem dX7_asked_52 : decode cX7_asked 52 = .ok (.getfield 29, 3) := by decide +kernel
theorem dX7_asked_55 : decode cX7_asked 55 = .ok (.iload 5, 2) := by decide +kernel
theorem dX7_asked_57 : decode cX7_asked 57 = .ok (.iaload, 1) := by decide +kernel
theorem dX7_asked_58 : decode cX7_asked 58 = .ok (.iload_n 2, 1) := by decide +kernel
theorem dX7_asked_59 : decode cX7_asked 59 = .ok (.invokevirtual 120, 3) := by decide +kernel
theorem dX7_asked_62 : decode cX7_asked 62 = .ok (.ifCond .eq 7, 3) := by decide +kernel
theorem dX7_asked_65 : decode cX7_asked 65 = .ok (.iconst 1, 1) := by decide +kernel
theorem dX7_asked_66 : decode cX7_asked 66 = .ok (.goto 4, 3) := by decide +kernel
theorem dX7_asked_69 : decode cX7_asked 69 = .ok (.iconst 0, 1) := by decide +kernel
theorem dX7_asked_70 : decode cX7_asked 70 = .ok (.iadd, 1) := by decide +kernel
theorem dX7_asked_71 : decode cX7_asked 71 = .ok (.istore 4, 2) := by decide +kernel
theorem dX7_asked_73 : decode cX7_asked 73 = .ok (.iinc 5 1, 3) := by decide +kernel
theorem dX7_asked_76 : decode cX7_asked 76 = .ok (.goto (-48), 3) := by decide +kernel
theorem dX7_asked_79 : decode cX7_asked 79 = .ok (.iload 4, 2) := by decide +kernel
theorem dX7_asked_81 : decode cX7_asked 81 = .ok (.ireturn, 1) := by decide +kernel
theorem dX7_written_0 : decode cX7_written 0 = .ok (.iconst 0, 1) := by decide +kernel
theorem dX7_written_1 : decode cX7_written 1 = .ok (.istore_n 2, 1) := by decide +kernel
theorem dX7_written_2 : decode cX7_written 2 = .ok (.iconst 0, 1) := by decide +kernel
theorem dX7_written_3 : decode cX7_written 3 = .ok (.istore_n 3, 1) := by decide +kernel
theorem dX7_written_4 : decode cX7_written 4 = .ok (.iload_n 3, 1) := by decide +kernel
theorem dX7_written_5 : decode cX7_written 5 = .ok (.aload_n 0, 1) := by decide +kernel
theorem dX7_written_6 : decode cX7_written 6 = .ok (.getfield 19, 3) := by decide +kernel
theorem dX7_written_9 : decode cX7_written 9 = .ok (.iconst 0, 1) := by decide +kernel
theorem dX7_written_10 : decode cX7_written 10 = .ok (.iaload, 1) := by decide +kernel
theorem dX7_written_11 : decode cX7_written 11 = .ok (.if_icmp .ge 57, 3) := by decide +kernel
theorem dX7_written_14 : decode cX7_written 14 = .ok (.aload_n 0, 1) := by decide +kernel
theorem dX7_written_15 : decode cX7_written 15 = .ok (.getfield 19, 3) := by decide +kernel
theorem dX7_written_18 : decode cX7_written 18 = .ok (.iload_n 3, 1) := by decide +kernel
theorem dX7_written_19 : decode cX7_written 19 = .ok (.iconst 1, 1) := by decide +kernel
theorem dX7_written_20 : decode cX7_written 20 = .ok (.iadd, 1) := by decide +kernel
theorem dX7_written_21 : decode cX7_written 21 = .ok (.iaload, 1) := by decide +kernel
theorem dX7_written_22 : decode cX7_written 22 = .ok (.istore 4, 2) := by decide +kernel
theorem dX7_written_24 : decode cX7_written 24 = .ok (.iconst 0, 1) := by decide +kernel
theorem dX7_written_25 : decode cX7_written 25 = .ok (.istore 5, 2) := by decide +kernel
theorem dX7_written_27 : decode cX7_written 27 = .ok (.iload 5, 2) := by decide +kernel
theorem dX7_written_29 : decode cX7_written 29 = .ok (.iload 4, 2) := by decide +kernel
theorem dX7_written_31 : decode cX7_written 31 = .ok (.invokestatic 110, 3) := by decide +kernel
theorem dX7_written_34 : decode cX7_written 34 = .ok (.if_icmp .ge 28, 3) := by decide +kernel
theorem dX7_written_37 : decode cX7_written 37 = .ok (.iload_n 2, 1) := by decide +kernel
theorem dX7_written_38 : decode cX7_written 38 = .ok (.iload 4, 2) := by decide +kernel
theorem dX7_written_40 : decode cX7_written 40 = .ok (.iload 5, 2) := by decide +kernel
theorem dX7_written_42 : decode cX7_written 42 = .ok (.invokestatic 113, 3) := by decide +kernel
theorem dX7_written_45 : decode cX7_written 45 = .ok (.iload_n 1, 1) := by decide +kernel
theorem dX7_written_46 : decode cX7_written 46 = .ok (.if_icmp .ne 7, 3) := by decide +kernel
theorem dX7_written_49 : decode cX7_written 49 = .ok (.iconst 1, 1) := by decide +kernel
theorem dX7_written_50 : decode cX7_written 50 = .ok (.goto 4, 3) := by decide +kernel
theorem dX7_written_53 : decode cX7_written 53 = .ok (.iconst 0, 1) := by decide +kernel
theorem dX7_written_54 : decode cX7_written 54 = .ok (.iadd, 1) := by decide +kernel
theorem dX7_written_55 : decode cX7_written 55 = .ok (.istore_n 2, 1) := by decide +kernel
theorem dX7_written_56 : decode cX7_written 56 = .ok (.iinc 5 1, 3) := by decide +kernel
theorem dX7_written_59 : decode cX7_written 59 = .ok (.goto (-32), 3) := by decide +kernel
theorem dX7_written_62 : decode cX7_written 62 = .ok (.iinc 3 1, 3) := by decide +kernel
theorem dX7_written_65 : decode cX7_written 65 = .ok (.goto (-61), 3) := by decide +kernel
theorem dX7_written_68 : decode cX7_written 68 = .ok (.iload_n 2, 1) := by decide +kernel
theorem dX7_written_69 : decode cX7_written 69 = .ok (.ireturn, 1) := by decide +kernel
theorem dX7_rate_0 : decode cX7_rate 0 = .ok (.iload_n 1, 1) := by decide +kernel
theorem dX7_rate_1 : decode cX7_rate 1 = .ok (.iconst 0, 1) := by decide +kernel
theorem dX7_rate_2 : decode cX7_rate 2 = .ok (.iconst 5, 1) := by decide +kernel
theorem dX7_rate_3 : decode cX7_rate 3 = .ok (.invokestatic 47, 3) := by decide +kernel
theorem dX7_rate_6 : decode cX7_rate 6 = .ok (.ifCond .eq 11, 3) := by decide +kernel
theorem dX7_rate_9 : decode cX7_rate 9 = .ok (.aload_n 0, 1) := by decide +kernel
theorem dX7_rate_10 : decode cX7_rate 10 = .ok (.iload_n 2, 1) := by decide +kernel
theorem dX7_rate_11 : decode cX7_rate 11 = .ok (.invokevirtual 117, 3) := by decide +kernel
theorem dX7_rate_14 : decode cX7_rate 14 = .ok (.ifCond .ne 6, 3) := by decide +kernel
theorem dX7_rate_17 : decode cX7_rate 17 = .ok (.ldc 160, 2) := by decide +kernel
theorem dX7_rate_19 : decode cX7_rate 19 = .ok (.ireturn, 1) := by decide +kernel
theorem dX7_rate_20 : decode cX7_rate 20 = .ok (.aload_n 0, 1) := by decide +kernel
theorem dX7_rate_21 : decode cX7_rate 21 = .ok (.dup, 1) := by decide +kernel
theorem dX7_rate_22 : decode cX7_rate 22 = .ok (.getfield 161, 3) := by decide +kernel
theorem dX7_rate_25 : decode cX7_rate 25 = .ok (.iload_n 1, 1) := by decide +kernel
theorem dX7_rate_26 : decode cX7_rate 26 = .ok (.ifCond .ne 7, 3) := by decide +kernel
theorem dX7_rate_29 : decode cX7_rate 29 = .ok (.lconst 1, 1) := by decide +kernel
theorem dX7_rate_30 : decode cX7_rate 30 = .ok (.goto 50, 3) := by decide +kernel
theorem dX7_rate_33 : decode cX7_rate 33 = .ok (.iload_n 1, 1) := by decide +kernel
theorem dX7_rate_34 : decode cX7_rate 34 = .ok (.iconst 1, 1) := by decide +kernel
theorem dX7_rate_35 : decode cX7_rate 35 = .ok (.if_icmp .ne 9, 3) := by decide +kernel
theorem dX7_rate_38 : decode cX7_rate 38 = .ok (.ldc2_w 165, 3) := by decide +kernel
theorem dX7_rate_41 : decode cX7_rate 41 = .ok (.goto 39, 3) := by decide +kernel
theorem dX7_rate_44 : decode cX7_rate 44 = .ok (.iload_n 1, 1) := by decide +kernel
theorem dX7_rate_45 : decode cX7_rate 45 = .ok (.iconst 2, 1) := by decide +kernel
theorem dX7_rate_46 : decode cX7_rate 46 = .ok (.if_icmp .ne 9, 3) := by decide +kernel
theorem dX7_rate_49 : decode cX7_rate 49 = .ok (.ldc2_w 167, 3) := by decide +kernel
theorem dX7_rate_52 : decode cX7_rate 52 = .ok (.goto 28, 3) := by decide +kernel
theorem dX7_rate_55 : decode cX7_rate 55 = .ok (.iload_n 1, 1) := by decide +kernel
theorem dX7_rate_56 : decode cX7_rate 56 = .ok (.iconst 3, 1) := by decide +kernel
theorem dX7_rate_57 : decode cX7_rate 57 = .ok (.if_icmp .ne 9, 3) := by decide +kernel
theorem dX7_rate_60 : decode cX7_rate 60 = .ok (.ldc2_w 169, 3) := by decide +kernel
theorem dX7_rate_63 : decode cX7_rate 63 = .ok (.goto 17, 3) := by decide +kernel
theorem dX7_rate_66 : decode cX7_rate 66 = .ok (.iload_n 1, 1) := by decide +kernel
theorem dX7_rate_67 : decode cX7_rate 67 = .ok (.iconst 4, 1) := by decide +kernel
theorem dX7_rate_68 : decode cX7_rate 68 = .ok (.if_icmp .ne 9, 3) := by decide +kernel
theorem dX7_rate_71 : decode cX7_rate 71 = .ok (.ldc2_w 171, 3) := by decide +kernel
theorem dX7_rate_74 : decode cX7_rate 74 = .ok (.goto 6, 3) := by decide +kernel
theorem dX7_rate_77 : decode cX7_rate 77 = .ok (.ldc2_w 173, 3) := by decide +kernel
theorem dX7_rate_80 : decode cX7_rate 80 = .ok (.ladd, 1) := by decide +kernel
theorem dX7_rate_81 : decode cX7_rate 81 = .ok (.putfield 161, 3) := by decide +kernel
theorem dX7_rate_84 : decode cX7_rate 84 = .ok (.aload_n 0, 1) := by decide +kernel
theorem dX7_rate_85 : decode cX7_rate 85 = .ok (.getfield 13, 3) := by decide +kernel
theorem dX7_rate_88 : decode cX7_rate 88 = .ok (.bipush 12, 2) := by decide +kernel
theorem dX7_rate_90 : decode cX7_rate 90 = .ok (.iload_n 2, 1) := by decide +kernel
theorem dX7_rate_91 : decode cX7_rate 91 = .ok (.iadd, 1) := by decide +kernel
theorem dX7_rate_92 : decode cX7_rate 92 = .ok (.iaload, 1) := by decide +kernel
theorem dX7_rate_93 : decode cX7_rate 93 = .ok (.istore_n 3, 1) := by decide +kernel
theorem dX7_rate_94 : decode cX7_rate 94 = .ok (.iload_n 3, 1) := by decide +kernel
theorem dX7_rate_95 : decode cX7_rate 95 = .ok (.aload_n 0, 1) := by decide +kernel
theorem dX7_rate_96 : decode cX7_rate 96 = .ok (.getfield 13, 3) := by decide +kernel
theorem dX7_rate_99 : decode cX7_rate 99 = .ok (.bipush 30, 2) := by decide +kernel
theorem dX7_rate_101 : decode cX7_rate 101 = .ok (.iload_n 2, 1) := by decide +kernel
theorem dX7_rate_102 : decode cX7_rate 102 = .ok (.iadd, 1) := by decide +kernel
theorem dX7_rate_103 : decode cX7_rate 103 = .ok (.iaload, 1) := by decide +kernel
theorem dX7_rate_104 : decode cX7_rate 104 = .ok (.iadd, 1) := by decide +kernel
theorem dX7_rate_105 : decode cX7_rate 105 = .ok (.istore 4, 2) := by decide +kernel
theorem dX7_rate_107 : decode cX7_rate 107 = .ok (.iload_n 3, 1) := by decide +kernel
theorem dX7_rate_108 : decode cX7_rate 108 = .ok (.aload_n 0, 1) := by decide +kernel
theorem dX7_rate_109 : decode cX7_rate 109 = .ok (.getfield 13, 3) := by decide +kernel
theorem dX7_rate_112 : decode cX7_rate 112 = .ok (.bipush 21, 2) := by decide +kernel
theorem dX7_rate_114 : decode cX7_rate 114 = .ok (.iload_n 2, 1) := by decide +kernel
theorem dX7_rate_115 : decode cX7_rate 115 = .ok (.iadd, 1) := by decide +kernel
theorem dX7_rate_116 : decode cX7_rate 116 = .ok (.iaload, 1) := by decide +kernel
theorem dX7_rate_117 : decode cX7_rate 117 = .ok (.isub, 1) := by decide +kernel
theorem dX7_rate_118 : decode cX7_rate 118 = .ok (.istore 5, 2) := by decide +kernel
theorem dX7_rate_120 : decode cX7_rate 120 = .ok (.iload_n 1, 1) := by decide +kernel
theorem dX7_rate_121 : decode cX7_rate 121 = .ok (.ifCond .ne 7, 3) := by decide +kernel
theorem dX7_rate_124 : decode cX7_rate 124 = .ok (.iload_n 3, 1) := by decide +kernel
theorem dX7_rate_125 : decode cX7_rate 125 = .ok (.goto 54, 3) := by decide +kernel
theorem dX7_rate_128 : decode cX7_rate 128 = .ok (.iload_n 1, 1) := by decide +kernel
theorem dX7_rate_129 : decode cX7_rate 129 = .ok (.iconst 1, 1) := by decide +kernel
theorem dX7_rate_130 : decode cX7_rate 130 = .ok (.if_icmp .ne 8, 3) := by decide +kernel
theorem dX7_rate_133 : decode cX7_rate 133 = .ok (.iload 4, 2) := by decide +kernel
theorem dX7_rate_135 : decode cX7_rate 135 = .ok (.goto 44, 3) := by decide +kernel
theorem dX7_rate_138 : decode cX7_rate 138 = .ok (.iload_n 1, 1) := by decide +kernel
theorem dX7_rate_139 : decode cX7_rate 139 = .ok (.iconst 2, 1) := by decide +kernel
theorem dX7_rate_140 : decode cX7_rate 140 = .ok (.if_icmp .ne 8, 3) := by decide +kernel
theorem dX7_rate_143 : decode cX7_rate 143 = .ok (.iload 5, 2) := by decide +kernel
theorem dX7_rate_145 : decode cX7_rate 145 = .ok (.goto 34, 3) := by decide +kernel
theorem dX7_rate_148 : decode cX7_rate 148 = .ok (.iload_n 1, 1) := by decide +kernel
theorem dX7_rate_149 : decode cX7_rate 149 = .ok (.iconst 3, 1) := by decide +kernel
theorem dX7_rate_150 : decode cX7_rate 150 = .ok (.if_icmp .ne 10, 3) := by decide +kernel
theorem dX7_rate_153 : decode cX7_rate 153 = .ok (.iconst 2, 1) := by decide +kernel
theorem dX7_rate_154 : decode cX7_rate 154 = .ok (.iload 4, 2) := by decide +kernel
theorem dX7_rate_156 : decode cX7_rate 156 = .ok (.imul, 1) := by decide +kernel
theorem dX7_rate_157 : decode cX7_rate 157 = .ok (.goto 22, 3) := by decide +kernel
theorem dX7_rate_160 : decode cX7_rate 160 = .ok (.iload_n 1, 1) := by decide +kernel
theorem dX7_rate_161 : decode cX7_rate 161 = .ok (.iconst 4, 1) := by decide +kernel
theorem dX7_rate_162 : decode cX7_rate 162 = .ok (.if_icmp .ne 10, 3) := by decide +kernel
theorem dX7_rate_165 : decode cX7_rate 165 = .ok (.iload 5, 2) := by decide +kernel
theorem dX7_rate_167 : decode cX7_rate 167 = .ok (.iload_n 2, 1) := by decide +kernel
theorem dX7_rate_168 : decode cX7_rate 168 = .ok (.iadd, 1) := by decide +kernel
theorem dX7_rate_169 : decode cX7_rate 169 = .ok (.goto 10, 3) := by decide +kernel
theorem dX7_rate_172 : decode cX7_rate 172 = .ok (.iload_n 3, 1) := by decide +kernel
theorem dX7_rate_173 : decode cX7_rate 173 = .ok (.aload_n 0, 1) := by decide +kernel
theorem dX7_rate_174 : decode cX7_rate 174 = .ok (.iload_n 2, 1) := by decide +kernel
theorem dX7_rate_175 : decode cX7_rate 175 = .ok (.invokevirtual 175, 3) := by decide +kernel
theorem dX7_rate_178 : decode cX7_rate 178 = .ok (.iadd, 1) := by decide +kernel
theorem dX7_rate_179 : decode cX7_rate 179 = .ok (.ireturn, 1) := by decide +kernel
theorem dX7_keep_0 : decode cX7_keep 0 = .ok (.iload_n 1, 1) := by decide +kernel
theorem dX7_keep_1 : decode cX7_keep 1 = .ok (.iconst 0, 1) := by decide +kernel
theorem dX7_keep_2 : decode cX7_keep 2 = .ok (.iconst 1, 1) := by decide +kernel
theorem dX7_keep_3 : decode cX7_keep 3 = .ok (.invokestatic 47, 3) := by decide +kernel
theorem dX7_keep_6 : decode cX7_keep 6 = .ok (.ifCond .ne 5, 3) := by decide +kernel
theorem dX7_keep_9 : decode cX7_keep 9 = .ok (.iconst (-1), 1) := by decide +kernel
theorem dX7_keep_10 : decode cX7_keep 10 = .ok (.ireturn, 1) := by decide +kernel
theorem dX7_keep_11 : decode cX7_keep 11 = .ok (.iconst 0, 1) := by decide +kernel
theorem dX7_keep_12 : decode cX7_keep 12 = .ok (.istore_n 2, 1) := by decide +kernel
theorem dX7_keep_13 : decode cX7_keep 13 = .ok (.iload_n 2, 1) := by decide +kernel
theorem dX7_keep_14 : decode cX7_keep 14 = .ok (.bipush 13, 2) := by decide +kernel
theorem dX7_keep_16 : decode cX7_keep 16 = .ok (.if_icmp .ge 26, 3) := by decide +kernel
theorem dX7_keep_19 : decode cX7_keep 19 = .ok (.aload_n 0, 1) := by decide +kernel
theorem dX7_keep_20 : decode cX7_keep 20 = .ok (.getfield 22, 3) := by decide +kernel
theorem dX7_keep_23 : decode cX7_keep 23 = .ok (.bipush 13, 2) := by decide +kernel
theorem dX7_keep_25 : decode cX7_keep 25 = .ok (.iload_n 1, 1) := by decide +kernel
theorem dX7_keep_26 : decode cX7_keep 26 = .ok (.imul, 1) := by decide +kernel
theorem dX7_keep_27 : decode cX7_keep 27 = .ok (.iload_n 2, 1) := by decide +kernel
theorem dX7_keep_28 : decode cX7_keep 28 = .ok (.iadd, 1) := by decide +kernel
theorem dX7_keep_29 : decode cX7_keep 29 = .ok (.aload_n 0, 1) := by decide +kernel
theorem dX7_keep_30 : decode cX7_keep 30 = .ok (.getfield 19, 3) := by decide +kernel
theorem dX7_keep_33 : decode cX7_keep 33 = .ok (.iload_n 2, 1) := by decide +kernel
theorem dX7_keep_34 : decode cX7_keep 34 = .ok (.iaload, 1) := by decide +kernel
theorem dX7_keep_35 : decode cX7_keep 35 = .ok (.iastore, 1) := by decide +kernel
theorem dX7_keep_36 : decode cX7_keep 36 = .ok (.iinc 2 1, 3) := by decide +kernel
theorem dX7_keep_39 : decode cX7_keep 39 = .ok (.goto (-26), 3) := by decide +kernel
theorem dX7_keep_42 : decode cX7_keep 42 = .ok (.aload_n 0, 1) := by decide +kernel
theorem dX7_keep_43 : decode cX7_keep 43 = .ok (.getfield 25, 3) := by decide +kernel
theorem dX7_keep_46 : decode cX7_keep 46 = .ok (.iload_n 1, 1) := by decide +kernel
theorem dX7_keep_47 : decode cX7_keep 47 = .ok (.iconst 1, 1) := by decide +kernel
theorem dX7_keep_48 : decode cX7_keep 48 = .ok (.bastore, 1) := by decide +kernel
theorem dX7_keep_49 : decode cX7_keep 49 = .ok (.aload_n 0, 1) := by decide +kernel
theorem dX7_keep_50 : decode cX7_keep 50 = .ok (.getfield 19, 3) := by decide +kernel
theorem dX7_keep_53 : decode cX7_keep 53 = .ok (.iconst 0, 1) := by decide +kernel
theorem dX7_keep_54 : decode cX7_keep 54 = .ok (.iaload, 1) := by decide +kernel
theorem dX7_keep_55 : decode cX7_keep 55 = .ok (.ireturn, 1) := by decide +kernel
theorem dX7_back_0 : decode cX7_back 0 = .ok (.iload_n 1, 1) := by decide +kernel
theorem dX7_back_1 : decode cX7_back 1 = .ok (.iconst 0, 1) := by decide +kernel
theorem dX7_back_2 : decode cX7_back 2 = .ok (.iconst 1, 1) := by decide +kernel
theorem dX7_back_3 : decode cX7_back 3 = .ok (.invokestatic 47, 3) := by decide +kernel
theorem dX7_back_6 : decode cX7_back 6 = .ok (.ifCond .ne 5, 3) := by decide +kernel
theorem dX7_back_9 : decode cX7_back 9 = .ok (.iconst (-1), 1) := by decide +kernel
theorem dX7_back_10 : decode cX7_back 10 = .ok (.ireturn, 1) := by decide +kernel
theorem dX7_back_11 : decode cX7_back 11 = .ok (.aload_n 0, 1) := by decide +kernel
theorem dX7_back_12 : decode cX7_back 12 = .ok (.getfield 25, 3) := by decide +kernel
theorem dX7_back_15 : decode cX7_back 15 = .ok (.iload_n 1, 1) := by decide +kernel
theorem dX7_back_16 : decode cX7_back 16 = .ok (.baload, 1) := by decide +kernel
theorem dX7_back_17 : decode cX7_back 17 = .ok (.ifCond .ne 6, 3) := by decide +kernel
theorem dX7_back_20 : decode cX7_back 20 = .ok (.bipush (-2), 2) := by decide +kernel
theorem dX7_back_22 : decode cX7_back 22 = .ok (.ireturn, 1) := by decide +kernel
theorem dX7_back_23 : decode cX7_back 23 = .ok (.iconst 0, 1) := by decide +kernel
theorem dX7_back_24 : decode cX7_back 24 = .ok (.istore_n 2, 1) := by decide +kernel
theorem dX7_back_25 : decode cX7_back 25 = .ok (.iload_n 2, 1) := by decide +kernel
theorem dX7_back_26 : decode cX7_back 26 = .ok (.bipush 13, 2) := by decide +kernel
theorem dX7_back_28 : decode cX7_back 28 = .ok (.if_icmp .ge 26, 3) := by decide +kernel
theorem dX7_back_31 : decode cX7_back 31 = .ok (.aload_n 0, 1) := by decide +kernel
theorem dX7_back_32 : decode cX7_back 32 = .ok (.getfield 19, 3) := by decide +kernel
theorem dX7_back_35 : decode cX7_back 35 = .ok (.iload_n 2, 1) := by decide +kernel
theorem dX7_back_36 : decode cX7_back 36 = .ok (.aload_n 0, 1) := by decide +kernel
theorem dX7_back_37 : decode cX7_back 37 = .ok (.getfield 22, 3) := by decide +kernel
theorem dX7_back_40 : decode cX7_back 40 = .ok (.bipush 13, 2) := by decide +kernel
theorem dX7_back_42 : decode cX7_back 42 = .ok (.iload_n 1, 1) := by decide +kernel
theorem dX7_back_43 : decode cX7_back 43 = .ok (.imul, 1) := by decide +kernel
theorem dX7_back_44 : decode cX7_back 44 = .ok (.iload_n 2, 1) := by decide +kernel
theorem dX7_back_45 : decode cX7_back 45 = .ok (.iadd, 1) := by decide +kernel
theorem dX7_back_46 : decode cX7_back 46 = .ok (.iaload, 1) := by decide +kernel
theorem dX7_back_47 : decode cX7_back 47 = .ok (.iastore, 1) := by decide +kernel
theorem dX7_back_48 : decode cX7_back 48 = .ok (.iinc 2 1, 3) := by decide +kernel
theorem dX7_back_51 : decode cX7_back 51 = .ok (.goto (-26), 3) := by decide +kernel
theorem dX7_back_54 : decode cX7_back 54 = .ok (.aload_n 0, 1) := by decide +kernel
theorem dX7_back_55 : decode cX7_back 55 = .ok (.getfield 19, 3) := by decide +kernel
theorem dX7_back_58 : decode cX7_back 58 = .ok (.iconst 0, 1) := by decide +kernel
theorem dX7_back_59 : decode cX7_back 59 = .ok (.iaload, 1) := by decide +kernel
theorem dX7_back_60 : decode cX7_back 60 = .ok (.ireturn, 1) := by decide +kernel
theorem dX7_count_0 : decode cX7_count 0 = .ok (.iload_n 1, 1) := by decide +kernel
theorem dX7_count_1 : decode cX7_count 1 = .ok (.iconst 0, 1) := by decide +kernel
theorem dX7_count_2 : decode cX7_count 2 = .ok (.iconst 3, 1) := by decide +kernel
theorem dX7_count_3 : decode cX7_count 3 = .ok (.invokestatic 47, 3) := by decide +kernel
theorem dX7_count_6 : decode cX7_count 6 = .ok (.ifCond .ne 5, 3) := by decide +kernel
theorem dX7_count_9 : decode cX7_count 9 = .ok (.iconst (-1), 1) := by decide +kernel
theorem dX7_count_10 : decode cX7_count 10 = .ok (.ireturn, 1) := by decide +kernel
theorem dX7_count_11 : decode cX7_count 11 = .ok (.iload_n 1, 1) := by decide +kernel
theorem dX7_count_12 : decode cX7_count 12 = .ok (.ifCond .ne 12, 3) := by decide +kernel
theorem dX7_count_15 : decode cX7_count 15 = .ok (.aload_n 0, 1) := by decide +kernel
theorem dX7_count_16 : decode cX7_count 16 = .ok (.getfield 13, 3) := by decide +kernel
theorem dX7_count_19 : decode cX7_count 19 = .ok (.iconst 0, 1) := by decide +kernel
theorem dX7_count_20 : decode cX7_count 20 = .ok (.iaload, 1) := by decide +kernel
theorem dX7_count_21 : decode cX7_count 21 = .ok (.goto 35, 3) := by decide +kernel
theorem dX7_count_24 : decode cX7_count 24 = .ok (.iload_n 1, 1) := by decide +kernel
theorem dX7_count_25 : decode cX7_count 25 = .ok (.iconst 1, 1) := by decide +kernel
theorem dX7_count_26 : decode cX7_count 26 = .ok (.if_icmp .ne 12, 3) := by decide +kernel
theorem dX7_count_29 : decode cX7_count 29 = .ok (.aload_n 0, 1) := by decide +kernel
theorem dX7_count_30 : decode cX7_count 30 = .ok (.getfield 13, 3) := by decide +kernel
theorem dX7_count_33 : decode cX7_count 33 = .ok (.iconst 1, 1) := by decide +kernel
theorem dX7_count_34 : decode cX7_count 34 = .ok (.iaload, 1) := by decide +kernel
theorem dX7_count_35 : decode cX7_count 35 = .ok (.goto 21, 3) := by decide +kernel
theorem dX7_count_38 : decode cX7_count 38 = .ok (.iload_n 1, 1) := by decide +kernel
theorem dX7_count_39 : decode cX7_count 39 = .ok (.iconst 2, 1) := by decide +kernel
theorem dX7_count_40 : decode cX7_count 40 = .ok (.if_icmp .ne 12, 3) := by decide +kernel
theorem dX7_count_43 : decode cX7_count 43 = .ok (.aload_n 0, 1) := by decide +kernel
theorem dX7_count_44 : decode cX7_count 44 = .ok (.getfield 19, 3) := by decide +kernel
theorem dX7_count_47 : decode cX7_count 47 = .ok (.iconst 0, 1) := by decide +kernel
theorem dX7_count_48 : decode cX7_count 48 = .ok (.iaload, 1) := by decide +kernel
theorem dX7_count_49 : decode cX7_count 49 = .ok (.goto 7, 3) := by decide +kernel
theorem dX7_count_52 : decode cX7_count 52 = .ok (.aload_n 0, 1) := by decide +kernel
theorem dX7_count_53 : decode cX7_count 53 = .ok (.getfield 51, 3) := by decide +kernel
theorem dX7_count_56 : decode cX7_count 56 = .ok (.ireturn, 1) := by decide +kernel
theorem dX7_trace_0 : decode cX7_trace 0 = .ok (.aload_n 0, 1) := by decide +kernel
theorem dX7_trace_1 : decode cX7_trace 1 = .ok (.getfield 161, 3) := by decide +kernel
theorem dX7_trace_4 : decode cX7_trace 4 = .ok (.lreturn, 1) := by decide +kernel
theorem dJ6_bitCount_0f7a4_0 : decode cJ6_bitCount_0f7a4 0 = .ok (.iload_n 0, 1) := by decide +kernel
theorem dJ6_bitCount_0f7a4_1 : decode cJ6_bitCount_0f7a4 1 = .ok (.iload_n 0, 1) := by decide +kernel
theorem dJ6_bitCount_0f7a4_2 : decode cJ6_bitCount_0f7a4 2 = .ok (.iconst 1, 1) := by decide +kernel
theorem dJ6_bitCount_0f7a4_3 : decode cJ6_bitCount_0f7a4 3 = .ok (.iushr, 1) := by decide +kernel
theorem dJ6_bitCount_0f7a4_4 : decode cJ6_bitCount_0f7a4 4 = .ok (.ldc_w 265, 3) := by decide +kernel
theorem dJ6_bitCount_0f7a4_7 : decode cJ6_bitCount_0f7a4 7 = .ok (.iand, 1) := by decide +kernel
theorem dJ6_bitCount_0f7a4_8 : decode cJ6_bitCount_0f7a4 8 = .ok (.isub, 1) := by decide +kernel
theorem dJ6_bitCount_0f7a4_9 : decode cJ6_bitCount_0f7a4 9 = .ok (.istore_n 0, 1) := by decide +kernel
theorem dJ6_bitCount_0f7a4_10 : decode cJ6_bitCount_0f7a4 10 = .ok (.iload_n 0, 1) := by decide +kernel
theorem dJ6_bitCount_0f7a4_11 : decode cJ6_bitCount_0f7a4 11 = .ok (.ldc_w 266, 3) := by decide +kernel
theorem dJ6_bitCount_0f7a4_14 : decode cJ6_bitCount_0f7a4 14 = .ok (.iand, 1) := by decide +kernel
theorem dJ6_bitCount_0f7a4_15 : decode cJ6_bitCount_0f7a4 15 = .ok (.iload_n 0, 1) := by decide +kernel
theorem dJ6_bitCount_0f7a4_16 : decode cJ6_bitCount_0f7a4 16 = .ok (.iconst 2, 1) := by decide +kernel
theorem dJ6_bitCount_0f7a4_17 : decode cJ6_bitCount_0f7a4 17 = .ok (.iushr, 1) := by decide +kernel
theorem dJ6_bitCount_0f7a4_18 : decode cJ6_bitCount_0f7a4 18 = .ok (.ldc_w 266, 3) := by decide +kernel
theorem dJ6_bitCount_0f7a4_21 : decode cJ6_bitCount_0f7a4 21 = .ok (.iand, 1) := by decide +kernel
theorem dJ6_bitCount_0f7a4_22 : decode cJ6_bitCount_0f7a4 22 = .ok (.iadd, 1) := by decide +kernel
theorem dJ6_bitCount_0f7a4_23 : decode cJ6_bitCount_0f7a4 23 = .ok (.istore_n 0, 1) := by decide +kernel
theorem dJ6_bitCount_0f7a4_24 : decode cJ6_bitCount_0f7a4 24 = .ok (.iload_n 0, 1) := by decide +kernel
theorem dJ6_bitCount_0f7a4_25 : decode cJ6_bitCount_0f7a4 25 = .ok (.iload_n 0, 1) := by decide +kernel
theorem dJ6_bitCount_0f7a4_26 : decode cJ6_bitCount_0f7a4 26 = .ok (.iconst 4, 1) := by decide +kernel
theorem dJ6_bitCount_0f7a4_27 : decode cJ6_bitCount_0f7a4 27 = .ok (.iushr, 1) := by decide +kernel
theorem dJ6_bitCount_0f7a4_28 : decode cJ6_bitCount_0f7a4 28 = .ok (.iadd, 1) := by decide +kernel
theorem dJ6_bitCount_0f7a4_29 : decode cJ6_bitCount_0f7a4 29 = .ok (.ldc_w 267, 3) := by decide +kernel
theorem dJ6_bitCount_0f7a4_32 : decode cJ6_bitCount_0f7a4 32 = .ok (.iand, 1) := by decide +kernel
theorem dJ6_bitCount_0f7a4_33 : decode cJ6_bitCount_0f7a4 33 = .ok (.istore_n 0, 1) := by decide +kernel
theorem dJ6_bitCount_0f7a4_34 : decode cJ6_bitCount_0f7a4 34 = .ok (.iload_n 0, 1) := by decide +kernel
theorem dJ6_bitCount_0f7a4_35 : decode cJ6_bitCount_0f7a4 35 = .ok (.iload_n 0, 1) := by decide +kernel
theorem dJ6_bitCount_0f7a4_36 : decode cJ6_bitCount_0f7a4 36 = .ok (.bipush 8, 2) := by decide +kernel
theorem dJ6_bitCount_0f7a4_38 : decode cJ6_bitCount_0f7a4 38 = .ok (.iushr, 1) := by decide +kernel
theorem dJ6_bitCount_0f7a4_39 : decode cJ6_bitCount_0f7a4 39 = .ok (.iadd, 1) := by decide +kernel
theorem dJ6_bitCount_0f7a4_40 : decode cJ6_bitCount_0f7a4 40 = .ok (.istore_n 0, 1) := by decide +kernel
theorem dJ6_bitCount_0f7a4_41 : decode cJ6_bitCount_0f7a4 41 = .ok (.iload_n 0, 1) := by decide +kernel
theorem dJ6_bitCount_0f7a4_42 : decode cJ6_bitCount_0f7a4 42 = .ok (.iload_n 0, 1) := by decide +kernel
theorem dJ6_bitCount_0f7a4_43 : decode cJ6_bitCount_0f7a4 43 = .ok (.bipush 16, 2) := by decide +kernel
theorem dJ6_bitCount_0f7a4_45 : decode cJ6_bitCount_0f7a4 45 = .ok (.iushr, 1) := by decide +kernel
theorem dJ6_bitCount_0f7a4_46 : decode cJ6_bitCount_0f7a4 46 = .ok (.iadd, 1) := by decide +kernel
theorem dJ6_bitCount_0f7a4_47 : decode cJ6_bitCount_0f7a4 47 = .ok (.istore_n 0, 1) := by decide +kernel
theorem dJ6_bitCount_0f7a4_48 : decode cJ6_bitCount_0f7a4 48 = .ok (.iload_n 0, 1) := by decide +kernel
theorem dJ6_bitCount_0f7a4_49 : decode cJ6_bitCount_0f7a4 49 = .ok (.bipush 63, 2) := by decide +kernel
theorem dJ6_bitCount_0f7a4_51 : decode cJ6_bitCount_0f7a4 51 = .ok (.iand, 1) := by decide +kernel
theorem dJ6_bitCount_0f7a4_52 : decode cJ6_bitCount_0f7a4 52 = .ok (.ireturn, 1) := by decide +kernel
theorem dJ9_abs_0f7a4_0 : decode cJ9_abs_0f7a4 0 = .ok (.iload_n 0, 1) := by decide +kernel
theorem dJ9_abs_0f7a4_1 : decode cJ9_abs_0f7a4 1 = .ok (.ifCond .ge 8, 3) := by decide +kernel
theorem dJ9_abs_0f7a4_4 : decode cJ9_abs_0f7a4 4 = .ok (.iload_n 0, 1) := by decide +kernel
theorem dJ9_abs_0f7a4_5 : decode cJ9_abs_0f7a4 5 = .ok (.ineg, 1) := by decide +kernel
theorem dJ9_abs_0f7a4_6 : decode cJ9_abs_0f7a4 6 = .ok (.goto 4, 3) := by decide +kernel
theorem dJ9_abs_0f7a4_9 : decode cJ9_abs_0f7a4 9 = .ok (.iload_n 0, 1) := by decide +kernel
theorem dJ9_abs_0f7a4_10 : decode cJ9_abs_0f7a4 10 = .ok (.ireturn, 1) := by decide +kernel
theorem dJ9_max_7cf53_0 : decode cJ9_max_7cf53 0 = .ok (.iload_n 0, 1) := by decide +kernel
theorem dJ9_max_7cf53_1 : decode cJ9_max_7cf53 1 = .ok (.iload_n 1, 1) := by decide +kernel
theorem dJ9_max_7cf53_2 : decode cJ9_max_7cf53 2 = .ok (.if_icmp .lt 7, 3) := by decide +kernel
theorem dJ9_max_7cf53_5 : decode cJ9_max_7cf53 5 = .ok (.iload_n 0, 1) := by decide +kernel
theorem dJ9_max_7cf53_6 : decode cJ9_max_7cf53 6 = .ok (.goto 4, 3) := by decide +kernel
theorem dJ9_max_7cf53_9 : decode cJ9_max_7cf53 9 = .ok (.iload_n 1, 1) := by decide +kernel
theorem dJ9_max_7cf53_10 : decode cJ9_max_7cf53 10 = .ok (.ireturn, 1) := by decide +kernel
theorem dJ9_min_7cf53_0 : decode cJ9_min_7cf53 0 = .ok (.iload_n 0, 1) := by decide +kernel
theorem dJ9_min_7cf53_1 : decode cJ9_min_7cf53 1 = .ok (.iload_n 1, 1) := by decide +kernel
theorem dJ9_min_7cf53_2 : decode cJ9_min_7cf53 2 = .ok (.if_icmp .gt 7, 3) := by decide +kernel
theorem dJ9_min_7cf53_5 : decode cJ9_min_7cf53 5 = .ok (.iload_n 0, 1) := by decide +kernel
theorem dJ9_min_7cf53_6 : decode cJ9_min_7cf53 6 = .ok (.goto 4, 3) := by decide +kernel
theorem dJ9_min_7cf53_9 : decode cJ9_min_7cf53 9 = .ok (.iload_n 1, 1) := by decide +kernel
theorem dJ9_min_7cf53_10 : decode cJ9_min_7cf53 10 = .ok (.ireturn, 1) := by decide +kernel
theorem dJ0_length_8abf5_0 : decode cJ0_length_8abf5 0 = .ok (.aload_n 0, 1) := by decide +kernel
theorem dJ0_length_8abf5_1 : decode cJ0_length_8abf5 1 = .ok (.getfield 9, 3) := by decide +kernel
theorem dJ0_length_8abf5_4 : decode cJ0_length_8abf5 4 = .ok (.arraylength, 1) := by decide +kernel
theorem dJ0_length_8abf5_5 : decode cJ0_length_8abf5 5 = .ok (.aload_n 0, 1) := by decide +kernel
theorem dJ0_length_8abf5_6 : decode cJ0_length_8abf5 6 = .ok (.invokevirtual 335, 3) := by decide +kernel
theorem dJ0_length_8abf5_9 : decode cJ0_length_8abf5 9 = .ok (.ishr, 1) := by decide +kernel
theorem dJ0_length_8abf5_10 : decode cJ0_length_8abf5 10 = .ok (.ireturn, 1) := by decide +kernel
theorem dJ0_charAt_5068e_0 : decode cJ0_charAt_5068e 0 = .ok (.aload_n 0, 1) := by decide +kernel
theorem dJ0_charAt_5068e_1 : decode cJ0_charAt_5068e 1 = .ok (.invokevirtual 492, 3) := by decide +kernel
theorem dJ0_charAt_5068e_4 : decode cJ0_charAt_5068e 4 = .ok (.ifCond .eq 12, 3) := by decide +kernel
theorem dJ0_charAt_5068e_7 : decode cJ0_charAt_5068e 7 = .ok (.aload_n 0, 1) := by decide +kernel
theorem dJ0_charAt_5068e_8 : decode cJ0_charAt_5068e 8 = .ok (.getfield 9, 3) := by decide +kernel
theorem dJ0_charAt_5068e_11 : decode cJ0_charAt_5068e 11 = .ok (.iload_n 1, 1) := by decide +kernel
theorem dJ0_charAt_5068e_12 : decode cJ0_charAt_5068e 12 = .ok (.invokestatic 495, 3) := by decide +kernel
theorem dJ0_charAt_5068e_15 : decode cJ0_charAt_5068e 15 = .ok (.ireturn, 1) := by decide +kernel
theorem dJ0_charAt_5068e_16 : decode cJ0_charAt_5068e 16 = .ok (.aload_n 0, 1) := by decide +kernel
theorem dJ0_charAt_5068e_17 : decode cJ0_charAt_5068e 17 = .ok (.getfield 9, 3) := by decide +kernel
theorem dJ0_charAt_5068e_20 : decode cJ0_charAt_5068e 20 = .ok (.iload_n 1, 1) := by decide +kernel
theorem dJ0_charAt_5068e_21 : decode cJ0_charAt_5068e 21 = .ok (.invokestatic 498, 3) := by decide +kernel
theorem dJ0_charAt_5068e_24 : decode cJ0_charAt_5068e 24 = .ok (.ireturn, 1) := by decide +kernel
theorem dJ0_coder_7d493_0 : decode cJ0_coder_7d493 0 = .ok (.getstatic 38, 3) := by decide +kernel
theorem dJ0_coder_7d493_3 : decode cJ0_coder_7d493 3 = .ok (.ifCond .eq 10, 3) := by decide +kernel
theorem dJ0_coder_7d493_6 : decode cJ0_coder_7d493 6 = .ok (.aload_n 0, 1) := by decide +kernel
theorem dJ0_coder_7d493_7 : decode cJ0_coder_7d493 7 = .ok (.getfield 15, 3) := by decide +kernel
theorem dJ0_coder_7d493_10 : decode cJ0_coder_7d493 10 = .ok (.goto 4, 3) := by decide +kernel
theorem dJ0_coder_7d493_13 : decode cJ0_coder_7d493 13 = .ok (.iconst 1, 1) := by decide +kernel
theorem dJ0_coder_7d493_14 : decode cJ0_coder_7d493 14 = .ok (.ireturn, 1) := by decide +kernel
theorem dJ0_isLatin1_aae02_0 : decode cJ0_isLatin1_aae02 0 = .ok (.getstatic 38, 3) := by decide +kernel
theorem dJ0_isLatin1_aae02_3 : decode cJ0_isLatin1_aae02 3 = .ok (.ifCond .eq 14, 3) := by decide +kernel
theorem dJ0_isLatin1_aae02_6 : decode cJ0_isLatin1_aae02 6 = .ok (.aload_n 0, 1) := by decide +kernel
theorem dJ0_isLatin1_aae02_7 : decode cJ0_isLatin1_aae02 7 = .ok (.getfield 15, 3) := by decide +kernel
theorem dJ0_isLatin1_aae02_10 : decode cJ0_isLatin1_aae02 10 = .ok (.ifCond .ne 7, 3) := by decide +kernel
theorem dJ0_isLatin1_aae02_13 : decode cJ0_isLatin1_aae02 13 = .ok (.iconst 1, 1) := by decide +kernel
theorem dJ0_isLatin1_aae02_14 : decode cJ0_isLatin1_aae02 14 = .ok (.goto 4, 3) := by decide +kernel
theorem dJ0_isLatin1_aae02_17 : decode cJ0_isLatin1_aae02 17 = .ok (.iconst 0, 1) := by decide +kernel
theorem dJ0_isLatin1_aae02_18 : decode cJ0_isLatin1_aae02 18 = .ok (.ireturn, 1) := by decide +kernel
theorem dJ0_checkIndex_df160_0 : decode cJ0_checkIndex_df160 0 = .ok (.iload_n 0, 1) := by decide +kernel
theorem dJ0_checkIndex_df160_1 : decode cJ0_checkIndex_df160 1 = .ok (.iload_n 1, 1) := by decide +kernel
theorem dJ0_checkIndex_df160_2 : decode cJ0_checkIndex_df160 2 = .ok (.getstatic 1053, 3) := by decide +kernel
theorem dJ0_checkIndex_df160_5 : decode cJ0_checkIndex_df160 5 = .ok (.invokestatic 1059, 3) := by decide +kernel
theorem dJ0_checkIndex_df160_8 : decode cJ0_checkIndex_df160 8 = .ok (.pop, 1) := by decide +kernel
theorem dJ0_checkIndex_df160_9 : decode cJ0_checkIndex_df160 9 = .ok (.return_, 1) := by decide +kernel
theorem dJ1_charAt_3b067_0 : decode cJ1_charAt_3b067 0 = .ok (.iload_n 1, 1) := by decide +kernel
theorem dJ1_charAt_3b067_1 : decode cJ1_charAt_3b067 1 = .ok (.aload_n 0, 1) := by decide +kernel
theorem dJ1_charAt_3b067_2 : decode cJ1_charAt_3b067 2 = .ok (.arraylength, 1) := by decide +kernel
theorem dJ1_charAt_3b067_3 : decode cJ1_charAt_3b067 3 = .ok (.invokestatic 9, 3) := by decide +kernel
theorem dJ1_charAt_3b067_6 : decode cJ1_charAt_3b067 6 = .ok (.aload_n 0, 1) := by decide +kernel
theorem dJ1_charAt_3b067_7 : decode cJ1_charAt_3b067 7 = .ok (.iload_n 1, 1) := by decide +kernel
theorem dJ1_charAt_3b067_8 : decode cJ1_charAt_3b067 8 = .ok (.baload, 1) := by decide +kernel
theorem dJ1_charAt_3b067_9 : decode cJ1_charAt_3b067 9 = .ok (.sipush 255, 3) := by decide +kernel
theorem dJ1_charAt_3b067_12 : decode cJ1_charAt_3b067 12 = .ok (.iand, 1) := by decide +kernel
theorem dJ1_charAt_3b067_13 : decode cJ1_charAt_3b067 13 = .ok (.i2c, 1) := by decide +kernel
theorem dJ1_charAt_3b067_14 : decode cJ1_charAt_3b067 14 = .ok (.ireturn, 1) := by decide +kernel
theorem dJ2_getChar_3b067_0 : decode cJ2_getChar_3b067 0 = .ok (.getstatic 44, 3) := by decide +kernel
theorem dJ2_getChar_3b067_3 : decode cJ2_getChar_3b067 3 = .ok (.ifCond .ne 25, 3) := by decide +kernel
theorem dJ2_getChar_3b067_6 : decode cJ2_getChar_3b067 6 = .ok (.iload_n 1, 1) := by decide +kernel
theorem dJ2_getChar_3b067_7 : decode cJ2_getChar_3b067 7 = .ok (.ifCond .lt 11, 3) := by decide +kernel
theorem dJ2_getChar_3b067_10 : decode cJ2_getChar_3b067 10 = .ok (.iload_n 1, 1) := by decide +kernel
theorem dJ2_getChar_3b067_11 : decode cJ2_getChar_3b067 11 = .ok (.aload_n 0, 1) := by decide +kernel
theorem dJ2_getChar_3b067_12 : decode cJ2_getChar_3b067 12 = .ok (.invokestatic 48, 3) := by decide +kernel
theorem dJ2_getChar_3b067_15 : decode cJ2_getChar_3b067 15 = .ok (.if_icmp .lt 13, 3) := by decide +kernel
theorem dJ2_getChar_3b067_18 : decode cJ2_getChar_3b067 18 = .ok (.new 52, 3) := by decide +kernel
theorem dJ2_getChar_3b067_21 : decode cJ2_getChar_3b067 21 = .ok (.dup, 1) := by decide +kernel
theorem dJ2_getChar_3b067_22 : decode cJ2_getChar_3b067 22 = .ok (.ldc 54, 2) := by decide +kernel
theorem dJ2_getChar_3b067_24 : decode cJ2_getChar_3b067 24 = .ok (.invokespecial 56, 3) := by decide +kernel
theorem dJ2_getChar_3b067_27 : decode cJ2_getChar_3b067 27 = .ok (.athrow, 1) := by decide +kernel
theorem dJ2_getChar_3b067_28 : decode cJ2_getChar_3b067 28 = .ok (.iload_n 1, 1) := by decide +kernel
theorem dJ2_getChar_3b067_29 : decode cJ2_getChar_3b067 29 = .ok (.iconst 1, 1) := by decide +kernel
theorem dJ2_getChar_3b067_30 : decode cJ2_getChar_3b067 30 = .ok (.ishl, 1) := by decide +kernel
theorem dJ2_getChar_3b067_31 : decode cJ2_getChar_3b067 31 = .ok (.istore_n 1, 1) := by decide +kernel
theorem dJ2_getChar_3b067_32 : decode cJ2_getChar_3b067 32 = .ok (.aload_n 0, 1) := by decide +kernel
theorem dJ2_getChar_3b067_33 : decode cJ2_getChar_3b067 33 = .ok (.iload_n 1, 1) := by decide +kernel
theorem dJ2_getChar_3b067_34 : decode cJ2_getChar_3b067 34 = .ok (.iinc 1 1, 3) := by decide +kernel
theorem dJ2_getChar_3b067_37 : decode cJ2_getChar_3b067 37 = .ok (.baload, 1) := by decide +kernel
theorem dJ2_getChar_3b067_38 : decode cJ2_getChar_3b067 38 = .ok (.sipush 255, 3) := by decide +kernel
theorem dJ2_getChar_3b067_41 : decode cJ2_getChar_3b067 41 = .ok (.iand, 1) := by decide +kernel
theorem dJ2_getChar_3b067_42 : decode cJ2_getChar_3b067 42 = .ok (.getstatic 59, 3) := by decide +kernel
theorem dJ2_getChar_3b067_45 : decode cJ2_getChar_3b067 45 = .ok (.ishl, 1) := by decide +kernel
theorem dJ2_getChar_3b067_46 : decode cJ2_getChar_3b067 46 = .ok (.aload_n 0, 1) := by decide +kernel
theorem dJ2_getChar_3b067_47 : decode cJ2_getChar_3b067 47 = .ok (.iload_n 1, 1) := by decide +kernel
theorem dJ2_getChar_3b067_48 : decode cJ2_getChar_3b067 48 = .ok (.baload, 1) := by decide +kernel
theorem dJ2_getChar_3b067_49 : decode cJ2_getChar_3b067 49 = .ok (.sipush 255, 3) := by decide +kernel
theorem dJ2_getChar_3b067_52 : decode cJ2_getChar_3b067 52 = .ok (.iand, 1) := by decide +kernel
theorem dJ2_getChar_3b067_53 : decode cJ2_getChar_3b067 53 = .ok (.getstatic 63, 3) := by decide +kernel
theorem dJ2_getChar_3b067_56 : decode cJ2_getChar_3b067 56 = .ok (.ishl, 1) := by decide +kernel
theorem dJ2_getChar_3b067_57 : decode cJ2_getChar_3b067 57 = .ok (.ior, 1) := by decide +kernel
theorem dJ2_getChar_3b067_58 : decode cJ2_getChar_3b067 58 = .ok (.i2c, 1) := by decide +kernel
theorem dJ2_getChar_3b067_59 : decode cJ2_getChar_3b067 59 = .ok (.ireturn, 1) := by decide +kernel
theorem dJ2_length_9d52b_0 : decode cJ2_length_9d52b 0 = .ok (.aload_n 0, 1) := by decide +kernel
theorem dJ2_length_9d52b_1 : decode cJ2_length_9d52b 1 = .ok (.arraylength, 1) := by decide +kernel
theorem dJ2_length_9d52b_2 : decode cJ2_length_9d52b 2 = .ok (.iconst 1, 1) := by decide +kernel
theorem dJ2_length_9d52b_3 : decode cJ2_length_9d52b 3 = .ok (.ishr, 1) := by decide +kernel
theorem dJ2_length_9d52b_4 : decode cJ2_length_9d52b 4 = .ok (.ireturn, 1) := by decide +kernel
theorem dJ2_charAt_3b067_0 : decode cJ2_charAt_3b067 0 = .ok (.iload_n 1, 1) := by decide +kernel
theorem dJ2_charAt_3b067_1 : decode cJ2_charAt_3b067 1 = .ok (.aload_n 0, 1) := by decide +kernel
theorem dJ2_charAt_3b067_2 : decode cJ2_charAt_3b067 2 = .ok (.invokestatic 67, 3) := by decide +kernel
theorem dJ2_charAt_3b067_5 : decode cJ2_charAt_3b067 5 = .ok (.aload_n 0, 1) := by decide +kernel
theorem dJ2_charAt_3b067_6 : decode cJ2_charAt_3b067 6 = .ok (.iload_n 1, 1) := by decide +kernel
theorem dJ2_charAt_3b067_7 : decode cJ2_charAt_3b067 7 = .ok (.invokestatic 71, 3) := by decide +kernel
theorem dJ2_charAt_3b067_10 : decode cJ2_charAt_3b067 10 = .ok (.ireturn, 1) := by decide +kernel
theorem dJ2_checkIndex_2214a_0 : decode cJ2_checkIndex_2214a 0 = .ok (.iload_n 0, 1) := by decide +kernel
theorem dJ2_checkIndex_2214a_1 : decode cJ2_checkIndex_2214a 1 = .ok (.aload_n 1, 1) := by decide +kernel
theorem dJ2_checkIndex_2214a_2 : decode cJ2_checkIndex_2214a 2 = .ok (.invokestatic 48, 3) := by decide +kernel
theorem dJ2_checkIndex_2214a_5 : decode cJ2_checkIndex_2214a 5 = .ok (.invokestatic 414, 3) := by decide +kernel
theorem dJ2_checkIndex_2214a_8 : decode cJ2_checkIndex_2214a 8 = .ok (.return_, 1) := by decide +kernel
theorem dJ3_checkIndex_8e157_0 : decode cJ3_checkIndex_8e157 0 = .ok (.iload_n 0, 1) := by decide +kernel
theorem dJ3_checkIndex_8e157_1 : decode cJ3_checkIndex_8e157 1 = .ok (.ifCond .lt 8, 3) := by decide +kernel
theorem dJ3_checkIndex_8e157_4 : decode cJ3_checkIndex_8e157 4 = .ok (.iload_n 0, 1) := by decide +kernel
theorem dJ3_checkIndex_8e157_5 : decode cJ3_checkIndex_8e157 5 = .ok (.iload_n 1, 1) := by decide +kernel
theorem dJ3_checkIndex_8e157_6 : decode cJ3_checkIndex_8e157 6 = .ok (.if_icmp .lt 10, 3) := by decide +kernel
theorem dJ3_checkIndex_8e157_9 : decode cJ3_checkIndex_8e157 9 = .ok (.aload_n 2, 1) := by decide +kernel
theorem dJ3_checkIndex_8e157_10 : decode cJ3_checkIndex_8e157 10 = .ok (.iload_n 0, 1) := by decide +kernel
theorem dJ3_checkIndex_8e157_11 : decode cJ3_checkIndex_8e157 11 = .ok (.iload_n 1, 1) := by decide +kernel
theorem dJ3_checkIndex_8e157_12 : decode cJ3_checkIndex_8e157 12 = .ok (.invokestatic 95, 3) := by decide +kernel
theorem dJ3_checkIndex_8e157_15 : decode cJ3_checkIndex_8e157 15 = .ok (.athrow, 1) := by decide +kernel
theorem dJ3_checkIndex_8e157_16 : decode cJ3_checkIndex_8e157 16 = .ok (.iload_n 0, 1) := by decide +kernel
theorem dJ3_checkIndex_8e157_17 : decode cJ3_checkIndex_8e157 17 = .ok (.ireturn, 1) := by decide +kernel
theorem dL_law_0 : decode cL_law 0 = .ok (.new 7, 3) := by decide +kernel
theorem dL_law_3 : decode cL_law 3 = .ok (.dup, 1) := by decide +kernel
theorem dL_law_4 : decode cL_law 4 = .ok (.invokespecial 9, 3) := by decide +kernel
theorem dL_law_7 : decode cL_law 7 = .ok (.astore_n 1, 1) := by decide +kernel
theorem dL_law_8 : decode cL_law 8 = .ok (.new 10, 3) := by decide +kernel
theorem dL_law_11 : decode cL_law 11 = .ok (.dup, 1) := by decide +kernel
theorem dL_law_12 : decode cL_law 12 = .ok (.invokespecial 12, 3) := by decide +kernel
theorem dL_law_15 : decode cL_law 15 = .ok (.astore_n 2, 1) := by decide +kernel
theorem dL_law_16 : decode cL_law 16 = .ok (.iconst 0, 1) := by decide +kernel
theorem dL_law_17 : decode cL_law 17 = .ok (.istore_n 3, 1) := by decide +kernel
theorem dL_law_18 : decode cL_law 18 = .ok (.iload_n 3, 1) := by decide +kernel
theorem dL_law_19 : decode cL_law 19 = .ok (.aload_n 0, 1) := by decide +kernel
theorem dL_law_20 : decode cL_law 20 = .ok (.arraylength, 1) := by decide +kernel
theorem dL_law_21 : decode cL_law 21 = .ok (.iconst 4, 1) := by decide +kernel
theorem dL_law_22 : decode cL_law 22 = .ok (.isub, 1) := by decide +kernel
theorem dL_law_23 : decode cL_law 23 = .ok (.if_icmp .gt 854, 3) := by decide +kernel
theorem dL_law_26 : decode cL_law 26 = .ok (.aload_n 0, 1) := by decide +kernel
theorem dL_law_27 : decode cL_law 27 = .ok (.iload_n 3, 1) := by decide +kernel
theorem dL_law_28 : decode cL_law 28 = .ok (.iaload, 1) := by decide +kernel
theorem dL_law_29 : decode cL_law 29 = .ok (.bipush 31, 2) := by decide +kernel
theorem dL_law_31 : decode cL_law 31 = .ok (.iand, 1) := by decide +kernel
theorem dL_law_32 : decode cL_law 32 = .ok (.tableswitch 839 0 25 #[120, 183, 196, 209, 242, 275, 308, 341, 374, 397, 410, 433, 456, 479, 522, 545, 568, 601, 634, 657, 690, 723, 756, 779, 802, 825], 120) := by decide +kernel
theorem dL_law_152 : decode cL_law 152 = .ok (.aload_n 1, 1) := by decide +kernel
theorem dL_law_153 : decode cL_law 153 = .ok (.aload_n 0, 1) := by decide +kernel
theorem dL_law_154 : decode cL_law 154 = .ok (.iload_n 3, 1) := by decide +kernel
theorem dL_law_155 : decode cL_law 155 = .ok (.iconst 1, 1) := by decide +kernel
theorem dL_law_156 : decode cL_law 156 = .ok (.iadd, 1) := by decide +kernel
theorem dL_law_157 : decode cL_law 157 = .ok (.iaload, 1) := by decide +kernel
theorem dL_law_158 : decode cL_law 158 = .ok (.i2l, 1) := by decide +kernel
theorem dL_law_159 : decode cL_law 159 = .ok (.bipush 32, 2) := by decide +kernel
theorem dL_law_161 : decode cL_law 161 = .ok (.lshl, 1) := by decide +kernel
theorem dL_law_162 : decode cL_law 162 = .ok (.aload_n 0, 1) := by decide +kernel
theorem dL_law_163 : decode cL_law 163 = .ok (.iload_n 3, 1) := by decide +kernel
theorem dL_law_164 : decode cL_law 164 = .ok (.iconst 2, 1) := by decide +kernel
theorem dL_law_165 : decode cL_law 165 = .ok (.iadd, 1) := by decide +kernel
theorem dL_law_166 : decode cL_law 166 = .ok (.iaload, 1) := by decide +kernel
theorem dL_law_167 : decode cL_law 167 = .ok (.i2l, 1) := by decide +kernel
theorem dL_law_168 : decode cL_law 168 = .ok (.ldc2_w 13, 3) := by decide +kernel
theorem dL_law_171 : decode cL_law 171 = .ok (.land, 1) := by decide +kernel
theorem dL_law_172 : decode cL_law 172 = .ok (.lor, 1) := by decide +kernel
theorem dL_law_173 : decode cL_law 173 = .ok (.aload_n 0, 1) := by decide +kernel
theorem dL_law_174 : decode cL_law 174 = .ok (.iload_n 3, 1) := by decide +kernel
theorem dL_law_175 : decode cL_law 175 = .ok (.iconst 3, 1) := by decide +kernel
theorem dL_law_176 : decode cL_law 176 = .ok (.iadd, 1) := by decide +kernel
theorem dL_law_177 : decode cL_law 177 = .ok (.iaload, 1) := by decide +kernel
theorem dL_law_178 : decode cL_law 178 = .ok (.invokevirtual 15, 3) := by decide +kernel
theorem dL_law_181 : decode cL_law 181 = .ok (.aload_n 2, 1) := by decide +kernel
theorem dL_law_182 : decode cL_law 182 = .ok (.aload_n 0, 1) := by decide +kernel
theorem dL_law_183 : decode cL_law 183 = .ok (.iload_n 3, 1) := by decide +kernel
theorem dL_law_184 : decode cL_law 184 = .ok (.iconst 1, 1) := by decide +kernel
theorem dL_law_185 : decode cL_law 185 = .ok (.iadd, 1) := by decide +kernel
theorem dL_law_186 : decode cL_law 186 = .ok (.iaload, 1) := by decide +kernel
theorem dL_law_187 : decode cL_law 187 = .ok (.i2l, 1) := by decide +kernel
theorem dL_law_188 : decode cL_law 188 = .ok (.bipush 32, 2) := by decide +kernel
theorem dL_law_190 : decode cL_law 190 = .ok (.lshl, 1) := by decide +kernel
theorem dL_law_191 : decode cL_law 191 = .ok (.aload_n 0, 1) := by decide +kernel
theorem dL_law_192 : decode cL_law 192 = .ok (.iload_n 3, 1) := by decide +kernel
theorem dL_law_193 : decode cL_law 193 = .ok (.iconst 2, 1) := by decide +kernel
theorem dL_law_194 : decode cL_law 194 = .ok (.iadd, 1) := by decide +kernel
theorem dL_law_195 : decode cL_law 195 = .ok (.iaload, 1) := by decide +kernel
theorem dL_law_196 : decode cL_law 196 = .ok (.i2l, 1) := by decide +kernel
theorem dL_law_197 : decode cL_law 197 = .ok (.ldc2_w 13, 3) := by decide +kernel
theorem dL_law_200 : decode cL_law 200 = .ok (.land, 1) := by decide +kernel
theorem dL_law_201 : decode cL_law 201 = .ok (.lor, 1) := by decide +kernel
theorem dL_law_202 : decode cL_law 202 = .ok (.aload_n 0, 1) := by decide +kernel
theorem dL_law_203 : decode cL_law 203 = .ok (.iload_n 3, 1) := by decide +kernel
theorem dL_law_204 : decode cL_law 204 = .ok (.iconst 3, 1) := by decide +kernel
theorem dL_law_205 : decode cL_law 205 = .ok (.iadd, 1) := by decide +kernel
theorem dL_law_206 : decode cL_law 206 = .ok (.iaload, 1) := by decide +kernel
theorem dL_law_207 : decode cL_law 207 = .ok (.invokevirtual 19, 3) := by decide +kernel
theorem dL_law_210 : decode cL_law 210 = .ok (.if_icmp .eq 661, 3) := by decide +kernel
theorem dL_law_213 : decode cL_law 213 = .ok (.iconst 0, 1) := by decide +kernel
theorem dL_law_214 : decode cL_law 214 = .ok (.ireturn, 1) := by decide +kernel
theorem dL_law_215 : decode cL_law 215 = .ok (.aload_n 1, 1) := by decide +kernel
theorem dL_law_216 : decode cL_law 216 = .ok (.invokevirtual 20, 3) := by decide +kernel
theorem dL_law_219 : decode cL_law 219 = .ok (.aload_n 2, 1) := by decide +kernel
theorem dL_law_220 : decode cL_law 220 = .ok (.invokevirtual 24, 3) := by decide +kernel
theorem dL_law_223 : decode cL_law 223 = .ok (.if_icmp .eq 648, 3) := by decide +kernel
theorem dL_law_226 : decode cL_law 226 = .ok (.iconst 0, 1) := by decide +kernel
theorem dL_law_227 : decode cL_law 227 = .ok (.ireturn, 1) := by decide +kernel
theorem dL_law_228 : decode cL_law 228 = .ok (.aload_n 1, 1) := by decide +kernel
theorem dL_law_229 : decode cL_law 229 = .ok (.invokevirtual 25, 3) := by decide +kernel
theorem dL_law_232 : decode cL_law 232 = .ok (.aload_n 2, 1) := by decide +kernel
theorem dL_law_233 : decode cL_law 233 = .ok (.invokevirtual 28, 3) := by decide +kernel
theorem dL_law_236 : decode cL_law 236 = .ok (.if_icmp .eq 635, 3) := by decide +kernel
theorem dL_law_239 : decode cL_law 239 = .ok (.iconst 0, 1) := by decide +kernel
theorem dL_law_240 : decode cL_law 240 = .ok (.ireturn, 1) := by decide +kernel
theorem dL_law_241 : decode cL_law 241 = .ok (.aload_n 1, 1) := by decide +kernel
theorem dL_law_242 : decode cL_law 242 = .ok (.aload_n 0, 1) := by decide +kernel
theorem dL_law_243 : decode cL_law 243 = .ok (.iload_n 3, 1) := by decide +kernel
theorem dL_law_244 : decode cL_law 244 = .ok (.iconst 1, 1) := by decide +kernel
theorem dL_law_245 : decode cL_law 245 = .ok (.iadd, 1) := by decide +kernel
theorem dL_law_246 : decode cL_law 246 = .ok (.iaload, 1) := by decide +kernel
theorem dL_law_247 : decode cL_law 247 = .ok (.aload_n 0, 1) := by decide +kernel
theorem dL_law_248 : decode cL_law 248 = .ok (.iload_n 3, 1) := by decide +kernel
theorem dL_law_249 : decode cL_law 249 = .ok (.iconst 2, 1) := by decide +kernel
theorem dL_law_250 : decode cL_law 250 = .ok (.iadd, 1) := by decide +kernel
theorem dL_law_251 : decode cL_law 251 = .ok (.iaload, 1) := by decide +kernel
theorem dL_law_252 : decode cL_law 252 = .ok (.invokevirtual 29, 3) := by decide +kernel
theorem dL_law_255 : decode cL_law 255 = .ok (.aload_n 2, 1) := by decide +kernel
theorem dL_law_256 : decode cL_law 256 = .ok (.aload_n 0, 1) := by decide +kernel
theorem dL_law_257 : decode cL_law 257 = .ok (.iload_n 3, 1) := by decide +kernel
theorem dL_law_258 : decode cL_law 258 = .ok (.iconst 1, 1) := by decide +kernel
theorem dL_law_259 : decode cL_law 259 = .ok (.iadd, 1) := by decide +kernel
theorem dL_law_260 : decode cL_law 260 = .ok (.iaload, 1) := by decide +kernel
theorem dL_law_261 : decode cL_law 261 = .ok (.aload_n 0, 1) := by decide +kernel
theorem dL_law_262 : decode cL_law 262 = .ok (.iload_n 3, 1) := by decide +kernel
theorem dL_law_263 : decode cL_law 263 = .ok (.iconst 2, 1) := by decide +kernel
theorem dL_law_264 : decode cL_law 264 = .ok (.iadd, 1) := by decide +kernel
theorem dL_law_265 : decode cL_law 265 = .ok (.iaload, 1) := by decide +kernel
theorem dL_law_266 : decode cL_law 266 = .ok (.invokevirtual 33, 3) := by decide +kernel
theorem dL_law_269 : decode cL_law 269 = .ok (.if_icmp .eq 602, 3) := by decide +kernel
theorem dL_law_272 : decode cL_law 272 = .ok (.iconst 0, 1) := by decide +kernel
theorem dL_law_273 : decode cL_law 273 = .ok (.ireturn, 1) := by decide +kernel
theorem dL_law_274 : decode cL_law 274 = .ok (.aload_n 1, 1) := by decide +kernel
theorem dL_law_275 : decode cL_law 275 = .ok (.aload_n 0, 1) := by decide +kernel
theorem dL_law_276 : decode cL_law 276 = .ok (.iload_n 3, 1) := by decide +kernel
theorem dL_law_277 : decode cL_law 277 = .ok (.iconst 1, 1) := by decide +kernel
theorem dL_law_278 : decode cL_law 278 = .ok (.iadd, 1) := by decide +kernel
theorem dL_law_279 : decode cL_law 279 = .ok (.iaload, 1) := by decide +kernel
theorem dL_law_280 : decode cL_law 280 = .ok (.aload_n 0, 1) := by decide +kernel
theorem dL_law_281 : decode cL_law 281 = .ok (.iload_n 3, 1) := by decide +kernel
theorem dL_law_282 : decode cL_law 282 = .ok (.iconst 2, 1) := by decide +kernel
theorem dL_law_283 : decode cL_law 283 = .ok (.iadd, 1) := by decide +kernel
theorem dL_law_284 : decode cL_law 284 = .ok (.iaload, 1) := by decide +kernel
theorem dL_law_285 : decode cL_law 285 = .ok (.invokevirtual 34, 3) := by decide +kernel
theorem dL_law_288 : decode cL_law 288 = .ok (.aload_n 2, 1) := by decide +kernel
theorem dL_law_289 : decode cL_law 289 = .ok (.aload_n 0, 1) := by decide +kernel
theorem dL_law_290 : decode cL_law 290 = .ok (.iload_n 3, 1) := by decide +kernel
theorem dL_law_291 : decode cL_law 291 = .ok (.iconst 1, 1) := by decide +kernel
theorem dL_law_292 : decode cL_law 292 = .ok (.iadd, 1) := by decide +kernel
theorem dL_law_293 : decode cL_law 293 = .ok (.iaload, 1) := by decide +kernel
theorem dL_law_294 : decode cL_law 294 = .ok (.aload_n 0, 1) := by decide +kernel
theorem dL_law_295 : decode cL_law 295 = .ok (.iload_n 3, 1) := by decide +kernel
theorem dL_law_296 : decode cL_law 296 = .ok (.iconst 2, 1) := by decide +kernel
theorem dL_law_297 : decode cL_law 297 = .ok (.iadd, 1) := by decide +kernel
theorem dL_law_298 : decode cL_law 298 = .ok (.iaload, 1) := by decide +kernel
theorem dL_law_299 : decode cL_law 299 = .ok (.invokevirtual 37, 3) := by decide +kernel
theorem dL_law_302 : decode cL_law 302 = .ok (.if_icmp .eq 569, 3) := by decide +kernel
theorem dL_law_305 : decode cL_law 305 = .ok (.iconst 0, 1) := by decide +kernel
theorem dL_law_306 : decode cL_law 306 = .ok (.ireturn, 1) := by decide +kernel
theorem dL_law_307 : decode cL_law 307 = .ok (.aload_n 1, 1) := by decide +kernel
theorem dL_law_308 : decode cL_law 308 = .ok (.aload_n 0, 1) := by decide +kernel
theorem dL_law_309 : decode cL_law 309 = .ok (.iload_n 3, 1) := by decide +kernel
theorem dL_law_310 : decode cL_law 310 = .ok (.iconst 1, 1) := by decide +kernel
theorem dL_law_311 : decode cL_law 311 = .ok (.iadd, 1) := by decide +kernel
theorem dL_law_312 : decode cL_law 312 = .ok (.iaload, 1) := by decide +kernel
theorem dL_law_313 : decode cL_law 313 = .ok (.aload_n 0, 1) := by decide +kernel
theorem dL_law_314 : decode cL_law 314 = .ok (.iload_n 3, 1) := by decide +kernel
theorem dL_law_315 : decode cL_law 315 = .ok (.iconst 2, 1) := by decide +kernel
theorem dL_law_316 : decode cL_law 316 = .ok (.iadd, 1) := by decide +kernel
theorem dL_law_317 : decode cL_law 317 = .ok (.iaload, 1) := by decide +kernel
theorem dL_law_318 : decode cL_law 318 = .ok (.invokevirtual 38, 3) := by decide +kernel
theorem dL_law_321 : decode cL_law 321 = .ok (.aload_n 2, 1) := by decide +kernel
theorem dL_law_322 : decode cL_law 322 = .ok (.aload_n 0, 1) := by decide +kernel
theorem dL_law_323 : decode cL_law 323 = .ok (.iload_n 3, 1) := by decide +kernel
theorem dL_law_324 : decode cL_law 324 = .ok (.iconst 1, 1) := by decide +kernel
theorem dL_law_325 : decode cL_law 325 = .ok (.iadd, 1) := by decide +kernel
theorem dL_law_326 : decode cL_law 326 = .ok (.iaload, 1) := by decide +kernel
theorem dL_law_327 : decode cL_law 327 = .ok (.aload_n 0, 1) := by decide +kernel
theorem dL_law_328 : decode cL_law 328 = .ok (.iload_n 3, 1) := by decide +kernel
theorem dL_law_329 : decode cL_law 329 = .ok (.iconst 2, 1) := by decide +kernel
theorem dL_law_330 : decode cL_law 330 = .ok (.iadd, 1) := by decide +kernel
theorem dL_law_331 : decode cL_law 331 = .ok (.iaload, 1) := by decide +kernel
theorem dL_law_332 : decode cL_law 332 = .ok (.invokevirtual 41, 3) := by decide +kernel
theorem dL_law_335 : decode cL_law 335 = .ok (.if_icmp .eq 536, 3) := by decide +kernel
theorem dL_law_338 : decode cL_law 338 = .ok (.iconst 0, 1) := by decide +kernel
theorem dL_law_339 : decode cL_law 339 = .ok (.ireturn, 1) := by decide +kernel
theorem dL_law_340 : decode cL_law 340 = .ok (.aload_n 1, 1) := by decide +kernel
theorem dL_law_341 : decode cL_law 341 = .ok (.aload_n 0, 1) := by decide +kernel
theorem dL_law_342 : decode cL_law 342 = .ok (.iload_n 3, 1) := by decide +kernel
theorem dL_law_343 : decode cL_law 343 = .ok (.iconst 1, 1) := by decide +kernel
theorem dL_law_344 : decode cL_law 344 = .ok (.iadd, 1) := by decide +kernel
theorem dL_law_345 : decode cL_law 345 = .ok (.iaload, 1) := by decide +kernel
theorem dL_law_346 : decode cL_law 346 = .ok (.aload_n 0, 1) := by decide +kernel
theorem dL_law_347 : decode cL_law 347 = .ok (.iload_n 3, 1) := by decide +kernel
theorem dL_law_348 : decode cL_law 348 = .ok (.iconst 2, 1) := by decide +kernel
theorem dL_law_349 : decode cL_law 349 = .ok (.iadd, 1) := by decide +kernel
theorem dL_law_350 : decode cL_law 350 = .ok (.iaload, 1) := by decide +kernel
theorem dL_law_351 : decode cL_law 351 = .ok (.invokevirtual 42, 3) := by decide +kernel
theorem dL_law_354 : decode cL_law 354 = .ok (.aload_n 2, 1) := by decide +kernel
theorem dL_law_355 : decode cL_law 355 = .ok (.aload_n 0, 1) := by decide +kernel
theorem dL_law_356 : decode cL_law 356 = .ok (.iload_n 3, 1) := by decide +kernel
theorem dL_law_357 : decode cL_law 357 = .ok (.iconst 1, 1) := by decide +kernel
theorem dL_law_358 : decode cL_law 358 = .ok (.iadd, 1) := by decide +kernel
theorem dL_law_359 : decode cL_law 359 = .ok (.iaload, 1) := by decide +kernel
theorem dL_law_360 : decode cL_law 360 = .ok (.aload_n 0, 1) := by decide +kernel
theorem dL_law_361 : decode cL_law 361 = .ok (.iload_n 3, 1) := by decide +kernel
theorem dL_law_362 : decode cL_law 362 = .ok (.iconst 2, 1) := by decide +kernel
theorem dL_law_363 : decode cL_law 363 = .ok (.iadd, 1) := by decide +kernel
theorem dL_law_364 : decode cL_law 364 = .ok (.iaload, 1) := by decide +kernel
theorem dL_law_365 : decode cL_law 365 = .ok (.invokevirtual 45, 3) := by decide +kernel
theorem dL_law_368 : decode cL_law 368 = .ok (.if_icmp .eq 503, 3) := by decide +kernel
theorem dL_law_371 : decode cL_law 371 = .ok (.iconst 0, 1) := by decide +kernel
theorem dL_law_372 : decode cL_law 372 = .ok (.ireturn, 1) := by decide +kernel
theorem dL_law_373 : decode cL_law 373 = .ok (.aload_n 1, 1) := by decide +kernel
theorem dL_law_374 : decode cL_law 374 = .ok (.aload_n 0, 1) := by decide +kernel
theorem dL_law_375 : decode cL_law 375 = .ok (.iload_n 3, 1) := by decide +kernel
theorem dL_law_376 : decode cL_law 376 = .ok (.iconst 1, 1) := by decide +kernel
theorem dL_law_377 : decode cL_law 377 = .ok (.iadd, 1) := by decide +kernel
theorem dL_law_378 : decode cL_law 378 = .ok (.iaload, 1) := by decide +kernel
theorem dL_law_379 : decode cL_law 379 = .ok (.aload_n 0, 1) := by decide +kernel
theorem dL_law_380 : decode cL_law 380 = .ok (.iload_n 3, 1) := by decide +kernel
theorem dL_law_381 : decode cL_law 381 = .ok (.iconst 2, 1) := by decide +kernel
theorem dL_law_382 : decode cL_law 382 = .ok (.iadd, 1) := by decide +kernel
theorem dL_law_383 : decode cL_law 383 = .ok (.iaload, 1) := by decide +kernel
theorem dL_law_384 : decode cL_law 384 = .ok (.invokevirtual 46, 3) := by decide +kernel
theorem dL_law_387 : decode cL_law 387 = .ok (.aload_n 2, 1) := by decide +kernel
theorem dL_law_388 : decode cL_law 388 = .ok (.aload_n 0, 1) := by decide +kernel
theorem dL_law_389 : decode cL_law 389 = .ok (.iload_n 3, 1) := by decide +kernel
theorem dL_law_390 : decode cL_law 390 = .ok (.iconst 1, 1) := by decide +kernel
theorem dL_law_391 : decode cL_law 391 = .ok (.iadd, 1) := by decide +kernel
theorem dL_law_392 : decode cL_law 392 = .ok (.iaload, 1) := by decide +kernel
theorem dL_law_393 : decode cL_law 393 = .ok (.aload_n 0, 1) := by decide +kernel
theorem dL_law_394 : decode cL_law 394 = .ok (.iload_n 3, 1) := by decide +kernel
theorem dL_law_395 : decode cL_law 395 = .ok (.iconst 2, 1) := by decide +kernel
theorem dL_law_396 : decode cL_law 396 = .ok (.iadd, 1) := by decide +kernel
theorem dL_law_397 : decode cL_law 397 = .ok (.iaload, 1) := by decide +kernel
theorem dL_law_398 : decode cL_law 398 = .ok (.invokevirtual 49, 3) := by decide +kernel
theorem dL_law_401 : decode cL_law 401 = .ok (.if_icmp .eq 470, 3) := by decide +kernel
theorem dL_law_404 : decode cL_law 404 = .ok (.iconst 0, 1) := by decide +kernel
theorem dL_law_405 : decode cL_law 405 = .ok (.ireturn, 1) := by decide +kernel
theorem dL_law_406 : decode cL_law 406 = .ok (.aload_n 1, 1) := by decide +kernel
theorem dL_law_407 : decode cL_law 407 = .ok (.aload_n 0, 1) := by decide +kernel
theorem dL_law_408 : decode cL_law 408 = .ok (.iload_n 3, 1) := by decide +kernel
theorem dL_law_409 : decode cL_law 409 = .ok (.iconst 1, 1) := by decide +kernel
theorem dL_law_410 : decode cL_law 410 = .ok (.iadd, 1) := by decide +kernel
theorem dL_law_411 : decode cL_law 411 = .ok (.iaload, 1) := by decide +kernel
theorem dL_law_412 : decode cL_law 412 = .ok (.invokevirtual 50, 3) := by decide +kernel
theorem dL_law_415 : decode cL_law 415 = .ok (.aload_n 2, 1) := by decide +kernel
theorem dL_law_416 : decode cL_law 416 = .ok (.aload_n 0, 1) := by decide +kernel
theorem dL_law_417 : decode cL_law 417 = .ok (.iload_n 3, 1) := by decide +kernel
theorem dL_law_418 : decode cL_law 418 = .ok (.iconst 1, 1) := by decide +kernel
theorem dL_law_419 : decode cL_law 419 = .ok (.iadd, 1) := by decide +kernel
theorem dL_law_420 : decode cL_law 420 = .ok (.iaload, 1) := by decide +kernel
theorem dL_law_421 : decode cL_law 421 = .ok (.invokevirtual 54, 3) := by decide +kernel
theorem dL_law_424 : decode cL_law 424 = .ok (.if_icmp .eq 447, 3) := by decide +kernel
theorem dL_law_427 : decode cL_law 427 = .ok (.iconst 0, 1) := by decide +kernel
theorem dL_law_428 : decode cL_law 428 = .ok (.ireturn, 1) := by decide +kernel
theorem dL_law_429 : decode cL_law 429 = .ok (.aload_n 1, 1) := by decide +kernel
theorem dL_law_430 : decode cL_law 430 = .ok (.invokevirtual 55, 3) := by decide +kernel
theorem dL_law_433 : decode cL_law 433 = .ok (.aload_n 2, 1) := by decide +kernel
theorem dL_law_434 : decode cL_law 434 = .ok (.invokevirtual 58, 3) := by decide +kernel
theorem dL_law_437 : decode cL_law 437 = .ok (.if_icmp .eq 434, 3) := by decide +kernel
theorem dL_law_440 : decode cL_law 440 = .ok (.iconst 0, 1) := by decide +kernel
theorem dL_law_441 : decode cL_law 441 = .ok (.ireturn, 1) := by decide +kernel
theorem dL_law_442 : decode cL_law 442 = .ok (.aload_n 1, 1) := by decide +kernel
theorem dL_law_443 : decode cL_law 443 = .ok (.aload_n 0, 1) := by decide +kernel
theorem dL_law_444 : decode cL_law 444 = .ok (.iload_n 3, 1) := by decide +kernel
theorem dL_law_445 : decode cL_law 445 = .ok (.iconst 1, 1) := by decide +kernel
theorem dL_law_446 : decode cL_law 446 = .ok (.iadd, 1) := by decide +kernel
theorem dL_law_447 : decode cL_law 447 = .ok (.iaload, 1) := by decide +kernel
theorem dL_law_448 : decode cL_law 448 = .ok (.invokevirtual 59, 3) := by decide +kernel
theorem dL_law_451 : decode cL_law 451 = .ok (.aload_n 2, 1) := by decide +kernel
theorem dL_law_452 : decode cL_law 452 = .ok (.aload_n 0, 1) := by decide +kernel
theorem dL_law_453 : decode cL_law 453 = .ok (.iload_n 3, 1) := by decide +kernel
theorem dL_law_454 : decode cL_law 454 = .ok (.iconst 1, 1) := by decide +kernel
theorem dL_law_455 : decode cL_law 455 = .ok (.iadd, 1) := by decide +kernel
theorem dL_law_456 : decode cL_law 456 = .ok (.iaload, 1) := by decide +kernel
theorem dL_law_457 : decode cL_law 457 = .ok (.invokevirtual 62, 3) := by decide +kernel
theorem dL_law_460 : decode cL_law 460 = .ok (.if_icmp .eq 411, 3) := by decide +kernel
theorem dL_law_463 : decode cL_law 463 = .ok (.iconst 0, 1) := by decide +kernel
theorem dL_law_464 : decode cL_law 464 = .ok (.ireturn, 1) := by decide +kernel
theorem dL_law_465 : decode cL_law 465 = .ok (.aload_n 1, 1) := by decide +kernel
theorem dL_law_466 : decode cL_law 466 = .ok (.aload_n 0, 1) := by decide +kernel
theorem dL_law_467 : decode cL_law 467 = .ok (.iload_n 3, 1) := by decide +kernel
theorem dL_law_468 : decode cL_law 468 = .ok (.iconst 1, 1) := by decide +kernel
theorem dL_law_469 : decode cL_law 469 = .ok (.iadd, 1) := by decide +kernel
theorem dL_law_470 : decode cL_law 470 = .ok (.iaload, 1) := by decide +kernel
theorem dL_law_471 : decode cL_law 471 = .ok (.invokevirtual 63, 3) := by decide +kernel
theorem dL_law_474 : decode cL_law 474 = .ok (.aload_n 2, 1) := by decide +kernel
theorem dL_law_475 : decode cL_law 475 = .ok (.aload_n 0, 1) := by decide +kernel
theorem dL_law_476 : decode cL_law 476 = .ok (.iload_n 3, 1) := by decide +kernel
theorem dL_law_477 : decode cL_law 477 = .ok (.iconst 1, 1) := by decide +kernel
theorem dL_law_478 : decode cL_law 478 = .ok (.iadd, 1) := by decide +kernel
theorem dL_law_479 : decode cL_law 479 = .ok (.iaload, 1) := by decide +kernel
theorem dL_law_480 : decode cL_law 480 = .ok (.invokevirtual 66, 3) := by decide +kernel
theorem dL_law_483 : decode cL_law 483 = .ok (.if_icmp .eq 388, 3) := by decide +kernel
theorem dL_law_486 : decode cL_law 486 = .ok (.iconst 0, 1) := by decide +kernel
theorem dL_law_487 : decode cL_law 487 = .ok (.ireturn, 1) := by decide +kernel
theorem dL_law_488 : decode cL_law 488 = .ok (.aload_n 1, 1) := by decide +kernel
theorem dL_law_489 : decode cL_law 489 = .ok (.aload_n 0, 1) := by decide +kernel
theorem dL_law_490 : decode cL_law 490 = .ok (.iload_n 3, 1) := by decide +kernel
theorem dL_law_491 : decode cL_law 491 = .ok (.iconst 1, 1) := by decide +kernel
theorem dL_law_492 : decode cL_law 492 = .ok (.iadd, 1) := by decide +kernel
theorem dL_law_493 : decode cL_law 493 = .ok (.iaload, 1) := by decide +kernel
theorem dL_law_494 : decode cL_law 494 = .ok (.invokevirtual 67, 3) := by decide +kernel
theorem dL_law_497 : decode cL_law 497 = .ok (.aload_n 2, 1) := by decide +kernel
theorem dL_law_498 : decode cL_law 498 = .ok (.aload_n 0, 1) := by decide +kernel
theorem dL_law_499 : decode cL_law 499 = .ok (.iload_n 3, 1) := by decide +kernel
theorem dL_law_500 : decode cL_law 500 = .ok (.iconst 1, 1) := by decide +kernel
theorem dL_law_501 : decode cL_law 501 = .ok (.iadd, 1) := by decide +kernel
theorem dL_law_502 : decode cL_law 502 = .ok (.iaload, 1) := by decide +kernel
theorem dL_law_503 : decode cL_law 503 = .ok (.invokevirtual 70, 3) := by decide +kernel
theorem dL_law_506 : decode cL_law 506 = .ok (.if_icmp .eq 365, 3) := by decide +kernel
theorem dL_law_509 : decode cL_law 509 = .ok (.iconst 0, 1) := by decide +kernel
theorem dL_law_510 : decode cL_law 510 = .ok (.ireturn, 1) := by decide +kernel
theorem dL_law_511 : decode cL_law 511 = .ok (.aload_n 1, 1) := by decide +kernel
theorem dL_law_512 : decode cL_law 512 = .ok (.aload_n 0, 1) := by decide +kernel
theorem dL_law_513 : decode cL_law 513 = .ok (.iload_n 3, 1) := by decide +kernel
theorem dL_law_514 : decode cL_law 514 = .ok (.iconst 1, 1) := by decide +kernel
theorem dL_law_515 : decode cL_law 515 = .ok (.iadd, 1) := by decide +kernel
theorem dL_law_516 : decode cL_law 516 = .ok (.iaload, 1) := by decide +kernel
theorem dL_law_517 : decode cL_law 517 = .ok (.aload_n 0, 1) := by decide +kernel
theorem dL_law_518 : decode cL_law 518 = .ok (.iload_n 3, 1) := by decide +kernel
theorem dL_law_519 : decode cL_law 519 = .ok (.iconst 2, 1) := by decide +kernel
theorem dL_law_520 : decode cL_law 520 = .ok (.iadd, 1) := by decide +kernel
theorem dL_law_521 : decode cL_law 521 = .ok (.iaload, 1) := by decide +kernel
theorem dL_law_522 : decode cL_law 522 = .ok (.aload_n 0, 1) := by decide +kernel
theorem dL_law_523 : decode cL_law 523 = .ok (.iload_n 3, 1) := by decide +kernel
theorem dL_law_524 : decode cL_law 524 = .ok (.iconst 3, 1) := by decide +kernel
theorem dL_law_525 : decode cL_law 525 = .ok (.iadd, 1) := by decide +kernel
theorem dL_law_526 : decode cL_law 526 = .ok (.iaload, 1) := by decide +kernel
theorem dL_law_527 : decode cL_law 527 = .ok (.invokevirtual 71, 3) := by decide +kernel
theorem dL_law_530 : decode cL_law 530 = .ok (.aload_n 2, 1) := by decide +kernel
theorem dL_law_531 : decode cL_law 531 = .ok (.aload_n 0, 1) := by decide +kernel
theorem dL_law_532 : decode cL_law 532 = .ok (.iload_n 3, 1) := by decide +kernel
theorem dL_law_533 : decode cL_law 533 = .ok (.iconst 1, 1) := by decide +kernel
theorem dL_law_534 : decode cL_law 534 = .ok (.iadd, 1) := by decide +kernel
theorem dL_law_535 : decode cL_law 535 = .ok (.iaload, 1) := by decide +kernel
theorem dL_law_536 : decode cL_law 536 = .ok (.aload_n 0, 1) := by decide +kernel
theorem dL_law_537 : decode cL_law 537 = .ok (.iload_n 3, 1) := by decide +kernel
theorem dL_law_538 : decode cL_law 538 = .ok (.iconst 2, 1) := by decide +kernel
theorem dL_law_539 : decode cL_law 539 = .ok (.iadd, 1) := by decide +kernel
theorem dL_law_540 : decode cL_law 540 = .ok (.iaload, 1) := by decide +kernel
theorem dL_law_541 : decode cL_law 541 = .ok (.aload_n 0, 1) := by decide +kernel
theorem dL_law_542 : decode cL_law 542 = .ok (.iload_n 3, 1) := by decide +kernel
theorem dL_law_543 : decode cL_law 543 = .ok (.iconst 3, 1) := by decide +kernel
theorem dL_law_544 : decode cL_law 544 = .ok (.iadd, 1) := by decide +kernel
theorem dL_law_545 : decode cL_law 545 = .ok (.iaload, 1) := by decide +kernel
theorem dL_law_546 : decode cL_law 546 = .ok (.invokevirtual 75, 3) := by decide +kernel
theorem dL_law_549 : decode cL_law 549 = .ok (.if_icmp .eq 322, 3) := by decide +kernel
theorem dL_law_552 : decode cL_law 552 = .ok (.iconst 0, 1) := by decide +kernel
theorem dL_law_553 : decode cL_law 553 = .ok (.ireturn, 1) := by decide +kernel
theorem dL_law_554 : decode cL_law 554 = .ok (.aload_n 1, 1) := by decide +kernel
theorem dL_law_555 : decode cL_law 555 = .ok (.aload_n 0, 1) := by decide +kernel
theorem dL_law_556 : decode cL_law 556 = .ok (.iload_n 3, 1) := by decide +kernel
theorem dL_law_557 : decode cL_law 557 = .ok (.iconst 1, 1) := by decide +kernel
theorem dL_law_558 : decode cL_law 558 = .ok (.iadd, 1) := by decide +kernel
theorem dL_law_559 : decode cL_law 559 = .ok (.iaload, 1) := by decide +kernel
theorem dL_law_560 : decode cL_law 560 = .ok (.invokevirtual 76, 3) := by decide +kernel
theorem dL_law_563 : decode cL_law 563 = .ok (.aload_n 2, 1) := by decide +kernel
theorem dL_law_564 : decode cL_law 564 = .ok (.aload_n 0, 1) := by decide +kernel
theorem dL_law_565 : decode cL_law 565 = .ok (.iload_n 3, 1) := by decide +kernel
theorem dL_law_566 : decode cL_law 566 = .ok (.iconst 1, 1) := by decide +kernel
theorem dL_law_567 : decode cL_law 567 = .ok (.iadd, 1) := by decide +kernel
theorem dL_law_568 : decode cL_law 568 = .ok (.iaload, 1) := by decide +kernel
theorem dL_law_569 : decode cL_law 569 = .ok (.invokevirtual 79, 3) := by decide +kernel
theorem dL_law_572 : decode cL_law 572 = .ok (.if_icmp .eq 299, 3) := by decide +kernel
theorem dL_law_575 : decode cL_law 575 = .ok (.iconst 0, 1) := by decide +kernel
theorem dL_law_576 : decode cL_law 576 = .ok (.ireturn, 1) := by decide +kernel
theorem dL_law_577 : decode cL_law 577 = .ok (.aload_n 1, 1) := by decide +kernel
theorem dL_law_578 : decode cL_law 578 = .ok (.aload_n 0, 1) := by decide +kernel
theorem dL_law_579 : decode cL_law 579 = .ok (.iload_n 3, 1) := by decide +kernel
theorem dL_law_580 : decode cL_law 580 = .ok (.iconst 1, 1) := by decide +kernel
theorem dL_law_581 : decode cL_law 581 = .ok (.iadd, 1) := by decide +kernel
theorem dL_law_582 : decode cL_law 582 = .ok (.iaload, 1) := by decide +kernel
theorem dL_law_583 : decode cL_law 583 = .ok (.invokevirtual 80, 3) := by decide +kernel
theorem dL_law_586 : decode cL_law 586 = .ok (.aload_n 2, 1) := by decide +kernel
theorem dL_law_587 : decode cL_law 587 = .ok (.aload_n 0, 1) := by decide +kernel
theorem dL_law_588 : decode cL_law 588 = .ok (.iload_n 3, 1) := by decide +kernel
theorem dL_law_589 : decode cL_law 589 = .ok (.iconst 1, 1) := by decide +kernel
theorem dL_law_590 : decode cL_law 590 = .ok (.iadd, 1) := by decide +kernel
theorem dL_law_591 : decode cL_law 591 = .ok (.iaload, 1) := by decide +kernel
theorem dL_law_592 : decode cL_law 592 = .ok (.invokevirtual 83, 3) := by decide +kernel
theorem dL_law_595 : decode cL_law 595 = .ok (.if_icmp .eq 276, 3) := by decide +kernel
theorem dL_law_598 : decode cL_law 598 = .ok (.iconst 0, 1) := by decide +kernel
theorem dL_law_599 : decode cL_law 599 = .ok (.ireturn, 1) := by decide +kernel
theorem dL_law_600 : decode cL_law 600 = .ok (.aload_n 1, 1) := by decide +kernel
theorem dL_law_601 : decode cL_law 601 = .ok (.aload_n 0, 1) := by decide +kernel
theorem dL_law_602 : decode cL_law 602 = .ok (.iload_n 3, 1) := by decide +kernel
theorem dL_law_603 : decode cL_law 603 = .ok (.iconst 1, 1) := by decide +kernel
theorem dL_law_604 : decode cL_law 604 = .ok (.iadd, 1) := by decide +kernel
theorem dL_law_605 : decode cL_law 605 = .ok (.iaload, 1) := by decide +kernel
theorem dL_law_606 : decode cL_law 606 = .ok (.aload_n 0, 1) := by decide +kernel
theorem dL_law_607 : decode cL_law 607 = .ok (.iload_n 3, 1) := by decide +kernel
theorem dL_law_608 : decode cL_law 608 = .ok (.iconst 2, 1) := by decide +kernel
theorem dL_law_609 : decode cL_law 609 = .ok (.iadd, 1) := by decide +kernel
theorem dL_law_610 : decode cL_law 610 = .ok (.iaload, 1) := by decide +kernel
theorem dL_law_611 : decode cL_law 611 = .ok (.invokevirtual 84, 3) := by decide +kernel
theorem dL_law_614 : decode cL_law 614 = .ok (.aload_n 2, 1) := by decide +kernel
theorem dL_law_615 : decode cL_law 615 = .ok (.aload_n 0, 1) := by decide +kernel
theorem dL_law_616 : decode cL_law 616 = .ok (.iload_n 3, 1) := by decide +kernel
theorem dL_law_617 : decode cL_law 617 = .ok (.iconst 1, 1) := by decide +kernel
theorem dL_law_618 : decode cL_law 618 = .ok (.iadd, 1) := by decide +kernel
theorem dL_law_619 : decode cL_law 619 = .ok (.iaload, 1) := by decide +kernel
theorem dL_law_620 : decode cL_law 620 = .ok (.aload_n 0, 1) := by decide +kernel
theorem dL_law_621 : decode cL_law 621 = .ok (.iload_n 3, 1) := by decide +kernel
theorem dL_law_622 : decode cL_law 622 = .ok (.iconst 2, 1) := by decide +kernel
theorem dL_law_623 : decode cL_law 623 = .ok (.iadd, 1) := by decide +kernel
theorem dL_law_624 : decode cL_law 624 = .ok (.iaload, 1) := by decide +kernel
theorem dL_law_625 : decode cL_law 625 = .ok (.invokevirtual 87, 3) := by decide +kernel
theorem dL_law_628 : decode cL_law 628 = .ok (.if_icmp .eq 243, 3) := by decide +kernel
theorem dL_law_631 : decode cL_law 631 = .ok (.iconst 0, 1) := by decide +kernel
theorem dL_law_632 : decode cL_law 632 = .ok (.ireturn, 1) := by decide +kernel
theorem dL_law_633 : decode cL_law 633 = .ok (.aload_n 1, 1) := by decide +kernel
theorem dL_law_634 : decode cL_law 634 = .ok (.aload_n 0, 1) := by decide +kernel
theorem dL_law_635 : decode cL_law 635 = .ok (.iload_n 3, 1) := by decide +kernel
theorem dL_law_636 : decode cL_law 636 = .ok (.iconst 1, 1) := by decide +kernel
theorem dL_law_637 : decode cL_law 637 = .ok (.iadd, 1) := by decide +kernel
theorem dL_law_638 : decode cL_law 638 = .ok (.iaload, 1) := by decide +kernel
theorem dL_law_639 : decode cL_law 639 = .ok (.aload_n 0, 1) := by decide +kernel
theorem dL_law_640 : decode cL_law 640 = .ok (.iload_n 3, 1) := by decide +kernel
theorem dL_law_641 : decode cL_law 641 = .ok (.iconst 2, 1) := by decide +kernel
theorem dL_law_642 : decode cL_law 642 = .ok (.iadd, 1) := by decide +kernel
theorem dL_law_643 : decode cL_law 643 = .ok (.iaload, 1) := by decide +kernel
theorem dL_law_644 : decode cL_law 644 = .ok (.invokevirtual 88, 3) := by decide +kernel
theorem dL_law_647 : decode cL_law 647 = .ok (.aload_n 2, 1) := by decide +kernel
theorem dL_law_648 : decode cL_law 648 = .ok (.aload_n 0, 1) := by decide +kernel
theorem dL_law_649 : decode cL_law 649 = .ok (.iload_n 3, 1) := by decide +kernel
theorem dL_law_650 : decode cL_law 650 = .ok (.iconst 1, 1) := by decide +kernel
theorem dL_law_651 : decode cL_law 651 = .ok (.iadd, 1) := by decide +kernel
theorem dL_law_652 : decode cL_law 652 = .ok (.iaload, 1) := by decide +kernel
theorem dL_law_653 : decode cL_law 653 = .ok (.aload_n 0, 1) := by decide +kernel
theorem dL_law_654 : decode cL_law 654 = .ok (.iload_n 3, 1) := by decide +kernel
theorem dL_law_655 : decode cL_law 655 = .ok (.iconst 2, 1) := by decide +kernel
theorem dL_law_656 : decode cL_law 656 = .ok (.iadd, 1) := by decide +kernel
theorem dL_law_657 : decode cL_law 657 = .ok (.iaload, 1) := by decide +kernel
theorem dL_law_658 : decode cL_law 658 = .ok (.invokevirtual 91, 3) := by decide +kernel
theorem dL_law_661 : decode cL_law 661 = .ok (.if_icmp .eq 210, 3) := by decide +kernel
theorem dL_law_664 : decode cL_law 664 = .ok (.iconst 0, 1) := by decide +kernel
theorem dL_law_665 : decode cL_law 665 = .ok (.ireturn, 1) := by decide +kernel
theorem dL_law_666 : decode cL_law 666 = .ok (.aload_n 1, 1) := by decide +kernel
theorem dL_law_667 : decode cL_law 667 = .ok (.aload_n 0, 1) := by decide +kernel
theorem dL_law_668 : decode cL_law 668 = .ok (.iload_n 3, 1) := by decide +kernel
theorem dL_law_669 : decode cL_law 669 = .ok (.iconst 1, 1) := by decide +kernel
theorem dL_law_670 : decode cL_law 670 = .ok (.iadd, 1) := by decide +kernel
theorem dL_law_671 : decode cL_law 671 = .ok (.iaload, 1) := by decide +kernel
theorem dL_law_672 : decode cL_law 672 = .ok (.invokevirtual 92, 3) := by decide +kernel
theorem dL_law_675 : decode cL_law 675 = .ok (.aload_n 2, 1) := by decide +kernel
theorem dL_law_676 : decode cL_law 676 = .ok (.aload_n 0, 1) := by decide +kernel
theorem dL_law_677 : decode cL_law 677 = .ok (.iload_n 3, 1) := by decide +kernel
theorem dL_law_678 : decode cL_law 678 = .ok (.iconst 1, 1) := by decide +kernel
theorem dL_law_679 : decode cL_law 679 = .ok (.iadd, 1) := by decide +kernel
theorem dL_law_680 : decode cL_law 680 = .ok (.iaload, 1) := by decide +kernel
theorem dL_law_681 : decode cL_law 681 = .ok (.invokevirtual 95, 3) := by decide +kernel
theorem dL_law_684 : decode cL_law 684 = .ok (.if_icmp .eq 187, 3) := by decide +kernel
theorem dL_law_687 : decode cL_law 687 = .ok (.iconst 0, 1) := by decide +kernel
theorem dL_law_688 : decode cL_law 688 = .ok (.ireturn, 1) := by decide +kernel
theorem dL_law_689 : decode cL_law 689 = .ok (.aload_n 1, 1) := by decide +kernel
theorem dL_law_690 : decode cL_law 690 = .ok (.aload_n 0, 1) := by decide +kernel
theorem dL_law_691 : decode cL_law 691 = .ok (.iload_n 3, 1) := by decide +kernel
theorem dL_law_692 : decode cL_law 692 = .ok (.iconst 1, 1) := by decide +kernel
theorem dL_law_693 : decode cL_law 693 = .ok (.iadd, 1) := by decide +kernel
theorem dL_law_694 : decode cL_law 694 = .ok (.iaload, 1) := by decide +kernel
theorem dL_law_695 : decode cL_law 695 = .ok (.aload_n 0, 1) := by decide +kernel
theorem dL_law_696 : decode cL_law 696 = .ok (.iload_n 3, 1) := by decide +kernel
theorem dL_law_697 : decode cL_law 697 = .ok (.iconst 2, 1) := by decide +kernel
theorem dL_law_698 : decode cL_law 698 = .ok (.iadd, 1) := by decide +kernel
theorem dL_law_699 : decode cL_law 699 = .ok (.iaload, 1) := by decide +kernel
theorem dL_law_700 : decode cL_law 700 = .ok (.invokevirtual 96, 3) := by decide +kernel
theorem dL_law_703 : decode cL_law 703 = .ok (.aload_n 2, 1) := by decide +kernel
theorem dL_law_704 : decode cL_law 704 = .ok (.aload_n 0, 1) := by decide +kernel
theorem dL_law_705 : decode cL_law 705 = .ok (.iload_n 3, 1) := by decide +kernel
theorem dL_law_706 : decode cL_law 706 = .ok (.iconst 1, 1) := by decide +kernel
theorem dL_law_707 : decode cL_law 707 = .ok (.iadd, 1) := by decide +kernel
theorem dL_law_708 : decode cL_law 708 = .ok (.iaload, 1) := by decide +kernel
theorem dL_law_709 : decode cL_law 709 = .ok (.aload_n 0, 1) := by decide +kernel
theorem dL_law_710 : decode cL_law 710 = .ok (.iload_n 3, 1) := by decide +kernel
theorem dL_law_711 : decode cL_law 711 = .ok (.iconst 2, 1) := by decide +kernel
theorem dL_law_712 : decode cL_law 712 = .ok (.iadd, 1) := by decide +kernel
theorem dL_law_713 : decode cL_law 713 = .ok (.iaload, 1) := by decide +kernel
theorem dL_law_714 : decode cL_law 714 = .ok (.invokevirtual 99, 3) := by decide +kernel
theorem dL_law_717 : decode cL_law 717 = .ok (.if_icmp .eq 154, 3) := by decide +kernel
theorem dL_law_720 : decode cL_law 720 = .ok (.iconst 0, 1) := by decide +kernel
theorem dL_law_721 : decode cL_law 721 = .ok (.ireturn, 1) := by decide +kernel
theorem dL_law_722 : decode cL_law 722 = .ok (.aload_n 1, 1) := by decide +kernel
theorem dL_law_723 : decode cL_law 723 = .ok (.aload_n 0, 1) := by decide +kernel
theorem dL_law_724 : decode cL_law 724 = .ok (.iload_n 3, 1) := by decide +kernel
theorem dL_law_725 : decode cL_law 725 = .ok (.iconst 1, 1) := by decide +kernel
theorem dL_law_726 : decode cL_law 726 = .ok (.iadd, 1) := by decide +kernel
theorem dL_law_727 : decode cL_law 727 = .ok (.iaload, 1) := by decide +kernel
theorem dL_law_728 : decode cL_law 728 = .ok (.aload_n 0, 1) := by decide +kernel
theorem dL_law_729 : decode cL_law 729 = .ok (.iload_n 3, 1) := by decide +kernel
theorem dL_law_730 : decode cL_law 730 = .ok (.iconst 2, 1) := by decide +kernel
theorem dL_law_731 : decode cL_law 731 = .ok (.iadd, 1) := by decide +kernel
theorem dL_law_732 : decode cL_law 732 = .ok (.iaload, 1) := by decide +kernel
theorem dL_law_733 : decode cL_law 733 = .ok (.invokevirtual 100, 3) := by decide +kernel
theorem dL_law_736 : decode cL_law 736 = .ok (.aload_n 2, 1) := by decide +kernel
theorem dL_law_737 : decode cL_law 737 = .ok (.aload_n 0, 1) := by decide +kernel
theorem dL_law_738 : decode cL_law 738 = .ok (.iload_n 3, 1) := by decide +kernel
theorem dL_law_739 : decode cL_law 739 = .ok (.iconst 1, 1) := by decide +kernel
theorem dL_law_740 : decode cL_law 740 = .ok (.iadd, 1) := by decide +kernel
theorem dL_law_741 : decode cL_law 741 = .ok (.iaload, 1) := by decide +kernel
theorem dL_law_742 : decode cL_law 742 = .ok (.aload_n 0, 1) := by decide +kernel
theorem dL_law_743 : decode cL_law 743 = .ok (.iload_n 3, 1) := by decide +kernel
theorem dL_law_744 : decode cL_law 744 = .ok (.iconst 2, 1) := by decide +kernel
theorem dL_law_745 : decode cL_law 745 = .ok (.iadd, 1) := by decide +kernel
theorem dL_law_746 : decode cL_law 746 = .ok (.iaload, 1) := by decide +kernel
theorem dL_law_747 : decode cL_law 747 = .ok (.invokevirtual 103, 3) := by decide +kernel
theorem dL_law_750 : decode cL_law 750 = .ok (.if_icmp .eq 121, 3) := by decide +kernel
theorem dL_law_753 : decode cL_law 753 = .ok (.iconst 0, 1) := by decide +kernel
theorem dL_law_754 : decode cL_law 754 = .ok (.ireturn, 1) := by decide +kernel
theorem dL_law_755 : decode cL_law 755 = .ok (.aload_n 1, 1) := by decide +kernel
theorem dL_law_756 : decode cL_law 756 = .ok (.aload_n 0, 1) := by decide +kernel
theorem dL_law_757 : decode cL_law 757 = .ok (.iload_n 3, 1) := by decide +kernel
theorem dL_law_758 : decode cL_law 758 = .ok (.iconst 1, 1) := by decide +kernel
theorem dL_law_759 : decode cL_law 759 = .ok (.iadd, 1) := by decide +kernel
theorem dL_law_760 : decode cL_law 760 = .ok (.iaload, 1) := by decide +kernel
theorem dL_law_761 : decode cL_law 761 = .ok (.aload_n 0, 1) := by decide +kernel
theorem dL_law_762 : decode cL_law 762 = .ok (.iload_n 3, 1) := by decide +kernel
theorem dL_law_763 : decode cL_law 763 = .ok (.iconst 2, 1) := by decide +kernel
theorem dL_law_764 : decode cL_law 764 = .ok (.iadd, 1) := by decide +kernel
theorem dL_law_765 : decode cL_law 765 = .ok (.iaload, 1) := by decide +kernel
theorem dL_law_766 : decode cL_law 766 = .ok (.invokevirtual 104, 3) := by decide +kernel
theorem dL_law_769 : decode cL_law 769 = .ok (.aload_n 2, 1) := by decide +kernel
theorem dL_law_770 : decode cL_law 770 = .ok (.aload_n 0, 1) := by decide +kernel
theorem dL_law_771 : decode cL_law 771 = .ok (.iload_n 3, 1) := by decide +kernel
theorem dL_law_772 : decode cL_law 772 = .ok (.iconst 1, 1) := by decide +kernel
theorem dL_law_773 : decode cL_law 773 = .ok (.iadd, 1) := by decide +kernel
theorem dL_law_774 : decode cL_law 774 = .ok (.iaload, 1) := by decide +kernel
theorem dL_law_775 : decode cL_law 775 = .ok (.aload_n 0, 1) := by decide +kernel
theorem dL_law_776 : decode cL_law 776 = .ok (.iload_n 3, 1) := by decide +kernel
theorem dL_law_777 : decode cL_law 777 = .ok (.iconst 2, 1) := by decide +kernel
theorem dL_law_778 : decode cL_law 778 = .ok (.iadd, 1) := by decide +kernel
theorem dL_law_779 : decode cL_law 779 = .ok (.iaload, 1) := by decide +kernel
theorem dL_law_780 : decode cL_law 780 = .ok (.invokevirtual 107, 3) := by decide +kernel
theorem dL_law_783 : decode cL_law 783 = .ok (.if_icmp .eq 88, 3) := by decide +kernel
theorem dL_law_786 : decode cL_law 786 = .ok (.iconst 0, 1) := by decide +kernel
theorem dL_law_787 : decode cL_law 787 = .ok (.ireturn, 1) := by decide +kernel
theorem dL_law_788 : decode cL_law 788 = .ok (.aload_n 1, 1) := by decide +kernel
theorem dL_law_789 : decode cL_law 789 = .ok (.aload_n 0, 1) := by decide +kernel
theorem dL_law_790 : decode cL_law 790 = .ok (.iload_n 3, 1) := by decide +kernel
theorem dL_law_791 : decode cL_law 791 = .ok (.iconst 1, 1) := by decide +kernel
theorem dL_law_792 : decode cL_law 792 = .ok (.iadd, 1) := by decide +kernel
theorem dL_law_793 : decode cL_law 793 = .ok (.iaload, 1) := by decide +kernel
theorem dL_law_794 : decode cL_law 794 = .ok (.invokevirtual 108, 3) := by decide +kernel
theorem dL_law_797 : decode cL_law 797 = .ok (.aload_n 2, 1) := by decide +kernel
theorem dL_law_798 : decode cL_law 798 = .ok (.aload_n 0, 1) := by decide +kernel
theorem dL_law_799 : decode cL_law 799 = .ok (.iload_n 3, 1) := by decide +kernel
theorem dL_law_800 : decode cL_law 800 = .ok (.iconst 1, 1) := by decide +kernel
theorem dL_law_801 : decode cL_law 801 = .ok (.iadd, 1) := by decide +kernel
theorem dL_law_802 : decode cL_law 802 = .ok (.iaload, 1) := by decide +kernel
theorem dL_law_803 : decode cL_law 803 = .ok (.invokevirtual 111, 3) := by decide +kernel
theorem dL_law_806 : decode cL_law 806 = .ok (.if_icmp .eq 65, 3) := by decide +kernel
theorem dL_law_809 : decode cL_law 809 = .ok (.iconst 0, 1) := by decide +kernel
theorem dL_law_810 : decode cL_law 810 = .ok (.ireturn, 1) := by decide +kernel
theorem dL_law_811 : decode cL_law 811 = .ok (.aload_n 1, 1) := by decide +kernel
theorem dL_law_812 : decode cL_law 812 = .ok (.aload_n 0, 1) := by decide +kernel
theorem dL_law_813 : decode cL_law 813 = .ok (.iload_n 3, 1) := by decide +kernel
theorem dL_law_814 : decode cL_law 814 = .ok (.iconst 1, 1) := by decide +kernel
theorem dL_law_815 : decode cL_law 815 = .ok (.iadd, 1) := by decide +kernel
theorem dL_law_816 : decode cL_law 816 = .ok (.iaload, 1) := by decide +kernel
theorem dL_law_817 : decode cL_law 817 = .ok (.invokevirtual 112, 3) := by decide +kernel
theorem dL_law_820 : decode cL_law 820 = .ok (.aload_n 2, 1) := by decide +kernel
theorem dL_law_821 : decode cL_law 821 = .ok (.aload_n 0, 1) := by decide +kernel
theorem dL_law_822 : decode cL_law 822 = .ok (.iload_n 3, 1) := by decide +kernel
theorem dL_law_823 : decode cL_law 823 = .ok (.iconst 1, 1) := by decide +kernel
theorem dL_law_824 : decode cL_law 824 = .ok (.iadd, 1) := by decide +kernel
theorem dL_law_825 : decode cL_law 825 = .ok (.iaload, 1) := by decide +kernel
theorem dL_law_826 : decode cL_law 826 = .ok (.invokevirtual 115, 3) := by decide +kernel
theorem dL_law_829 : decode cL_law 829 = .ok (.if_icmp .eq 42, 3) := by decide +kernel
theorem dL_law_832 : decode cL_law 832 = .ok (.iconst 0, 1) := by decide +kernel
theorem dL_law_833 : decode cL_law 833 = .ok (.ireturn, 1) := by decide +kernel
theorem dL_law_834 : decode cL_law 834 = .ok (.aload_n 1, 1) := by decide +kernel
theorem dL_law_835 : decode cL_law 835 = .ok (.aload_n 0, 1) := by decide +kernel
theorem dL_law_836 : decode cL_law 836 = .ok (.iload_n 3, 1) := by decide +kernel
theorem dL_law_837 : decode cL_law 837 = .ok (.iconst 1, 1) := by decide +kernel
theorem dL_law_838 : decode cL_law 838 = .ok (.iadd, 1) := by decide +kernel
theorem dL_law_839 : decode cL_law 839 = .ok (.iaload, 1) := by decide +kernel
theorem dL_law_840 : decode cL_law 840 = .ok (.invokevirtual 116, 3) := by decide +kernel
theorem dL_law_843 : decode cL_law 843 = .ok (.aload_n 2, 1) := by decide +kernel
theorem dL_law_844 : decode cL_law 844 = .ok (.aload_n 0, 1) := by decide +kernel
theorem dL_law_845 : decode cL_law 845 = .ok (.iload_n 3, 1) := by decide +kernel
theorem dL_law_846 : decode cL_law 846 = .ok (.iconst 1, 1) := by decide +kernel
theorem dL_law_847 : decode cL_law 847 = .ok (.iadd, 1) := by decide +kernel
theorem dL_law_848 : decode cL_law 848 = .ok (.iaload, 1) := by decide +kernel
theorem dL_law_849 : decode cL_law 849 = .ok (.invokevirtual 119, 3) := by decide +kernel
theorem dL_law_852 : decode cL_law 852 = .ok (.if_icmp .eq 19, 3) := by decide +kernel
theorem dL_law_855 : decode cL_law 855 = .ok (.iconst 0, 1) := by decide +kernel
theorem dL_law_856 : decode cL_law 856 = .ok (.ireturn, 1) := by decide +kernel
theorem dL_law_857 : decode cL_law 857 = .ok (.aload_n 1, 1) := by decide +kernel
theorem dL_law_858 : decode cL_law 858 = .ok (.invokevirtual 120, 3) := by decide +kernel
theorem dL_law_861 : decode cL_law 861 = .ok (.aload_n 2, 1) := by decide +kernel
theorem dL_law_862 : decode cL_law 862 = .ok (.invokevirtual 124, 3) := by decide +kernel
theorem dL_law_865 : decode cL_law 865 = .ok (.lcmp, 1) := by decide +kernel
theorem dL_law_866 : decode cL_law 866 = .ok (.ifCond .eq 5, 3) := by decide +kernel
theorem dL_law_869 : decode cL_law 869 = .ok (.iconst 0, 1) := by decide +kernel
theorem dL_law_870 : decode cL_law 870 = .ok (.ireturn, 1) := by decide +kernel
theorem dL_law_871 : decode cL_law 871 = .ok (.iinc 3 4, 3) := by decide +kernel
theorem dL_law_874 : decode cL_law 874 = .ok (.goto (-856), 3) := by decide +kernel
theorem dL_law_877 : decode cL_law 877 = .ok (.iconst 1, 1) := by decide +kernel
theorem dL_law_878 : decode cL_law 878 = .ok (.ireturn, 1) := by decide +kernel
end
section
/-! THE MEMORY: cells are numbered by the order in which they are made; a cell's content is a row of ints, a row of longs and a row of references (to numbers) -/
abbrev MM : Type := Nat × (Nat → Nat → Int32) × (Nat → Nat → Int64) × (Nat → Nat → Option Nat)
def gI (M : MM) (p j : Nat) : Int32 := M.2.1 p j
def gJ (M : MM) (p j : Nat) : Int64 := M.2.2.1 p j
def gR (M : MM) (p j : Nat) : Option Nat := M.2.2.2 p j
def sI (M : MM) (p j : Nat) (v : Int32) : MM := (M.1, fun a c => if a = p ∧ c = j then v else M.2.1 a c, M.2.2)
def sJ (M : MM) (p j : Nat) (v : Int64) : MM := (M.1, M.2.1, fun a c => if a = p ∧ c = j then v else M.2.2.1 a c, M.2.2.2)
def sR (M : MM) (p j : Nat) (v : Option Nat) : MM := (M.1, M.2.1, M.2.2.1, fun a c => if a = p ∧ c = j then v else M.2.2.2 a c)
def nP (M : MM) : MM := (M.1 + 1, fun a c => if a = M.1 then 0 else M.2.1 a c, fun a c => if a = M.1 then 0 else M.2.2.1 a c, fun a c => if a = M.1 then none else M.2.2.2 a c)
/-- which kind of cell each number is (0 .. 7 the classes of vwCl, 8 int[], 9 long[], 10 boolean[], 11 Post[], 12 Shape[], 13 Word[]) -/
def kdL : List Nat := [6, 3, 8, 1, 10, 8, 8, 8, 8, 9, 8, 8, 8, 8, 8, 8, 0, 8, 11, 0, 8, 0, 8, 4, 13, 12, 5, 8, 5, 8, 5, 8, 5, 8, 5, 8, 5, 8, 5, 8, 5, 8, 5, 8, 2, 8, 2, 8, 2, 8, 2, 8, 4, 13, 12, 5, 8, 5, 8, 5, 8, 5, 8, 5, 8, 5, 8, 5, 8, 5, 8, 5, 8, 2, 8, 2, 8, 2, 8, 2, 8, 7, 8, 8, 8, 8, 8, 10, 8, 8, 8, 8, 8]
def lnL : List Nat := [0, 0, 200, 0, 1000, 1000, 1000, 1000, 1000, 1000, 1000, 1000, 256, 1000, 1000, 1000, 0, 12, 2, 0, 12, 0, 12, 0, 9, 4, 0, 5, 0, 5, 0, 5, 0, 5, 0, 5, 0, 5, 0, 5, 0, 5, 0, 5, 0, 3, 0, 3, 0, 3, 0, 3, 0, 9, 4, 0, 5, 0, 5, 0, 5, 0, 5, 0, 5, 0, 5, 0, 5, 0, 5, 0, 5, 0, 3, 0, 3, 0, 3, 0, 3, 0, 200, 110, 110, 13, 26, 2, 820, 820, 820, 820, 100]
def kd (p : Nat) : Nat := kdL.getD p 99
def ln (p : Nat) : Nat := lnL.getD p 0
/-- the fields of each class: 0 an int, 1 a long, 2 a reference -/
def fl : Nat → List Nat
  | 0 => [2, 0, 0]
  | 1 => [2, 2, 2, 2, 2, 2, 2, 2, 2, 0, 2, 2, 2, 0]
  | 2 => [2, 0]
  | 3 => [2, 0, 0, 0, 0, 0]
  | 4 => [2, 2, 0, 0]
  | 5 => [2, 0, 0, 0, 0]
  | 6 => [2, 2, 2, 2, 2, 2, 1]
  | 7 => [1, 2, 0, 2, 2, 2, 2, 2, 2, 2, 2, 2, 0, 0, 0, 0, 0, 2]
  | _ => []
def szP (p : Nat) : Nat := if kd p < 8 then (fl (kd p)).length else ln p
def Zs : Nat → Nat
  | 0 => 0
  | n + 1 => Zs n + szP n
def cv (b : Nat) (M : MM) (p t j : Nat) : Value := if t = 0 then .int (gI M p j) else if t = 1 then .long (gJ M p j) else va_rf ((gR M p j).map (b + ·))
def cel (b : Nat) (cy : Nat → ClassId) (M : MM) (p : Nat) : va_E :=
  if kd p < 8 then .inr (kd p, (fl (kd p)).mapIdx (fun j t => cv b M p t j))
  else if kd p = 9 then .inl (cy 9, ln p, .inr (.inl (gJ M p)))
  else if kd p = 8 ∨ kd p = 10 then .inl (cy (kd p), ln p, .inl (gI M p))
  else .inl (cy (kd p), ln p, .inr (.inr (.inr (.inr (fun j => (gR M p j).map (b + ·))))))
def wl (b : Nat) (cy : Nat → ClassId) (M : MM) : va_W := (List.range M.1).map fun p => (b + p, cel b cy M p)
def tysL (cy : Nat → ClassId) : List (ClassId × FieldType) := [(cy 8, .int), (cy 9, .long), (cy 10, .boolean), (cy 11, .object RX0), (cy 12, .object RX2), (cy 13, .object RX5)]
theorem wl_get {b : Nat} {cy : Nat → ClassId} {M : MM} {p : Nat} (h : p < M.1) : (wl b cy M)[p]? = some (b + p, cel b cy M p) := by simp [wl, h]
theorem wl_at {b : Nat} {cy : Nat → ClassId} {M : MM} {k : Nat} {q : Nat × va_E} (h : (wl b cy M)[k]? = some q) : k < M.1 ∧ q = (b + k, cel b cy M k) := by
  have hk : k < M.1 := by
    have := (List.getElem?_eq_some_iff.mp h).1
    simpa [wl] using this
  rw [wl_get hk] at h
  exact ⟨hk, (Option.some.inj h).symm⟩
theorem wl_D {b : Nat} {cy : Nat → ClassId} {M : MM} : va_D (fun q : Nat => b ≤ q) (wl b cy M) := by
  refine ⟨fun i j p q hi hj h => ?_, fun k q hk => ?_⟩
  · obtain ⟨-, rfl⟩ := wl_at hi
    obtain ⟨-, rfl⟩ := wl_at hj
    have : b + i = b + j := h
    omega
  · obtain ⟨-, rfl⟩ := wl_at hk
    show b ≤ b + k
    omega
theorem wl_set {b : Nat} {cy : Nat → ClassId} {M M' : MM} {p : Nat} {e : va_E} (hn : M'.1 = M.1) (he : cel b cy M' p = e) (ho : ∀ q, q ≠ p → cel b cy M' q = cel b cy M q) : (wl b cy M).set p (b + p, e) = wl b cy M' := by
  apply List.ext_getElem?
  intro k
  rw [List.getElem?_set]
  by_cases hk : p = k
  · subst hk
    rw [if_pos rfl]
    by_cases hl : p < M.1
    · rw [wl_get (M := M') (hn ▸ hl), if_pos (by simpa [wl] using hl), he]
    · simp [wl, hl, hn]
  · rw [if_neg hk]
    by_cases hl : k < M.1
    · rw [wl_get hl, wl_get (M := M') (hn ▸ hl), ho k (fun h => hk h.symm)]
    · simp [wl, hl, hn]
theorem wl_push {b : Nat} {cy : Nat → ClassId} {M M' : MM} {e : va_E} (hn : M'.1 = M.1 + 1) (he : cel b cy M' M.1 = e) (ho : ∀ q, q < M.1 → cel b cy M' q = cel b cy M q) : wl b cy M ++ [(b + M.1, e)] = wl b cy M' := by
  unfold wl
  rw [hn, List.range_succ, List.map_append]
  congr 1
  · apply List.map_congr_left
    intro q hq
    rw [ho q (List.mem_range.mp hq)]
  · simp [he]
theorem cel_obj {b : Nat} {cy : Nat → ClassId} {M : MM} {p c : Nat} (h : kd p = c) (hc : c < 8) : cel b cy M p = .inr (c, (fl c).mapIdx (fun j t => cv b M p t j)) := by
  subst h
  simp [cel, hc]
theorem cel_I {b : Nat} {cy : Nat → ClassId} {M : MM} {p : Nat} (h : kd p = 8) : cel b cy M p = .inl (cy 8, ln p, .inl (gI M p)) := by simp [cel, h]
theorem cel_Z {b : Nat} {cy : Nat → ClassId} {M : MM} {p : Nat} (h : kd p = 10) : cel b cy M p = .inl (cy 10, ln p, .inl (gI M p)) := by simp [cel, h]
theorem cel_J {b : Nat} {cy : Nat → ClassId} {M : MM} {p : Nat} (h : kd p = 9) : cel b cy M p = .inl (cy 9, ln p, .inr (.inl (gJ M p))) := by simp [cel, h]
theorem cel_R {b : Nat} {cy : Nat → ClassId} {M : MM} {p c : Nat} (h : kd p = c) (hc : 10 < c) : cel b cy M p = .inl (cy c, ln p, .inr (.inr (.inr (.inr (fun j => (gR M p j).map (b + ·)))))) := by
  subst h
  have h1 : ¬ kd p < 8 := by omega
  have h2 : ¬ kd p = 9 := by omega
  have h3 : ¬ (kd p = 8 ∨ kd p = 10) := by omega
  simp only [cel, if_neg h1, if_neg h2, if_neg h3]
theorem gI_row {M : MM} {p j q : Nat} {v : Int32} (h : q ≠ p) : gI (sI M p j v) q = gI M q := by
  funext c
  simp [gI, sI, h]
theorem cel_sI {b : Nat} {cy : Nat → ClassId} {M : MM} {p j q : Nat} {v : Int32} (h : q ≠ p) : cel b cy (sI M p j v) q = cel b cy M q := by
  have e : gI (sI M p j v) q = gI M q := gI_row h
  have e2 : gJ (sI M p j v) q = gJ M q := rfl
  have e3 : gR (sI M p j v) q = gR M q := rfl
  simp only [cel, cv, e, e2, e3]
theorem cel_sJ {b : Nat} {cy : Nat → ClassId} {M : MM} {p j q : Nat} {v : Int64} (h : q ≠ p) : cel b cy (sJ M p j v) q = cel b cy M q := by
  have e : gJ (sJ M p j v) q = gJ M q := by
    funext c
    simp [gJ, sJ, h]
  have e2 : gI (sJ M p j v) q = gI M q := rfl
  have e3 : gR (sJ M p j v) q = gR M q := rfl
  simp only [cel, cv, e, e2, e3]
theorem cel_sR {b : Nat} {cy : Nat → ClassId} {M : MM} {p j q : Nat} {v : Option Nat} (h : q ≠ p) : cel b cy (sR M p j v) q = cel b cy M q := by
  have e : gR (sR M p j v) q = gR M q := by
    funext c
    simp [gR, sR, h]
  have e2 : gI (sR M p j v) q = gI M q := rfl
  have e3 : gJ (sR M p j v) q = gJ M q := rfl
  simp only [cel, cv, e, e2, e3]
theorem cel_nP {b : Nat} {cy : Nat → ClassId} {M : MM} {q : Nat} (h : q < M.1) : cel b cy (nP M) q = cel b cy M q := by
  have h1 : q ≠ M.1 := by omega
  have e : gI (nP M) q = gI M q := by
    funext c
    simp [gI, nP, h1]
  have e2 : gJ (nP M) q = gJ M q := by
    funext c
    simp [gJ, nP, h1]
  have e3 : gR (nP M) q = gR M q := by
    funext c
    simp [gR, nP, h1]
  simp only [cel, cv, e, e2, e3]
/-! the operations on the memory, with their guards -/
def fI (M : MM) (p c k : Nat) : Option Int32 := if p < M.1 ∧ kd p = c then some (gI M p k) else none
def fJ (M : MM) (p c k : Nat) : Option Int64 := if p < M.1 ∧ kd p = c then some (gJ M p k) else none
def fR (M : MM) (p c k : Nat) : Option Nat := if p < M.1 ∧ kd p = c then gR M p k else none
def wfI (M : MM) (p c k : Nat) (v : Int32) : Option MM := if p < M.1 ∧ kd p = c then some (sI M p k v) else none
def wfZ (M : MM) (p c k : Nat) (v : Int32) : Option MM := if p < M.1 ∧ kd p = c ∧ (v = 0 ∨ v = 1) then some (sI M p k v) else none
def wfJ (M : MM) (p c k : Nat) (v : Int64) : Option MM := if p < M.1 ∧ kd p = c then some (sJ M p k v) else none
def wfR (M : MM) (p c k : Nat) (v : Nat) : Option MM := if p < M.1 ∧ kd p = c ∧ v < M.1 then some (sR M p k (some v)) else none
def aI (M : MM) (p : Nat) (i : Int32) : Option Int32 := if p < M.1 ∧ kd p = 8 ∧ ¬ (i < 0 ∨ ln p ≤ i.toNatClampNeg) then some (gI M p i.toNatClampNeg) else none
def aZ (M : MM) (p : Nat) (i : Int32) : Option Int32 := if p < M.1 ∧ kd p = 10 ∧ ¬ (i < 0 ∨ ln p ≤ i.toNatClampNeg) then some (gI M p i.toNatClampNeg) else none
def aJ (M : MM) (p : Nat) (i : Int32) : Option Int64 := if p < M.1 ∧ kd p = 9 ∧ ¬ (i < 0 ∨ ln p ≤ i.toNatClampNeg) then some (gJ M p i.toNatClampNeg) else none
def aR (M : MM) (p c : Nat) (i : Int32) : Option Nat := if p < M.1 ∧ kd p = c ∧ ¬ (i < 0 ∨ ln p ≤ i.toNatClampNeg) then gR M p i.toNatClampNeg else none
def waI (M : MM) (p : Nat) (i v : Int32) : Option MM := if p < M.1 ∧ kd p = 8 ∧ ¬ (i < 0 ∨ ln p ≤ i.toNatClampNeg) then some (sI M p i.toNatClampNeg v) else none
def waZ (M : MM) (p : Nat) (i v : Int32) : Option MM := if p < M.1 ∧ kd p = 10 ∧ ¬ (i < 0 ∨ ln p ≤ i.toNatClampNeg) ∧ (v = 0 ∨ v = 1) then some (sI M p i.toNatClampNeg v) else none
def waJ (M : MM) (p : Nat) (i : Int32) (v : Int64) : Option MM := if p < M.1 ∧ kd p = 9 ∧ ¬ (i < 0 ∨ ln p ≤ i.toNatClampNeg) then some (sJ M p i.toNatClampNeg v) else none
def waR (M : MM) (p c ce : Nat) (i : Int32) (v : Nat) : Option MM := if p < M.1 ∧ kd p = c ∧ ¬ (i < 0 ∨ ln p ≤ i.toNatClampNeg) ∧ v < M.1 ∧ kd v = ce then some (sR M p i.toNatClampNeg (some v)) else none
def nObj (M : MM) (lim c : Nat) : Option MM := if kd M.1 = c ∧ M.1 + 1 ≤ lim then some (nP M) else none
def nArr (M : MM) (lim c : Nat) (i : Int32) : Option MM := if kd M.1 = c ∧ ¬ i < 0 ∧ i.toNatClampNeg = ln M.1 ∧ M.1 + 1 ≤ lim then some (nP M) else none
theorem gd {α : Type} {c : Prop} [Decidable c] {e : Option α} {r : α} (h : (if c then e else none) = some r) : c ∧ e = some r := by
  by_cases hc : c
  · rw [if_pos hc] at h
    exact ⟨hc, h⟩
  · rw [if_neg hc] at h
    cases h
theorem bd {α β : Type} {o : Option α} {f : α → Option β} {r : β} (h : o.bind f = some r) : ∃ a, o = some a ∧ f a = some r := by
  cases o with
  | none => cases h
  | some a => exact ⟨a, rfl, h⟩
/-- a loop: the step answers what comes out of it, or the next state -/
def lp {σ ρ : Type} (step : σ → Option (ρ ⊕ σ)) : Nat → σ → Option ρ
  | 0, _ => none
  | n + 1, s => match step s with
    | none => none
    | some (.inl r) => some r
    | some (.inr t) => lp step n t
theorem lp_ind {σ ρ : Type} {step : σ → Option (ρ ⊕ σ)} {P : ρ → σ → Prop} (h : ∀ s r, (step s = some (.inl r) ∨ ∃ t, step s = some (.inr t) ∧ P r t) → P r s) : ∀ n s r, lp step n s = some r → P r s := by
  intro n
  induction n with
  | zero => intro s r e; cases e
  | succ n ih =>
    intro s r e
    unfold lp at e
    cases hs : step s with
    | none => rw [hs] at e; cases e
    | some x =>
      rw [hs] at e
      cases x with
      | inl r' => cases e; exact h s _ (Or.inl hs)
      | inr t => exact h s r (Or.inr ⟨t, hs, ih t r e⟩)
theorem lp_run {σ ρ : Type} {step : σ → Option (ρ ⊕ σ)} {r : ρ} (st : Nat → σ) (k : Nat) (h : ∀ i, i < k → step (st i) = some (.inr (st (i + 1)))) (hk : step (st k) = some (.inl r)) : ∀ n, k < n → lp step n (st 0) = some r := by
  have key : ∀ j, j ≤ k → ∀ n, j < n → lp step n (st (k - j)) = some r := by
    intro j
    induction j with
    | zero =>
      intro _ n hn
      obtain ⟨n, rfl⟩ : ∃ m, n = m + 1 := ⟨n - 1, by omega⟩
      unfold lp
      rw [Nat.sub_zero, hk]
    | succ j ih =>
      intro hj n hn
      obtain ⟨n, rfl⟩ : ∃ m, n = m + 1 := ⟨n - 1, by omega⟩
      unfold lp
      rw [h (k - (j + 1)) (by omega)]
      have := ih (by omega) n (by omega)
      rw [show k - (j + 1) + 1 = k - j by omega]
      exact this
  intro n hn
  have := key k (Nat.le_refl k) n hn
  rwa [Nat.sub_self] at this
def FU : Nat := 4000
/-! THE CONTEXT of a method's walk -/
abbrev GG : Type := Launch × va_G × (Nat → ClassId) × Nat × (Nat → Nat) × (Nat → Nat)
abbrev CT : Type := GG × Program × Env × Room × State × MethodId × Array Value × List Frame × Method × Code × (State → Prop) × Nat × Nat
def rf (G : GG) (p : Nat) : Value := .ref (G.2.2.2.1 + p)
def WS (X : CT) (M : MM) (pc : Nat) (loc : List (Nat × Value)) (st : List Value) : Prop :=
  match X with
  | ((l, D, cy, b, _, _), p, e, R, s, m, args, below, meth, c, Q, n0, nL) =>
    ∀ (H : Heap) (locs : List Loc) (ls : Array Slot), n0 ≤ M.1 → va_P D vwCl (wl b cy M) H → va_S (fun q : Nat => b ≤ q) s.heap H locs → lv_has ls nL loc → W p l e R s m args below meth c H locs (M.1 - n0) (Zs M.1 - Zs n0) Q (F0 m pc ls st)
/-- the words of the tables that hold at any later time, too -/
def tb : List Cond := lw_tbl.filter goodWord
theorem tbI {w : Cond} {i : Nat} (h : lw_tbl[i]? = some w) (hg : goodWord w = true) : w ∈ tb := List.mem_filter.mpr ⟨List.mem_of_getElem? h, hg⟩
def lenS : List Nat := [4, 5]
def bytS : List (List Int32) := [[119, 111, 114, 100], [115, 104, 97, 112, 101]]
def nestL : List Cond := [(Jvm.Cond.methodLinkNest "SameLetters" (11 : Nat) ({ cls := "SameLetters$Text", name := "<init>", desc := "()V" } : Jvm.MethodName) "SameLetters"), (Jvm.Cond.methodLinkNest "SameLetters" (18 : Nat) ({ cls := "SameLetters$Sayings", name := "<init>", desc := "()V" } : Jvm.MethodName) "SameLetters"), (Jvm.Cond.methodLinkNest "SameLetters" (25 : Nat) ({ cls := "SameLetters$Post", name := "<init>", desc := "()V" } : Jvm.MethodName) "SameLetters"), (Jvm.Cond.methodLinkNest "SameLetters$Tongue" (23 : Nat) ({ cls := "SameLetters$Word", name := "<init>", desc := "()V" } : Jvm.MethodName) "SameLetters"), (Jvm.Cond.methodLinkNest "SameLetters$Tongue" (24 : Nat) ({ cls := "SameLetters$Shape", name := "<init>", desc := "()V" } : Jvm.MethodName) "SameLetters")]
/-- what lies outside: the array classes of objects, the two String constants, two statics -/
def ENV (G : GG) (U : State) (H : Heap) : Prop := va_AO RX0 U ∧ va_AO RX2 U ∧ va_AO RX5 U ∧ vk_R RX3 38 "word" (G.2.2.2.2.1 0) U ∧ vk_R RX3 44 "shape" (G.2.2.2.2.1 1) U ∧ vk_S 2 lenS bytS G.2.2.2.2.1 G.2.2.2.2.2 (fun q : Nat => G.2.2.2.1 ≤ q) U H ∧ va_Z "java/lang/String" "COMPACT_STRINGS" "Z" (.int 1) (fun q : Nat => G.2.2.2.1 ≤ q) U H ∧ va_Zq "jdk/internal/util/Preconditions" "SIOOBE_FORMATTER" "Ljava/util/function/BiFunction;" (fun q : Nat => G.2.2.2.1 ≤ q) U H ∧ ∀ w ∈ nestL, va_Nw w U
/-- own: the class; d: the frames that are left; lim: up to which number cells may be made -/
def OKX (X : CT) (cc : ByteArray) (own : String) (d lim w : Nat) : Prop :=
  match X with
  | ((l, D, cy, b, adK, adV), p, _, R, s, m, args, _, meth, c, _, n0, nL) =>
    p.tables.exec = Jvm.exec ∧ c.code = cc ∧ c.maxLocals = nL ∧ s.vm.findClass own = some m.cls ∧ (∀ w ∈ tb, w.before args s = true) ∧ va_K D vwCl (tysL cy) s ∧ meth.locks = false ∧ s.heap.size = b + n0 ∧ ENV (l, D, cy, b, adK, adV) s s.heap ∧ d ≤ R.frames ∧ 32 * d ≤ R.locals ∧ lim - n0 ≤ R.cells ∧ Zs lim - Zs n0 ≤ R.slots ∧ nL = w
theorem Zs_mono {a b : Nat} (h : a ≤ b) : Zs a ≤ Zs b := by
  induction h with
  | refl => exact Nat.le_refl _
  | step _ ih => exact Nat.le_trans ih (Nat.le_add_right _ _)
/-- the heap's size, out of what stands at every point of a walk -/
theorem ws_size {p : Program} {l : Launch} {e : Env} {R : Room} {s : State} {m : MethodId} {args : Array Value} {below : List Frame} {meth : Method} {c : Code} {H : Heap} {locs : List Loc} {Q : State → Prop} {g : JFrame} {D : va_G} {cy : Nat → ClassId} {b n0 k z : Nat} {M : MM} (hsz : s.heap.size = b + n0) (hk : n0 + k = M.1) (hP : va_P D vwCl (wl b cy M) H) (hS : va_S (fun q : Nat => b ≤ q) s.heap H locs)
    (kk : H.size = b + M.1 → W p l e R s m args below meth c H locs k z Q g) : W p l e R s m args below meth c H locs k z Q g := by
  intro T hT X
  have h1 := X.heapSize
  rw [hT, hsz] at h1
  have h2 : b + M.1 ≤ H.size := by
    rcases Nat.eq_zero_or_pos M.1 with hz | hz
    · have := hS.1
      omega
    · have := (hP (M.1 - 1) _ (wl_get (by omega))).lt
      have h3 : b + (M.1 - 1) < H.size := this
      omega
  exact kk (by omega) T hT X
theorem s_iconst {X : CT} {cc : ByteArray} {own : String} {d lim w : Nat} (O : OKX X cc own d lim w) {M : MM} {pc : Nat} {loc : List (Nat × Value)} {st : List Value} {n : Int} {v : Int32} (hd : decode cc pc = .ok (.iconst n, 1)) (hv : Int32.ofInt n = v) (kk : WS X M (pc + 1) loc (.int v :: st)) : WS X M pc loc (st) := by
  obtain ⟨⟨l, D, cy, b, adK, adV⟩, p0, e, R, s, m, args, below, meth, c, Q, n0, nL⟩ := X
  obtain ⟨hx, hb, hml, hown, hts, hK, hlocks, hsz, hE, hfr, hlo, hce, hsl, hw⟩ := O
  intro H locs ls h0 hP hS hl
  exact lv_iconst hx hb hd hv (kk H locs ls h0 hP hS hl)
theorem s_bipush {X : CT} {cc : ByteArray} {own : String} {d lim w : Nat} (O : OKX X cc own d lim w) {M : MM} {pc : Nat} {loc : List (Nat × Value)} {st : List Value} {n : Int} {v : Int32} (hd : decode cc pc = .ok (.bipush n, 2)) (hv : (Int8.ofInt n).toInt32 = v) (kk : WS X M (pc + 2) loc (.int v :: st)) : WS X M pc loc (st) := by
  obtain ⟨⟨l, D, cy, b, adK, adV⟩, p0, e, R, s, m, args, below, meth, c, Q, n0, nL⟩ := X
  obtain ⟨hx, hb, hml, hown, hts, hK, hlocks, hsz, hE, hfr, hlo, hce, hsl, hw⟩ := O
  intro H locs ls h0 hP hS hl
  exact lv_bipush hx hb hd hv (kk H locs ls h0 hP hS hl)
theorem s_sipush {X : CT} {cc : ByteArray} {own : String} {d lim w : Nat} (O : OKX X cc own d lim w) {M : MM} {pc : Nat} {loc : List (Nat × Value)} {st : List Value} {n : Int} {v : Int32} (hd : decode cc pc = .ok (.sipush n, 3)) (hv : (Int16.ofInt n).toInt32 = v) (kk : WS X M (pc + 3) loc (.int v :: st)) : WS X M pc loc (st) := by
  obtain ⟨⟨l, D, cy, b, adK, adV⟩, p0, e, R, s, m, args, below, meth, c, Q, n0, nL⟩ := X
  obtain ⟨hx, hb, hml, hown, hts, hK, hlocks, hsz, hE, hfr, hlo, hce, hsl, hw⟩ := O
  intro H locs ls h0 hP hS hl
  exact lv_sipush hx hb hd hv (kk H locs ls h0 hP hS hl)
theorem s_lconst {X : CT} {cc : ByteArray} {own : String} {d lim w : Nat} (O : OKX X cc own d lim w) {M : MM} {pc : Nat} {loc : List (Nat × Value)} {st : List Value} {n : Fin 2} {v : Int64} (hd : decode cc pc = .ok (.lconst n, 1)) (hv : Int64.ofNat (n : Nat) = v) (kk : WS X M (pc + 1) loc (.long v :: st)) : WS X M pc loc (st) := by
  obtain ⟨⟨l, D, cy, b, adK, adV⟩, p0, e, R, s, m, args, below, meth, c, Q, n0, nL⟩ := X
  obtain ⟨hx, hb, hml, hown, hts, hK, hlocks, hsz, hE, hfr, hlo, hce, hsl, hw⟩ := O
  intro H locs ls h0 hP hS hl
  exact lv_lconst hx hb hd hv (kk H locs ls h0 hP hS hl)
theorem s_ldc {X : CT} {cc : ByteArray} {own : String} {d lim w : Nat} (O : OKX X cc own d lim w) {M : MM} {pc : Nat} {loc : List (Nat × Value)} {st : List Value} {i : Nat} {v : Int32} (hd : decode cc pc = .ok (.ldc i, 2)) (hc : Cond.constant own i v ∈ tb) (kk : WS X M (pc + 2) loc (.int v :: st)) : WS X M pc loc (st) := by
  obtain ⟨⟨l, D, cy, b, adK, adV⟩, p0, e, R, s, m, args, below, meth, c, Q, n0, nL⟩ := X
  obtain ⟨hx, hb, hml, hown, hts, hK, hlocks, hsz, hE, hfr, hlo, hce, hsl, hw⟩ := O
  intro H locs ls h0 hP hS hl
  exact lv_ldc hx hb hown (hts _ hc) hd (kk H locs ls h0 hP hS hl)
theorem s_ldcw {X : CT} {cc : ByteArray} {own : String} {d lim w : Nat} (O : OKX X cc own d lim w) {M : MM} {pc : Nat} {loc : List (Nat × Value)} {st : List Value} {i : Nat} {v : Int32} (hd : decode cc pc = .ok (.ldc_w i, 3)) (hc : Cond.constant own i v ∈ tb) (kk : WS X M (pc + 3) loc (.int v :: st)) : WS X M pc loc (st) := by
  obtain ⟨⟨l, D, cy, b, adK, adV⟩, p0, e, R, s, m, args, below, meth, c, Q, n0, nL⟩ := X
  obtain ⟨hx, hb, hml, hown, hts, hK, hlocks, hsz, hE, hfr, hlo, hce, hsl, hw⟩ := O
  intro H locs ls h0 hP hS hl
  exact lv_ldcw hx hb hown (hts _ hc) hd (kk H locs ls h0 hP hS hl)
theorem s_ldc2 {X : CT} {cc : ByteArray} {own : String} {d lim w : Nat} (O : OKX X cc own d lim w) {M : MM} {pc : Nat} {loc : List (Nat × Value)} {st : List Value} {i : Nat} {v : Int64} (hd : decode cc pc = .ok (.ldc2_w i, 3)) (hc : Cond.constantLong own i v ∈ tb) (kk : WS X M (pc + 3) loc (.long v :: st)) : WS X M pc loc (st) := by
  obtain ⟨⟨l, D, cy, b, adK, adV⟩, p0, e, R, s, m, args, below, meth, c, Q, n0, nL⟩ := X
  obtain ⟨hx, hb, hml, hown, hts, hK, hlocks, hsz, hE, hfr, hlo, hce, hsl, hw⟩ := O
  intro H locs ls h0 hP hS hl
  exact lv_ldc2 hx hb hown (hts _ hc) hd (kk H locs ls h0 hP hS hl)
theorem s_iload_n {X : CT} {cc : ByteArray} {own : String} {d lim w : Nat} (O : OKX X cc own d lim w) {M : MM} {pc : Nat} {loc : List (Nat × Value)} {st : List Value} {k : Fin 4} {i : Nat} {x : Int32} (hd : decode cc pc = .ok (.iload_n k, 1)) (hi : (k : Nat) = i) (j : Nat) (hj : loc[j]? = some (i, .int x)) (kk : WS X M (pc + 1) loc (.int x :: st)) : WS X M pc loc (st) := by
  obtain ⟨⟨l, D, cy, b, adK, adV⟩, p0, e, R, s, m, args, below, meth, c, Q, n0, nL⟩ := X
  obtain ⟨hx, hb, hml, hown, hts, hK, hlocks, hsz, hE, hfr, hlo, hce, hsl, hw⟩ := O
  intro H locs ls h0 hP hS hl
  exact lv_iload_n hx hb hd hi (lv_at hl j hj) (kk H locs ls h0 hP hS hl)
theorem s_iload {X : CT} {cc : ByteArray} {own : String} {d lim w : Nat} (O : OKX X cc own d lim w) {M : MM} {pc : Nat} {loc : List (Nat × Value)} {st : List Value} {i : Nat} {x : Int32} (hd : decode cc pc = .ok (.iload i, 2)) (j : Nat) (hj : loc[j]? = some (i, .int x)) (kk : WS X M (pc + 2) loc (.int x :: st)) : WS X M pc loc (st) := by
  obtain ⟨⟨l, D, cy, b, adK, adV⟩, p0, e, R, s, m, args, below, meth, c, Q, n0, nL⟩ := X
  obtain ⟨hx, hb, hml, hown, hts, hK, hlocks, hsz, hE, hfr, hlo, hce, hsl, hw⟩ := O
  intro H locs ls h0 hP hS hl
  exact lv_iload hx hb hd (lv_at hl j hj) (kk H locs ls h0 hP hS hl)
theorem s_lload_n {X : CT} {cc : ByteArray} {own : String} {d lim w : Nat} (O : OKX X cc own d lim w) {M : MM} {pc : Nat} {loc : List (Nat × Value)} {st : List Value} {k : Fin 4} {i : Nat} {x : Int64} (hd : decode cc pc = .ok (.lload_n k, 1)) (hi : (k : Nat) = i) (j : Nat) (hj : loc[j]? = some (i, .long x)) (kk : WS X M (pc + 1) loc (.long x :: st)) : WS X M pc loc (st) := by
  obtain ⟨⟨l, D, cy, b, adK, adV⟩, p0, e, R, s, m, args, below, meth, c, Q, n0, nL⟩ := X
  obtain ⟨hx, hb, hml, hown, hts, hK, hlocks, hsz, hE, hfr, hlo, hce, hsl, hw⟩ := O
  intro H locs ls h0 hP hS hl
  exact lv_lload_n hx hb hd hi (lv_at hl j hj) (kk H locs ls h0 hP hS hl)
theorem s_lload {X : CT} {cc : ByteArray} {own : String} {d lim w : Nat} (O : OKX X cc own d lim w) {M : MM} {pc : Nat} {loc : List (Nat × Value)} {st : List Value} {i : Nat} {x : Int64} (hd : decode cc pc = .ok (.lload i, 2)) (j : Nat) (hj : loc[j]? = some (i, .long x)) (kk : WS X M (pc + 2) loc (.long x :: st)) : WS X M pc loc (st) := by
  obtain ⟨⟨l, D, cy, b, adK, adV⟩, p0, e, R, s, m, args, below, meth, c, Q, n0, nL⟩ := X
  obtain ⟨hx, hb, hml, hown, hts, hK, hlocks, hsz, hE, hfr, hlo, hce, hsl, hw⟩ := O
  intro H locs ls h0 hP hS hl
  exact lv_lload hx hb hd (lv_at hl j hj) (kk H locs ls h0 hP hS hl)
theorem s_aload_n {X : CT} {cc : ByteArray} {own : String} {d lim w : Nat} (O : OKX X cc own d lim w) {M : MM} {pc : Nat} {loc : List (Nat × Value)} {st : List Value} {k : Fin 4} {i x : Nat} (hd : decode cc pc = .ok (.aload_n k, 1)) (hi : (k : Nat) = i) (j : Nat) (hj : loc[j]? = some (i, rf X.1 x)) (kk : WS X M (pc + 1) loc (rf X.1 x :: st)) : WS X M pc loc (st) := by
  obtain ⟨⟨l, D, cy, b, adK, adV⟩, p0, e, R, s, m, args, below, meth, c, Q, n0, nL⟩ := X
  obtain ⟨hx, hb, hml, hown, hts, hK, hlocks, hsz, hE, hfr, hlo, hce, hsl, hw⟩ := O
  intro H locs ls h0 hP hS hl
  exact lv_aload_n hx hb hd hi (lv_at hl j hj) (kk H locs ls h0 hP hS hl)
theorem s_aload {X : CT} {cc : ByteArray} {own : String} {d lim w : Nat} (O : OKX X cc own d lim w) {M : MM} {pc : Nat} {loc : List (Nat × Value)} {st : List Value} {i x : Nat} (hd : decode cc pc = .ok (.aload i, 2)) (j : Nat) (hj : loc[j]? = some (i, rf X.1 x)) (kk : WS X M (pc + 2) loc (rf X.1 x :: st)) : WS X M pc loc (st) := by
  obtain ⟨⟨l, D, cy, b, adK, adV⟩, p0, e, R, s, m, args, below, meth, c, Q, n0, nL⟩ := X
  obtain ⟨hx, hb, hml, hown, hts, hK, hlocks, hsz, hE, hfr, hlo, hce, hsl, hw⟩ := O
  intro H locs ls h0 hP hS hl
  exact lv_aload hx hb hd (lv_at hl j hj) (kk H locs ls h0 hP hS hl)
theorem s_istore_n {X : CT} {cc : ByteArray} {own : String} {d lim w : Nat} (O : OKX X cc own d lim w) {M : MM} {pc : Nat} {loc : List (Nat × Value)} {st : List Value} {k : Fin 4} {i : Nat} {x : Int32} {loc' : List (Nat × Value)} (hd : decode cc pc = .ok (.istore_n k, 1)) (hi : (k : Nat) = i) (hn : i < w) (hlv : (i, .int x) :: loc.filter (fun q => !(q.1 == i) && !(q.1 + 1 == i && q.2.category == 2)) = loc') (kk : WS X M (pc + 1) loc' st) : WS X M pc loc (.int x :: st) := by
  obtain ⟨⟨l, D, cy, b, adK, adV⟩, p0, e, R, s, m, args, below, meth, c, Q, n0, nL⟩ := X
  obtain ⟨hx, hb, hml, hown, hts, hK, hlocks, hsz, hE, hfr, hlo, hce, hsl, hw⟩ := O
  intro H locs ls h0 hP hS hl
  exact lv_istore_n hx hb hd hi hl (hw ▸ hn) hlv (fun ls' hl' => kk H locs ls' h0 hP hS hl')
theorem s_istore {X : CT} {cc : ByteArray} {own : String} {d lim w : Nat} (O : OKX X cc own d lim w) {M : MM} {pc : Nat} {loc : List (Nat × Value)} {st : List Value} {i : Nat} {x : Int32} {loc' : List (Nat × Value)} (hd : decode cc pc = .ok (.istore i, 2)) (hn : i < w) (hlv : (i, .int x) :: loc.filter (fun q => !(q.1 == i) && !(q.1 + 1 == i && q.2.category == 2)) = loc') (kk : WS X M (pc + 2) loc' st) : WS X M pc loc (.int x :: st) := by
  obtain ⟨⟨l, D, cy, b, adK, adV⟩, p0, e, R, s, m, args, below, meth, c, Q, n0, nL⟩ := X
  obtain ⟨hx, hb, hml, hown, hts, hK, hlocks, hsz, hE, hfr, hlo, hce, hsl, hw⟩ := O
  intro H locs ls h0 hP hS hl
  exact lv_istore hx hb hd hl (hw ▸ hn) hlv (fun ls' hl' => kk H locs ls' h0 hP hS hl')
theorem s_lstore_n {X : CT} {cc : ByteArray} {own : String} {d lim w : Nat} (O : OKX X cc own d lim w) {M : MM} {pc : Nat} {loc : List (Nat × Value)} {st : List Value} {k : Fin 4} {i : Nat} {x : Int64} {loc' : List (Nat × Value)} (hd : decode cc pc = .ok (.lstore_n k, 1)) (hi : (k : Nat) = i) (hn : i + 1 < w) (hlv : (i, .long x) :: loc.filter (fun q => !(q.1 == i) && (!(q.1 == i + 1) && !(q.1 + 1 == i && q.2.category == 2))) = loc') (kk : WS X M (pc + 1) loc' st) : WS X M pc loc (.long x :: st) := by
  obtain ⟨⟨l, D, cy, b, adK, adV⟩, p0, e, R, s, m, args, below, meth, c, Q, n0, nL⟩ := X
  obtain ⟨hx, hb, hml, hown, hts, hK, hlocks, hsz, hE, hfr, hlo, hce, hsl, hw⟩ := O
  intro H locs ls h0 hP hS hl
  exact lv_lstore_n hx hb hd hi hl (hw ▸ hn) hlv (fun ls' hl' => kk H locs ls' h0 hP hS hl')
theorem s_lstore {X : CT} {cc : ByteArray} {own : String} {d lim w : Nat} (O : OKX X cc own d lim w) {M : MM} {pc : Nat} {loc : List (Nat × Value)} {st : List Value} {i : Nat} {x : Int64} {loc' : List (Nat × Value)} (hd : decode cc pc = .ok (.lstore i, 2)) (hn : i + 1 < w) (hlv : (i, .long x) :: loc.filter (fun q => !(q.1 == i) && (!(q.1 == i + 1) && !(q.1 + 1 == i && q.2.category == 2))) = loc') (kk : WS X M (pc + 2) loc' st) : WS X M pc loc (.long x :: st) := by
  obtain ⟨⟨l, D, cy, b, adK, adV⟩, p0, e, R, s, m, args, below, meth, c, Q, n0, nL⟩ := X
  obtain ⟨hx, hb, hml, hown, hts, hK, hlocks, hsz, hE, hfr, hlo, hce, hsl, hw⟩ := O
  intro H locs ls h0 hP hS hl
  exact lv_lstore hx hb hd hl (hw ▸ hn) hlv (fun ls' hl' => kk H locs ls' h0 hP hS hl')
theorem s_astore_n {X : CT} {cc : ByteArray} {own : String} {d lim w : Nat} (O : OKX X cc own d lim w) {M : MM} {pc : Nat} {loc : List (Nat × Value)} {st : List Value} {k : Fin 4} {i x : Nat} {loc' : List (Nat × Value)} (hd : decode cc pc = .ok (.astore_n k, 1)) (hi : (k : Nat) = i) (hn : i < w) (hlv : (i, rf X.1 x) :: loc.filter (fun q => !(q.1 == i) && !(q.1 + 1 == i && q.2.category == 2)) = loc') (kk : WS X M (pc + 1) loc' st) : WS X M pc loc (rf X.1 x :: st) := by
  obtain ⟨⟨l, D, cy, b, adK, adV⟩, p0, e, R, s, m, args, below, meth, c, Q, n0, nL⟩ := X
  obtain ⟨hx, hb, hml, hown, hts, hK, hlocks, hsz, hE, hfr, hlo, hce, hsl, hw⟩ := O
  intro H locs ls h0 hP hS hl
  exact lv_astore_n hx hb hd hi hl (hw ▸ hn) hlv (fun ls' hl' => kk H locs ls' h0 hP hS hl')
theorem s_astore {X : CT} {cc : ByteArray} {own : String} {d lim w : Nat} (O : OKX X cc own d lim w) {M : MM} {pc : Nat} {loc : List (Nat × Value)} {st : List Value} {i x : Nat} {loc' : List (Nat × Value)} (hd : decode cc pc = .ok (.astore i, 2)) (hn : i < w) (hlv : (i, rf X.1 x) :: loc.filter (fun q => !(q.1 == i) && !(q.1 + 1 == i && q.2.category == 2)) = loc') (kk : WS X M (pc + 2) loc' st) : WS X M pc loc (rf X.1 x :: st) := by
  obtain ⟨⟨l, D, cy, b, adK, adV⟩, p0, e, R, s, m, args, below, meth, c, Q, n0, nL⟩ := X
  obtain ⟨hx, hb, hml, hown, hts, hK, hlocks, hsz, hE, hfr, hlo, hce, hsl, hw⟩ := O
  intro H locs ls h0 hP hS hl
  exact lv_astore hx hb hd hl (hw ▸ hn) hlv (fun ls' hl' => kk H locs ls' h0 hP hS hl')
theorem s_iinc {X : CT} {cc : ByteArray} {own : String} {d lim w : Nat} (O : OKX X cc own d lim w) {M : MM} {pc : Nat} {loc : List (Nat × Value)} {st : List Value} {i : Nat} {n : Int} {x v : Int32} {loc' : List (Nat × Value)} (hd : decode cc pc = .ok (.iinc i n, 3)) (j : Nat) (hj : loc[j]? = some (i, .int x)) (hv : x + Int32.ofInt n = v) (hn : i < w) (hlv : (i, .int v) :: loc.filter (fun q => !(q.1 == i) && !(q.1 + 1 == i && q.2.category == 2)) = loc') (kk : WS X M (pc + 3) loc' st) : WS X M pc loc st := by
  obtain ⟨⟨l, D, cy, b, adK, adV⟩, p0, e, R, s, m, args, below, meth, c, Q, n0, nL⟩ := X
  obtain ⟨hx, hb, hml, hown, hts, hK, hlocks, hsz, hE, hfr, hlo, hce, hsl, hw⟩ := O
  intro H locs ls h0 hP hS hl
  exact lv_iinc hx hb hd hl hj hv (hw ▸ hn) hlv (fun ls' hl' => kk H locs ls' h0 hP hS hl')
theorem s_iadd {X : CT} {cc : ByteArray} {own : String} {d lim w : Nat} (O : OKX X cc own d lim w) {M : MM} {pc : Nat} {loc : List (Nat × Value)} {st : List Value} {x y : Int32} (hd : decode cc pc = .ok (.iadd, 1)) (kk : WS X M (pc + 1) loc (.int (x + y) :: st)) : WS X M pc loc (.int y :: .int x :: st) := by
  obtain ⟨⟨l, D, cy, b, adK, adV⟩, p0, e, R, s, m, args, below, meth, c, Q, n0, nL⟩ := X
  obtain ⟨hx, hb, hml, hown, hts, hK, hlocks, hsz, hE, hfr, hlo, hce, hsl, hw⟩ := O
  intro H locs ls h0 hP hS hl
  exact lv_iadd hx hb hd (kk H locs ls h0 hP hS hl)
theorem s_isub {X : CT} {cc : ByteArray} {own : String} {d lim w : Nat} (O : OKX X cc own d lim w) {M : MM} {pc : Nat} {loc : List (Nat × Value)} {st : List Value} {x y : Int32} (hd : decode cc pc = .ok (.isub, 1)) (kk : WS X M (pc + 1) loc (.int (x - y) :: st)) : WS X M pc loc (.int y :: .int x :: st) := by
  obtain ⟨⟨l, D, cy, b, adK, adV⟩, p0, e, R, s, m, args, below, meth, c, Q, n0, nL⟩ := X
  obtain ⟨hx, hb, hml, hown, hts, hK, hlocks, hsz, hE, hfr, hlo, hce, hsl, hw⟩ := O
  intro H locs ls h0 hP hS hl
  exact lv_isub hx hb hd (kk H locs ls h0 hP hS hl)
theorem s_imul {X : CT} {cc : ByteArray} {own : String} {d lim w : Nat} (O : OKX X cc own d lim w) {M : MM} {pc : Nat} {loc : List (Nat × Value)} {st : List Value} {x y : Int32} (hd : decode cc pc = .ok (.imul, 1)) (kk : WS X M (pc + 1) loc (.int (x * y) :: st)) : WS X M pc loc (.int y :: .int x :: st) := by
  obtain ⟨⟨l, D, cy, b, adK, adV⟩, p0, e, R, s, m, args, below, meth, c, Q, n0, nL⟩ := X
  obtain ⟨hx, hb, hml, hown, hts, hK, hlocks, hsz, hE, hfr, hlo, hce, hsl, hw⟩ := O
  intro H locs ls h0 hP hS hl
  exact lv_imul hx hb hd (kk H locs ls h0 hP hS hl)
theorem s_iand {X : CT} {cc : ByteArray} {own : String} {d lim w : Nat} (O : OKX X cc own d lim w) {M : MM} {pc : Nat} {loc : List (Nat × Value)} {st : List Value} {x y : Int32} (hd : decode cc pc = .ok (.iand, 1)) (kk : WS X M (pc + 1) loc (.int (x &&& y) :: st)) : WS X M pc loc (.int y :: .int x :: st) := by
  obtain ⟨⟨l, D, cy, b, adK, adV⟩, p0, e, R, s, m, args, below, meth, c, Q, n0, nL⟩ := X
  obtain ⟨hx, hb, hml, hown, hts, hK, hlocks, hsz, hE, hfr, hlo, hce, hsl, hw⟩ := O
  intro H locs ls h0 hP hS hl
  exact lv_iand hx hb hd (kk H locs ls h0 hP hS hl)
theorem s_ior {X : CT} {cc : ByteArray} {own : String} {d lim w : Nat} (O : OKX X cc own d lim w) {M : MM} {pc : Nat} {loc : List (Nat × Value)} {st : List Value} {x y : Int32} (hd : decode cc pc = .ok (.ior, 1)) (kk : WS X M (pc + 1) loc (.int (x ||| y) :: st)) : WS X M pc loc (.int y :: .int x :: st) := by
  obtain ⟨⟨l, D, cy, b, adK, adV⟩, p0, e, R, s, m, args, below, meth, c, Q, n0, nL⟩ := X
  obtain ⟨hx, hb, hml, hown, hts, hK, hlocks, hsz, hE, hfr, hlo, hce, hsl, hw⟩ := O
  intro H locs ls h0 hP hS hl
  exact lv_ior hx hb hd (kk H locs ls h0 hP hS hl)
theorem s_ixor {X : CT} {cc : ByteArray} {own : String} {d lim w : Nat} (O : OKX X cc own d lim w) {M : MM} {pc : Nat} {loc : List (Nat × Value)} {st : List Value} {x y : Int32} (hd : decode cc pc = .ok (.ixor, 1)) (kk : WS X M (pc + 1) loc (.int (x ^^^ y) :: st)) : WS X M pc loc (.int y :: .int x :: st) := by
  obtain ⟨⟨l, D, cy, b, adK, adV⟩, p0, e, R, s, m, args, below, meth, c, Q, n0, nL⟩ := X
  obtain ⟨hx, hb, hml, hown, hts, hK, hlocks, hsz, hE, hfr, hlo, hce, hsl, hw⟩ := O
  intro H locs ls h0 hP hS hl
  exact lv_ixor hx hb hd (kk H locs ls h0 hP hS hl)
theorem s_ishl {X : CT} {cc : ByteArray} {own : String} {d lim w : Nat} (O : OKX X cc own d lim w) {M : MM} {pc : Nat} {loc : List (Nat × Value)} {st : List Value} {x y : Int32} (hd : decode cc pc = .ok (.ishl, 1)) (kk : WS X M (pc + 1) loc (.int (x <<< (y &&& 31)) :: st)) : WS X M pc loc (.int y :: .int x :: st) := by
  obtain ⟨⟨l, D, cy, b, adK, adV⟩, p0, e, R, s, m, args, below, meth, c, Q, n0, nL⟩ := X
  obtain ⟨hx, hb, hml, hown, hts, hK, hlocks, hsz, hE, hfr, hlo, hce, hsl, hw⟩ := O
  intro H locs ls h0 hP hS hl
  exact lv_ishl hx hb hd (kk H locs ls h0 hP hS hl)
theorem s_ishr {X : CT} {cc : ByteArray} {own : String} {d lim w : Nat} (O : OKX X cc own d lim w) {M : MM} {pc : Nat} {loc : List (Nat × Value)} {st : List Value} {x y : Int32} (hd : decode cc pc = .ok (.ishr, 1)) (kk : WS X M (pc + 1) loc (.int (x >>> (y &&& 31)) :: st)) : WS X M pc loc (.int y :: .int x :: st) := by
  obtain ⟨⟨l, D, cy, b, adK, adV⟩, p0, e, R, s, m, args, below, meth, c, Q, n0, nL⟩ := X
  obtain ⟨hx, hb, hml, hown, hts, hK, hlocks, hsz, hE, hfr, hlo, hce, hsl, hw⟩ := O
  intro H locs ls h0 hP hS hl
  exact lv_ishr hx hb hd (kk H locs ls h0 hP hS hl)
theorem s_idiv {X : CT} {cc : ByteArray} {own : String} {d lim w : Nat} (O : OKX X cc own d lim w) {M : MM} {pc : Nat} {loc : List (Nat × Value)} {st : List Value} {x y : Int32} (hd : decode cc pc = .ok (.idiv, 1)) (hne : ¬ y = 0) (kk : WS X M (pc + 1) loc (.int (x / y) :: st)) : WS X M pc loc (.int y :: .int x :: st) := by
  obtain ⟨⟨l, D, cy, b, adK, adV⟩, p0, e, R, s, m, args, below, meth, c, Q, n0, nL⟩ := X
  obtain ⟨hx, hb, hml, hown, hts, hK, hlocks, hsz, hE, hfr, hlo, hce, hsl, hw⟩ := O
  intro H locs ls h0 hP hS hl
  exact lv_idiv hx hb hd hne (kk H locs ls h0 hP hS hl)
theorem s_irem {X : CT} {cc : ByteArray} {own : String} {d lim w : Nat} (O : OKX X cc own d lim w) {M : MM} {pc : Nat} {loc : List (Nat × Value)} {st : List Value} {x y : Int32} (hd : decode cc pc = .ok (.irem, 1)) (hne : ¬ y = 0) (kk : WS X M (pc + 1) loc (.int (x - x / y * y) :: st)) : WS X M pc loc (.int y :: .int x :: st) := by
  obtain ⟨⟨l, D, cy, b, adK, adV⟩, p0, e, R, s, m, args, below, meth, c, Q, n0, nL⟩ := X
  obtain ⟨hx, hb, hml, hown, hts, hK, hlocks, hsz, hE, hfr, hlo, hce, hsl, hw⟩ := O
  intro H locs ls h0 hP hS hl
  exact lv_irem hx hb hd hne (kk H locs ls h0 hP hS hl)
theorem s_ineg {X : CT} {cc : ByteArray} {own : String} {d lim w : Nat} (O : OKX X cc own d lim w) {M : MM} {pc : Nat} {loc : List (Nat × Value)} {st : List Value} {x : Int32} (hd : decode cc pc = .ok (.ineg, 1)) (kk : WS X M (pc + 1) loc (.int (-x) :: st)) : WS X M pc loc (.int x :: st) := by
  obtain ⟨⟨l, D, cy, b, adK, adV⟩, p0, e, R, s, m, args, below, meth, c, Q, n0, nL⟩ := X
  obtain ⟨hx, hb, hml, hown, hts, hK, hlocks, hsz, hE, hfr, hlo, hce, hsl, hw⟩ := O
  intro H locs ls h0 hP hS hl
  exact lv_ineg hx hb hd (kk H locs ls h0 hP hS hl)
theorem s_ladd {X : CT} {cc : ByteArray} {own : String} {d lim w : Nat} (O : OKX X cc own d lim w) {M : MM} {pc : Nat} {loc : List (Nat × Value)} {st : List Value} {x y : Int64} (hd : decode cc pc = .ok (.ladd, 1)) (kk : WS X M (pc + 1) loc (.long (x + y) :: st)) : WS X M pc loc (.long y :: .long x :: st) := by
  obtain ⟨⟨l, D, cy, b, adK, adV⟩, p0, e, R, s, m, args, below, meth, c, Q, n0, nL⟩ := X
  obtain ⟨hx, hb, hml, hown, hts, hK, hlocks, hsz, hE, hfr, hlo, hce, hsl, hw⟩ := O
  intro H locs ls h0 hP hS hl
  exact lv_ladd hx hb hd (kk H locs ls h0 hP hS hl)
theorem s_lsub {X : CT} {cc : ByteArray} {own : String} {d lim w : Nat} (O : OKX X cc own d lim w) {M : MM} {pc : Nat} {loc : List (Nat × Value)} {st : List Value} {x y : Int64} (hd : decode cc pc = .ok (.lsub, 1)) (kk : WS X M (pc + 1) loc (.long (x - y) :: st)) : WS X M pc loc (.long y :: .long x :: st) := by
  obtain ⟨⟨l, D, cy, b, adK, adV⟩, p0, e, R, s, m, args, below, meth, c, Q, n0, nL⟩ := X
  obtain ⟨hx, hb, hml, hown, hts, hK, hlocks, hsz, hE, hfr, hlo, hce, hsl, hw⟩ := O
  intro H locs ls h0 hP hS hl
  exact lv_lsub hx hb hd (kk H locs ls h0 hP hS hl)
theorem s_lmul {X : CT} {cc : ByteArray} {own : String} {d lim w : Nat} (O : OKX X cc own d lim w) {M : MM} {pc : Nat} {loc : List (Nat × Value)} {st : List Value} {x y : Int64} (hd : decode cc pc = .ok (.lmul, 1)) (kk : WS X M (pc + 1) loc (.long (x * y) :: st)) : WS X M pc loc (.long y :: .long x :: st) := by
  obtain ⟨⟨l, D, cy, b, adK, adV⟩, p0, e, R, s, m, args, below, meth, c, Q, n0, nL⟩ := X
  obtain ⟨hx, hb, hml, hown, hts, hK, hlocks, hsz, hE, hfr, hlo, hce, hsl, hw⟩ := O
  intro H locs ls h0 hP hS hl
  exact lv_lmul hx hb hd (kk H locs ls h0 hP hS hl)
theorem s_land {X : CT} {cc : ByteArray} {own : String} {d lim w : Nat} (O : OKX X cc own d lim w) {M : MM} {pc : Nat} {loc : List (Nat × Value)} {st : List Value} {x y : Int64} (hd : decode cc pc = .ok (.land, 1)) (kk : WS X M (pc + 1) loc (.long (x &&& y) :: st)) : WS X M pc loc (.long y :: .long x :: st) := by
  obtain ⟨⟨l, D, cy, b, adK, adV⟩, p0, e, R, s, m, args, below, meth, c, Q, n0, nL⟩ := X
  obtain ⟨hx, hb, hml, hown, hts, hK, hlocks, hsz, hE, hfr, hlo, hce, hsl, hw⟩ := O
  intro H locs ls h0 hP hS hl
  exact lv_land hx hb hd (kk H locs ls h0 hP hS hl)
theorem s_lor {X : CT} {cc : ByteArray} {own : String} {d lim w : Nat} (O : OKX X cc own d lim w) {M : MM} {pc : Nat} {loc : List (Nat × Value)} {st : List Value} {x y : Int64} (hd : decode cc pc = .ok (.lor, 1)) (kk : WS X M (pc + 1) loc (.long (x ||| y) :: st)) : WS X M pc loc (.long y :: .long x :: st) := by
  obtain ⟨⟨l, D, cy, b, adK, adV⟩, p0, e, R, s, m, args, below, meth, c, Q, n0, nL⟩ := X
  obtain ⟨hx, hb, hml, hown, hts, hK, hlocks, hsz, hE, hfr, hlo, hce, hsl, hw⟩ := O
  intro H locs ls h0 hP hS hl
  exact lv_lor hx hb hd (kk H locs ls h0 hP hS hl)
theorem s_i2l {X : CT} {cc : ByteArray} {own : String} {d lim w : Nat} (O : OKX X cc own d lim w) {M : MM} {pc : Nat} {loc : List (Nat × Value)} {st : List Value} {x : Int32} (hd : decode cc pc = .ok (.i2l, 1)) (kk : WS X M (pc + 1) loc (.long x.toInt64 :: st)) : WS X M pc loc (.int x :: st) := by
  obtain ⟨⟨l, D, cy, b, adK, adV⟩, p0, e, R, s, m, args, below, meth, c, Q, n0, nL⟩ := X
  obtain ⟨hx, hb, hml, hown, hts, hK, hlocks, hsz, hE, hfr, hlo, hce, hsl, hw⟩ := O
  intro H locs ls h0 hP hS hl
  exact lv_i2l hx hb hd rfl (kk H locs ls h0 hP hS hl)
theorem s_l2i {X : CT} {cc : ByteArray} {own : String} {d lim w : Nat} (O : OKX X cc own d lim w) {M : MM} {pc : Nat} {loc : List (Nat × Value)} {st : List Value} {x : Int64} (hd : decode cc pc = .ok (.l2i, 1)) (kk : WS X M (pc + 1) loc (.int x.toInt32 :: st)) : WS X M pc loc (.long x :: st) := by
  obtain ⟨⟨l, D, cy, b, adK, adV⟩, p0, e, R, s, m, args, below, meth, c, Q, n0, nL⟩ := X
  obtain ⟨hx, hb, hml, hown, hts, hK, hlocks, hsz, hE, hfr, hlo, hce, hsl, hw⟩ := O
  intro H locs ls h0 hP hS hl
  exact lv_l2i hx hb hd rfl (kk H locs ls h0 hP hS hl)
theorem s_iushr {X : CT} {cc : ByteArray} {own : String} {d lim w : Nat} (O : OKX X cc own d lim w) {M : MM} {pc : Nat} {loc : List (Nat × Value)} {st : List Value} {x y : Int32} (hd : decode cc pc = .ok (.iushr, 1)) (kk : WS X M (pc + 1) loc (.int (x.toUInt32 >>> (y.toUInt32 &&& Int32.toUInt32 31)).toInt32 :: st)) : WS X M pc loc (.int y :: .int x :: st) := by
  obtain ⟨⟨l, D, cy, b, adK, adV⟩, p0, e, R, s, m, args, below, meth, c, Q, n0, nL⟩ := X
  obtain ⟨hx, hb, hml, hown, hts, hK, hlocks, hsz, hE, hfr, hlo, hce, hsl, hw⟩ := O
  intro H locs ls h0 hP hS hl
  exact lv_iushr hx hb hd rfl (kk H locs ls h0 hP hS hl)
theorem s_lushr {X : CT} {cc : ByteArray} {own : String} {d lim w : Nat} (O : OKX X cc own d lim w) {M : MM} {pc : Nat} {loc : List (Nat × Value)} {st : List Value} {x : Int64} {y : Int32} (hd : decode cc pc = .ok (.lushr, 1)) (kk : WS X M (pc + 1) loc (.long (x.toUInt64 >>> (y.toInt64.toUInt64 &&& Int64.toUInt64 63)).toInt64 :: st)) : WS X M pc loc (.int y :: .long x :: st) := by
  obtain ⟨⟨l, D, cy, b, adK, adV⟩, p0, e, R, s, m, args, below, meth, c, Q, n0, nL⟩ := X
  obtain ⟨hx, hb, hml, hown, hts, hK, hlocks, hsz, hE, hfr, hlo, hce, hsl, hw⟩ := O
  intro H locs ls h0 hP hS hl
  exact lv_lushr hx hb hd rfl (kk H locs ls h0 hP hS hl)
theorem s_lshl {X : CT} {cc : ByteArray} {own : String} {d lim w : Nat} (O : OKX X cc own d lim w) {M : MM} {pc : Nat} {loc : List (Nat × Value)} {st : List Value} {x : Int64} {y : Int32} (hd : decode cc pc = .ok (.lshl, 1)) (kk : WS X M (pc + 1) loc (.long (x <<< (y.toInt64 &&& 63)) :: st)) : WS X M pc loc (.int y :: .long x :: st) := by
  obtain ⟨⟨l, D, cy, b, adK, adV⟩, p0, e, R, s, m, args, below, meth, c, Q, n0, nL⟩ := X
  obtain ⟨hx, hb, hml, hown, hts, hK, hlocks, hsz, hE, hfr, hlo, hce, hsl, hw⟩ := O
  intro H locs ls h0 hP hS hl
  exact lv_lshl hx hb hd rfl (kk H locs ls h0 hP hS hl)
theorem s_lshr {X : CT} {cc : ByteArray} {own : String} {d lim w : Nat} (O : OKX X cc own d lim w) {M : MM} {pc : Nat} {loc : List (Nat × Value)} {st : List Value} {x : Int64} {y : Int32} (hd : decode cc pc = .ok (.lshr, 1)) (kk : WS X M (pc + 1) loc (.long (x >>> (y.toInt64 &&& 63)) :: st)) : WS X M pc loc (.int y :: .long x :: st) := by
  obtain ⟨⟨l, D, cy, b, adK, adV⟩, p0, e, R, s, m, args, below, meth, c, Q, n0, nL⟩ := X
  obtain ⟨hx, hb, hml, hown, hts, hK, hlocks, hsz, hE, hfr, hlo, hce, hsl, hw⟩ := O
  intro H locs ls h0 hP hS hl
  exact lv_lshr hx hb hd rfl (kk H locs ls h0 hP hS hl)
theorem s_lcmp {X : CT} {cc : ByteArray} {own : String} {d lim w : Nat} (O : OKX X cc own d lim w) {M : MM} {pc : Nat} {loc : List (Nat × Value)} {st : List Value} {x y : Int64} (hd : decode cc pc = .ok (.lcmp, 1)) (kk : WS X M (pc + 1) loc (.int (lg_cmp x y) :: st)) : WS X M pc loc (.long y :: .long x :: st) := by
  obtain ⟨⟨l, D, cy, b, adK, adV⟩, p0, e, R, s, m, args, below, meth, c, Q, n0, nL⟩ := X
  obtain ⟨hx, hb, hml, hown, hts, hK, hlocks, hsz, hE, hfr, hlo, hce, hsl, hw⟩ := O
  intro H locs ls h0 hP hS hl
  exact W.lcmp hx hb hd (kk H locs ls h0 hP hS hl)
theorem s_dup {X : CT} {cc : ByteArray} {own : String} {d lim w : Nat} (O : OKX X cc own d lim w) {M : MM} {pc : Nat} {loc : List (Nat × Value)} {st : List Value} {va : Value} (hd : decode cc pc = .ok (.dup, 1)) (hva : va.category = 1) (kk : WS X M (pc + 1) loc (va :: va :: st)) : WS X M pc loc (va :: st) := by
  obtain ⟨⟨l, D, cy, b, adK, adV⟩, p0, e, R, s, m, args, below, meth, c, Q, n0, nL⟩ := X
  obtain ⟨hx, hb, hml, hown, hts, hK, hlocks, hsz, hE, hfr, hlo, hce, hsl, hw⟩ := O
  intro H locs ls h0 hP hS hl
  exact lv_dup hx hb hd hva (kk H locs ls h0 hP hS hl)
theorem s_pop {X : CT} {cc : ByteArray} {own : String} {d lim w : Nat} (O : OKX X cc own d lim w) {M : MM} {pc : Nat} {loc : List (Nat × Value)} {st : List Value} {va : Value} (hd : decode cc pc = .ok (.pop, 1)) (hva : va.category = 1) (kk : WS X M (pc + 1) loc (st)) : WS X M pc loc (va :: st) := by
  obtain ⟨⟨l, D, cy, b, adK, adV⟩, p0, e, R, s, m, args, below, meth, c, Q, n0, nL⟩ := X
  obtain ⟨hx, hb, hml, hown, hts, hK, hlocks, hsz, hE, hfr, hlo, hce, hsl, hw⟩ := O
  intro H locs ls h0 hP hS hl
  exact lv_pop hx hb hd hva (kk H locs ls h0 hP hS hl)
theorem s_dup2 {X : CT} {cc : ByteArray} {own : String} {d lim w : Nat} (O : OKX X cc own d lim w) {M : MM} {pc : Nat} {loc : List (Nat × Value)} {st : List Value} {va vb : Value} (hd : decode cc pc = .ok (.dup2, 1)) (hva : va.category = 1) (hvb : vb.category = 1) (kk : WS X M (pc + 1) loc (va :: vb :: va :: vb :: st)) : WS X M pc loc (va :: vb :: st) := by
  obtain ⟨⟨l, D, cy, b, adK, adV⟩, p0, e, R, s, m, args, below, meth, c, Q, n0, nL⟩ := X
  obtain ⟨hx, hb, hml, hown, hts, hK, hlocks, hsz, hE, hfr, hlo, hce, hsl, hw⟩ := O
  intro H locs ls h0 hP hS hl
  exact lv_dup2_11 hx hb hd hva hvb (kk H locs ls h0 hP hS hl)
theorem s_if_eq {X : CT} {cc : ByteArray} {own : String} {d lim w : Nat} (O : OKX X cc own d lim w) {M : MM} {pc : Nat} {loc : List (Nat × Value)} {st : List Value} {x : Int32} {off : Int} {tgt : Nat} (hd : decode cc pc = .ok (.ifCond .eq off, 3)) (ht : (pc : Int) + off = (tgt : Int)) (kt : x = 0 → WS X M tgt loc st) (kf : ¬ x = 0 → WS X M (pc + 3) loc st) : WS X M pc loc (.int x :: st) := by
  obtain ⟨⟨l, D, cy, b, adK, adV⟩, p0, e, R, s, m, args, below, meth, c, Q, n0, nL⟩ := X
  obtain ⟨hx, hb, hml, hown, hts, hK, hlocks, hsz, hE, hfr, hlo, hce, hsl, hw⟩ := O
  intro H locs ls h0 hP hS hl
  exact lv_if_eq hx hb hd ht (fun q => kt q H locs ls h0 hP hS hl) (fun q => kf q H locs ls h0 hP hS hl)
theorem s_if_ne {X : CT} {cc : ByteArray} {own : String} {d lim w : Nat} (O : OKX X cc own d lim w) {M : MM} {pc : Nat} {loc : List (Nat × Value)} {st : List Value} {x : Int32} {off : Int} {tgt : Nat} (hd : decode cc pc = .ok (.ifCond .ne off, 3)) (ht : (pc : Int) + off = (tgt : Int)) (kt : ¬ x = 0 → WS X M tgt loc st) (kf : x = 0 → WS X M (pc + 3) loc st) : WS X M pc loc (.int x :: st) := by
  obtain ⟨⟨l, D, cy, b, adK, adV⟩, p0, e, R, s, m, args, below, meth, c, Q, n0, nL⟩ := X
  obtain ⟨hx, hb, hml, hown, hts, hK, hlocks, hsz, hE, hfr, hlo, hce, hsl, hw⟩ := O
  intro H locs ls h0 hP hS hl
  exact lv_if_ne hx hb hd ht (fun q => kt q H locs ls h0 hP hS hl) (fun q => kf q H locs ls h0 hP hS hl)
theorem s_if_lt {X : CT} {cc : ByteArray} {own : String} {d lim w : Nat} (O : OKX X cc own d lim w) {M : MM} {pc : Nat} {loc : List (Nat × Value)} {st : List Value} {x : Int32} {off : Int} {tgt : Nat} (hd : decode cc pc = .ok (.ifCond .lt off, 3)) (ht : (pc : Int) + off = (tgt : Int)) (kt : x < 0 → WS X M tgt loc st) (kf : ¬ x < 0 → WS X M (pc + 3) loc st) : WS X M pc loc (.int x :: st) := by
  obtain ⟨⟨l, D, cy, b, adK, adV⟩, p0, e, R, s, m, args, below, meth, c, Q, n0, nL⟩ := X
  obtain ⟨hx, hb, hml, hown, hts, hK, hlocks, hsz, hE, hfr, hlo, hce, hsl, hw⟩ := O
  intro H locs ls h0 hP hS hl
  exact lv_if_lt hx hb hd ht (fun q => kt q H locs ls h0 hP hS hl) (fun q => kf q H locs ls h0 hP hS hl)
theorem s_if_ge {X : CT} {cc : ByteArray} {own : String} {d lim w : Nat} (O : OKX X cc own d lim w) {M : MM} {pc : Nat} {loc : List (Nat × Value)} {st : List Value} {x : Int32} {off : Int} {tgt : Nat} (hd : decode cc pc = .ok (.ifCond .ge off, 3)) (ht : (pc : Int) + off = (tgt : Int)) (kt : 0 ≤ x → WS X M tgt loc st) (kf : ¬ 0 ≤ x → WS X M (pc + 3) loc st) : WS X M pc loc (.int x :: st) := by
  obtain ⟨⟨l, D, cy, b, adK, adV⟩, p0, e, R, s, m, args, below, meth, c, Q, n0, nL⟩ := X
  obtain ⟨hx, hb, hml, hown, hts, hK, hlocks, hsz, hE, hfr, hlo, hce, hsl, hw⟩ := O
  intro H locs ls h0 hP hS hl
  exact lv_if_ge hx hb hd ht (fun q => kt q H locs ls h0 hP hS hl) (fun q => kf q H locs ls h0 hP hS hl)
theorem s_if_gt {X : CT} {cc : ByteArray} {own : String} {d lim w : Nat} (O : OKX X cc own d lim w) {M : MM} {pc : Nat} {loc : List (Nat × Value)} {st : List Value} {x : Int32} {off : Int} {tgt : Nat} (hd : decode cc pc = .ok (.ifCond .gt off, 3)) (ht : (pc : Int) + off = (tgt : Int)) (kt : 0 < x → WS X M tgt loc st) (kf : ¬ 0 < x → WS X M (pc + 3) loc st) : WS X M pc loc (.int x :: st) := by
  obtain ⟨⟨l, D, cy, b, adK, adV⟩, p0, e, R, s, m, args, below, meth, c, Q, n0, nL⟩ := X
  obtain ⟨hx, hb, hml, hown, hts, hK, hlocks, hsz, hE, hfr, hlo, hce, hsl, hw⟩ := O
  intro H locs ls h0 hP hS hl
  exact lv_if_gt hx hb hd ht (fun q => kt q H locs ls h0 hP hS hl) (fun q => kf q H locs ls h0 hP hS hl)
theorem s_if_le {X : CT} {cc : ByteArray} {own : String} {d lim w : Nat} (O : OKX X cc own d lim w) {M : MM} {pc : Nat} {loc : List (Nat × Value)} {st : List Value} {x : Int32} {off : Int} {tgt : Nat} (hd : decode cc pc = .ok (.ifCond .le off, 3)) (ht : (pc : Int) + off = (tgt : Int)) (kt : x ≤ 0 → WS X M tgt loc st) (kf : ¬ x ≤ 0 → WS X M (pc + 3) loc st) : WS X M pc loc (.int x :: st) := by
  obtain ⟨⟨l, D, cy, b, adK, adV⟩, p0, e, R, s, m, args, below, meth, c, Q, n0, nL⟩ := X
  obtain ⟨hx, hb, hml, hown, hts, hK, hlocks, hsz, hE, hfr, hlo, hce, hsl, hw⟩ := O
  intro H locs ls h0 hP hS hl
  exact lv_if_le hx hb hd ht (fun q => kt q H locs ls h0 hP hS hl) (fun q => kf q H locs ls h0 hP hS hl)
theorem s_icmp_eq {X : CT} {cc : ByteArray} {own : String} {d lim w : Nat} (O : OKX X cc own d lim w) {M : MM} {pc : Nat} {loc : List (Nat × Value)} {st : List Value} {x y : Int32} {off : Int} {tgt : Nat} (hd : decode cc pc = .ok (.if_icmp .eq off, 3)) (ht : (pc : Int) + off = (tgt : Int)) (kt : x = y → WS X M tgt loc st) (kf : ¬ x = y → WS X M (pc + 3) loc st) : WS X M pc loc (.int y :: .int x :: st) := by
  obtain ⟨⟨l, D, cy, b, adK, adV⟩, p0, e, R, s, m, args, below, meth, c, Q, n0, nL⟩ := X
  obtain ⟨hx, hb, hml, hown, hts, hK, hlocks, hsz, hE, hfr, hlo, hce, hsl, hw⟩ := O
  intro H locs ls h0 hP hS hl
  exact lv_icmp_eq hx hb hd ht (fun q => kt q H locs ls h0 hP hS hl) (fun q => kf q H locs ls h0 hP hS hl)
theorem s_icmp_ne {X : CT} {cc : ByteArray} {own : String} {d lim w : Nat} (O : OKX X cc own d lim w) {M : MM} {pc : Nat} {loc : List (Nat × Value)} {st : List Value} {x y : Int32} {off : Int} {tgt : Nat} (hd : decode cc pc = .ok (.if_icmp .ne off, 3)) (ht : (pc : Int) + off = (tgt : Int)) (kt : ¬ x = y → WS X M tgt loc st) (kf : x = y → WS X M (pc + 3) loc st) : WS X M pc loc (.int y :: .int x :: st) := by
  obtain ⟨⟨l, D, cy, b, adK, adV⟩, p0, e, R, s, m, args, below, meth, c, Q, n0, nL⟩ := X
  obtain ⟨hx, hb, hml, hown, hts, hK, hlocks, hsz, hE, hfr, hlo, hce, hsl, hw⟩ := O
  intro H locs ls h0 hP hS hl
  exact lv_icmp_ne hx hb hd ht (fun q => kt q H locs ls h0 hP hS hl) (fun q => kf q H locs ls h0 hP hS hl)
theorem s_icmp_lt {X : CT} {cc : ByteArray} {own : String} {d lim w : Nat} (O : OKX X cc own d lim w) {M : MM} {pc : Nat} {loc : List (Nat × Value)} {st : List Value} {x y : Int32} {off : Int} {tgt : Nat} (hd : decode cc pc = .ok (.if_icmp .lt off, 3)) (ht : (pc : Int) + off = (tgt : Int)) (kt : x < y → WS X M tgt loc st) (kf : ¬ x < y → WS X M (pc + 3) loc st) : WS X M pc loc (.int y :: .int x :: st) := by
  obtain ⟨⟨l, D, cy, b, adK, adV⟩, p0, e, R, s, m, args, below, meth, c, Q, n0, nL⟩ := X
  obtain ⟨hx, hb, hml, hown, hts, hK, hlocks, hsz, hE, hfr, hlo, hce, hsl, hw⟩ := O
  intro H locs ls h0 hP hS hl
  exact lv_icmp_lt hx hb hd ht (fun q => kt q H locs ls h0 hP hS hl) (fun q => kf q H locs ls h0 hP hS hl)
theorem s_icmp_ge {X : CT} {cc : ByteArray} {own : String} {d lim w : Nat} (O : OKX X cc own d lim w) {M : MM} {pc : Nat} {loc : List (Nat × Value)} {st : List Value} {x y : Int32} {off : Int} {tgt : Nat} (hd : decode cc pc = .ok (.if_icmp .ge off, 3)) (ht : (pc : Int) + off = (tgt : Int)) (kt : y ≤ x → WS X M tgt loc st) (kf : ¬ y ≤ x → WS X M (pc + 3) loc st) : WS X M pc loc (.int y :: .int x :: st) := by
  obtain ⟨⟨l, D, cy, b, adK, adV⟩, p0, e, R, s, m, args, below, meth, c, Q, n0, nL⟩ := X
  obtain ⟨hx, hb, hml, hown, hts, hK, hlocks, hsz, hE, hfr, hlo, hce, hsl, hw⟩ := O
  intro H locs ls h0 hP hS hl
  exact lv_icmp_ge hx hb hd ht (fun q => kt q H locs ls h0 hP hS hl) (fun q => kf q H locs ls h0 hP hS hl)
theorem s_icmp_gt {X : CT} {cc : ByteArray} {own : String} {d lim w : Nat} (O : OKX X cc own d lim w) {M : MM} {pc : Nat} {loc : List (Nat × Value)} {st : List Value} {x y : Int32} {off : Int} {tgt : Nat} (hd : decode cc pc = .ok (.if_icmp .gt off, 3)) (ht : (pc : Int) + off = (tgt : Int)) (kt : y < x → WS X M tgt loc st) (kf : ¬ y < x → WS X M (pc + 3) loc st) : WS X M pc loc (.int y :: .int x :: st) := by
  obtain ⟨⟨l, D, cy, b, adK, adV⟩, p0, e, R, s, m, args, below, meth, c, Q, n0, nL⟩ := X
  obtain ⟨hx, hb, hml, hown, hts, hK, hlocks, hsz, hE, hfr, hlo, hce, hsl, hw⟩ := O
  intro H locs ls h0 hP hS hl
  exact lv_icmp_gt hx hb hd ht (fun q => kt q H locs ls h0 hP hS hl) (fun q => kf q H locs ls h0 hP hS hl)
theorem s_icmp_le {X : CT} {cc : ByteArray} {own : String} {d lim w : Nat} (O : OKX X cc own d lim w) {M : MM} {pc : Nat} {loc : List (Nat × Value)} {st : List Value} {x y : Int32} {off : Int} {tgt : Nat} (hd : decode cc pc = .ok (.if_icmp .le off, 3)) (ht : (pc : Int) + off = (tgt : Int)) (kt : x ≤ y → WS X M tgt loc st) (kf : ¬ x ≤ y → WS X M (pc + 3) loc st) : WS X M pc loc (.int y :: .int x :: st) := by
  obtain ⟨⟨l, D, cy, b, adK, adV⟩, p0, e, R, s, m, args, below, meth, c, Q, n0, nL⟩ := X
  obtain ⟨hx, hb, hml, hown, hts, hK, hlocks, hsz, hE, hfr, hlo, hce, hsl, hw⟩ := O
  intro H locs ls h0 hP hS hl
  exact lv_icmp_le hx hb hd ht (fun q => kt q H locs ls h0 hP hS hl) (fun q => kf q H locs ls h0 hP hS hl)
theorem s_goto {X : CT} {cc : ByteArray} {own : String} {d lim w : Nat} (O : OKX X cc own d lim w) {M : MM} {pc : Nat} {loc : List (Nat × Value)} {st : List Value} {off : Int} {tgt : Nat} (hd : decode cc pc = .ok (.goto off, 3)) (ht : (pc : Int) + off = (tgt : Int)) (kk : WS X M tgt loc st) : WS X M pc loc st := by
  obtain ⟨⟨l, D, cy, b, adK, adV⟩, p0, e, R, s, m, args, below, meth, c, Q, n0, nL⟩ := X
  obtain ⟨hx, hb, hml, hown, hts, hK, hlocks, hsz, hE, hfr, hlo, hce, hsl, hw⟩ := O
  intro H locs ls h0 hP hS hl
  exact lv_goto hx hb hd ht (kk H locs ls h0 hP hS hl)
theorem s_tabIn {X : CT} {cc : ByteArray} {own : String} {d lim w : Nat} (O : OKX X cc own d lim w) {M : MM} {pc : Nat} {loc : List (Nat × Value)} {st : List Value} {dflt lo hi : Int} {offs : Array Int} {len : Nat} {x : Int32} {off : Int} {tgt : Nat} (hd : decode cc pc = .ok (.tableswitch dflt lo hi offs, len)) (h1 : ¬ x.toInt < lo) (h2 : ¬ hi < x.toInt) (ho : offs[(x.toInt - lo).toNat]? = some off) (ht : (pc : Int) + off = (tgt : Int)) (kk : WS X M tgt loc st) : WS X M pc loc (.int x :: st) := by
  obtain ⟨⟨l, D, cy, b, adK, adV⟩, p0, e, R, s, m, args, below, meth, c, Q, n0, nL⟩ := X
  obtain ⟨hx, hb, hml, hown, hts, hK, hlocks, hsz, hE, hfr, hlo, hce, hsl, hw⟩ := O
  intro H locs ls h0 hP hS hl
  exact lv_tableIn hx hb hd h1 h2 ho ht (kk H locs ls h0 hP hS hl)
theorem s_tabOut {X : CT} {cc : ByteArray} {own : String} {d lim w : Nat} (O : OKX X cc own d lim w) {M : MM} {pc : Nat} {loc : List (Nat × Value)} {st : List Value} {dflt lo hi : Int} {offs : Array Int} {len : Nat} {x : Int32} {tgt : Nat} (hd : decode cc pc = .ok (.tableswitch dflt lo hi offs, len)) (h1 : x.toInt < lo ∨ hi < x.toInt) (ht : (pc : Int) + dflt = (tgt : Int)) (kk : WS X M tgt loc st) : WS X M pc loc (.int x :: st) := by
  obtain ⟨⟨l, D, cy, b, adK, adV⟩, p0, e, R, s, m, args, below, meth, c, Q, n0, nL⟩ := X
  obtain ⟨hx, hb, hml, hown, hts, hK, hlocks, hsz, hE, hfr, hlo, hce, hsl, hw⟩ := O
  intro H locs ls h0 hP hS hl
  exact lv_tableOut hx hb hd h1 ht (kk H locs ls h0 hP hS hl)
theorem s_sub {X : CT} {cc : ByteArray} {own : String} {d lim w : Nat} (O : OKX X cc own d lim w) {M : MM} {pc : Nat} {loc : List (Nat × Value)} {st : List Value} (ks : List Nat) {loc' : List (Nat × Value)} (h : lv_pick loc ks = loc') (kk : WS X M pc loc' st) : WS X M pc loc st := by
  obtain ⟨⟨l, D, cy, b, adK, adV⟩, p0, e, R, s, m, args, below, meth, c, Q, n0, nL⟩ := X
  obtain ⟨hx, hb, hml, hown, hts, hK, hlocks, hsz, hE, hfr, hlo, hce, hsl, hw⟩ := O
  intro H locs ls h0 hP hS hl
  exact kk H locs ls h0 hP hS (lv_sub hl ks h)
/-- what the tables give of a class -/
def KCok (ci : Nat) (C : String) (T : u_T) (N : Nat) (ty : Nat → FieldType) : Prop := ci < 8 ∧ vwCl[ci]? = some (C, T, N) ∧ (∀ w ∈ u_ws C T N, w ∈ tb) ∧ (∀ k, k < N → parseFieldDescriptor (T k).2.2.1 = some (ty k)) ∧ (∀ a, a < N → ∀ b, b < N → a ≠ b → (T a).2.1 ≠ (T b).2.1) ∧ (fl ci).length = N ∧ (∀ k, k < N → (T k).1 = C)
theorem kc0 : KCok 0 RX0 TX0 3 tyX0 := ⟨by decide, rfl, by decide +kernel, tyX0_ok, nmX0, rfl, by decide +kernel⟩
theorem kc1 : KCok 1 RX1 TX1 14 tyX1 := ⟨by decide, rfl, by decide +kernel, tyX1_ok, nmX1, rfl, by decide +kernel⟩
theorem kc2 : KCok 2 RX2 TX2 2 tyX2 := ⟨by decide, rfl, by decide +kernel, tyX2_ok, nmX2, rfl, by decide +kernel⟩
theorem kc3 : KCok 3 RX3 TX3 6 tyX3 := ⟨by decide, rfl, by decide +kernel, tyX3_ok, nmX3, rfl, by decide +kernel⟩
theorem kc4 : KCok 4 RX4 TX4 4 tyX4 := ⟨by decide, rfl, by decide +kernel, tyX4_ok, nmX4, rfl, by decide +kernel⟩
theorem kc5 : KCok 5 RX5 TX5 5 tyX5 := ⟨by decide, rfl, by decide +kernel, tyX5_ok, nmX5, rfl, by decide +kernel⟩
theorem kc6 : KCok 6 RX6 TX6 7 tyX6 := ⟨by decide, rfl, by decide +kernel, tyX6_ok, nmX6, rfl, by decide +kernel⟩
theorem kc7 : KCok 7 RX7 TX7 18 tyX7 := ⟨by decide, rfl, by decide +kernel, tyX7_ok, nmX7, rfl, by decide +kernel⟩
theorem mapIdx_at {α β : Type} {f : Nat → α → β} {l : List α} {k : Nat} {t : α} (h : l[k]? = some t) : (l.mapIdx f)[k]? = some (f k t) := by
  simp [h]
theorem s_getI {X : CT} {cc : ByteArray} {own : String} {d lim w : Nat} (O : OKX X cc own d lim w) {M : MM} {pc : Nat} {loc : List (Nat × Value)} {st : List Value} {i p : Nat} {v : Int32} {ci k : Nat} {C : String} {T : u_T} {N : Nat} {ty : Nat → FieldType} (HK : KCok ci C T N ty) (ht : (fl ci)[k]? = some 0) (hlk : Cond.fieldLink own i C (T k).2.1 (T k).2.2.1 ∈ tb) (hv : fI M p ci k = some v) (hd : decode cc pc = .ok (.getfield i, 3)) (kk : WS X M (pc + 3) loc (.int v :: st)) : WS X M pc loc (rf X.1 p :: st) := by
  obtain ⟨⟨l, D, cy, b, adK, adV⟩, p0, e, R, s, m, args, below, meth, c, Q, n0, nL⟩ := X
  obtain ⟨hx, hb, hml, hown, hts, hK, hlocks, hsz, hE, hfr, hlo, hce, hsl, hw⟩ := O
  intro H locs ls h0 hP hS hl
  obtain ⟨hc8, hcl, hin, hty, hnm, hfl, hdecl⟩ := HK
  obtain ⟨⟨hp, hkd⟩, hv⟩ := gd hv
  have hkN : k < N := by rw [← hfl]; exact (List.getElem?_eq_some_iff.mp ht).1
  refine va_get (D := D) (ci := ci) (C := C) (T := T) (N := N) (fs := (fl ci).mapIdx (fun j t => cv b M p t j)) hx hb hts hin hown hK hP p ((wl_get hp).trans (by rw [cel_obj hkd hc8])) hcl k hkN (hts _ hlk) (fun _ h9 => by rw [hdecl k hkN] at h9; exact h9) (mapIdx_at ht) hd ?_
  cases hv
  exact kk H locs ls h0 hP hS hl
theorem s_getJ {X : CT} {cc : ByteArray} {own : String} {d lim w : Nat} (O : OKX X cc own d lim w) {M : MM} {pc : Nat} {loc : List (Nat × Value)} {st : List Value} {i p : Nat} {v : Int64} {ci k : Nat} {C : String} {T : u_T} {N : Nat} {ty : Nat → FieldType} (HK : KCok ci C T N ty) (ht : (fl ci)[k]? = some 1) (hlk : Cond.fieldLink own i C (T k).2.1 (T k).2.2.1 ∈ tb) (hv : fJ M p ci k = some v) (hd : decode cc pc = .ok (.getfield i, 3)) (kk : WS X M (pc + 3) loc (.long v :: st)) : WS X M pc loc (rf X.1 p :: st) := by
  obtain ⟨⟨l, D, cy, b, adK, adV⟩, p0, e, R, s, m, args, below, meth, c, Q, n0, nL⟩ := X
  obtain ⟨hx, hb, hml, hown, hts, hK, hlocks, hsz, hE, hfr, hlo, hce, hsl, hw⟩ := O
  intro H locs ls h0 hP hS hl
  obtain ⟨hc8, hcl, hin, hty, hnm, hfl, hdecl⟩ := HK
  obtain ⟨⟨hp, hkd⟩, hv⟩ := gd hv
  have hkN : k < N := by rw [← hfl]; exact (List.getElem?_eq_some_iff.mp ht).1
  refine va_get (D := D) (ci := ci) (C := C) (T := T) (N := N) (fs := (fl ci).mapIdx (fun j t => cv b M p t j)) hx hb hts hin hown hK hP p ((wl_get hp).trans (by rw [cel_obj hkd hc8])) hcl k hkN (hts _ hlk) (fun _ h9 => by rw [hdecl k hkN] at h9; exact h9) (mapIdx_at ht) hd ?_
  cases hv
  exact kk H locs ls h0 hP hS hl
theorem s_getR {X : CT} {cc : ByteArray} {own : String} {d lim w : Nat} (O : OKX X cc own d lim w) {M : MM} {pc : Nat} {loc : List (Nat × Value)} {st : List Value} {i p : Nat} {v : Nat} {ci k : Nat} {C : String} {T : u_T} {N : Nat} {ty : Nat → FieldType} (HK : KCok ci C T N ty) (ht : (fl ci)[k]? = some 2) (hlk : Cond.fieldLink own i C (T k).2.1 (T k).2.2.1 ∈ tb) (hv : fR M p ci k = some v) (hd : decode cc pc = .ok (.getfield i, 3)) (kk : WS X M (pc + 3) loc (rf X.1 v :: st)) : WS X M pc loc (rf X.1 p :: st) := by
  obtain ⟨⟨l, D, cy, b, adK, adV⟩, p0, e, R, s, m, args, below, meth, c, Q, n0, nL⟩ := X
  obtain ⟨hx, hb, hml, hown, hts, hK, hlocks, hsz, hE, hfr, hlo, hce, hsl, hw⟩ := O
  intro H locs ls h0 hP hS hl
  obtain ⟨hc8, hcl, hin, hty, hnm, hfl, hdecl⟩ := HK
  obtain ⟨⟨hp, hkd⟩, hv⟩ := gd hv
  have hkN : k < N := by rw [← hfl]; exact (List.getElem?_eq_some_iff.mp ht).1
  refine va_get (D := D) (ci := ci) (C := C) (T := T) (N := N) (fs := (fl ci).mapIdx (fun j t => cv b M p t j)) hx hb hts hin hown hK hP p ((wl_get hp).trans (by rw [cel_obj hkd hc8])) hcl k hkN (hts _ hlk) (fun _ h9 => by rw [hdecl k hkN] at h9; exact h9) (mapIdx_at ht) hd ?_
  have e : cv b M p 2 k = .ref (b + v) := by
    have hv' : gR M p k = some v := hv
    simp [cv, hv', va_rf]
  rw [e]
  exact kk H locs ls h0 hP hS hl
theorem mapIdx_set {M M' : MM} {b p k t : Nat} {l : List Nat} {v : Value} (hk : l[k]? = some t) (hv : cv b M' p t k = v) (ho : ∀ j t, j ≠ k → cv b M' p t j = cv b M p t j) : (l.mapIdx (fun j t => cv b M p t j)).set k v = l.mapIdx (fun j t => cv b M' p t j) := by
  apply List.ext_getElem?
  intro j
  rw [List.getElem?_set]
  by_cases hj : k = j
  · subst hj
    have hl := (List.getElem?_eq_some_iff.mp hk).1
    rw [if_pos rfl, if_pos (by simpa using hl)]
    rw [mapIdx_at hk, hv]
  · rw [if_neg hj]
    simp only [List.getElem?_mapIdx]
    cases hlj : l[j]? with
    | none => rfl
    | some t' => simp [ho j t' (fun h => hj h.symm)]
theorem cv_sI {M : MM} {b p k t j : Nat} {v : Int32} (h : j ≠ k) : cv b (sI M p k v) p t j = cv b M p t j := by
  have e : gI (sI M p k v) p j = gI M p j := by simp [gI, sI, h]
  simp only [cv, e]
  rfl
theorem cv_sJ {M : MM} {b p k t j : Nat} {v : Int64} (h : j ≠ k) : cv b (sJ M p k v) p t j = cv b M p t j := by
  have e : gJ (sJ M p k v) p j = gJ M p j := by simp [gJ, sJ, h]
  simp only [cv, e]
  rfl
theorem cv_sR {M : MM} {b p k t j : Nat} {v : Option Nat} (h : j ≠ k) : cv b (sR M p k v) p t j = cv b M p t j := by
  have e : gR (sR M p k v) p j = gR M p j := by simp [gR, sR, h]
  simp only [cv, e]
  rfl
def isInit (X : CT) : Prop := match X with
  | (_, _, _, _, _, _, _, _, meth, _, _, _, _) => meth.name = "<init>"
theorem s_putI {X : CT} {cc : ByteArray} {own : String} {d lim w : Nat} (O : OKX X cc own d lim w) {M : MM} {pc : Nat} {loc : List (Nat × Value)} {st : List Value} {i p : Nat} {v : Int32} {M' : MM} {ci k : Nat} {C : String} {T : u_T} {N : Nat} {ty : Nat → FieldType} (HK : KCok ci C T N ty) (ht : (fl ci)[k]? = some 0) (hty2 : ty k = .int) (hfin : (T k).2.2.2 = false) (hlk : Cond.fieldLink own i C (T k).2.1 (T k).2.2.1 ∈ tb) (hv : wfI M p ci k v = some M') (hd : decode cc pc = .ok (.putfield i, 3)) (kk : WS X M' (pc + 3) loc st) : WS X M pc loc (.int v :: rf X.1 p :: st) := by
  obtain ⟨⟨l, D, cy, b, adK, adV⟩, p0, e, R, s, m, args, below, meth, c, Q, n0, nL⟩ := X
  obtain ⟨hx, hb, hml, hown, hts, hK, hlocks, hsz, hE, hfr, hlo, hce, hsl, hw⟩ := O
  intro H locs ls h0 hP hS hl
  obtain ⟨hc8, hcl, hin, hty, hnm, hfl, hdecl⟩ := HK
  obtain ⟨hg, hv⟩ := gd hv
  cases hv
  have hkN : k < N := by rw [← hfl]; exact (List.getElem?_eq_some_iff.mp ht).1
  have hp : p < M.1 := hg.1
  have hkd : kd p = ci := hg.2
  have hnar : narrow (ty k) (.int v) = .int v := by rw [hty2]; rfl
  have hfit : fits (ty k) (.int v) = true := by rw [hty2]; rfl
  refine va_put (D := D) (ci := ci) (C := C) (T := T) (N := N) (ty := ty k) (fs := (fl ci).mapIdx (fun j t => cv b M p t j)) hx hb hts hin ty hty hnm hown hK hP wl_D hS p ((wl_get hp).trans (by rw [cel_obj hkd hc8])) hcl k hkN (hts _ hlk) (fun _ h9 => by rw [hdecl k hkN] at h9; exact h9) hfin (hty k hkN) hnar hfit (by simpa [hfl] using hkN) hd (fun H1 locs1 hP1 _ hS1 => ?_)
  have e1 : cel b cy (sI M p k v) p = .inr (ci, ((fl ci).mapIdx (fun j t => cv b M p t j)).set k (.int v)) := by
    rw [cel_obj hkd hc8, mapIdx_set ht (M' := sI M p k v) (by simp [cv, gI, gJ, gR, sI, sJ, sR, va_rf]) (fun j t h => cv_sI h)]
  change va_P D vwCl ((wl b cy M).set p (b + p, .inr (ci, ((fl ci).mapIdx (fun j t => cv b M p t j)).set k (.int v)))) H1 at hP1
  rw [wl_set (M := M) (M' := sI M p k v) rfl e1 (fun q h => cel_sI h)] at hP1
  exact kk H1 locs1 ls h0 hP1 hS1 hl
theorem s_putZ {X : CT} {cc : ByteArray} {own : String} {d lim w : Nat} (O : OKX X cc own d lim w) {M : MM} {pc : Nat} {loc : List (Nat × Value)} {st : List Value} {i p : Nat} {v : Int32} {M' : MM} {ci k : Nat} {C : String} {T : u_T} {N : Nat} {ty : Nat → FieldType} (HK : KCok ci C T N ty) (ht : (fl ci)[k]? = some 0) (hty2 : ty k = .boolean) (hfin : (T k).2.2.2 = false) (hlk : Cond.fieldLink own i C (T k).2.1 (T k).2.2.1 ∈ tb) (hv : wfZ M p ci k v = some M') (hd : decode cc pc = .ok (.putfield i, 3)) (kk : WS X M' (pc + 3) loc st) : WS X M pc loc (.int v :: rf X.1 p :: st) := by
  obtain ⟨⟨l, D, cy, b, adK, adV⟩, p0, e, R, s, m, args, below, meth, c, Q, n0, nL⟩ := X
  obtain ⟨hx, hb, hml, hown, hts, hK, hlocks, hsz, hE, hfr, hlo, hce, hsl, hw⟩ := O
  intro H locs ls h0 hP hS hl
  obtain ⟨hc8, hcl, hin, hty, hnm, hfl, hdecl⟩ := HK
  obtain ⟨hg, hv⟩ := gd hv
  cases hv
  have hkN : k < N := by rw [← hfl]; exact (List.getElem?_eq_some_iff.mp ht).1
  have hp : p < M.1 := hg.1
  have hkd : kd p = ci := hg.2.1
  have hnar : narrow (ty k) (.int v) = .int v := by rw [hty2]; rcases hg.2.2 with rfl | rfl <;> rfl
  have hfit : fits (ty k) (.int v) = true := by rw [hty2]; rcases hg.2.2 with rfl | rfl <;> rfl
  refine va_put (D := D) (ci := ci) (C := C) (T := T) (N := N) (ty := ty k) (fs := (fl ci).mapIdx (fun j t => cv b M p t j)) hx hb hts hin ty hty hnm hown hK hP wl_D hS p ((wl_get hp).trans (by rw [cel_obj hkd hc8])) hcl k hkN (hts _ hlk) (fun _ h9 => by rw [hdecl k hkN] at h9; exact h9) hfin (hty k hkN) hnar hfit (by simpa [hfl] using hkN) hd (fun H1 locs1 hP1 _ hS1 => ?_)
  have e1 : cel b cy (sI M p k v) p = .inr (ci, ((fl ci).mapIdx (fun j t => cv b M p t j)).set k (.int v)) := by
    rw [cel_obj hkd hc8, mapIdx_set ht (M' := sI M p k v) (by simp [cv, gI, gJ, gR, sI, sJ, sR, va_rf]) (fun j t h => cv_sI h)]
  change va_P D vwCl ((wl b cy M).set p (b + p, .inr (ci, ((fl ci).mapIdx (fun j t => cv b M p t j)).set k (.int v)))) H1 at hP1
  rw [wl_set (M := M) (M' := sI M p k v) rfl e1 (fun q h => cel_sI h)] at hP1
  exact kk H1 locs1 ls h0 hP1 hS1 hl
theorem s_putJ {X : CT} {cc : ByteArray} {own : String} {d lim w : Nat} (O : OKX X cc own d lim w) {M : MM} {pc : Nat} {loc : List (Nat × Value)} {st : List Value} {i p : Nat} {v : Int64} {M' : MM} {ci k : Nat} {C : String} {T : u_T} {N : Nat} {ty : Nat → FieldType} (HK : KCok ci C T N ty) (ht : (fl ci)[k]? = some 1) (hty2 : ty k = .long) (hfin : (T k).2.2.2 = false) (hlk : Cond.fieldLink own i C (T k).2.1 (T k).2.2.1 ∈ tb) (hv : wfJ M p ci k v = some M') (hd : decode cc pc = .ok (.putfield i, 3)) (kk : WS X M' (pc + 3) loc st) : WS X M pc loc (.long v :: rf X.1 p :: st) := by
  obtain ⟨⟨l, D, cy, b, adK, adV⟩, p0, e, R, s, m, args, below, meth, c, Q, n0, nL⟩ := X
  obtain ⟨hx, hb, hml, hown, hts, hK, hlocks, hsz, hE, hfr, hlo, hce, hsl, hw⟩ := O
  intro H locs ls h0 hP hS hl
  obtain ⟨hc8, hcl, hin, hty, hnm, hfl, hdecl⟩ := HK
  obtain ⟨hg, hv⟩ := gd hv
  cases hv
  have hkN : k < N := by rw [← hfl]; exact (List.getElem?_eq_some_iff.mp ht).1
  have hp : p < M.1 := hg.1
  have hkd : kd p = ci := hg.2
  have hnar : narrow (ty k) (.long v) = .long v := by rw [hty2]; rfl
  have hfit : fits (ty k) (.long v) = true := by rw [hty2]; rfl
  refine va_put (D := D) (ci := ci) (C := C) (T := T) (N := N) (ty := ty k) (fs := (fl ci).mapIdx (fun j t => cv b M p t j)) hx hb hts hin ty hty hnm hown hK hP wl_D hS p ((wl_get hp).trans (by rw [cel_obj hkd hc8])) hcl k hkN (hts _ hlk) (fun _ h9 => by rw [hdecl k hkN] at h9; exact h9) hfin (hty k hkN) hnar hfit (by simpa [hfl] using hkN) hd (fun H1 locs1 hP1 _ hS1 => ?_)
  have e1 : cel b cy (sJ M p k v) p = .inr (ci, ((fl ci).mapIdx (fun j t => cv b M p t j)).set k (.long v)) := by
    rw [cel_obj hkd hc8, mapIdx_set ht (M' := sJ M p k v) (by simp [cv, gI, gJ, gR, sI, sJ, sR, va_rf]) (fun j t h => cv_sJ h)]
  change va_P D vwCl ((wl b cy M).set p (b + p, .inr (ci, ((fl ci).mapIdx (fun j t => cv b M p t j)).set k (.long v)))) H1 at hP1
  rw [wl_set (M := M) (M' := sJ M p k v) rfl e1 (fun q h => cel_sJ h)] at hP1
  exact kk H1 locs1 ls h0 hP1 hS1 hl
theorem s_putR {X : CT} {cc : ByteArray} {own : String} {d lim w : Nat} (O : OKX X cc own d lim w) {M : MM} {pc : Nat} {loc : List (Nat × Value)} {st : List Value} {i p : Nat} {v : Nat} {M' : MM} {ci k : Nat} {C : String} {T : u_T} {N : Nat} {ty : Nat → FieldType} (HK : KCok ci C T N ty) (ht : (fl ci)[k]? = some 2) (hty2 : (∃ n, ty k = .object n) ∨ ∃ t, ty k = .array t) (hfin : (T k).2.2.2 = false) (hlk : Cond.fieldLink own i C (T k).2.1 (T k).2.2.1 ∈ tb) (hv : wfR M p ci k v = some M') (hd : decode cc pc = .ok (.putfield i, 3)) (kk : WS X M' (pc + 3) loc st) : WS X M pc loc (rf X.1 v :: rf X.1 p :: st) := by
  obtain ⟨⟨l, D, cy, b, adK, adV⟩, p0, e, R, s, m, args, below, meth, c, Q, n0, nL⟩ := X
  obtain ⟨hx, hb, hml, hown, hts, hK, hlocks, hsz, hE, hfr, hlo, hce, hsl, hw⟩ := O
  intro H locs ls h0 hP hS hl
  obtain ⟨hc8, hcl, hin, hty, hnm, hfl, hdecl⟩ := HK
  obtain ⟨hg, hv⟩ := gd hv
  cases hv
  have hkN : k < N := by rw [← hfl]; exact (List.getElem?_eq_some_iff.mp ht).1
  have hp : p < M.1 := hg.1
  have hkd : kd p = ci := hg.2.1
  have hnar : narrow (ty k) (.ref (b + v)) = .ref (b + v) := by rcases hty2 with ⟨n, h⟩ | ⟨t, h⟩ <;> rw [h] <;> rfl
  have hfit : fits (ty k) (.ref (b + v)) = true := by rcases hty2 with ⟨n, h⟩ | ⟨t, h⟩ <;> rw [h] <;> rfl
  refine va_put (D := D) (ci := ci) (C := C) (T := T) (N := N) (ty := ty k) (fs := (fl ci).mapIdx (fun j t => cv b M p t j)) hx hb hts hin ty hty hnm hown hK hP wl_D hS p ((wl_get hp).trans (by rw [cel_obj hkd hc8])) hcl k hkN (hts _ hlk) (fun _ h9 => by rw [hdecl k hkN] at h9; exact h9) hfin (hty k hkN) hnar hfit (by simpa [hfl] using hkN) hd (fun H1 locs1 hP1 _ hS1 => ?_)
  have e1 : cel b cy (sR M p k (some v)) p = .inr (ci, ((fl ci).mapIdx (fun j t => cv b M p t j)).set k (.ref (b + v))) := by
    rw [cel_obj hkd hc8, mapIdx_set ht (M' := sR M p k (some v)) (by simp [cv, gI, gJ, gR, sI, sJ, sR, va_rf]) (fun j t h => cv_sR h)]
  change va_P D vwCl ((wl b cy M).set p (b + p, .inr (ci, ((fl ci).mapIdx (fun j t => cv b M p t j)).set k (.ref (b + v))))) H1 at hP1
  rw [wl_set (M := M) (M' := sR M p k (some v)) rfl e1 (fun q h => cel_sR h)] at hP1
  exact kk H1 locs1 ls h0 hP1 hS1 hl
theorem s_putIF {X : CT} {cc : ByteArray} {own : String} {d lim w : Nat} (O : OKX X cc own d lim w) {M : MM} {pc : Nat} {loc : List (Nat × Value)} {st : List Value} {i p : Nat} {v : Int32} {M' : MM} {ci k : Nat} {C : String} {T : u_T} {N : Nat} {ty : Nat → FieldType} (HK : KCok ci C T N ty) (ht : (fl ci)[k]? = some 0) (hty2 : ty k = .int) (hfin : (T k).2.2.2 = true) (hii : isInit X) (hoC : own = C) (hlk : Cond.fieldLink own i C (T k).2.1 (T k).2.2.1 ∈ tb) (hv : wfI M p ci k v = some M') (hd : decode cc pc = .ok (.putfield i, 3)) (kk : WS X M' (pc + 3) loc st) : WS X M pc loc (.int v :: rf X.1 p :: st) := by
  obtain ⟨⟨l, D, cy, b, adK, adV⟩, p0, e, R, s, m, args, below, meth, c, Q, n0, nL⟩ := X
  obtain ⟨hx, hb, hml, hown, hts, hK, hlocks, hsz, hE, hfr, hlo, hce, hsl, hw⟩ := O
  intro H locs ls h0 hP hS hl
  obtain ⟨hc8, hcl, hin, hty, hnm, hfl, hdecl⟩ := HK
  obtain ⟨hg, hv⟩ := gd hv
  cases hv
  have hkN : k < N := by rw [← hfl]; exact (List.getElem?_eq_some_iff.mp ht).1
  have hp : p < M.1 := hg.1
  have hkd : kd p = ci := hg.2
  have hnar : narrow (ty k) (.int v) = .int v := by rw [hty2]; rfl
  have hfit : fits (ty k) (.int v) = true := by rw [hty2]; rfl
  refine va_putF (D := D) (ci := ci) (C := C) (T := T) (N := N) (ty := ty k) (fs := (fl ci).mapIdx (fun j t => cv b M p t j)) hx hb hts hin ty hty hnm hown hK hP wl_D hS p ((wl_get hp).trans (by rw [cel_obj hkd hc8])) hcl k hkN (hts _ hlk) (fun _ h9 => by rw [hdecl k hkN] at h9; exact h9) hfin hii (by rw [hdecl k hkN]; exact hoC.symm) (hty k hkN) hnar hfit (by simpa [hfl] using hkN) hd (fun H1 locs1 hP1 _ hS1 => ?_)
  have e1 : cel b cy (sI M p k v) p = .inr (ci, ((fl ci).mapIdx (fun j t => cv b M p t j)).set k (.int v)) := by
    rw [cel_obj hkd hc8, mapIdx_set ht (M' := sI M p k v) (by simp [cv, gI, gJ, gR, sI, sJ, sR, va_rf]) (fun j t h => cv_sI h)]
  change va_P D vwCl ((wl b cy M).set p (b + p, .inr (ci, ((fl ci).mapIdx (fun j t => cv b M p t j)).set k (.int v)))) H1 at hP1
  rw [wl_set (M := M) (M' := sI M p k v) rfl e1 (fun q h => cel_sI h)] at hP1
  exact kk H1 locs1 ls h0 hP1 hS1 hl
theorem s_putZF {X : CT} {cc : ByteArray} {own : String} {d lim w : Nat} (O : OKX X cc own d lim w) {M : MM} {pc : Nat} {loc : List (Nat × Value)} {st : List Value} {i p : Nat} {v : Int32} {M' : MM} {ci k : Nat} {C : String} {T : u_T} {N : Nat} {ty : Nat → FieldType} (HK : KCok ci C T N ty) (ht : (fl ci)[k]? = some 0) (hty2 : ty k = .boolean) (hfin : (T k).2.2.2 = true) (hii : isInit X) (hoC : own = C) (hlk : Cond.fieldLink own i C (T k).2.1 (T k).2.2.1 ∈ tb) (hv : wfZ M p ci k v = some M') (hd : decode cc pc = .ok (.putfield i, 3)) (kk : WS X M' (pc + 3) loc st) : WS X M pc loc (.int v :: rf X.1 p :: st) := by
  obtain ⟨⟨l, D, cy, b, adK, adV⟩, p0, e, R, s, m, args, below, meth, c, Q, n0, nL⟩ := X
  obtain ⟨hx, hb, hml, hown, hts, hK, hlocks, hsz, hE, hfr, hlo, hce, hsl, hw⟩ := O
  intro H locs ls h0 hP hS hl
  obtain ⟨hc8, hcl, hin, hty, hnm, hfl, hdecl⟩ := HK
  obtain ⟨hg, hv⟩ := gd hv
  cases hv
  have hkN : k < N := by rw [← hfl]; exact (List.getElem?_eq_some_iff.mp ht).1
  have hp : p < M.1 := hg.1
  have hkd : kd p = ci := hg.2.1
  have hnar : narrow (ty k) (.int v) = .int v := by rw [hty2]; rcases hg.2.2 with rfl | rfl <;> rfl
  have hfit : fits (ty k) (.int v) = true := by rw [hty2]; rcases hg.2.2 with rfl | rfl <;> rfl
  refine va_putF (D := D) (ci := ci) (C := C) (T := T) (N := N) (ty := ty k) (fs := (fl ci).mapIdx (fun j t => cv b M p t j)) hx hb hts hin ty hty hnm hown hK hP wl_D hS p ((wl_get hp).trans (by rw [cel_obj hkd hc8])) hcl k hkN (hts _ hlk) (fun _ h9 => by rw [hdecl k hkN] at h9; exact h9) hfin hii (by rw [hdecl k hkN]; exact hoC.symm) (hty k hkN) hnar hfit (by simpa [hfl] using hkN) hd (fun H1 locs1 hP1 _ hS1 => ?_)
  have e1 : cel b cy (sI M p k v) p = .inr (ci, ((fl ci).mapIdx (fun j t => cv b M p t j)).set k (.int v)) := by
    rw [cel_obj hkd hc8, mapIdx_set ht (M' := sI M p k v) (by simp [cv, gI, gJ, gR, sI, sJ, sR, va_rf]) (fun j t h => cv_sI h)]
  change va_P D vwCl ((wl b cy M).set p (b + p, .inr (ci, ((fl ci).mapIdx (fun j t => cv b M p t j)).set k (.int v)))) H1 at hP1
  rw [wl_set (M := M) (M' := sI M p k v) rfl e1 (fun q h => cel_sI h)] at hP1
  exact kk H1 locs1 ls h0 hP1 hS1 hl
theorem s_putJF {X : CT} {cc : ByteArray} {own : String} {d lim w : Nat} (O : OKX X cc own d lim w) {M : MM} {pc : Nat} {loc : List (Nat × Value)} {st : List Value} {i p : Nat} {v : Int64} {M' : MM} {ci k : Nat} {C : String} {T : u_T} {N : Nat} {ty : Nat → FieldType} (HK : KCok ci C T N ty) (ht : (fl ci)[k]? = some 1) (hty2 : ty k = .long) (hfin : (T k).2.2.2 = true) (hii : isInit X) (hoC : own = C) (hlk : Cond.fieldLink own i C (T k).2.1 (T k).2.2.1 ∈ tb) (hv : wfJ M p ci k v = some M') (hd : decode cc pc = .ok (.putfield i, 3)) (kk : WS X M' (pc + 3) loc st) : WS X M pc loc (.long v :: rf X.1 p :: st) := by
  obtain ⟨⟨l, D, cy, b, adK, adV⟩, p0, e, R, s, m, args, below, meth, c, Q, n0, nL⟩ := X
  obtain ⟨hx, hb, hml, hown, hts, hK, hlocks, hsz, hE, hfr, hlo, hce, hsl, hw⟩ := O
  intro H locs ls h0 hP hS hl
  obtain ⟨hc8, hcl, hin, hty, hnm, hfl, hdecl⟩ := HK
  obtain ⟨hg, hv⟩ := gd hv
  cases hv
  have hkN : k < N := by rw [← hfl]; exact (List.getElem?_eq_some_iff.mp ht).1
  have hp : p < M.1 := hg.1
  have hkd : kd p = ci := hg.2
  have hnar : narrow (ty k) (.long v) = .long v := by rw [hty2]; rfl
  have hfit : fits (ty k) (.long v) = true := by rw [hty2]; rfl
  refine va_putF (D := D) (ci := ci) (C := C) (T := T) (N := N) (ty := ty k) (fs := (fl ci).mapIdx (fun j t => cv b M p t j)) hx hb hts hin ty hty hnm hown hK hP wl_D hS p ((wl_get hp).trans (by rw [cel_obj hkd hc8])) hcl k hkN (hts _ hlk) (fun _ h9 => by rw [hdecl k hkN] at h9; exact h9) hfin hii (by rw [hdecl k hkN]; exact hoC.symm) (hty k hkN) hnar hfit (by simpa [hfl] using hkN) hd (fun H1 locs1 hP1 _ hS1 => ?_)
  have e1 : cel b cy (sJ M p k v) p = .inr (ci, ((fl ci).mapIdx (fun j t => cv b M p t j)).set k (.long v)) := by
    rw [cel_obj hkd hc8, mapIdx_set ht (M' := sJ M p k v) (by simp [cv, gI, gJ, gR, sI, sJ, sR, va_rf]) (fun j t h => cv_sJ h)]
  change va_P D vwCl ((wl b cy M).set p (b + p, .inr (ci, ((fl ci).mapIdx (fun j t => cv b M p t j)).set k (.long v)))) H1 at hP1
  rw [wl_set (M := M) (M' := sJ M p k v) rfl e1 (fun q h => cel_sJ h)] at hP1
  exact kk H1 locs1 ls h0 hP1 hS1 hl
theorem s_putRF {X : CT} {cc : ByteArray} {own : String} {d lim w : Nat} (O : OKX X cc own d lim w) {M : MM} {pc : Nat} {loc : List (Nat × Value)} {st : List Value} {i p : Nat} {v : Nat} {M' : MM} {ci k : Nat} {C : String} {T : u_T} {N : Nat} {ty : Nat → FieldType} (HK : KCok ci C T N ty) (ht : (fl ci)[k]? = some 2) (hty2 : (∃ n, ty k = .object n) ∨ ∃ t, ty k = .array t) (hfin : (T k).2.2.2 = true) (hii : isInit X) (hoC : own = C) (hlk : Cond.fieldLink own i C (T k).2.1 (T k).2.2.1 ∈ tb) (hv : wfR M p ci k v = some M') (hd : decode cc pc = .ok (.putfield i, 3)) (kk : WS X M' (pc + 3) loc st) : WS X M pc loc (rf X.1 v :: rf X.1 p :: st) := by
  obtain ⟨⟨l, D, cy, b, adK, adV⟩, p0, e, R, s, m, args, below, meth, c, Q, n0, nL⟩ := X
  obtain ⟨hx, hb, hml, hown, hts, hK, hlocks, hsz, hE, hfr, hlo, hce, hsl, hw⟩ := O
  intro H locs ls h0 hP hS hl
  obtain ⟨hc8, hcl, hin, hty, hnm, hfl, hdecl⟩ := HK
  obtain ⟨hg, hv⟩ := gd hv
  cases hv
  have hkN : k < N := by rw [← hfl]; exact (List.getElem?_eq_some_iff.mp ht).1
  have hp : p < M.1 := hg.1
  have hkd : kd p = ci := hg.2.1
  have hnar : narrow (ty k) (.ref (b + v)) = .ref (b + v) := by rcases hty2 with ⟨n, h⟩ | ⟨t, h⟩ <;> rw [h] <;> rfl
  have hfit : fits (ty k) (.ref (b + v)) = true := by rcases hty2 with ⟨n, h⟩ | ⟨t, h⟩ <;> rw [h] <;> rfl
  refine va_putF (D := D) (ci := ci) (C := C) (T := T) (N := N) (ty := ty k) (fs := (fl ci).mapIdx (fun j t => cv b M p t j)) hx hb hts hin ty hty hnm hown hK hP wl_D hS p ((wl_get hp).trans (by rw [cel_obj hkd hc8])) hcl k hkN (hts _ hlk) (fun _ h9 => by rw [hdecl k hkN] at h9; exact h9) hfin hii (by rw [hdecl k hkN]; exact hoC.symm) (hty k hkN) hnar hfit (by simpa [hfl] using hkN) hd (fun H1 locs1 hP1 _ hS1 => ?_)
  have e1 : cel b cy (sR M p k (some v)) p = .inr (ci, ((fl ci).mapIdx (fun j t => cv b M p t j)).set k (.ref (b + v))) := by
    rw [cel_obj hkd hc8, mapIdx_set ht (M' := sR M p k (some v)) (by simp [cv, gI, gJ, gR, sI, sJ, sR, va_rf]) (fun j t h => cv_sR h)]
  change va_P D vwCl ((wl b cy M).set p (b + p, .inr (ci, ((fl ci).mapIdx (fun j t => cv b M p t j)).set k (.ref (b + v))))) H1 at hP1
  rw [wl_set (M := M) (M' := sR M p k (some v)) rfl e1 (fun q h => cel_sR h)] at hP1
  exact kk H1 locs1 ls h0 hP1 hS1 hl
theorem s_alen {X : CT} {cc : ByteArray} {own : String} {d lim w : Nat} (O : OKX X cc own d lim w) {M : MM} {pc : Nat} {loc : List (Nat × Value)} {st : List Value} {p kc : Nat} {v : Int32} (hp : p < M.1) (hc : kd p = kc) (hc8 : 8 ≤ kc ∧ kc ≤ 13) (hv : Int32.ofNat (ln p) = v) (hd : decode cc pc = .ok (.arraylength, 1)) (kk : WS X M (pc + 1) loc (.int v :: st)) : WS X M pc loc (rf X.1 p :: st) := by
  obtain ⟨⟨l, D, cy, b, adK, adV⟩, p0, e, R, s, m, args, below, meth, c, Q, n0, nL⟩ := X
  obtain ⟨hx, hb, hml, hown, hts, hK, hlocks, hsz, hE, hfr, hlo, hce, hsl, hw⟩ := O
  intro H locs ls h0 hP hS hl
  rcases (show kc = 8 ∨ kc = 9 ∨ kc = 10 ∨ kc = 11 ∨ kc = 12 ∨ kc = 13 by omega) with rfl | rfl | rfl | rfl | rfl | rfl
  · exact va_alen hx hb hK hP p 0 ((wl_get hp).trans (by rw [cel_I hc])) rfl hv hd (kk H locs ls h0 hP hS hl)
  · exact va_alen hx hb hK hP p 1 ((wl_get hp).trans (by rw [cel_J hc])) rfl hv hd (kk H locs ls h0 hP hS hl)
  · exact va_alen hx hb hK hP p 2 ((wl_get hp).trans (by rw [cel_Z hc])) rfl hv hd (kk H locs ls h0 hP hS hl)
  · exact va_alen hx hb hK hP p 3 ((wl_get hp).trans (by rw [cel_R hc (by decide)])) rfl hv hd (kk H locs ls h0 hP hS hl)
  · exact va_alen hx hb hK hP p 4 ((wl_get hp).trans (by rw [cel_R hc (by decide)])) rfl hv hd (kk H locs ls h0 hP hS hl)
  · exact va_alen hx hb hK hP p 5 ((wl_get hp).trans (by rw [cel_R hc (by decide)])) rfl hv hd (kk H locs ls h0 hP hS hl)
theorem s_aldI {X : CT} {cc : ByteArray} {own : String} {d lim w : Nat} (O : OKX X cc own d lim w) {M : MM} {pc : Nat} {loc : List (Nat × Value)} {st : List Value} {p : Nat} {i : Int32} {v : Int32} (hv : aI M p i = some v) (hd : decode cc pc = .ok (.iaload, 1)) (kk : WS X M (pc + 1) loc (.int v :: st)) : WS X M pc loc (.int i :: rf X.1 p :: st) := by
  obtain ⟨⟨l, D, cy, b, adK, adV⟩, p0, e, R, s, m, args, below, meth, c, Q, n0, nL⟩ := X
  obtain ⟨hx, hb, hml, hown, hts, hK, hlocks, hsz, hE, hfr, hlo, hce, hsl, hw⟩ := O
  intro H locs ls h0 hP hS hl
  obtain ⟨⟨hp, hc, hi⟩, hv⟩ := gd hv
  cases hv
  exact va_iald hx hb hK hP p 0 ((wl_get hp).trans (by rw [cel_I hc])) rfl hi hd (kk H locs ls h0 hP hS hl)
theorem s_aldZ {X : CT} {cc : ByteArray} {own : String} {d lim w : Nat} (O : OKX X cc own d lim w) {M : MM} {pc : Nat} {loc : List (Nat × Value)} {st : List Value} {p : Nat} {i : Int32} {v : Int32} (hv : aZ M p i = some v) (hd : decode cc pc = .ok (.baload, 1)) (kk : WS X M (pc + 1) loc (.int v :: st)) : WS X M pc loc (.int i :: rf X.1 p :: st) := by
  obtain ⟨⟨l, D, cy, b, adK, adV⟩, p0, e, R, s, m, args, below, meth, c, Q, n0, nL⟩ := X
  obtain ⟨hx, hb, hml, hown, hts, hK, hlocks, hsz, hE, hfr, hlo, hce, hsl, hw⟩ := O
  intro H locs ls h0 hP hS hl
  obtain ⟨⟨hp, hc, hi⟩, hv⟩ := gd hv
  cases hv
  exact va_zald hx hb hK hP p 2 ((wl_get hp).trans (by rw [cel_Z hc])) rfl hi hd (kk H locs ls h0 hP hS hl)
theorem s_aldJ {X : CT} {cc : ByteArray} {own : String} {d lim w : Nat} (O : OKX X cc own d lim w) {M : MM} {pc : Nat} {loc : List (Nat × Value)} {st : List Value} {p : Nat} {i : Int32} {v : Int64} (hv : aJ M p i = some v) (hd : decode cc pc = .ok (.laload, 1)) (kk : WS X M (pc + 1) loc (.long v :: st)) : WS X M pc loc (.int i :: rf X.1 p :: st) := by
  obtain ⟨⟨l, D, cy, b, adK, adV⟩, p0, e, R, s, m, args, below, meth, c, Q, n0, nL⟩ := X
  obtain ⟨hx, hb, hml, hown, hts, hK, hlocks, hsz, hE, hfr, hlo, hce, hsl, hw⟩ := O
  intro H locs ls h0 hP hS hl
  obtain ⟨⟨hp, hc, hi⟩, hv⟩ := gd hv
  cases hv
  exact va_lald hx hb hK hP p 1 ((wl_get hp).trans (by rw [cel_J hc])) rfl hi hd (kk H locs ls h0 hP hS hl)
theorem s_aldR11 {X : CT} {cc : ByteArray} {own : String} {d lim w : Nat} (O : OKX X cc own d lim w) {M : MM} {pc : Nat} {loc : List (Nat × Value)} {st : List Value} {p v : Nat} {i : Int32} (hv : aR M p 11 i = some v) (hd : decode cc pc = .ok (.aaload, 1)) (kk : WS X M (pc + 1) loc (rf X.1 v :: st)) : WS X M pc loc (.int i :: rf X.1 p :: st) := by
  obtain ⟨⟨l, D, cy, b, adK, adV⟩, p0, e, R, s, m, args, below, meth, c, Q, n0, nL⟩ := X
  obtain ⟨hx, hb, hml, hown, hts, hK, hlocks, hsz, hE, hfr, hlo, hce, hsl, hw⟩ := O
  intro H locs ls h0 hP hS hl
  obtain ⟨⟨hp, hc, hi⟩, hv⟩ := gd hv
  refine va_aldq hx hb hK hP p 3 ((wl_get hp).trans (by rw [cel_R hc (by decide)])) rfl hi hd ?_
  have hv' : gR M p i.toNatClampNeg = some v := hv
  rw [hv']
  exact kk H locs ls h0 hP hS hl
theorem s_aldR12 {X : CT} {cc : ByteArray} {own : String} {d lim w : Nat} (O : OKX X cc own d lim w) {M : MM} {pc : Nat} {loc : List (Nat × Value)} {st : List Value} {p v : Nat} {i : Int32} (hv : aR M p 12 i = some v) (hd : decode cc pc = .ok (.aaload, 1)) (kk : WS X M (pc + 1) loc (rf X.1 v :: st)) : WS X M pc loc (.int i :: rf X.1 p :: st) := by
  obtain ⟨⟨l, D, cy, b, adK, adV⟩, p0, e, R, s, m, args, below, meth, c, Q, n0, nL⟩ := X
  obtain ⟨hx, hb, hml, hown, hts, hK, hlocks, hsz, hE, hfr, hlo, hce, hsl, hw⟩ := O
  intro H locs ls h0 hP hS hl
  obtain ⟨⟨hp, hc, hi⟩, hv⟩ := gd hv
  refine va_aldq hx hb hK hP p 4 ((wl_get hp).trans (by rw [cel_R hc (by decide)])) rfl hi hd ?_
  have hv' : gR M p i.toNatClampNeg = some v := hv
  rw [hv']
  exact kk H locs ls h0 hP hS hl
theorem s_aldR13 {X : CT} {cc : ByteArray} {own : String} {d lim w : Nat} (O : OKX X cc own d lim w) {M : MM} {pc : Nat} {loc : List (Nat × Value)} {st : List Value} {p v : Nat} {i : Int32} (hv : aR M p 13 i = some v) (hd : decode cc pc = .ok (.aaload, 1)) (kk : WS X M (pc + 1) loc (rf X.1 v :: st)) : WS X M pc loc (.int i :: rf X.1 p :: st) := by
  obtain ⟨⟨l, D, cy, b, adK, adV⟩, p0, e, R, s, m, args, below, meth, c, Q, n0, nL⟩ := X
  obtain ⟨hx, hb, hml, hown, hts, hK, hlocks, hsz, hE, hfr, hlo, hce, hsl, hw⟩ := O
  intro H locs ls h0 hP hS hl
  obtain ⟨⟨hp, hc, hi⟩, hv⟩ := gd hv
  refine va_aldq hx hb hK hP p 5 ((wl_get hp).trans (by rw [cel_R hc (by decide)])) rfl hi hd ?_
  have hv' : gR M p i.toNatClampNeg = some v := hv
  rw [hv']
  exact kk H locs ls h0 hP hS hl
theorem upd_gI {M : MM} {p k : Nat} {v : Int32} : upd (gI M p) k v = gI (sI M p k v) p := by
  funext j
  simp [upd, gI, sI]
theorem upd_gJ {M : MM} {p k : Nat} {v : Int64} : vp_updL (gJ M p) k v = gJ (sJ M p k v) p := by
  funext j
  simp [vp_updL, gJ, sJ]
theorem upd_gR {M : MM} {b p k v : Nat} : va_up (fun j => (gR M p j).map (b + ·)) k (some (b + v)) = fun j => (gR (sR M p k (some v)) p j).map (b + ·) := by
  funext j
  by_cases h : j = k <;> simp [va_up, gR, sR, h]
theorem s_astI {X : CT} {cc : ByteArray} {own : String} {d lim w : Nat} (O : OKX X cc own d lim w) {M : MM} {pc : Nat} {loc : List (Nat × Value)} {st : List Value} {p : Nat} {i v : Int32} {M' : MM} (hv : waI M p i v = some M') (hd : decode cc pc = .ok (.iastore, 1)) (kk : WS X M' (pc + 1) loc st) : WS X M pc loc (.int v :: .int i :: rf X.1 p :: st) := by
  obtain ⟨⟨l, D, cy, b, adK, adV⟩, p0, e, R, s, m, args, below, meth, c, Q, n0, nL⟩ := X
  obtain ⟨hx, hb, hml, hown, hts, hK, hlocks, hsz, hE, hfr, hlo, hce, hsl, hw⟩ := O
  intro H locs ls h0 hP hS hl
  obtain ⟨⟨hp, hc, hi⟩, hv⟩ := gd hv
  cases hv
  refine va_iast hx hb hK hP wl_D hS p 0 ((wl_get hp).trans (by rw [cel_I hc])) rfl hi hd (fun H1 locs1 hP1 _ hS1 => ?_)
  change va_P D vwCl ((wl b cy M).set p (b + p, _)) H1 at hP1
  rw [wl_set (M := M) (M' := sI M p i.toNatClampNeg v) rfl (by rw [cel_I hc, upd_gI]) (fun q h => cel_sI h)] at hP1
  exact kk H1 locs1 ls h0 hP1 hS1 hl
theorem s_astZ {X : CT} {cc : ByteArray} {own : String} {d lim w : Nat} (O : OKX X cc own d lim w) {M : MM} {pc : Nat} {loc : List (Nat × Value)} {st : List Value} {p : Nat} {i v : Int32} {M' : MM} (hv : waZ M p i v = some M') (hd : decode cc pc = .ok (.bastore, 1)) (kk : WS X M' (pc + 1) loc st) : WS X M pc loc (.int v :: .int i :: rf X.1 p :: st) := by
  obtain ⟨⟨l, D, cy, b, adK, adV⟩, p0, e, R, s, m, args, below, meth, c, Q, n0, nL⟩ := X
  obtain ⟨hx, hb, hml, hown, hts, hK, hlocks, hsz, hE, hfr, hlo, hce, hsl, hw⟩ := O
  intro H locs ls h0 hP hS hl
  obtain ⟨⟨hp, hc, hi, h01⟩, hv⟩ := gd hv
  cases hv
  refine va_zast hx hb hK hP wl_D hS p 2 ((wl_get hp).trans (by rw [cel_Z hc])) rfl hi hd (fun H1 locs1 hP1 _ hS1 => ?_)
  have hn : vp_nar .boolean v = v := by rcases h01 with rfl | rfl <;> rfl
  change va_P D vwCl ((wl b cy M).set p (b + p, _)) H1 at hP1
  rw [hn, wl_set (M := M) (M' := sI M p i.toNatClampNeg v) rfl (by rw [cel_Z hc, upd_gI]) (fun q h => cel_sI h)] at hP1
  exact kk H1 locs1 ls h0 hP1 hS1 hl
theorem s_astJ {X : CT} {cc : ByteArray} {own : String} {d lim w : Nat} (O : OKX X cc own d lim w) {M : MM} {pc : Nat} {loc : List (Nat × Value)} {st : List Value} {p : Nat} {i : Int32} {v : Int64} {M' : MM} (hv : waJ M p i v = some M') (hd : decode cc pc = .ok (.lastore, 1)) (kk : WS X M' (pc + 1) loc st) : WS X M pc loc (.long v :: .int i :: rf X.1 p :: st) := by
  obtain ⟨⟨l, D, cy, b, adK, adV⟩, p0, e, R, s, m, args, below, meth, c, Q, n0, nL⟩ := X
  obtain ⟨hx, hb, hml, hown, hts, hK, hlocks, hsz, hE, hfr, hlo, hce, hsl, hw⟩ := O
  intro H locs ls h0 hP hS hl
  obtain ⟨⟨hp, hc, hi⟩, hv⟩ := gd hv
  cases hv
  refine va_last hx hb hK hP wl_D hS p 1 ((wl_get hp).trans (by rw [cel_J hc])) rfl hi hd (fun H1 locs1 hP1 _ hS1 => ?_)
  change va_P D vwCl ((wl b cy M).set p (b + p, _)) H1 at hP1
  rw [wl_set (M := M) (M' := sJ M p i.toNatClampNeg v) rfl (by rw [cel_J hc, upd_gJ]) (fun q h => cel_sJ h)] at hP1
  exact kk H1 locs1 ls h0 hP1 hS1 hl
theorem s_astR11 {X : CT} {cc : ByteArray} {own : String} {d lim w : Nat} (O : OKX X cc own d lim w) {M : MM} {pc : Nat} {loc : List (Nat × Value)} {st : List Value} {p v : Nat} {i : Int32} {M' : MM} (hv : waR M p 11 0 i v = some M') (hd : decode cc pc = .ok (.aastore, 1)) (kk : WS X M' (pc + 1) loc st) : WS X M pc loc (rf X.1 v :: .int i :: rf X.1 p :: st) := by
  obtain ⟨⟨l, D, cy, b, adK, adV⟩, p0, e, R, s, m, args, below, meth, c, Q, n0, nL⟩ := X
  obtain ⟨hx, hb, hml, hown, hts, hK, hlocks, hsz, hE, hfr, hlo, hce, hsl, hw⟩ := O
  intro H locs ls h0 hP hS hl
  obtain ⟨⟨hp, hc, hi, hvp, hvk⟩, hv⟩ := gd hv
  cases hv
  refine va_astq hx hb hK hP wl_D hS p 3 v 0 ((wl_get hp).trans (by rw [cel_R hc (by decide)])) rfl ((wl_get hvp).trans (by rw [cel_obj hvk (by decide)])) rfl hi hd (fun H1 locs1 hP1 _ hS1 => ?_)
  change va_P D vwCl ((wl b cy M).set p (b + p, _)) H1 at hP1
  rw [wl_set (M := M) (M' := sR M p i.toNatClampNeg (some v)) rfl (by rw [cel_R hc (by decide), upd_gR]) (fun q h => cel_sR h)] at hP1
  exact kk H1 locs1 ls h0 hP1 hS1 hl
theorem s_astR12 {X : CT} {cc : ByteArray} {own : String} {d lim w : Nat} (O : OKX X cc own d lim w) {M : MM} {pc : Nat} {loc : List (Nat × Value)} {st : List Value} {p v : Nat} {i : Int32} {M' : MM} (hv : waR M p 12 2 i v = some M') (hd : decode cc pc = .ok (.aastore, 1)) (kk : WS X M' (pc + 1) loc st) : WS X M pc loc (rf X.1 v :: .int i :: rf X.1 p :: st) := by
  obtain ⟨⟨l, D, cy, b, adK, adV⟩, p0, e, R, s, m, args, below, meth, c, Q, n0, nL⟩ := X
  obtain ⟨hx, hb, hml, hown, hts, hK, hlocks, hsz, hE, hfr, hlo, hce, hsl, hw⟩ := O
  intro H locs ls h0 hP hS hl
  obtain ⟨⟨hp, hc, hi, hvp, hvk⟩, hv⟩ := gd hv
  cases hv
  refine va_astq hx hb hK hP wl_D hS p 4 v 2 ((wl_get hp).trans (by rw [cel_R hc (by decide)])) rfl ((wl_get hvp).trans (by rw [cel_obj hvk (by decide)])) rfl hi hd (fun H1 locs1 hP1 _ hS1 => ?_)
  change va_P D vwCl ((wl b cy M).set p (b + p, _)) H1 at hP1
  rw [wl_set (M := M) (M' := sR M p i.toNatClampNeg (some v)) rfl (by rw [cel_R hc (by decide), upd_gR]) (fun q h => cel_sR h)] at hP1
  exact kk H1 locs1 ls h0 hP1 hS1 hl
theorem s_astR13 {X : CT} {cc : ByteArray} {own : String} {d lim w : Nat} (O : OKX X cc own d lim w) {M : MM} {pc : Nat} {loc : List (Nat × Value)} {st : List Value} {p v : Nat} {i : Int32} {M' : MM} (hv : waR M p 13 5 i v = some M') (hd : decode cc pc = .ok (.aastore, 1)) (kk : WS X M' (pc + 1) loc st) : WS X M pc loc (rf X.1 v :: .int i :: rf X.1 p :: st) := by
  obtain ⟨⟨l, D, cy, b, adK, adV⟩, p0, e, R, s, m, args, below, meth, c, Q, n0, nL⟩ := X
  obtain ⟨hx, hb, hml, hown, hts, hK, hlocks, hsz, hE, hfr, hlo, hce, hsl, hw⟩ := O
  intro H locs ls h0 hP hS hl
  obtain ⟨⟨hp, hc, hi, hvp, hvk⟩, hv⟩ := gd hv
  cases hv
  refine va_astq hx hb hK hP wl_D hS p 5 v 5 ((wl_get hp).trans (by rw [cel_R hc (by decide)])) rfl ((wl_get hvp).trans (by rw [cel_obj hvk (by decide)])) rfl hi hd (fun H1 locs1 hP1 _ hS1 => ?_)
  change va_P D vwCl ((wl b cy M).set p (b + p, _)) H1 at hP1
  rw [wl_set (M := M) (M' := sR M p i.toNatClampNeg (some v)) rfl (by rw [cel_R hc (by decide), upd_gR]) (fun q h => cel_sR h)] at hP1
  exact kk H1 locs1 ls h0 hP1 hS1 hl
end
section
/-! CONTRACTS, CALLS, RETURNS -/
theorem nest_is : ∀ w ∈ nestL, ∃ a i x h, w = .methodLinkNest a i x h := by
  intro w hw
  simp only [nestL, List.mem_cons, List.not_mem_nil, or_false] at hw
  rcases hw with rfl | rfl | rfl | rfl | rfl <;> exact ⟨_, _, _, _, rfl⟩
theorem ENV.warm {G : GG} {u U : State} {H : Heap} (hW : u.WarmedH U.vm) (h : ENV G u H) : ENV G U H :=
  ⟨h.1.moved hW.alike, h.2.1.moved hW.alike, h.2.2.1.moved hW.alike, h.2.2.2.1.warm hW, h.2.2.2.2.1.warm hW, h.2.2.2.2.2.1.moved hW.alike, h.2.2.2.2.2.2.1.moved hW.alike, h.2.2.2.2.2.2.2.1.moved hW.alike, fun w hw => by
    obtain ⟨a, i, x, g, rfl⟩ := nest_is w hw
    exact va_Nw.warmM hW (h.2.2.2.2.2.2.2.2 _ hw)⟩
theorem ENV.kept {G : GG} {U : State} {H H1 : Heap} (hq : ∀ a : Nat, a < H.size → ¬ G.2.2.2.1 ≤ a → H1[a]? = H[a]?) (h : ENV G U H) : ENV G U H1 :=
  ⟨h.1, h.2.1, h.2.2.1, h.2.2.2.1, h.2.2.2.2.1, h.2.2.2.2.2.1.kept hq, h.2.2.2.2.2.2.1.kept hq, h.2.2.2.2.2.2.2.1.kept hq, h.2.2.2.2.2.2.2.2⟩
theorem ENV.same {G : GG} {u U : State} {H : Heap} (hv : U.vm = u.vm) (h : ENV G u H) : ENV G U H := by
  have ha : u.vm.Alike U.vm := by rw [hv]; exact Vm.Alike.refl _
  exact ⟨h.1.moved ha, h.2.1.moved ha, h.2.2.1.moved ha, h.2.2.2.1.same hv, h.2.2.2.2.1.same hv, h.2.2.2.2.2.1.moved ha, h.2.2.2.2.2.2.1.moved ha, h.2.2.2.2.2.2.2.1.moved ha, fun w hw => by
    obtain ⟨a, i, x, g, rfl⟩ := nest_is w hw
    exact va_Nw.same rfl hv.symm (h.2.2.2.2.2.2.2.2 _ hw)⟩
def rmA (d k z : Nat) : Room := { frames := d, cells := k, slots := z, locals := 32 * d }
def PcA (G : GG) (av : List Value) (M : MM) : Array Value → State → Prop := fun v U => v = av.toArray ∧ U.heap.size = G.2.2.2.1 + M.1 ∧ va_P G.2.1 vwCl (wl G.2.2.2.1 G.2.2.1 M) U.heap ∧ va_K G.2.1 vwCl (tysL G.2.2.1) U ∧ ENV G U U.heap
def QcA (G : GG) (r : Option Value) (M' : MM) : Array Value → State → Outcome → State → Prop := fun _ st o t => o = .returned r ∧ t.heap.size = G.2.2.2.1 + M'.1 ∧ va_P G.2.1 vwCl (wl G.2.2.2.1 G.2.2.1 M') t.heap ∧ va_F (fun q : Nat => G.2.2.2.1 ≤ q) st t
/-- the contract of a method at these arguments and this memory: it answers r, and the memory is M' then -/
def Ct (G : GG) (y : MethodName) (cc : ByteArray) (n : Nat) (ret : Option FieldType) (d : Nat) (av : List Value) (M : MM) (r : Option Value) (M' : MM) : Prop :=
  Met G.1 y (.code y cc n ret :: tb) (rmA d (M'.1 - M.1) (Zs M'.1 - Zs M.1)) (PcA G av M) (QcA G r M') (M'.1 - M.1) (Zs M'.1 - Zs M.1) (fun q : Nat => G.2.2.2.1 ≤ q)
theorem gi_all {y : MethodName} {cc : ByteArray} {n : Nat} {ret : Option FieldType} (h : Cond.code y cc n ret ∈ tb) : GoodIn tb (.code y cc n ret :: tb) := by
  intro w hw
  have hm : w ∈ tb := by
    rcases List.mem_cons.mp hw with rfl | hw
    · exact h
    · exact hw
  exact ⟨hm, good_of_word (List.mem_filter.mp hm).2⟩
def CallY (y : MethodName) (cc : ByteArray) (n : Nat) (ret : Option FieldType) (k : Nat) : Prop := (y.cls ≠ "java/lang/invoke/MethodHandle" ∧ y.cls ≠ "java/lang/invoke/VarHandle" ∧ (parseMethodDescriptor y.desc).map (fun d => d.parameters.length) = some k) ∧ Cond.code y cc n ret ∈ tb ∧ Cond.initialized y.cls ∈ tb ∧ n ≤ 13
theorem blind {G : GG} {av : List Value} {M : MM} : FrameBlind (PcA G av M) := fun a U g mk h => ⟨h.1, h.2.1, h.2.2.1, va_K.moved (u := U) (U := U.calling g mk a) (Vm.Alike.refl U.vm) h.2.2.2.1, ENV.same (u := U) (U := U.calling g mk a) rfl h.2.2.2.2⟩
section CALLK
variable {p : Program} {l : Launch} {e : Env} {R : Room} {s : State} {m : MethodId} {args : Array Value} {below : List Frame} {meth : Method} {c : Code} {H : Heap} {locs : List Loc} {Q : State → Prop}
/-- behind a call: from va_Run to the walk's next point -/
theorem run_on {D : va_G} {cy : Nat → ClassId} {b n0 pc : Nat} {adK adV : Nat → Nat} {M M' : MM} {ls : Array Slot} {st0 st : List Value} {r : Option Value} {a : Array Value} (h0 : n0 ≤ M.1) (hle : M.1 ≤ M'.1) (hS : va_S (fun q : Nat => b ≤ q) s.heap H locs)
    (hr : va_Run p l e R s m args below meth c H locs (M.1 - n0) (Zs M.1 - Zs n0) (M'.1 - M.1) (Zs M'.1 - Zs M.1) (F0 m pc ls st0) st (QcA (l, D, cy, b, adK, adV) r M' a) (fun q : Nat => b ≤ q))
    (kk : ∀ (H1 : Heap) (locs1 : List Loc), n0 ≤ M'.1 → va_P D vwCl (wl b cy M') H1 → va_S (fun q : Nat => b ≤ q) s.heap H1 locs1 → W p l e R s m args below meth c H1 locs1 (M'.1 - n0) (Zs M'.1 - Zs n0) Q (F0 m (pc + 3) ls (r.toList ++ st))) : W p l e R s m args below meth c H locs (M.1 - n0) (Zs M.1 - Zs n0) Q (F0 m pc ls st0) := by
  intro T hT X0
  obtain ⟨v, st₀, t, T', L, e0, X', hL, e1, e2, ⟨hv, hz, hP', hF⟩, stp⟩ := hr T hT X0
  cases hv
  have z1 := Zs_mono h0
  have z2 := Zs_mono hle
  have k1 : M.1 - n0 + (M'.1 - M.1) = M'.1 - n0 := by omega
  have k2 : Zs M.1 - Zs n0 + (Zs M'.1 - Zs M.1) = Zs M'.1 - Zs n0 := by omega
  rw [k1, k2] at X'
  obtain ⟨hF1, hF2⟩ := hF
  rw [e0] at hF1 hF2
  obtain ⟨t2, a1, b1⟩ := kk T'.heap (locs ++ L) (Nat.le_trans h0 hle) (by rw [e1]; exact hP') ⟨Nat.le_trans hS.1 (by rw [e1]; exact hF1), fun q h1 h2 => by rw [e1, hF2 q (Nat.lt_of_lt_of_le h1 hS.1) h2]; exact hS.2.1 q h1 h2, fun q hq => by
    rcases List.mem_append.mp hq with h | h
    · exact hS.2.2 q h
    · exact hL q h⟩ T' rfl X'
  exact ⟨t2, stp t2 a1, b1⟩
end CALLK
theorem s_callV {X : CT} {cc : ByteArray} {own : String} {d lim w : Nat} (O : OKX X cc own d lim w) {M : MM} {pc : Nat} {loc : List (Nat × Value)} {st : List Value} {y : MethodName} {cy' : ByteArray} {n k i d' : Nat} {ret : Option FieldType} {As st0 : List Value} {M' : MM} {r : Option Value} {ci p : Nat} {C : String} {T : u_T} {N : Nat} {ty : Nat → FieldType} (HK : KCok ci C T N ty) (hM : Ct X.1 y cy' n ret d' (rf X.1 p :: As) M r M') (hy : CallY y cy' n ret k) (hlk : Cond.methodLink own i y ∈ tb) (hin : Cond.instanceMethod y ∈ tb) (hse : Cond.selects C y y ∈ tb) (hd' : d' + 1 ≤ d) (hlen : As.length = k) (hle : M.1 ≤ M'.1) (hlim : M'.1 ≤ lim) (hp : p < M.1) (hkd : kd p = ci) (hst : st0 = As.reverse ++ rf X.1 p :: st) (hcat : (st.map fun v => v.category).sum ≤ 8) (hd : decode cc pc = .ok (.invokevirtual i, 3)) (kk : WS X M' (pc + 3) loc (r.toList ++ st)) : WS X M pc loc st0 := by
  obtain ⟨⟨l, D, cy, b, adK, adV⟩, p0, e, R, s, m, args, below, meth, c, Q, n0, nL⟩ := X
  obtain ⟨hx, hb, hml, hown, hts, hK, hlocks, hsz, hE, hfr, hlo, hce, hsl, hw⟩ := O
  intro H locs ls h0 hP hS hl
  refine ws_size hsz (by omega) hP hS (fun hH => ?_)
  refine run_on (D := D) (cy := cy) (b := b) (adK := adK) (adV := adV) h0 hle hS (va_runV (As := As) (rest := st) ⟨hx, hb, hml, hown, hts⟩ hM ⟨(callB_of (rm := rmA d' (M'.1 - M.1) (Zs M'.1 - Zs M.1)) k hts (gi_all hy.2.1) rfl rfl rfl (hts _ hy.2.2.1) (hts _ hlk) hy.1 ⟨by show d' + 1 ≤ R.frames; omega, by have := hy.2.2.2; show 8 + (n + 11) + 32 * d' ≤ R.locals; omega⟩), hts _ hin, hts _ hse⟩ ⟨blind, va_recv (D := D) hK hP HK.2.1 ((wl_get hp).trans (by rw [cel_obj hkd HK.1])), fun U hU hW => ⟨rfl, by rw [hU]; exact hH, by rw [hU]; exact hP, va_K.moved hW.alike hK, by rw [hU]; exact (hE.kept (fun a g1 g2 => hS.2.1 a g1 g2)).warm hW⟩⟩ rfl hlen hl.1 hst (lv_room hcat) hd ⟨by omega, by have := Zs_mono h0; have := Zs_mono hle; have := Zs_mono hlim; omega⟩) (fun H1 locs1 a1 a2 a3 => kk H1 locs1 ls a1 a2 a3 hl)
theorem s_callS {X : CT} {cc : ByteArray} {own : String} {d lim w : Nat} (O : OKX X cc own d lim w) {M : MM} {pc : Nat} {loc : List (Nat × Value)} {st : List Value} {y : MethodName} {cy' : ByteArray} {n k i d' : Nat} {ret : Option FieldType} {As st0 : List Value} {M' : MM} {r : Option Value} (hM : Ct X.1 y cy' n ret d' As M r M') (hy : CallY y cy' n ret k) (hlk : Cond.methodLink own i y ∈ tb) (hin : Cond.static y ∈ tb) (hd' : d' + 1 ≤ d) (hlen : As.length = k) (hle : M.1 ≤ M'.1) (hlim : M'.1 ≤ lim) (hst : st0 = As.reverse ++ st) (hcat : (st.map fun v => v.category).sum ≤ 8) (hd : decode cc pc = .ok (.invokestatic i, 3)) (kk : WS X M' (pc + 3) loc (r.toList ++ st)) : WS X M pc loc st0 := by
  obtain ⟨⟨l, D, cy, b, adK, adV⟩, p0, e, R, s, m, args, below, meth, c, Q, n0, nL⟩ := X
  obtain ⟨hx, hb, hml, hown, hts, hK, hlocks, hsz, hE, hfr, hlo, hce, hsl, hw⟩ := O
  intro H locs ls h0 hP hS hl
  refine ws_size hsz (by omega) hP hS (fun hH => ?_)
  refine run_on (D := D) (cy := cy) (b := b) (adK := adK) (adV := adV) h0 hle hS (va_runS (As := As) (rest := st) ⟨hx, hb, hml, hown, hts⟩ hM ⟨(callB_of (rm := rmA d' (M'.1 - M.1) (Zs M'.1 - Zs M.1)) k hts (gi_all hy.2.1) rfl rfl rfl (hts _ hy.2.2.1) (hts _ hlk) hy.1 ⟨by show d' + 1 ≤ R.frames; omega, by have := hy.2.2.2; show 8 + (n + 11) + 32 * d' ≤ R.locals; omega⟩), hts _ hin⟩ ⟨blind, fun U hU hW => ⟨rfl, by rw [hU]; exact hH, by rw [hU]; exact hP, va_K.moved hW.alike hK, by rw [hU]; exact (hE.kept (fun a g1 g2 => hS.2.1 a g1 g2)).warm hW⟩⟩ rfl hlen hl.1 hst (lv_room hcat) hd ⟨by omega, by have := Zs_mono h0; have := Zs_mono hle; have := Zs_mono hlim; omega⟩) (fun H1 locs1 a1 a2 a3 => kk H1 locs1 ls a1 a2 a3 hl)
theorem s_callI {X : CT} {cc : ByteArray} {own : String} {d lim w : Nat} (O : OKX X cc own d lim w) {M : MM} {pc : Nat} {loc : List (Nat × Value)} {st : List Value} {y : MethodName} {cy' : ByteArray} {n k i d' : Nat} {As st0 : List Value} {M' : MM} {r : Option Value} {p : Nat} (hM : Ct X.1 y cy' n none d' (rf X.1 p :: As) M r M') (hy : CallY y cy' n none k) (hlk : Cond.methodLink own i y ∈ tb) (hin : Cond.instanceMethod y ∈ tb) (hnm : y.name = "<init>") (hd' : d' + 1 ≤ d) (hlen : As.length = k) (hle : M.1 ≤ M'.1) (hlim : M'.1 ≤ lim) (hst : st0 = As.reverse ++ rf X.1 p :: st) (hcat : (st.map fun v => v.category).sum ≤ 8) (hd : decode cc pc = .ok (.invokespecial i, 3)) (kk : WS X M' (pc + 3) loc (r.toList ++ st)) : WS X M pc loc st0 := by
  obtain ⟨⟨l, D, cy, b, adK, adV⟩, p0, e, R, s, m, args, below, meth, c, Q, n0, nL⟩ := X
  obtain ⟨hx, hb, hml, hown, hts, hK, hlocks, hsz, hE, hfr, hlo, hce, hsl, hw⟩ := O
  intro H locs ls h0 hP hS hl
  refine ws_size hsz (by omega) hP hS (fun hH => ?_)
  refine run_on (D := D) (cy := cy) (b := b) (adK := adK) (adV := adV) h0 hle hS (va_runI (As := As) (rest := st) ⟨hx, hb, hml, hown, hts⟩ hM ⟨(callB_of (rm := rmA d' (M'.1 - M.1) (Zs M'.1 - Zs M.1)) k hts (gi_all hy.2.1) rfl rfl rfl (hts _ hy.2.2.1) (hts _ hlk) hy.1 ⟨by show d' + 1 ≤ R.frames; omega, by have := hy.2.2.2; show 8 + (n + 11) + 32 * d' ≤ R.locals; omega⟩), hnm, hts _ hin⟩ ⟨blind, fun U hU hW => ⟨rfl, by rw [hU]; exact hH, by rw [hU]; exact hP, va_K.moved hW.alike hK, by rw [hU]; exact (hE.kept (fun a g1 g2 => hS.2.1 a g1 g2)).warm hW⟩⟩ rfl hlen hl.1 hst (lv_room hcat) hd ⟨by omega, by have := Zs_mono h0; have := Zs_mono hle; have := Zs_mono hlim; omega⟩) (fun H1 locs1 a1 a2 a3 => kk H1 locs1 ls a1 a2 a3 hl)
theorem s_callIN {X : CT} {cc : ByteArray} {own : String} {d lim w : Nat} (O : OKX X cc own d lim w) {M : MM} {pc : Nat} {loc : List (Nat × Value)} {st : List Value} {y : MethodName} {cy' : ByteArray} {n k i d' : Nat} {As st0 : List Value} {M' : MM} {r : Option Value} {p : Nat} {host : String} (hM : Ct X.1 y cy' n none d' (rf X.1 p :: As) M r M') (hy : CallY y cy' n none k) (hlk : Cond.methodLinkNest own i y host ∈ nestL) (hin : Cond.instanceMethod y ∈ tb) (hnm : y.name = "<init>") (hd' : d' + 1 ≤ d) (hlen : As.length = k) (hle : M.1 ≤ M'.1) (hlim : M'.1 ≤ lim) (hst : st0 = As.reverse ++ rf X.1 p :: st) (hcat : (st.map fun v => v.category).sum ≤ 8) (hd : decode cc pc = .ok (.invokespecial i, 3)) (kk : WS X M' (pc + 3) loc (r.toList ++ st)) : WS X M pc loc st0 := by
  obtain ⟨⟨l, D, cy, b, adK, adV⟩, p0, e, R, s, m, args, below, meth, c, Q, n0, nL⟩ := X
  obtain ⟨hx, hb, hml, hown, hts, hK, hlocks, hsz, hE, hfr, hlo, hce, hsl, hw⟩ := O
  intro H locs ls h0 hP hS hl
  refine ws_size hsz (by omega) hP hS (fun hH => ?_)
  refine run_on (D := D) (cy := cy) (b := b) (adK := adK) (adV := adV) h0 hle hS (va_runIN (Ts := tb) (As := As) (rest := st) ⟨hx, hb, hml, hown, hts⟩ hM ⟨va_cnB (rm := rmA d' (M'.1 - M.1) (Zs M'.1 - Zs M.1)) k hts (gi_all hy.2.1) rfl rfl rfl (hE.2.2.2.2.2.2.2.2 _ hlk) (hts _ hy.2.2.1) hy.1 ⟨by show d' + 1 ≤ R.frames; omega, by have := hy.2.2.2; show 8 + (n + 11) + 32 * d' ≤ R.locals; omega⟩, hnm, hts _ hin⟩ ⟨blind, fun U hU hW => ⟨rfl, by rw [hU]; exact hH, by rw [hU]; exact hP, va_K.moved hW.alike hK, by rw [hU]; exact (hE.kept (fun a g1 g2 => hS.2.1 a g1 g2)).warm hW⟩⟩ rfl hlen hl.1 hst (lv_room hcat) hd ⟨by omega, by have := Zs_mono h0; have := Zs_mono hle; have := Zs_mono hlim; omega⟩) (fun H1 locs1 a1 a2 a3 => kk H1 locs1 ls a1 a2 a3 hl)
theorem s_objInit {X : CT} {cc : ByteArray} {own : String} {d lim w : Nat} (O : OKX X cc own d lim w) {M : MM} {pc : Nat} {loc : List (Nat × Value)} {st : List Value} {i p : Nat} (hlk : Cond.methodLink own i Lib.objectInit ∈ tb) (h1 : Cond.instanceMethod Lib.objectInit ∈ tb) (h2 : Cond.code Lib.objectInit ⟨#[0xb1]⟩ 1 none ∈ tb) (hd1 : 1 ≤ d) (hcat : (st.map fun v => v.category).sum ≤ 8) (hd : decode cc pc = .ok (.invokespecial i, 3)) (kk : WS X M (pc + 3) loc st) : WS X M pc loc (rf X.1 p :: st) := by
  obtain ⟨⟨l, D, cy, b, adK, adV⟩, p0, e, R, s, m, args, below, meth, c, Q, n0, nL⟩ := X
  obtain ⟨hx, hb, hml, hown, hts, hK, hlocks, hsz, hE, hfr, hlo, hce, hsl, hw⟩ := O
  intro H locs ls h0 hP hS hl
  exact W.objInit hx hb hown (hts _ hlk) (hts _ h1) (hts _ h2) rfl (by rw [hml]; exact hl.1) rfl hd (by omega) (by show 2 * 0 + (st.map fun v => v.category).sum + 12 ≤ R.locals; omega) (kk H locs ls h0 hP hS hl)
def RTX (X : CT) (ret : Option FieldType) (r : Option Value) (M' : MM) : Prop := match X with
  | (G, _, _, _, s, _, args, below, meth, _, Q, n0, _) => Q = MQ below (QcA G r M') args s (M'.1 - n0) (Zs M'.1 - Zs n0) (fun q : Nat => G.2.2.2.1 ≤ q) ∧ meth.sig.returnType = ret
theorem s_iret {X : CT} {cc : ByteArray} {own : String} {d lim w : Nat} (O : OKX X cc own d lim w) {M : MM} {pc : Nat} {loc : List (Nat × Value)}  {v : Int32} (T : RTX X (some .int) (some (.int v)) M) (hd : decode cc pc = .ok (.ireturn, 1)) : WS X M pc loc [.int v] := by
  obtain ⟨⟨l, D, cy, b, adK, adV⟩, p0, e, R, s, m, args, below, meth, c, Q, n0, nL⟩ := X
  obtain ⟨hx, hb, hml, hown, hts, hK, hlocks, hsz, hE, hfr, hlo, hce, hsl, hw⟩ := O
  intro H locs ls h0 hP hS hl
  obtain ⟨hQ, hr⟩ := T
  subst hQ
  refine ws_size hsz (by omega) hP hS (fun hH => ?_)
  exact W.iret hx hb hr (fun t ht hW => ⟨rfl, by rw [ht]; exact hH, by rw [ht]; exact hP, hS.F ht⟩) hS.2.2 hd hlocks
theorem s_zret {X : CT} {cc : ByteArray} {own : String} {d lim w : Nat} (O : OKX X cc own d lim w) {M : MM} {pc : Nat} {loc : List (Nat × Value)}  {v : Int32} (h01 : v = 0 ∨ v = 1) (T : RTX X (some .boolean) (some (.int v)) M) (hd : decode cc pc = .ok (.ireturn, 1)) : WS X M pc loc [.int v] := by
  obtain ⟨⟨l, D, cy, b, adK, adV⟩, p0, e, R, s, m, args, below, meth, c, Q, n0, nL⟩ := X
  obtain ⟨hx, hb, hml, hown, hts, hK, hlocks, hsz, hE, hfr, hlo, hce, hsl, hw⟩ := O
  intro H locs ls h0 hP hS hl
  obtain ⟨hQ, hr⟩ := T
  subst hQ
  refine ws_size hsz (by omega) hP hS (fun hH => ?_)
  exact W.zret hx hb hr (by rcases h01 with rfl | rfl <;> rfl) (fun t ht hW => ⟨rfl, by rw [ht]; exact hH, by rw [ht]; exact hP, hS.F ht⟩) hS.2.2 hd hlocks
theorem s_lret {X : CT} {cc : ByteArray} {own : String} {d lim w : Nat} (O : OKX X cc own d lim w) {M : MM} {pc : Nat} {loc : List (Nat × Value)}  {v : Int64} (T : RTX X (some .long) (some (.long v)) M) (hd : decode cc pc = .ok (.lreturn, 1)) : WS X M pc loc [.long v] := by
  obtain ⟨⟨l, D, cy, b, adK, adV⟩, p0, e, R, s, m, args, below, meth, c, Q, n0, nL⟩ := X
  obtain ⟨hx, hb, hml, hown, hts, hK, hlocks, hsz, hE, hfr, hlo, hce, hsl, hw⟩ := O
  intro H locs ls h0 hP hS hl
  obtain ⟨hQ, hr⟩ := T
  subst hQ
  refine ws_size hsz (by omega) hP hS (fun hH => ?_)
  exact W.lret hx hb hr (fun t ht hW => ⟨rfl, by rw [ht]; exact hH, by rw [ht]; exact hP, hS.F ht⟩) hS.2.2 hd hlocks
theorem s_vret {X : CT} {cc : ByteArray} {own : String} {d lim w : Nat} (O : OKX X cc own d lim w) {M : MM} {pc : Nat} {loc : List (Nat × Value)}   (T : RTX X (none) (none) M) (hd : decode cc pc = .ok (.return_, 1)) : WS X M pc loc [] := by
  obtain ⟨⟨l, D, cy, b, adK, adV⟩, p0, e, R, s, m, args, below, meth, c, Q, n0, nL⟩ := X
  obtain ⟨hx, hb, hml, hown, hts, hK, hlocks, hsz, hE, hfr, hlo, hce, hsl, hw⟩ := O
  intro H locs ls h0 hP hS hl
  obtain ⟨hQ, hr⟩ := T
  subst hQ
  refine ws_size hsz (by omega) hP hS (fun hH => ?_)
  exact W.vret hx hb hr (fun t ht hW => ⟨rfl, by rw [ht]; exact hH, by rw [ht]; exact hP, hS.F ht⟩) hS.2.2 hd hlocks
theorem ct_of {G : GG} {y : MethodName} {cc : ByteArray} {n : Nat} {ret : Option FieldType} {d : Nat} {av : List Value} {M : MM} {r : Option Value} {M' : MM} (hy : plainName y.cls = true) (hlen : (lg_sl av).length ≤ n) (body : ∀ X : CT, X.1 = G → OKX X cc y.cls d M'.1 n → RTX X ret r M' → (y.name = "<init>" → isInit X) → WS X M 0 (lv_args 0 av) []) : Ct G y cc n ret d av M r M' := by
  obtain ⟨l, D, cy, b, adK, adV⟩ := G
  refine Met.ofW (cc := cc) (maxL := n) (ret := ret) hy rfl ?_
  intro p e s m args below meth c s₁ B hml hv
  obtain ⟨rfl, hsz, hP, hK, hE⟩ := hv
  have hts := atoms_spec (ws := .code y cc n ret :: tb) B.pre
  have hw := body ((l, D, cy, b, adK, adV), p, e, (headSpec (.code y cc n ret :: tb) (rmA d (M'.1 - M.1) (Zs M'.1 - Zs M.1))).room, s, m, av.toArray, below, meth, c, _, M.1, n) rfl ⟨B.exec, B.bytes, hml, findClass_of_methodNamed B.named, fun w h => hts w (List.mem_cons_of_mem _ h), hK, B.notSynchronized, hsz, hE, Nat.le_refl _, Nat.le_refl _, Nat.le_refl _, Nat.le_refl _, rfl⟩ ⟨rfl, B.returns⟩ (fun h => ((name_of_methodNamed B.named B.method).1).trans h)
  rw [lg_entry_eq]
  have h2 := hw s.heap [] _ (Nat.le_refl _) hP va_S.rf (lv_entry av hlen)
  rw [Nat.sub_self, Nat.sub_self] at h2
  exact h2
theorem new_on {p : Program} {l : Launch} {e : Env} {R : Room} {s : State} {m : MethodId} {args : Array Value} {below : List Frame} {meth : Method} {c : Code} {H1 : Heap} {locs : List Loc} {Q : State → Prop} {g : JFrame} {D : va_G} {cy : Nat → ClassId} {b n0 k z q : Nat} {M : MM} {x : va_E} (hsz : s.heap.size = b + n0) (hk : n0 + k = M.1 + 1) (hP1 : va_P D vwCl (wl b cy M ++ [(q, x)]) H1) (hD1 : va_D (fun q : Nat => b ≤ q) (wl b cy M ++ [(q, x)]))
    (kk : q = b + M.1 → W p l e R s m args below meth c H1 locs k z Q g) : W p l e R s m args below meth c H1 locs k z Q g := by
  intro T hT X
  have h1 := X.heapSize
  rw [hT, hsz] at h1
  have hlen : (wl b cy M).length = M.1 := by simp [wl]
  have hq : (wl b cy M ++ [(q, x)])[M.1]? = some (q, x) := by
    rw [List.getElem?_append_right (by omega), hlen, Nat.sub_self]
    rfl
  have h2 : q < H1.size := (hP1 M.1 _ hq).lt
  have h3 : b ≤ q := hD1.2 M.1 _ hq
  have h4 : ¬ q < b + M.1 := by
    intro h
    have hi : q - b < M.1 := by omega
    have hg : (wl b cy M ++ [(q, x)])[q - b]? = some (b + (q - b), cel b cy M (q - b)) := by
      rw [List.getElem?_append_left (by omega), wl_get hi]
    have := hD1.1 (q - b) M.1 _ _ hg hq (by show b + (q - b) = q; omega)
    omega
  exact kk (by omega) T hT X
theorem gnP {M : MM} : gI (nP M) M.1 = (fun _ => 0) ∧ gJ (nP M) M.1 = (fun _ => 0) ∧ gR (nP M) M.1 = (fun _ => none) := by
  refine ⟨?_, ?_, ?_⟩ <;> funext j <;> simp [gI, gJ, gR, nP]
theorem s_new {X : CT} {cc : ByteArray} {own : String} {d lim w : Nat} (O : OKX X cc own d lim w) {M : MM} {pc : Nat} {loc : List (Nat × Value)} {st : List Value} {i : Nat} {M' : MM} {ci : Nat} {C : String} {T : u_T} {N : Nat} {ty : Nat → FieldType} (HK : KCok ci C T N ty) (hdf : ∀ j, j < N → defaultValue (ty j) = vp_V ((fl ci).mapIdx (fun _ t => if t = 0 then Value.int 0 else if t = 1 then Value.long 0 else .null)) j) (h1 : Cond.classLink own i C ∈ tb) (h2 : Cond.instantiable C N ∈ tb) (h3 : Cond.initialized C ∈ tb) (hv : nObj M lim ci = some M') (hd : decode cc pc = .ok (.new i, 3)) (kk : WS X M' (pc + 3) loc (rf X.1 M.1 :: st)) : WS X M pc loc st := by
  obtain ⟨⟨l, D, cy, b, adK, adV⟩, p0, e, R, s, m, args, below, meth, c, Q, n0, nL⟩ := X
  obtain ⟨hx, hb, hml, hown, hts, hK, hlocks, hsz, hE, hfr, hlo, hce, hsl, hw⟩ := O
  intro H locs ls h0 hP hS hl
  obtain ⟨hc8, hcl, hin, hty, hnm, hfl, hdecl⟩ := HK
  obtain ⟨⟨hkd, hlm⟩, hv⟩ := gd hv
  cases hv
  have hz1 : Zs (M.1 + 1) = Zs M.1 + N := by
    show Zs M.1 + szP M.1 = _
    rw [szP, hkd, if_pos hc8, hfl]
  have zm := Zs_mono hlm
  have z0 := Zs_mono h0
  refine va_new (ci := ci) (C := C) (T := T) (N := N) hx hb hts hin ty hty hown (hts _ h1) (hts _ h2) (hts _ h3) hK hP wl_D hS (fun q hq => by show b ≤ q; omega) hcl hdf (by omega) (by omega) hd (fun q H1 hP1 hD1 hS1 => ?_)
  refine new_on (M := M) hsz (by omega) hP1 hD1 (fun hq => ?_)
  subst hq
  have e1 : cel b cy (nP M) M.1 = .inr (ci, (fl ci).mapIdx (fun _ t => if t = 0 then Value.int 0 else if t = 1 then Value.long 0 else .null)) := by
    rw [cel_obj hkd hc8]
    congr 2
    apply List.ext_getElem?
    intro j
    simp only [List.getElem?_mapIdx]
    cases (fl ci)[j]? with
    | none => rfl
    | some t => simp [cv, gnP.1, gnP.2.1, gnP.2.2, va_rf]
  rw [wl_push (M' := nP M) rfl e1 (fun q h => cel_nP h)] at hP1
  have k1 : M.1 - n0 + 1 = (nP M).1 - n0 := by show _ = M.1 + 1 - n0; omega
  have k2 : Zs M.1 - Zs n0 + N = Zs (nP M).1 - Zs n0 := by show _ = Zs (M.1 + 1) - Zs n0; omega
  rw [k1, k2]
  exact kk H1 locs ls (by show n0 ≤ M.1 + 1; omega) hP1 hS1 hl
theorem s_newaI {X : CT} {cc : ByteArray} {own : String} {d lim w : Nat} (O : OKX X cc own d lim w) {M : MM} {pc : Nat} {loc : List (Nat × Value)} {st : List Value} {n : Int32} {M' : MM} (hac : Cond.arrayClass .int ∈ tb) (hsm : ln M.1 ≤ 100000) (hv : nArr M lim 8 n = some M') (hd : decode cc pc = .ok (.newarray .int, 2)) (kk : WS X M' (pc + 2) loc (rf X.1 M.1 :: st)) : WS X M pc loc (.int n :: st) := by
  obtain ⟨⟨l, D, cy, b, adK, adV⟩, p0, e, R, s, m, args, below, meth, c, Q, n0, nL⟩ := X
  obtain ⟨hx, hb, hml, hown, hts, hK, hlocks, hsz, hE, hfr, hlo, hce, hsl, hw⟩ := O
  intro H locs ls h0 hP hS hl
  obtain ⟨⟨hkd, hn0, hnl, hlm⟩, hv⟩ := gd hv
  cases hv
  have hz1 : Zs (M.1 + 1) = Zs M.1 + ln M.1 := by
    show Zs M.1 + szP M.1 = _
    rw [szP, hkd, if_neg (by decide)]
  have zm := Zs_mono hlm
  have z0 := Zs_mono h0
  refine va_newa (atype := .int) (ty := .int) (a0 := (ln M.1, .inl (fun _ => 0))) (N' := ln M.1) hx hb (hts _ hac) rfl hK hP wl_D hS (fun q hq => by show b ≤ q; omega) (fun cA => rfl) hn0 hnl (by show ln M.1 * 4 ≤ 536870912; omega) (by omega) (by omega) hd (fun q cA H1 hK1 hP1 hD1 hS1 => ?_)
  refine new_on (M := M) hsz (by omega) hP1 hD1 (fun hq => ?_)
  subst hq
  have hcA : cA = cy 8 := by
    have q1 : s.vm.findClass ("[" ++ (.int : FieldType).toString) = some cA := (hK1.2 6 (cA, .int) rfl).2
    have q2 : s.vm.findClass ("[" ++ (.int : FieldType).toString) = some (cy 8) := (hK.2 0 (cy 8, .int) rfl).2
    exact Option.some.inj (q1.symm.trans q2)
  subst hcA
  have e1 : cel b cy (nP M) M.1 = .inl (cy 8, (ln M.1, .inl (fun _ => 0))) := by
    rw [cel_I hkd]
    simp [gnP.1, gnP.2.1]
  rw [wl_push (M' := nP M) rfl e1 (fun q h => cel_nP h)] at hP1
  have k1 : M.1 - n0 + 1 = (nP M).1 - n0 := by show _ = M.1 + 1 - n0; omega
  have k2 : Zs M.1 - Zs n0 + ln M.1 = Zs (nP M).1 - Zs n0 := by show _ = Zs (M.1 + 1) - Zs n0; omega
  rw [k1, k2]
  exact kk H1 locs ls (by show n0 ≤ M.1 + 1; omega) hP1 hS1 hl
theorem s_newaJ {X : CT} {cc : ByteArray} {own : String} {d lim w : Nat} (O : OKX X cc own d lim w) {M : MM} {pc : Nat} {loc : List (Nat × Value)} {st : List Value} {n : Int32} {M' : MM} (hac : Cond.arrayClass .long ∈ tb) (hsm : ln M.1 ≤ 100000) (hv : nArr M lim 9 n = some M') (hd : decode cc pc = .ok (.newarray .long, 2)) (kk : WS X M' (pc + 2) loc (rf X.1 M.1 :: st)) : WS X M pc loc (.int n :: st) := by
  obtain ⟨⟨l, D, cy, b, adK, adV⟩, p0, e, R, s, m, args, below, meth, c, Q, n0, nL⟩ := X
  obtain ⟨hx, hb, hml, hown, hts, hK, hlocks, hsz, hE, hfr, hlo, hce, hsl, hw⟩ := O
  intro H locs ls h0 hP hS hl
  obtain ⟨⟨hkd, hn0, hnl, hlm⟩, hv⟩ := gd hv
  cases hv
  have hz1 : Zs (M.1 + 1) = Zs M.1 + ln M.1 := by
    show Zs M.1 + szP M.1 = _
    rw [szP, hkd, if_neg (by decide)]
  have zm := Zs_mono hlm
  have z0 := Zs_mono h0
  refine va_newa (atype := .long) (ty := .long) (a0 := (ln M.1, .inr (.inl (fun _ => 0)))) (N' := ln M.1) hx hb (hts _ hac) rfl hK hP wl_D hS (fun q hq => by show b ≤ q; omega) (fun cA => rfl) hn0 hnl (by show ln M.1 * 8 ≤ 536870912; omega) (by omega) (by omega) hd (fun q cA H1 hK1 hP1 hD1 hS1 => ?_)
  refine new_on (M := M) hsz (by omega) hP1 hD1 (fun hq => ?_)
  subst hq
  have hcA : cA = cy 9 := by
    have q1 : s.vm.findClass ("[" ++ (.long : FieldType).toString) = some cA := (hK1.2 6 (cA, .long) rfl).2
    have q2 : s.vm.findClass ("[" ++ (.long : FieldType).toString) = some (cy 9) := (hK.2 1 (cy 9, .long) rfl).2
    exact Option.some.inj (q1.symm.trans q2)
  subst hcA
  have e1 : cel b cy (nP M) M.1 = .inl (cy 9, (ln M.1, .inr (.inl (fun _ => 0)))) := by
    rw [cel_J hkd]
    simp [gnP.1, gnP.2.1]
  rw [wl_push (M' := nP M) rfl e1 (fun q h => cel_nP h)] at hP1
  have k1 : M.1 - n0 + 1 = (nP M).1 - n0 := by show _ = M.1 + 1 - n0; omega
  have k2 : Zs M.1 - Zs n0 + ln M.1 = Zs (nP M).1 - Zs n0 := by show _ = Zs (M.1 + 1) - Zs n0; omega
  rw [k1, k2]
  exact kk H1 locs ls (by show n0 ≤ M.1 + 1; omega) hP1 hS1 hl
theorem s_newaZ {X : CT} {cc : ByteArray} {own : String} {d lim w : Nat} (O : OKX X cc own d lim w) {M : MM} {pc : Nat} {loc : List (Nat × Value)} {st : List Value} {n : Int32} {M' : MM} (hac : Cond.arrayClass .boolean ∈ tb) (hsm : ln M.1 ≤ 100000) (hv : nArr M lim 10 n = some M') (hd : decode cc pc = .ok (.newarray .boolean, 2)) (kk : WS X M' (pc + 2) loc (rf X.1 M.1 :: st)) : WS X M pc loc (.int n :: st) := by
  obtain ⟨⟨l, D, cy, b, adK, adV⟩, p0, e, R, s, m, args, below, meth, c, Q, n0, nL⟩ := X
  obtain ⟨hx, hb, hml, hown, hts, hK, hlocks, hsz, hE, hfr, hlo, hce, hsl, hw⟩ := O
  intro H locs ls h0 hP hS hl
  obtain ⟨⟨hkd, hn0, hnl, hlm⟩, hv⟩ := gd hv
  cases hv
  have hz1 : Zs (M.1 + 1) = Zs M.1 + ln M.1 := by
    show Zs M.1 + szP M.1 = _
    rw [szP, hkd, if_neg (by decide)]
  have zm := Zs_mono hlm
  have z0 := Zs_mono h0
  refine va_newa (atype := .boolean) (ty := .boolean) (a0 := (ln M.1, .inl (fun _ => 0))) (N' := ln M.1) hx hb (hts _ hac) rfl hK hP wl_D hS (fun q hq => by show b ≤ q; omega) (fun cA => rfl) hn0 hnl (by show ln M.1 * 1 ≤ 536870912; omega) (by omega) (by omega) hd (fun q cA H1 hK1 hP1 hD1 hS1 => ?_)
  refine new_on (M := M) hsz (by omega) hP1 hD1 (fun hq => ?_)
  subst hq
  have hcA : cA = cy 10 := by
    have q1 : s.vm.findClass ("[" ++ (.boolean : FieldType).toString) = some cA := (hK1.2 6 (cA, .boolean) rfl).2
    have q2 : s.vm.findClass ("[" ++ (.boolean : FieldType).toString) = some (cy 10) := (hK.2 2 (cy 10, .boolean) rfl).2
    exact Option.some.inj (q1.symm.trans q2)
  subst hcA
  have e1 : cel b cy (nP M) M.1 = .inl (cy 10, (ln M.1, .inl (fun _ => 0))) := by
    rw [cel_Z hkd]
    simp [gnP.1, gnP.2.1]
  rw [wl_push (M' := nP M) rfl e1 (fun q h => cel_nP h)] at hP1
  have k1 : M.1 - n0 + 1 = (nP M).1 - n0 := by show _ = M.1 + 1 - n0; omega
  have k2 : Zs M.1 - Zs n0 + ln M.1 = Zs (nP M).1 - Zs n0 := by show _ = Zs (M.1 + 1) - Zs n0; omega
  rw [k1, k2]
  exact kk H1 locs ls (by show n0 ≤ M.1 + 1; omega) hP1 hS1 hl
theorem s_newq11 {X : CT} {cc : ByteArray} {own : String} {d lim w : Nat} (O : OKX X cc own d lim w) {M : MM} {pc : Nat} {loc : List (Nat × Value)} {st : List Value} {i : Nat} {n : Int32} {M' : MM} (hcl : Cond.classLink own i RX0 ∈ tb) (hsm : ln M.1 ≤ 100000) (hv : nArr M lim 11 n = some M') (hd : decode cc pc = .ok (.anewarray i, 3)) (kk : WS X M' (pc + 3) loc (rf X.1 M.1 :: st)) : WS X M pc loc (.int n :: st) := by
  obtain ⟨⟨l, D, cy, b, adK, adV⟩, p0, e, R, s, m, args, below, meth, c, Q, n0, nL⟩ := X
  obtain ⟨hx, hb, hml, hown, hts, hK, hlocks, hsz, hE, hfr, hlo, hce, hsl, hw⟩ := O
  intro H locs ls h0 hP hS hl
  obtain ⟨⟨hkd, hn0, hnl, hlm⟩, hv⟩ := gd hv
  cases hv
  have hz1 : Zs (M.1 + 1) = Zs M.1 + ln M.1 := by
    show Zs M.1 + szP M.1 = _
    rw [szP, hkd, if_neg (by decide)]
  have zm := Zs_mono hlm
  have z0 := Zs_mono h0
  refine va_newq (C := RX0) (N' := ln M.1) hx hb hown (hts _ hcl) hE.1 hK hP wl_D hS (fun q hq => by show b ≤ q; omega) hn0 hnl (by omega) (by omega) (by omega) hd (fun q cA H1 hK1 hP1 hD1 hS1 => ?_)
  refine new_on (M := M) hsz (by omega) hP1 hD1 (fun hq => ?_)
  subst hq
  have hcA : cA = cy 11 := by
    obtain ⟨_, _, _, _, _, q1⟩ := (hK1.2 6 (cA, .object RX0) rfl).2
    obtain ⟨_, _, _, _, _, q2⟩ := (hK.2 3 (cy 11, .object RX0) rfl).2
    exact Option.some.inj (q1.symm.trans q2)
  subst hcA
  have e1 : cel b cy (nP M) M.1 = .inl (cy 11, ln M.1, .inr (.inr (.inr (.inr (fun _ => none))))) := by
    rw [cel_R hkd (by decide)]
    simp [gnP.2.2]
  rw [wl_push (M' := nP M) rfl e1 (fun q h => cel_nP h)] at hP1
  have k1 : M.1 - n0 + 1 = (nP M).1 - n0 := by show _ = M.1 + 1 - n0; omega
  have k2 : Zs M.1 - Zs n0 + ln M.1 = Zs (nP M).1 - Zs n0 := by show _ = Zs (M.1 + 1) - Zs n0; omega
  rw [k1, k2]
  exact kk H1 locs ls (by show n0 ≤ M.1 + 1; omega) hP1 hS1 hl
theorem s_newq12 {X : CT} {cc : ByteArray} {own : String} {d lim w : Nat} (O : OKX X cc own d lim w) {M : MM} {pc : Nat} {loc : List (Nat × Value)} {st : List Value} {i : Nat} {n : Int32} {M' : MM} (hcl : Cond.classLink own i RX2 ∈ tb) (hsm : ln M.1 ≤ 100000) (hv : nArr M lim 12 n = some M') (hd : decode cc pc = .ok (.anewarray i, 3)) (kk : WS X M' (pc + 3) loc (rf X.1 M.1 :: st)) : WS X M pc loc (.int n :: st) := by
  obtain ⟨⟨l, D, cy, b, adK, adV⟩, p0, e, R, s, m, args, below, meth, c, Q, n0, nL⟩ := X
  obtain ⟨hx, hb, hml, hown, hts, hK, hlocks, hsz, hE, hfr, hlo, hce, hsl, hw⟩ := O
  intro H locs ls h0 hP hS hl
  obtain ⟨⟨hkd, hn0, hnl, hlm⟩, hv⟩ := gd hv
  cases hv
  have hz1 : Zs (M.1 + 1) = Zs M.1 + ln M.1 := by
    show Zs M.1 + szP M.1 = _
    rw [szP, hkd, if_neg (by decide)]
  have zm := Zs_mono hlm
  have z0 := Zs_mono h0
  refine va_newq (C := RX2) (N' := ln M.1) hx hb hown (hts _ hcl) hE.2.1 hK hP wl_D hS (fun q hq => by show b ≤ q; omega) hn0 hnl (by omega) (by omega) (by omega) hd (fun q cA H1 hK1 hP1 hD1 hS1 => ?_)
  refine new_on (M := M) hsz (by omega) hP1 hD1 (fun hq => ?_)
  subst hq
  have hcA : cA = cy 12 := by
    obtain ⟨_, _, _, _, _, q1⟩ := (hK1.2 6 (cA, .object RX2) rfl).2
    obtain ⟨_, _, _, _, _, q2⟩ := (hK.2 4 (cy 12, .object RX2) rfl).2
    exact Option.some.inj (q1.symm.trans q2)
  subst hcA
  have e1 : cel b cy (nP M) M.1 = .inl (cy 12, ln M.1, .inr (.inr (.inr (.inr (fun _ => none))))) := by
    rw [cel_R hkd (by decide)]
    simp [gnP.2.2]
  rw [wl_push (M' := nP M) rfl e1 (fun q h => cel_nP h)] at hP1
  have k1 : M.1 - n0 + 1 = (nP M).1 - n0 := by show _ = M.1 + 1 - n0; omega
  have k2 : Zs M.1 - Zs n0 + ln M.1 = Zs (nP M).1 - Zs n0 := by show _ = Zs (M.1 + 1) - Zs n0; omega
  rw [k1, k2]
  exact kk H1 locs ls (by show n0 ≤ M.1 + 1; omega) hP1 hS1 hl
theorem s_newq13 {X : CT} {cc : ByteArray} {own : String} {d lim w : Nat} (O : OKX X cc own d lim w) {M : MM} {pc : Nat} {loc : List (Nat × Value)} {st : List Value} {i : Nat} {n : Int32} {M' : MM} (hcl : Cond.classLink own i RX5 ∈ tb) (hsm : ln M.1 ≤ 100000) (hv : nArr M lim 13 n = some M') (hd : decode cc pc = .ok (.anewarray i, 3)) (kk : WS X M' (pc + 3) loc (rf X.1 M.1 :: st)) : WS X M pc loc (.int n :: st) := by
  obtain ⟨⟨l, D, cy, b, adK, adV⟩, p0, e, R, s, m, args, below, meth, c, Q, n0, nL⟩ := X
  obtain ⟨hx, hb, hml, hown, hts, hK, hlocks, hsz, hE, hfr, hlo, hce, hsl, hw⟩ := O
  intro H locs ls h0 hP hS hl
  obtain ⟨⟨hkd, hn0, hnl, hlm⟩, hv⟩ := gd hv
  cases hv
  have hz1 : Zs (M.1 + 1) = Zs M.1 + ln M.1 := by
    show Zs M.1 + szP M.1 = _
    rw [szP, hkd, if_neg (by decide)]
  have zm := Zs_mono hlm
  have z0 := Zs_mono h0
  refine va_newq (C := RX5) (N' := ln M.1) hx hb hown (hts _ hcl) hE.2.2.1 hK hP wl_D hS (fun q hq => by show b ≤ q; omega) hn0 hnl (by omega) (by omega) (by omega) hd (fun q cA H1 hK1 hP1 hD1 hS1 => ?_)
  refine new_on (M := M) hsz (by omega) hP1 hD1 (fun hq => ?_)
  subst hq
  have hcA : cA = cy 13 := by
    obtain ⟨_, _, _, _, _, q1⟩ := (hK1.2 6 (cA, .object RX5) rfl).2
    obtain ⟨_, _, _, _, _, q2⟩ := (hK.2 5 (cy 13, .object RX5) rfl).2
    exact Option.some.inj (q1.symm.trans q2)
  subst hcA
  have e1 : cel b cy (nP M) M.1 = .inl (cy 13, ln M.1, .inr (.inr (.inr (.inr (fun _ => none))))) := by
    rw [cel_R hkd (by decide)]
    simp [gnP.2.2]
  rw [wl_push (M' := nP M) rfl e1 (fun q h => cel_nP h)] at hP1
  have k1 : M.1 - n0 + 1 = (nP M).1 - n0 := by show _ = M.1 + 1 - n0; omega
  have k2 : Zs M.1 - Zs n0 + ln M.1 = Zs (nP M).1 - Zs n0 := by show _ = Zs (M.1 + 1) - Zs n0; omega
  rw [k1, k2]
  exact kk H1 locs ls (by show n0 ≤ M.1 + 1; omega) hP1 hS1 hl
end
section
theorem tw_0 : (Jvm.Cond.selects "SameLetters$Text" ({ cls := "SameLetters$Text", name := "isIn", desc := "(ICC)Z" } : Jvm.MethodName) ({ cls := "SameLetters$Text", name := "isIn", desc := "(ICC)Z" } : Jvm.MethodName)) ∈ tb := tbI (i := 0) (by decide +kernel) rfl
theorem tw_1 : (Jvm.Cond.selects "SameLetters$Text" ({ cls := "SameLetters$Text", name := "takeLetters", desc := "()V" } : Jvm.MethodName) ({ cls := "SameLetters$Text", name := "takeLetters", desc := "()V" } : Jvm.MethodName)) ∈ tb := tbI (i := 1) (by decide +kernel) rfl
theorem tw_2 : (Jvm.Cond.selects "SameLetters$Text" ({ cls := "SameLetters$Text", name := "isName", desc := "(Ljava/lang/String;)Z" } : Jvm.MethodName) ({ cls := "SameLetters$Text", name := "isName", desc := "(Ljava/lang/String;)Z" } : Jvm.MethodName)) ∈ tb := tbI (i := 2) (by decide +kernel) rfl
theorem tw_3 : (Jvm.Cond.selects "SameLetters$Text" ({ cls := "SameLetters$Text", name := "takeNumber", desc := "()V" } : Jvm.MethodName) ({ cls := "SameLetters$Text", name := "takeNumber", desc := "()V" } : Jvm.MethodName)) ∈ tb := tbI (i := 3) (by decide +kernel) rfl
theorem tw_4 : (Jvm.Cond.selects "SameLetters$Tongue" ({ cls := "SameLetters$Tongue", name := "readWord", desc := "(LSameLetters$Text;)Z" } : Jvm.MethodName) ({ cls := "SameLetters$Tongue", name := "readWord", desc := "(LSameLetters$Text;)Z" } : Jvm.MethodName)) ∈ tb := tbI (i := 4) (by decide +kernel) rfl
theorem tw_5 : (Jvm.Cond.selects "SameLetters$Tongue" ({ cls := "SameLetters$Tongue", name := "readShape", desc := "(LSameLetters$Text;)Z" } : Jvm.MethodName) ({ cls := "SameLetters$Tongue", name := "readShape", desc := "(LSameLetters$Text;)Z" } : Jvm.MethodName)) ∈ tb := tbI (i := 5) (by decide +kernel) rfl
theorem tw_6 : (Jvm.Cond.selects "SameLetters$Sayings" ({ cls := "SameLetters$Sayings", name := "fillRow", desc := "(ILSameLetters$Tongue;)V" } : Jvm.MethodName) ({ cls := "SameLetters$Sayings", name := "fillRow", desc := "(ILSameLetters$Tongue;)V" } : Jvm.MethodName)) ∈ tb := tbI (i := 6) (by decide +kernel) rfl
theorem tw_7 : (Jvm.Cond.selects "SameLetters$Sayings" ({ cls := "SameLetters$Sayings", name := "putIntoGroup", desc := "(I)V" } : Jvm.MethodName) ({ cls := "SameLetters$Sayings", name := "putIntoGroup", desc := "(I)V" } : Jvm.MethodName)) ∈ tb := tbI (i := 7) (by decide +kernel) rfl
theorem tw_8 : (Jvm.Cond.selects "SameLetters" ({ cls := "SameLetters", name := "isWord", desc := "(I)Z" } : Jvm.MethodName) ({ cls := "SameLetters", name := "isWord", desc := "(I)Z" } : Jvm.MethodName)) ∈ tb := tbI (i := 8) (by decide +kernel) rfl
theorem tw_9 : (Jvm.Cond.selects "SameLetters" ({ cls := "SameLetters", name := "isShape", desc := "(I)Z" } : Jvm.MethodName) ({ cls := "SameLetters", name := "isShape", desc := "(I)Z" } : Jvm.MethodName)) ∈ tb := tbI (i := 9) (by decide +kernel) rfl
theorem tw_10 : (Jvm.Cond.selects "SameLetters$Sayings" ({ cls := "SameLetters$Sayings", name := "isNear", desc := "(III)Z" } : Jvm.MethodName) ({ cls := "SameLetters$Sayings", name := "isNear", desc := "(III)Z" } : Jvm.MethodName)) ∈ tb := tbI (i := 10) (by decide +kernel) rfl
theorem tw_11 : (Jvm.Cond.selects "SameLetters$Sayings" ({ cls := "SameLetters$Sayings", name := "difference", desc := "(II)I" } : Jvm.MethodName) ({ cls := "SameLetters$Sayings", name := "difference", desc := "(II)I" } : Jvm.MethodName)) ∈ tb := tbI (i := 11) (by decide +kernel) rfl
theorem tw_12 : (Jvm.Cond.selects "SameLetters" ({ cls := "SameLetters", name := "rateWord", desc := "(I)I" } : Jvm.MethodName) ({ cls := "SameLetters", name := "rateWord", desc := "(I)I" } : Jvm.MethodName)) ∈ tb := tbI (i := 12) (by decide +kernel) rfl
theorem tw_13 : (Jvm.Cond.selects "SameLetters" ({ cls := "SameLetters", name := "rateVow", desc := "(I)I" } : Jvm.MethodName) ({ cls := "SameLetters", name := "rateVow", desc := "(I)I" } : Jvm.MethodName)) ∈ tb := tbI (i := 13) (by decide +kernel) rfl
theorem tw_14 : (Jvm.Cond.selects "SameLetters" ({ cls := "SameLetters", name := "rateBill", desc := "(I)I" } : Jvm.MethodName) ({ cls := "SameLetters", name := "rateBill", desc := "(I)I" } : Jvm.MethodName)) ∈ tb := tbI (i := 14) (by decide +kernel) rfl
theorem tw_15 : (Jvm.Cond.selects "SameLetters" ({ cls := "SameLetters", name := "rateVerse", desc := "(I)I" } : Jvm.MethodName) ({ cls := "SameLetters", name := "rateVerse", desc := "(I)I" } : Jvm.MethodName)) ∈ tb := tbI (i := 15) (by decide +kernel) rfl
theorem tw_16 : (Jvm.Cond.selects "SameLetters" ({ cls := "SameLetters", name := "rateInsult", desc := "(I)I" } : Jvm.MethodName) ({ cls := "SameLetters", name := "rateInsult", desc := "(I)I" } : Jvm.MethodName)) ∈ tb := tbI (i := 16) (by decide +kernel) rfl
theorem tw_17 : (Jvm.Cond.selects "SameLetters" ({ cls := "SameLetters", name := "rateThreat", desc := "(I)I" } : Jvm.MethodName) ({ cls := "SameLetters", name := "rateThreat", desc := "(I)I" } : Jvm.MethodName)) ∈ tb := tbI (i := 17) (by decide +kernel) rfl
theorem tw_18 : (Jvm.Cond.selects "SameLettersModel" ({ cls := "SameLettersModel", name := "lists", desc := "()V" } : Jvm.MethodName) ({ cls := "SameLettersModel", name := "lists", desc := "()V" } : Jvm.MethodName)) ∈ tb := tbI (i := 18) (by decide +kernel) rfl
theorem tw_19 : (Jvm.Cond.selects "SameLettersModel" ({ cls := "SameLettersModel", name := "isSaid", desc := "(I)Z" } : Jvm.MethodName) ({ cls := "SameLettersModel", name := "isSaid", desc := "(I)Z" } : Jvm.MethodName)) ∈ tb := tbI (i := 19) (by decide +kernel) rfl
theorem tw_20 : (Jvm.Cond.selects "SameLettersModel" ({ cls := "SameLettersModel", name := "isWord", desc := "(I)Z" } : Jvm.MethodName) ({ cls := "SameLettersModel", name := "isWord", desc := "(I)Z" } : Jvm.MethodName)) ∈ tb := tbI (i := 20) (by decide +kernel) rfl
theorem tw_21 : (Jvm.Cond.selects "SameLettersModel" ({ cls := "SameLettersModel", name := "isOf", desc := "(II)Z" } : Jvm.MethodName) ({ cls := "SameLettersModel", name := "isOf", desc := "(II)Z" } : Jvm.MethodName)) ∈ tb := tbI (i := 21) (by decide +kernel) rfl
theorem tw_22 : (Jvm.Cond.selects "SameLettersModel" ({ cls := "SameLettersModel", name := "adds", desc := "(I)V" } : Jvm.MethodName) ({ cls := "SameLettersModel", name := "adds", desc := "(I)V" } : Jvm.MethodName)) ∈ tb := tbI (i := 22) (by decide +kernel) rfl
theorem tw_23 : (Jvm.Cond.selects "SameLettersModel" ({ cls := "SameLettersModel", name := "reads", desc := "()Z" } : Jvm.MethodName) ({ cls := "SameLettersModel", name := "reads", desc := "()Z" } : Jvm.MethodName)) ∈ tb := tbI (i := 23) (by decide +kernel) rfl
theorem tw_24 : (Jvm.Cond.selects "SameLettersModel" ({ cls := "SameLettersModel", name := "token", desc := "()V" } : Jvm.MethodName) ({ cls := "SameLettersModel", name := "token", desc := "()V" } : Jvm.MethodName)) ∈ tb := tbI (i := 24) (by decide +kernel) rfl
theorem tw_25 : (Jvm.Cond.selects "SameLettersModel" ({ cls := "SameLettersModel", name := "byteAt", desc := "(I)I" } : Jvm.MethodName) ({ cls := "SameLettersModel", name := "byteAt", desc := "(I)I" } : Jvm.MethodName)) ∈ tb := tbI (i := 25) (by decide +kernel) rfl
theorem tw_26 : (Jvm.Cond.selects "SameLettersModel" ({ cls := "SameLettersModel", name := "verb", desc := "()I" } : Jvm.MethodName) ({ cls := "SameLettersModel", name := "verb", desc := "()I" } : Jvm.MethodName)) ∈ tb := tbI (i := 26) (by decide +kernel) rfl
theorem tw_27 : (Jvm.Cond.selects "SameLettersModel" ({ cls := "SameLettersModel", name := "readsWord", desc := "()Z" } : Jvm.MethodName) ({ cls := "SameLettersModel", name := "readsWord", desc := "()Z" } : Jvm.MethodName)) ∈ tb := tbI (i := 27) (by decide +kernel) rfl
theorem tw_28 : (Jvm.Cond.selects "SameLettersModel" ({ cls := "SameLettersModel", name := "readsSigns", desc := "(I)Z" } : Jvm.MethodName) ({ cls := "SameLettersModel", name := "readsSigns", desc := "(I)Z" } : Jvm.MethodName)) ∈ tb := tbI (i := 28) (by decide +kernel) rfl
theorem tw_29 : (Jvm.Cond.selects "SameLettersModel" ({ cls := "SameLettersModel", name := "readsNumber", desc := "(II)Z" } : Jvm.MethodName) ({ cls := "SameLettersModel", name := "readsNumber", desc := "(II)Z" } : Jvm.MethodName)) ∈ tb := tbI (i := 29) (by decide +kernel) rfl
theorem tw_30 : (Jvm.Cond.selects "SameLettersModel" ({ cls := "SameLettersModel", name := "figure", desc := "(I)I" } : Jvm.MethodName) ({ cls := "SameLettersModel", name := "figure", desc := "(I)I" } : Jvm.MethodName)) ∈ tb := tbI (i := 30) (by decide +kernel) rfl
theorem tw_31 : (Jvm.Cond.selects "SameLettersModel" ({ cls := "SameLettersModel", name := "readsShape", desc := "()Z" } : Jvm.MethodName) ({ cls := "SameLettersModel", name := "readsShape", desc := "()Z" } : Jvm.MethodName)) ∈ tb := tbI (i := 31) (by decide +kernel) rfl
theorem tw_32 : (Jvm.Cond.selects "SameLettersModel" ({ cls := "SameLettersModel", name := "isShape", desc := "(I)Z" } : Jvm.MethodName) ({ cls := "SameLettersModel", name := "isShape", desc := "(I)Z" } : Jvm.MethodName)) ∈ tb := tbI (i := 32) (by decide +kernel) rfl
theorem tw_33 : (Jvm.Cond.selects "SameLettersModel" ({ cls := "SameLettersModel", name := "placeOf", desc := "(I)I" } : Jvm.MethodName) ({ cls := "SameLettersModel", name := "placeOf", desc := "(I)I" } : Jvm.MethodName)) ∈ tb := tbI (i := 33) (by decide +kernel) rfl
theorem tw_34 : (Jvm.Cond.selects "SameLettersModel" ({ cls := "SameLettersModel", name := "isAnswer", desc := "(III)Z" } : Jvm.MethodName) ({ cls := "SameLettersModel", name := "isAnswer", desc := "(III)Z" } : Jvm.MethodName)) ∈ tb := tbI (i := 34) (by decide +kernel) rfl
theorem tw_35 : (Jvm.Cond.selects "SameLettersModel" ({ cls := "SameLettersModel", name := "bestOf", desc := "(II)I" } : Jvm.MethodName) ({ cls := "SameLettersModel", name := "bestOf", desc := "(II)I" } : Jvm.MethodName)) ∈ tb := tbI (i := 35) (by decide +kernel) rfl
theorem tw_36 : (Jvm.Cond.selects "SameLettersModel" ({ cls := "SameLettersModel", name := "lays", desc := "(I)I" } : Jvm.MethodName) ({ cls := "SameLettersModel", name := "lays", desc := "(I)I" } : Jvm.MethodName)) ∈ tb := tbI (i := 36) (by decide +kernel) rfl
theorem tw_37 : (Jvm.Cond.selects "SameLettersModel" ({ cls := "SameLettersModel", name := "writtenIn", desc := "(I)I" } : Jvm.MethodName) ({ cls := "SameLettersModel", name := "writtenIn", desc := "(I)I" } : Jvm.MethodName)) ∈ tb := tbI (i := 37) (by decide +kernel) rfl
theorem tw_38 : (Jvm.Cond.selects "SameLettersModel" ({ cls := "SameLettersModel", name := "written", desc := "(I)I" } : Jvm.MethodName) ({ cls := "SameLettersModel", name := "written", desc := "(I)I" } : Jvm.MethodName)) ∈ tb := tbI (i := 38) (by decide +kernel) rfl
theorem tw_39 : (Jvm.Cond.initialized "SameLettersLaw") ∈ tb := tbI (i := 39) (by decide +kernel) rfl
theorem tw_40 : (Jvm.Cond.initialized "SameLetters") ∈ tb := tbI (i := 40) (by decide +kernel) rfl
theorem tw_41 : (Jvm.Cond.initialized "SameLetters$Text") ∈ tb := tbI (i := 41) (by decide +kernel) rfl
theorem tw_42 : (Jvm.Cond.initialized "SameLetters$Sayings") ∈ tb := tbI (i := 42) (by decide +kernel) rfl
theorem tw_43 : (Jvm.Cond.initialized "SameLetters$Post") ∈ tb := tbI (i := 43) (by decide +kernel) rfl
theorem tw_44 : (Jvm.Cond.initialized "SameLetters$Tongue") ∈ tb := tbI (i := 44) (by decide +kernel) rfl
theorem tw_45 : (Jvm.Cond.initialized "SameLetters$Word") ∈ tb := tbI (i := 45) (by decide +kernel) rfl
theorem tw_46 : (Jvm.Cond.initialized "SameLetters$Shape") ∈ tb := tbI (i := 46) (by decide +kernel) rfl
theorem tw_47 : (Jvm.Cond.initialized "SameLettersModel") ∈ tb := tbI (i := 47) (by decide +kernel) rfl
theorem tw_48 : (Jvm.Cond.initialized "java/lang/String") ∈ tb := tbI (i := 48) (by decide +kernel) rfl
theorem tw_49 : (Jvm.Cond.initialized "java/lang/StringLatin1") ∈ tb := tbI (i := 49) (by decide +kernel) rfl
theorem tw_50 : (Jvm.Cond.initialized "jdk/internal/util/Preconditions") ∈ tb := tbI (i := 50) (by decide +kernel) rfl
theorem tw_51 : (Jvm.Cond.initialized "java/lang/StringUTF16") ∈ tb := tbI (i := 51) (by decide +kernel) rfl
theorem tw_52 : (Jvm.Cond.initialized "java/lang/Math") ∈ tb := tbI (i := 52) (by decide +kernel) rfl
theorem tw_53 : (Jvm.Cond.initialized "java/lang/Integer") ∈ tb := tbI (i := 53) (by decide +kernel) rfl
theorem tw_54 : (Jvm.Cond.classLink "SameLettersLaw" (7 : Nat) "SameLetters") ∈ tb := tbI (i := 54) (by decide +kernel) rfl
theorem tw_55 : (Jvm.Cond.instantiable "SameLetters" (7 : Nat)) ∈ tb := tbI (i := 55) (by decide +kernel) rfl
theorem tw_56 : (Jvm.Cond.methodLink "SameLettersLaw" (9 : Nat) ({ cls := "SameLetters", name := "<init>", desc := "()V" } : Jvm.MethodName)) ∈ tb := tbI (i := 56) (by decide +kernel) rfl
theorem tw_57 : (Jvm.Cond.instanceMethod ({ cls := "SameLetters", name := "<init>", desc := "()V" } : Jvm.MethodName)) ∈ tb := tbI (i := 57) (by decide +kernel) rfl
theorem tw_58 : (Jvm.Cond.code ({ cls := "SameLetters", name := "<init>", desc := "()V" } : Jvm.MethodName) prog_1_method_1_code (2 : Nat) (Option.none : Option Jvm.ClassFile.FieldType)) ∈ tb := tbI (i := 58) (by decide +kernel) rfl
theorem tw_59 : (Jvm.Cond.methodLink "SameLetters" (3 : Nat) ({ cls := "java/lang/Object", name := "<init>", desc := "()V" } : Jvm.MethodName)) ∈ tb := tbI (i := 59) (by decide +kernel) rfl
theorem tw_60 : (Jvm.Cond.instanceMethod ({ cls := "java/lang/Object", name := "<init>", desc := "()V" } : Jvm.MethodName)) ∈ tb := tbI (i := 60) (by decide +kernel) rfl
theorem tw_61 : (Jvm.Cond.code ({ cls := "java/lang/Object", name := "<init>", desc := "()V" } : Jvm.MethodName) object_method_1_code (1 : Nat) (Option.none : Option Jvm.ClassFile.FieldType)) ∈ tb := tbI (i := 61) (by decide +kernel) rfl
theorem tw_62 : (Jvm.Cond.classLink "SameLetters" (9 : Nat) "SameLetters$Text") ∈ tb := tbI (i := 62) (by decide +kernel) rfl
theorem tw_63 : (Jvm.Cond.instantiable "SameLetters$Text" (6 : Nat)) ∈ tb := tbI (i := 63) (by decide +kernel) rfl
theorem tw_65 : (Jvm.Cond.instanceMethod ({ cls := "SameLetters$Text", name := "<init>", desc := "()V" } : Jvm.MethodName)) ∈ tb := tbI (i := 65) (by decide +kernel) rfl
theorem tw_66 : (Jvm.Cond.code ({ cls := "SameLetters$Text", name := "<init>", desc := "()V" } : Jvm.MethodName) prog_5_method_1_code (1 : Nat) (Option.none : Option Jvm.ClassFile.FieldType)) ∈ tb := tbI (i := 66) (by decide +kernel) rfl
theorem tw_67 : (Jvm.Cond.methodLink "SameLetters$Text" (3 : Nat) ({ cls := "java/lang/Object", name := "<init>", desc := "()V" } : Jvm.MethodName)) ∈ tb := tbI (i := 67) (by decide +kernel) rfl
theorem tw_68 : (Jvm.Cond.fieldLink "SameLetters$Text" (9 : Nat) "SameLetters$Text" "bytes" "[I") ∈ tb := tbI (i := 68) (by decide +kernel) rfl
theorem tw_69 : (Jvm.Cond.fieldLink "SameLetters$Tongue" (96 : Nat) "SameLetters$Text" "bytes" "[I") ∈ tb := tbI (i := 69) (by decide +kernel) rfl
theorem tw_70 : (Jvm.Cond.fieldLink "SameLetters$Text" (15 : Nat) "SameLetters$Text" "length" "I") ∈ tb := tbI (i := 70) (by decide +kernel) rfl
theorem tw_71 : (Jvm.Cond.fieldLink "SameLetters" (48 : Nat) "SameLetters$Text" "length" "I") ∈ tb := tbI (i := 71) (by decide +kernel) rfl
theorem tw_72 : (Jvm.Cond.fieldLink "SameLetters$Text" (22 : Nat) "SameLetters$Text" "start" "I") ∈ tb := tbI (i := 72) (by decide +kernel) rfl
theorem tw_73 : (Jvm.Cond.fieldLink "SameLetters" (60 : Nat) "SameLetters$Text" "start" "I") ∈ tb := tbI (i := 73) (by decide +kernel) rfl
theorem tw_74 : (Jvm.Cond.fieldLink "SameLetters$Tongue" (83 : Nat) "SameLetters$Text" "start" "I") ∈ tb := tbI (i := 74) (by decide +kernel) rfl
theorem tw_75 : (Jvm.Cond.fieldLink "SameLetters$Text" (19 : Nat) "SameLetters$Text" "behind" "I") ∈ tb := tbI (i := 75) (by decide +kernel) rfl
theorem tw_76 : (Jvm.Cond.fieldLink "SameLetters$Tongue" (80 : Nat) "SameLetters$Text" "behind" "I") ∈ tb := tbI (i := 76) (by decide +kernel) rfl
theorem tw_77 : (Jvm.Cond.fieldLink "SameLetters$Tongue" (40 : Nat) "SameLetters$Text" "sort" "I") ∈ tb := tbI (i := 77) (by decide +kernel) rfl
theorem tw_78 : (Jvm.Cond.fieldLink "SameLetters$Text" (25 : Nat) "SameLetters$Text" "sort" "I") ∈ tb := tbI (i := 78) (by decide +kernel) rfl
theorem tw_79 : (Jvm.Cond.fieldLink "SameLetters$Tongue" (58 : Nat) "SameLetters$Text" "number" "I") ∈ tb := tbI (i := 79) (by decide +kernel) rfl
theorem tw_80 : (Jvm.Cond.fieldLink "SameLetters$Text" (55 : Nat) "SameLetters$Text" "number" "I") ∈ tb := tbI (i := 80) (by decide +kernel) rfl
theorem tw_94 : (Jvm.Cond.arrayClass Jvm.ClassFile.FieldType.int) ∈ tb := tbI (i := 94) (by decide +kernel) rfl
theorem tw_95 : (Jvm.Cond.classLink "SameLetters" (16 : Nat) "SameLetters$Sayings") ∈ tb := tbI (i := 95) (by decide +kernel) rfl
theorem tw_96 : (Jvm.Cond.instantiable "SameLetters$Sayings" (14 : Nat)) ∈ tb := tbI (i := 96) (by decide +kernel) rfl
theorem tw_98 : (Jvm.Cond.instanceMethod ({ cls := "SameLetters$Sayings", name := "<init>", desc := "()V" } : Jvm.MethodName)) ∈ tb := tbI (i := 98) (by decide +kernel) rfl
theorem tw_99 : (Jvm.Cond.code ({ cls := "SameLetters$Sayings", name := "<init>", desc := "()V" } : Jvm.MethodName) prog_3_method_1_code (1 : Nat) (Option.none : Option Jvm.ClassFile.FieldType)) ∈ tb := tbI (i := 99) (by decide +kernel) rfl
theorem tw_100 : (Jvm.Cond.methodLink "SameLetters$Sayings" (3 : Nat) ({ cls := "java/lang/Object", name := "<init>", desc := "()V" } : Jvm.MethodName)) ∈ tb := tbI (i := 100) (by decide +kernel) rfl
theorem tw_101 : (Jvm.Cond.fieldLink "SameLetters$Sayings" (9 : Nat) "SameLetters$Sayings" "isLetter" "[Z") ∈ tb := tbI (i := 101) (by decide +kernel) rfl
theorem tw_102 : (Jvm.Cond.fieldLink "SameLetters$Sayings" (15 : Nat) "SameLetters$Sayings" "kindRow" "[I") ∈ tb := tbI (i := 102) (by decide +kernel) rfl
theorem tw_103 : (Jvm.Cond.fieldLink "SameLetters$Sayings" (19 : Nat) "SameLetters$Sayings" "own" "[I") ∈ tb := tbI (i := 103) (by decide +kernel) rfl
theorem tw_104 : (Jvm.Cond.fieldLink "SameLetters" (120 : Nat) "SameLetters$Sayings" "own" "[I") ∈ tb := tbI (i := 104) (by decide +kernel) rfl
theorem tw_105 : (Jvm.Cond.fieldLink "SameLetters$Sayings" (22 : Nat) "SameLetters$Sayings" "other" "[I") ∈ tb := tbI (i := 105) (by decide +kernel) rfl
theorem tw_106 : (Jvm.Cond.fieldLink "SameLetters" (122 : Nat) "SameLetters$Sayings" "other" "[I") ∈ tb := tbI (i := 106) (by decide +kernel) rfl
theorem tw_107 : (Jvm.Cond.fieldLink "SameLetters$Sayings" (25 : Nat) "SameLetters$Sayings" "length" "[I") ∈ tb := tbI (i := 107) (by decide +kernel) rfl
theorem tw_108 : (Jvm.Cond.fieldLink "SameLetters" (124 : Nat) "SameLetters$Sayings" "length" "[I") ∈ tb := tbI (i := 108) (by decide +kernel) rfl
theorem tw_109 : (Jvm.Cond.fieldLink "SameLetters$Sayings" (28 : Nat) "SameLetters$Sayings" "counts" "[J") ∈ tb := tbI (i := 109) (by decide +kernel) rfl
theorem tw_110 : (Jvm.Cond.fieldLink "SameLetters$Sayings" (32 : Nat) "SameLetters$Sayings" "set" "[I") ∈ tb := tbI (i := 110) (by decide +kernel) rfl
theorem tw_111 : (Jvm.Cond.fieldLink "SameLetters$Sayings" (35 : Nat) "SameLetters$Sayings" "bestAnswer" "[I") ∈ tb := tbI (i := 111) (by decide +kernel) rfl
theorem tw_112 : (Jvm.Cond.fieldLink "SameLetters" (166 : Nat) "SameLetters$Sayings" "bestAnswer" "[I") ∈ tb := tbI (i := 112) (by decide +kernel) rfl
theorem tw_113 : (Jvm.Cond.fieldLink "SameLetters$Sayings" (38 : Nat) "SameLetters$Sayings" "lettersOfSet" "[I") ∈ tb := tbI (i := 113) (by decide +kernel) rfl
theorem tw_114 : (Jvm.Cond.fieldLink "SameLetters$Sayings" (50 : Nat) "SameLetters$Sayings" "howMany" "I") ∈ tb := tbI (i := 114) (by decide +kernel) rfl
theorem tw_115 : (Jvm.Cond.fieldLink "SameLetters" (141 : Nat) "SameLetters$Sayings" "howMany" "I") ∈ tb := tbI (i := 115) (by decide +kernel) rfl
theorem tw_116 : (Jvm.Cond.fieldLink "SameLetters$Sayings" (41 : Nat) "SameLetters$Sayings" "bestOfGroup" "[I") ∈ tb := tbI (i := 116) (by decide +kernel) rfl
theorem tw_117 : (Jvm.Cond.fieldLink "SameLetters$Sayings" (44 : Nat) "SameLetters$Sayings" "nextOfGroup" "[I") ∈ tb := tbI (i := 117) (by decide +kernel) rfl
theorem tw_118 : (Jvm.Cond.fieldLink "SameLetters$Sayings" (47 : Nat) "SameLetters$Sayings" "groupOf" "[I") ∈ tb := tbI (i := 118) (by decide +kernel) rfl
theorem tw_119 : (Jvm.Cond.fieldLink "SameLetters$Sayings" (54 : Nat) "SameLetters$Sayings" "groups" "I") ∈ tb := tbI (i := 119) (by decide +kernel) rfl
theorem tw_149 : (Jvm.Cond.arrayClass Jvm.ClassFile.FieldType.boolean) ∈ tb := tbI (i := 149) (by decide +kernel) rfl
theorem tw_150 : (Jvm.Cond.arrayClass Jvm.ClassFile.FieldType.long) ∈ tb := tbI (i := 150) (by decide +kernel) rfl
theorem tw_151 : (Jvm.Cond.classLink "SameLetters" (23 : Nat) "SameLetters$Post") ∈ tb := tbI (i := 151) (by decide +kernel) rfl
theorem tw_152 : (Jvm.Cond.instantiable "SameLetters$Post" (3 : Nat)) ∈ tb := tbI (i := 152) (by decide +kernel) rfl
theorem tw_154 : (Jvm.Cond.instanceMethod ({ cls := "SameLetters$Post", name := "<init>", desc := "()V" } : Jvm.MethodName)) ∈ tb := tbI (i := 154) (by decide +kernel) rfl
theorem tw_155 : (Jvm.Cond.code ({ cls := "SameLetters$Post", name := "<init>", desc := "()V" } : Jvm.MethodName) prog_2_method_1_code (1 : Nat) (Option.none : Option Jvm.ClassFile.FieldType)) ∈ tb := tbI (i := 155) (by decide +kernel) rfl
theorem tw_156 : (Jvm.Cond.methodLink "SameLetters$Post" (3 : Nat) ({ cls := "java/lang/Object", name := "<init>", desc := "()V" } : Jvm.MethodName)) ∈ tb := tbI (i := 156) (by decide +kernel) rfl
theorem tw_157 : (Jvm.Cond.fieldLink "SameLetters$Post" (9 : Nat) "SameLetters$Post" "rows" "[I") ∈ tb := tbI (i := 157) (by decide +kernel) rfl
theorem tw_158 : (Jvm.Cond.fieldLink "SameLetters" (130 : Nat) "SameLetters$Post" "rows" "[I") ∈ tb := tbI (i := 158) (by decide +kernel) rfl
theorem tw_159 : (Jvm.Cond.fieldLink "SameLetters$Post" (15 : Nat) "SameLetters$Post" "many" "I") ∈ tb := tbI (i := 159) (by decide +kernel) rfl
theorem tw_160 : (Jvm.Cond.fieldLink "SameLetters" (67 : Nat) "SameLetters$Post" "many" "I") ∈ tb := tbI (i := 160) (by decide +kernel) rfl
theorem tw_161 : (Jvm.Cond.fieldLink "SameLetters" (70 : Nat) "SameLetters$Post" "kept" "Z") ∈ tb := tbI (i := 161) (by decide +kernel) rfl
theorem tw_170 : (Jvm.Cond.classLink "SameLetters" (34 : Nat) "SameLetters$Tongue") ∈ tb := tbI (i := 170) (by decide +kernel) rfl
theorem tw_171 : (Jvm.Cond.instantiable "SameLetters$Tongue" (4 : Nat)) ∈ tb := tbI (i := 171) (by decide +kernel) rfl
theorem tw_172 : (Jvm.Cond.methodLink "SameLetters" (36 : Nat) ({ cls := "SameLetters$Tongue", name := "<init>", desc := "()V" } : Jvm.MethodName)) ∈ tb := tbI (i := 172) (by decide +kernel) rfl
theorem tw_173 : (Jvm.Cond.instanceMethod ({ cls := "SameLetters$Tongue", name := "<init>", desc := "()V" } : Jvm.MethodName)) ∈ tb := tbI (i := 173) (by decide +kernel) rfl
theorem tw_174 : (Jvm.Cond.code ({ cls := "SameLetters$Tongue", name := "<init>", desc := "()V" } : Jvm.MethodName) prog_6_method_1_code (2 : Nat) (Option.none : Option Jvm.ClassFile.FieldType)) ∈ tb := tbI (i := 174) (by decide +kernel) rfl
theorem tw_175 : (Jvm.Cond.methodLink "SameLetters$Tongue" (3 : Nat) ({ cls := "java/lang/Object", name := "<init>", desc := "()V" } : Jvm.MethodName)) ∈ tb := tbI (i := 175) (by decide +kernel) rfl
theorem tw_176 : (Jvm.Cond.classLink "SameLetters$Tongue" (9 : Nat) "SameLetters$Word") ∈ tb := tbI (i := 176) (by decide +kernel) rfl
theorem tw_178 : (Jvm.Cond.classLink "SameLetters$Tongue" (17 : Nat) "SameLetters$Shape") ∈ tb := tbI (i := 178) (by decide +kernel) rfl
theorem tw_180 : (Jvm.Cond.instantiable "SameLetters$Word" (5 : Nat)) ∈ tb := tbI (i := 180) (by decide +kernel) rfl
theorem tw_182 : (Jvm.Cond.instanceMethod ({ cls := "SameLetters$Word", name := "<init>", desc := "()V" } : Jvm.MethodName)) ∈ tb := tbI (i := 182) (by decide +kernel) rfl
theorem tw_183 : (Jvm.Cond.code ({ cls := "SameLetters$Word", name := "<init>", desc := "()V" } : Jvm.MethodName) prog_7_method_1_code (1 : Nat) (Option.none : Option Jvm.ClassFile.FieldType)) ∈ tb := tbI (i := 183) (by decide +kernel) rfl
theorem tw_184 : (Jvm.Cond.methodLink "SameLetters$Word" (3 : Nat) ({ cls := "java/lang/Object", name := "<init>", desc := "()V" } : Jvm.MethodName)) ∈ tb := tbI (i := 184) (by decide +kernel) rfl
theorem tw_185 : (Jvm.Cond.fieldLink "SameLetters$Word" (9 : Nat) "SameLetters$Word" "signs" "[I") ∈ tb := tbI (i := 185) (by decide +kernel) rfl
theorem tw_186 : (Jvm.Cond.fieldLink "SameLetters$Sayings" (91 : Nat) "SameLetters$Word" "signs" "[I") ∈ tb := tbI (i := 186) (by decide +kernel) rfl
theorem tw_187 : (Jvm.Cond.fieldLink "SameLetters$Tongue" (93 : Nat) "SameLetters$Word" "signs" "[I") ∈ tb := tbI (i := 187) (by decide +kernel) rfl
theorem tw_188 : (Jvm.Cond.fieldLink "SameLetters" (100 : Nat) "SameLetters$Word" "signs" "[I") ∈ tb := tbI (i := 188) (by decide +kernel) rfl
theorem tw_189 : (Jvm.Cond.fieldLink "SameLetters$Sayings" (89 : Nat) "SameLetters$Word" "length" "I") ∈ tb := tbI (i := 189) (by decide +kernel) rfl
theorem tw_190 : (Jvm.Cond.fieldLink "SameLetters$Tongue" (92 : Nat) "SameLetters$Word" "length" "I") ∈ tb := tbI (i := 190) (by decide +kernel) rfl
theorem tw_191 : (Jvm.Cond.fieldLink "SameLetters" (88 : Nat) "SameLetters$Word" "length" "I") ∈ tb := tbI (i := 191) (by decide +kernel) rfl
theorem tw_192 : (Jvm.Cond.fieldLink "SameLetters$Tongue" (61 : Nat) "SameLetters$Word" "kind" "I") ∈ tb := tbI (i := 192) (by decide +kernel) rfl
theorem tw_193 : (Jvm.Cond.fieldLink "SameLetters$Sayings" (74 : Nat) "SameLetters$Word" "kind" "I") ∈ tb := tbI (i := 193) (by decide +kernel) rfl
theorem tw_194 : (Jvm.Cond.fieldLink "SameLetters" (91 : Nat) "SameLetters$Word" "kind" "I") ∈ tb := tbI (i := 194) (by decide +kernel) rfl
theorem tw_195 : (Jvm.Cond.fieldLink "SameLetters$Tongue" (64 : Nat) "SameLetters$Word" "own" "I") ∈ tb := tbI (i := 195) (by decide +kernel) rfl
theorem tw_196 : (Jvm.Cond.fieldLink "SameLetters$Sayings" (85 : Nat) "SameLetters$Word" "own" "I") ∈ tb := tbI (i := 196) (by decide +kernel) rfl
theorem tw_197 : (Jvm.Cond.fieldLink "SameLetters" (94 : Nat) "SameLetters$Word" "own" "I") ∈ tb := tbI (i := 197) (by decide +kernel) rfl
theorem tw_198 : (Jvm.Cond.fieldLink "SameLetters$Tongue" (67 : Nat) "SameLetters$Word" "other" "I") ∈ tb := tbI (i := 198) (by decide +kernel) rfl
theorem tw_199 : (Jvm.Cond.fieldLink "SameLetters$Sayings" (87 : Nat) "SameLetters$Word" "other" "I") ∈ tb := tbI (i := 199) (by decide +kernel) rfl
theorem tw_200 : (Jvm.Cond.fieldLink "SameLetters" (97 : Nat) "SameLetters$Word" "other" "I") ∈ tb := tbI (i := 200) (by decide +kernel) rfl
theorem tw_212 : (Jvm.Cond.instantiable "SameLetters$Shape" (2 : Nat)) ∈ tb := tbI (i := 212) (by decide +kernel) rfl
theorem tw_214 : (Jvm.Cond.instanceMethod ({ cls := "SameLetters$Shape", name := "<init>", desc := "()V" } : Jvm.MethodName)) ∈ tb := tbI (i := 214) (by decide +kernel) rfl
theorem tw_215 : (Jvm.Cond.code ({ cls := "SameLetters$Shape", name := "<init>", desc := "()V" } : Jvm.MethodName) prog_4_method_1_code (1 : Nat) (Option.none : Option Jvm.ClassFile.FieldType)) ∈ tb := tbI (i := 215) (by decide +kernel) rfl
theorem tw_216 : (Jvm.Cond.methodLink "SameLetters$Shape" (3 : Nat) ({ cls := "java/lang/Object", name := "<init>", desc := "()V" } : Jvm.MethodName)) ∈ tb := tbI (i := 216) (by decide +kernel) rfl
theorem tw_217 : (Jvm.Cond.fieldLink "SameLetters$Shape" (9 : Nat) "SameLetters$Shape" "kinds" "[I") ∈ tb := tbI (i := 217) (by decide +kernel) rfl
theorem tw_218 : (Jvm.Cond.fieldLink "SameLetters$Tongue" (73 : Nat) "SameLetters$Shape" "kinds" "[I") ∈ tb := tbI (i := 218) (by decide +kernel) rfl
theorem tw_219 : (Jvm.Cond.fieldLink "SameLetters" (114 : Nat) "SameLetters$Shape" "kinds" "[I") ∈ tb := tbI (i := 219) (by decide +kernel) rfl
theorem tw_220 : (Jvm.Cond.fieldLink "SameLetters$Shape" (15 : Nat) "SameLetters$Shape" "length" "I") ∈ tb := tbI (i := 220) (by decide +kernel) rfl
theorem tw_221 : (Jvm.Cond.fieldLink "SameLetters$Tongue" (77 : Nat) "SameLetters$Shape" "length" "I") ∈ tb := tbI (i := 221) (by decide +kernel) rfl
theorem tw_222 : (Jvm.Cond.fieldLink "SameLetters" (111 : Nat) "SameLetters$Shape" "length" "I") ∈ tb := tbI (i := 222) (by decide +kernel) rfl
theorem tw_228 : (Jvm.Cond.fieldLink "SameLetters$Tongue" (11 : Nat) "SameLetters$Tongue" "words" "[LSameLetters$Word;") ∈ tb := tbI (i := 228) (by decide +kernel) rfl
theorem tw_229 : (Jvm.Cond.fieldLink "SameLetters$Sayings" (70 : Nat) "SameLetters$Tongue" "words" "[LSameLetters$Word;") ∈ tb := tbI (i := 229) (by decide +kernel) rfl
theorem tw_230 : (Jvm.Cond.fieldLink "SameLetters" (84 : Nat) "SameLetters$Tongue" "words" "[LSameLetters$Word;") ∈ tb := tbI (i := 230) (by decide +kernel) rfl
theorem tw_231 : (Jvm.Cond.fieldLink "SameLetters$Tongue" (19 : Nat) "SameLetters$Tongue" "shapes" "[LSameLetters$Shape;") ∈ tb := tbI (i := 231) (by decide +kernel) rfl
theorem tw_232 : (Jvm.Cond.fieldLink "SameLetters$Sayings" (97 : Nat) "SameLetters$Tongue" "shapes" "[LSameLetters$Shape;") ∈ tb := tbI (i := 232) (by decide +kernel) rfl
theorem tw_233 : (Jvm.Cond.fieldLink "SameLetters" (107 : Nat) "SameLetters$Tongue" "shapes" "[LSameLetters$Shape;") ∈ tb := tbI (i := 233) (by decide +kernel) rfl
theorem tw_234 : (Jvm.Cond.fieldLink "SameLetters$Tongue" (25 : Nat) "SameLetters$Tongue" "wordCount" "I") ∈ tb := tbI (i := 234) (by decide +kernel) rfl
theorem tw_235 : (Jvm.Cond.fieldLink "SameLetters$Sayings" (65 : Nat) "SameLetters$Tongue" "wordCount" "I") ∈ tb := tbI (i := 235) (by decide +kernel) rfl
theorem tw_236 : (Jvm.Cond.fieldLink "SameLetters" (74 : Nat) "SameLetters$Tongue" "wordCount" "I") ∈ tb := tbI (i := 236) (by decide +kernel) rfl
theorem tw_237 : (Jvm.Cond.fieldLink "SameLetters$Tongue" (29 : Nat) "SameLetters$Tongue" "shapeCount" "I") ∈ tb := tbI (i := 237) (by decide +kernel) rfl
theorem tw_238 : (Jvm.Cond.fieldLink "SameLetters$Sayings" (94 : Nat) "SameLetters$Tongue" "shapeCount" "I") ∈ tb := tbI (i := 238) (by decide +kernel) rfl
theorem tw_239 : (Jvm.Cond.fieldLink "SameLetters" (77 : Nat) "SameLetters$Tongue" "shapeCount" "I") ∈ tb := tbI (i := 239) (by decide +kernel) rfl
theorem tw_249 : (Jvm.Cond.fieldLink "SameLetters" (12 : Nat) "SameLetters" "text" "LSameLetters$Text;") ∈ tb := tbI (i := 249) (by decide +kernel) rfl
theorem tw_250 : (Jvm.Cond.fieldLink "SameLetters" (19 : Nat) "SameLetters" "sayings" "LSameLetters$Sayings;") ∈ tb := tbI (i := 250) (by decide +kernel) rfl
theorem tw_251 : (Jvm.Cond.fieldLink "SameLetters" (26 : Nat) "SameLetters" "post" "LSameLetters$Post;") ∈ tb := tbI (i := 251) (by decide +kernel) rfl
theorem tw_252 : (Jvm.Cond.fieldLink "SameLetters" (30 : Nat) "SameLetters" "images" "[LSameLetters$Post;") ∈ tb := tbI (i := 252) (by decide +kernel) rfl
theorem tw_253 : (Jvm.Cond.fieldLink "SameLetters" (37 : Nat) "SameLetters" "spoken" "LSameLetters$Tongue;") ∈ tb := tbI (i := 253) (by decide +kernel) rfl
theorem tw_254 : (Jvm.Cond.fieldLink "SameLetters" (41 : Nat) "SameLetters" "draft" "LSameLetters$Tongue;") ∈ tb := tbI (i := 254) (by decide +kernel) rfl
theorem tw_255 : (Jvm.Cond.fieldLink "SameLetters" (44 : Nat) "SameLetters" "traced" "J") ∈ tb := tbI (i := 255) (by decide +kernel) rfl
theorem tw_271 : (Jvm.Cond.methodLink "SameLettersLaw" (15 : Nat) ({ cls := "SameLetters", name := "type", desc := "(JI)I" } : Jvm.MethodName)) ∈ tb := tbI (i := 271) (by decide +kernel) rfl
theorem tw_272 : (Jvm.Cond.instanceMethod ({ cls := "SameLetters", name := "type", desc := "(JI)I" } : Jvm.MethodName)) ∈ tb := tbI (i := 272) (by decide +kernel) rfl
theorem tw_273 : (Jvm.Cond.selects "SameLetters" ({ cls := "SameLetters", name := "type", desc := "(JI)I" } : Jvm.MethodName) ({ cls := "SameLetters", name := "type", desc := "(JI)I" } : Jvm.MethodName)) ∈ tb := tbI (i := 273) (by decide +kernel) rfl
theorem tw_274 : (Jvm.Cond.code ({ cls := "SameLetters", name := "type", desc := "(JI)I" } : Jvm.MethodName) prog_1_method_2_code (5 : Nat) (Option.some Jvm.ClassFile.FieldType.int)) ∈ tb := tbI (i := 274) (by decide +kernel) rfl
theorem tw_275 : (Jvm.Cond.methodLink "SameLetters" (52 : Nat) ({ cls := "SameLetters$Text", name := "add", desc := "(I)V" } : Jvm.MethodName)) ∈ tb := tbI (i := 275) (by decide +kernel) rfl
theorem tw_276 : (Jvm.Cond.instanceMethod ({ cls := "SameLetters$Text", name := "add", desc := "(I)V" } : Jvm.MethodName)) ∈ tb := tbI (i := 276) (by decide +kernel) rfl
theorem tw_277 : (Jvm.Cond.selects "SameLetters$Text" ({ cls := "SameLetters$Text", name := "add", desc := "(I)V" } : Jvm.MethodName) ({ cls := "SameLetters$Text", name := "add", desc := "(I)V" } : Jvm.MethodName)) ∈ tb := tbI (i := 277) (by decide +kernel) rfl
theorem tw_278 : (Jvm.Cond.code ({ cls := "SameLetters$Text", name := "add", desc := "(I)V" } : Jvm.MethodName) prog_5_method_2_code (2 : Nat) (Option.none : Option Jvm.ClassFile.FieldType)) ∈ tb := tbI (i := 278) (by decide +kernel) rfl
theorem tw_279 : (Jvm.Cond.methodLink "SameLettersLaw" (20 : Nat) ({ cls := "SameLetters", name := "clear", desc := "()I" } : Jvm.MethodName)) ∈ tb := tbI (i := 279) (by decide +kernel) rfl
theorem tw_280 : (Jvm.Cond.instanceMethod ({ cls := "SameLetters", name := "clear", desc := "()I" } : Jvm.MethodName)) ∈ tb := tbI (i := 280) (by decide +kernel) rfl
theorem tw_281 : (Jvm.Cond.selects "SameLetters" ({ cls := "SameLetters", name := "clear", desc := "()I" } : Jvm.MethodName) ({ cls := "SameLetters", name := "clear", desc := "()I" } : Jvm.MethodName)) ∈ tb := tbI (i := 281) (by decide +kernel) rfl
theorem tw_282 : (Jvm.Cond.code ({ cls := "SameLetters", name := "clear", desc := "()I" } : Jvm.MethodName) prog_1_method_3_code (2 : Nat) (Option.some Jvm.ClassFile.FieldType.int)) ∈ tb := tbI (i := 282) (by decide +kernel) rfl
theorem tw_283 : (Jvm.Cond.methodLink "SameLettersLaw" (25 : Nat) ({ cls := "SameLetters", name := "tongue", desc := "()I" } : Jvm.MethodName)) ∈ tb := tbI (i := 283) (by decide +kernel) rfl
theorem tw_284 : (Jvm.Cond.instanceMethod ({ cls := "SameLetters", name := "tongue", desc := "()I" } : Jvm.MethodName)) ∈ tb := tbI (i := 284) (by decide +kernel) rfl
theorem tw_285 : (Jvm.Cond.selects "SameLetters" ({ cls := "SameLetters", name := "tongue", desc := "()I" } : Jvm.MethodName) ({ cls := "SameLetters", name := "tongue", desc := "()I" } : Jvm.MethodName)) ∈ tb := tbI (i := 285) (by decide +kernel) rfl
theorem tw_286 : (Jvm.Cond.code ({ cls := "SameLetters", name := "tongue", desc := "()I" } : Jvm.MethodName) prog_1_method_4_code (3 : Nat) (Option.some Jvm.ClassFile.FieldType.int)) ∈ tb := tbI (i := 286) (by decide +kernel) rfl
theorem tw_287 : (Jvm.Cond.methodLink "SameLetters" (56 : Nat) ({ cls := "SameLetters$Tongue", name := "readAll", desc := "(LSameLetters$Text;)Z" } : Jvm.MethodName)) ∈ tb := tbI (i := 287) (by decide +kernel) rfl
theorem tw_288 : (Jvm.Cond.instanceMethod ({ cls := "SameLetters$Tongue", name := "readAll", desc := "(LSameLetters$Text;)Z" } : Jvm.MethodName)) ∈ tb := tbI (i := 288) (by decide +kernel) rfl
theorem tw_289 : (Jvm.Cond.selects "SameLetters$Tongue" ({ cls := "SameLetters$Tongue", name := "readAll", desc := "(LSameLetters$Text;)Z" } : Jvm.MethodName) ({ cls := "SameLetters$Tongue", name := "readAll", desc := "(LSameLetters$Text;)Z" } : Jvm.MethodName)) ∈ tb := tbI (i := 289) (by decide +kernel) rfl
theorem tw_290 : (Jvm.Cond.code ({ cls := "SameLetters$Tongue", name := "readAll", desc := "(LSameLetters$Text;)Z" } : Jvm.MethodName) prog_6_method_2_code (4 : Nat) (Option.some Jvm.ClassFile.FieldType.boolean)) ∈ tb := tbI (i := 290) (by decide +kernel) rfl
theorem tw_291 : (Jvm.Cond.methodLink "SameLetters$Tongue" (32 : Nat) ({ cls := "SameLetters$Text", name := "rewind", desc := "()V" } : Jvm.MethodName)) ∈ tb := tbI (i := 291) (by decide +kernel) rfl
theorem tw_292 : (Jvm.Cond.instanceMethod ({ cls := "SameLetters$Text", name := "rewind", desc := "()V" } : Jvm.MethodName)) ∈ tb := tbI (i := 292) (by decide +kernel) rfl
theorem tw_293 : (Jvm.Cond.selects "SameLetters$Text" ({ cls := "SameLetters$Text", name := "rewind", desc := "()V" } : Jvm.MethodName) ({ cls := "SameLetters$Text", name := "rewind", desc := "()V" } : Jvm.MethodName)) ∈ tb := tbI (i := 293) (by decide +kernel) rfl
theorem tw_294 : (Jvm.Cond.code ({ cls := "SameLetters$Text", name := "rewind", desc := "()V" } : Jvm.MethodName) prog_5_method_3_code (1 : Nat) (Option.none : Option Jvm.ClassFile.FieldType)) ∈ tb := tbI (i := 294) (by decide +kernel) rfl
theorem tw_295 : (Jvm.Cond.methodLink "SameLetters$Tongue" (37 : Nat) ({ cls := "SameLetters$Text", name := "advance", desc := "()V" } : Jvm.MethodName)) ∈ tb := tbI (i := 295) (by decide +kernel) rfl
theorem tw_296 : (Jvm.Cond.instanceMethod ({ cls := "SameLetters$Text", name := "advance", desc := "()V" } : Jvm.MethodName)) ∈ tb := tbI (i := 296) (by decide +kernel) rfl
theorem tw_297 : (Jvm.Cond.selects "SameLetters$Text" ({ cls := "SameLetters$Text", name := "advance", desc := "()V" } : Jvm.MethodName) ({ cls := "SameLetters$Text", name := "advance", desc := "()V" } : Jvm.MethodName)) ∈ tb := tbI (i := 297) (by decide +kernel) rfl
theorem tw_298 : (Jvm.Cond.code ({ cls := "SameLetters$Text", name := "advance", desc := "()V" } : Jvm.MethodName) prog_5_method_4_code (1 : Nat) (Option.none : Option Jvm.ClassFile.FieldType)) ∈ tb := tbI (i := 298) (by decide +kernel) rfl
theorem tw_299 : (Jvm.Cond.methodLink "SameLetters$Text" (28 : Nat) ({ cls := "SameLetters$Text", name := "isIn", desc := "(ICC)Z" } : Jvm.MethodName)) ∈ tb := tbI (i := 299) (by decide +kernel) rfl
theorem tw_301 : (Jvm.Cond.instanceMethod ({ cls := "SameLetters$Text", name := "isIn", desc := "(ICC)Z" } : Jvm.MethodName)) ∈ tb := tbI (i := 301) (by decide +kernel) rfl
theorem tw_302 : (Jvm.Cond.code ({ cls := "SameLetters$Text", name := "isIn", desc := "(ICC)Z" } : Jvm.MethodName) prog_5_method_5_code (4 : Nat) (Option.some Jvm.ClassFile.FieldType.boolean)) ∈ tb := tbI (i := 302) (by decide +kernel) rfl
theorem tw_303 : (Jvm.Cond.methodLink "SameLetters$Text" (32 : Nat) ({ cls := "SameLetters$Text", name := "takeLetters", desc := "()V" } : Jvm.MethodName)) ∈ tb := tbI (i := 303) (by decide +kernel) rfl
theorem tw_305 : (Jvm.Cond.instanceMethod ({ cls := "SameLetters$Text", name := "takeLetters", desc := "()V" } : Jvm.MethodName)) ∈ tb := tbI (i := 305) (by decide +kernel) rfl
theorem tw_306 : (Jvm.Cond.code ({ cls := "SameLetters$Text", name := "takeLetters", desc := "()V" } : Jvm.MethodName) prog_5_method_6_code (2 : Nat) (Option.none : Option Jvm.ClassFile.FieldType)) ∈ tb := tbI (i := 306) (by decide +kernel) rfl
theorem tw_308 : (Jvm.Cond.methodLink "SameLetters$Text" (40 : Nat) ({ cls := "SameLetters$Text", name := "isName", desc := "(Ljava/lang/String;)Z" } : Jvm.MethodName)) ∈ tb := tbI (i := 308) (by decide +kernel) rfl
theorem tw_310 : (Jvm.Cond.instanceMethod ({ cls := "SameLetters$Text", name := "isName", desc := "(Ljava/lang/String;)Z" } : Jvm.MethodName)) ∈ tb := tbI (i := 310) (by decide +kernel) rfl
theorem tw_311 : (Jvm.Cond.code ({ cls := "SameLetters$Text", name := "isName", desc := "(Ljava/lang/String;)Z" } : Jvm.MethodName) prog_5_method_7_code (3 : Nat) (Option.some Jvm.ClassFile.FieldType.boolean)) ∈ tb := tbI (i := 311) (by decide +kernel) rfl
theorem tw_312 : (Jvm.Cond.methodLink "SameLetters$Text" (46 : Nat) ({ cls := "java/lang/String", name := "length", desc := "()I" } : Jvm.MethodName)) ∈ tb := tbI (i := 312) (by decide +kernel) rfl
theorem tw_313 : (Jvm.Cond.instanceMethod ({ cls := "java/lang/String", name := "length", desc := "()I" } : Jvm.MethodName)) ∈ tb := tbI (i := 313) (by decide +kernel) rfl
theorem tw_314 : (Jvm.Cond.selects "java/lang/String" ({ cls := "java/lang/String", name := "length", desc := "()I" } : Jvm.MethodName) ({ cls := "java/lang/String", name := "length", desc := "()I" } : Jvm.MethodName)) ∈ tb := tbI (i := 314) (by decide +kernel) rfl
theorem tw_315 : (Jvm.Cond.code ({ cls := "java/lang/String", name := "length", desc := "()I" } : Jvm.MethodName) prog_12_method_54_code (1 : Nat) (Option.some Jvm.ClassFile.FieldType.int)) ∈ tb := tbI (i := 315) (by decide +kernel) rfl
theorem tw_316 : (Jvm.Cond.methodLink "java/lang/String" (335 : Nat) ({ cls := "java/lang/String", name := "coder", desc := "()B" } : Jvm.MethodName)) ∈ tb := tbI (i := 316) (by decide +kernel) rfl
theorem tw_317 : (Jvm.Cond.instanceMethod ({ cls := "java/lang/String", name := "coder", desc := "()B" } : Jvm.MethodName)) ∈ tb := tbI (i := 317) (by decide +kernel) rfl
theorem tw_318 : (Jvm.Cond.selects "java/lang/String" ({ cls := "java/lang/String", name := "coder", desc := "()B" } : Jvm.MethodName) ({ cls := "java/lang/String", name := "coder", desc := "()B" } : Jvm.MethodName)) ∈ tb := tbI (i := 318) (by decide +kernel) rfl
theorem tw_319 : (Jvm.Cond.code ({ cls := "java/lang/String", name := "coder", desc := "()B" } : Jvm.MethodName) prog_12_method_152_code (1 : Nat) (Option.some Jvm.ClassFile.FieldType.byte)) ∈ tb := tbI (i := 319) (by decide +kernel) rfl
theorem tw_320 : (Jvm.Cond.fieldLink "java/lang/String" (38 : Nat) "java/lang/String" "COMPACT_STRINGS" "Z") ∈ tb := tbI (i := 320) (by decide +kernel) rfl
theorem tw_322 : (Jvm.Cond.methodLink "SameLetters$Text" (51 : Nat) ({ cls := "java/lang/String", name := "charAt", desc := "(I)C" } : Jvm.MethodName)) ∈ tb := tbI (i := 322) (by decide +kernel) rfl
theorem tw_323 : (Jvm.Cond.instanceMethod ({ cls := "java/lang/String", name := "charAt", desc := "(I)C" } : Jvm.MethodName)) ∈ tb := tbI (i := 323) (by decide +kernel) rfl
theorem tw_324 : (Jvm.Cond.selects "java/lang/String" ({ cls := "java/lang/String", name := "charAt", desc := "(I)C" } : Jvm.MethodName) ({ cls := "java/lang/String", name := "charAt", desc := "(I)C" } : Jvm.MethodName)) ∈ tb := tbI (i := 324) (by decide +kernel) rfl
theorem tw_325 : (Jvm.Cond.code ({ cls := "java/lang/String", name := "charAt", desc := "(I)C" } : Jvm.MethodName) prog_12_method_56_code (2 : Nat) (Option.some Jvm.ClassFile.FieldType.char)) ∈ tb := tbI (i := 325) (by decide +kernel) rfl
theorem tw_326 : (Jvm.Cond.methodLink "java/lang/String" (492 : Nat) ({ cls := "java/lang/String", name := "isLatin1", desc := "()Z" } : Jvm.MethodName)) ∈ tb := tbI (i := 326) (by decide +kernel) rfl
theorem tw_327 : (Jvm.Cond.instanceMethod ({ cls := "java/lang/String", name := "isLatin1", desc := "()Z" } : Jvm.MethodName)) ∈ tb := tbI (i := 327) (by decide +kernel) rfl
theorem tw_328 : (Jvm.Cond.selects "java/lang/String" ({ cls := "java/lang/String", name := "isLatin1", desc := "()Z" } : Jvm.MethodName) ({ cls := "java/lang/String", name := "isLatin1", desc := "()Z" } : Jvm.MethodName)) ∈ tb := tbI (i := 328) (by decide +kernel) rfl
theorem tw_329 : (Jvm.Cond.code ({ cls := "java/lang/String", name := "isLatin1", desc := "()Z" } : Jvm.MethodName) prog_12_method_154_code (1 : Nat) (Option.some Jvm.ClassFile.FieldType.boolean)) ∈ tb := tbI (i := 329) (by decide +kernel) rfl
theorem tw_330 : (Jvm.Cond.methodLink "java/lang/String" (495 : Nat) ({ cls := "java/lang/StringLatin1", name := "charAt", desc := "([BI)C" } : Jvm.MethodName)) ∈ tb := tbI (i := 330) (by decide +kernel) rfl
theorem tw_331 : (Jvm.Cond.static ({ cls := "java/lang/StringLatin1", name := "charAt", desc := "([BI)C" } : Jvm.MethodName)) ∈ tb := tbI (i := 331) (by decide +kernel) rfl
theorem tw_332 : (Jvm.Cond.code ({ cls := "java/lang/StringLatin1", name := "charAt", desc := "([BI)C" } : Jvm.MethodName) prog_13_method_2_code (2 : Nat) (Option.some Jvm.ClassFile.FieldType.char)) ∈ tb := tbI (i := 332) (by decide +kernel) rfl
theorem tw_333 : (Jvm.Cond.methodLink "java/lang/StringLatin1" (9 : Nat) ({ cls := "java/lang/String", name := "checkIndex", desc := "(II)V" } : Jvm.MethodName)) ∈ tb := tbI (i := 333) (by decide +kernel) rfl
theorem tw_334 : (Jvm.Cond.static ({ cls := "java/lang/String", name := "checkIndex", desc := "(II)V" } : Jvm.MethodName)) ∈ tb := tbI (i := 334) (by decide +kernel) rfl
theorem tw_335 : (Jvm.Cond.code ({ cls := "java/lang/String", name := "checkIndex", desc := "(II)V" } : Jvm.MethodName) prog_12_method_155_code (2 : Nat) (Option.none : Option Jvm.ClassFile.FieldType)) ∈ tb := tbI (i := 335) (by decide +kernel) rfl
theorem tw_336 : (Jvm.Cond.fieldLink "java/lang/String" (1053 : Nat) "jdk/internal/util/Preconditions" "SIOOBE_FORMATTER" "Ljava/util/function/BiFunction;") ∈ tb := tbI (i := 336) (by decide +kernel) rfl
theorem tw_338 : (Jvm.Cond.methodLink "java/lang/String" (1059 : Nat) ({ cls := "jdk/internal/util/Preconditions", name := "checkIndex", desc := "(IILjava/util/function/BiFunction;)I" } : Jvm.MethodName)) ∈ tb := tbI (i := 338) (by decide +kernel) rfl
theorem tw_339 : (Jvm.Cond.static ({ cls := "jdk/internal/util/Preconditions", name := "checkIndex", desc := "(IILjava/util/function/BiFunction;)I" } : Jvm.MethodName)) ∈ tb := tbI (i := 339) (by decide +kernel) rfl
theorem tw_340 : (Jvm.Cond.code ({ cls := "jdk/internal/util/Preconditions", name := "checkIndex", desc := "(IILjava/util/function/BiFunction;)I" } : Jvm.MethodName) prog_15_method_11_code (3 : Nat) (Option.some Jvm.ClassFile.FieldType.int)) ∈ tb := tbI (i := 340) (by decide +kernel) rfl
theorem tw_341 : (Jvm.Cond.methodLink "java/lang/String" (498 : Nat) ({ cls := "java/lang/StringUTF16", name := "charAt", desc := "([BI)C" } : Jvm.MethodName)) ∈ tb := tbI (i := 341) (by decide +kernel) rfl
theorem tw_342 : (Jvm.Cond.static ({ cls := "java/lang/StringUTF16", name := "charAt", desc := "([BI)C" } : Jvm.MethodName)) ∈ tb := tbI (i := 342) (by decide +kernel) rfl
theorem tw_343 : (Jvm.Cond.code ({ cls := "java/lang/StringUTF16", name := "charAt", desc := "([BI)C" } : Jvm.MethodName) prog_14_method_83_code (2 : Nat) (Option.some Jvm.ClassFile.FieldType.char)) ∈ tb := tbI (i := 343) (by decide +kernel) rfl
theorem tw_344 : (Jvm.Cond.methodLink "java/lang/StringUTF16" (67 : Nat) ({ cls := "java/lang/StringUTF16", name := "checkIndex", desc := "(I[B)V" } : Jvm.MethodName)) ∈ tb := tbI (i := 344) (by decide +kernel) rfl
theorem tw_345 : (Jvm.Cond.static ({ cls := "java/lang/StringUTF16", name := "checkIndex", desc := "(I[B)V" } : Jvm.MethodName)) ∈ tb := tbI (i := 345) (by decide +kernel) rfl
theorem tw_346 : (Jvm.Cond.code ({ cls := "java/lang/StringUTF16", name := "checkIndex", desc := "(I[B)V" } : Jvm.MethodName) prog_14_method_91_code (2 : Nat) (Option.none : Option Jvm.ClassFile.FieldType)) ∈ tb := tbI (i := 346) (by decide +kernel) rfl
theorem tw_347 : (Jvm.Cond.methodLink "java/lang/StringUTF16" (48 : Nat) ({ cls := "java/lang/StringUTF16", name := "length", desc := "([B)I" } : Jvm.MethodName)) ∈ tb := tbI (i := 347) (by decide +kernel) rfl
theorem tw_348 : (Jvm.Cond.static ({ cls := "java/lang/StringUTF16", name := "length", desc := "([B)I" } : Jvm.MethodName)) ∈ tb := tbI (i := 348) (by decide +kernel) rfl
theorem tw_349 : (Jvm.Cond.code ({ cls := "java/lang/StringUTF16", name := "length", desc := "([B)I" } : Jvm.MethodName) prog_14_method_6_code (1 : Nat) (Option.some Jvm.ClassFile.FieldType.int)) ∈ tb := tbI (i := 349) (by decide +kernel) rfl
theorem tw_350 : (Jvm.Cond.methodLink "java/lang/StringUTF16" (414 : Nat) ({ cls := "java/lang/String", name := "checkIndex", desc := "(II)V" } : Jvm.MethodName)) ∈ tb := tbI (i := 350) (by decide +kernel) rfl
theorem tw_351 : (Jvm.Cond.methodLink "java/lang/StringUTF16" (71 : Nat) ({ cls := "java/lang/StringUTF16", name := "getChar", desc := "([BI)C" } : Jvm.MethodName)) ∈ tb := tbI (i := 351) (by decide +kernel) rfl
theorem tw_352 : (Jvm.Cond.static ({ cls := "java/lang/StringUTF16", name := "getChar", desc := "([BI)C" } : Jvm.MethodName)) ∈ tb := tbI (i := 352) (by decide +kernel) rfl
theorem tw_353 : (Jvm.Cond.code ({ cls := "java/lang/StringUTF16", name := "getChar", desc := "([BI)C" } : Jvm.MethodName) prog_14_method_5_code (2 : Nat) (Option.some Jvm.ClassFile.FieldType.char)) ∈ tb := tbI (i := 353) (by decide +kernel) rfl
theorem tw_354 : (Jvm.Cond.fieldLink "java/lang/StringUTF16" (44 : Nat) "java/lang/StringUTF16" "$assertionsDisabled" "Z") ∈ tb := tbI (i := 354) (by decide +kernel) rfl
theorem tw_356 : (Jvm.Cond.fieldLink "java/lang/StringUTF16" (59 : Nat) "java/lang/StringUTF16" "HI_BYTE_SHIFT" "I") ∈ tb := tbI (i := 356) (by decide +kernel) rfl
theorem tw_358 : (Jvm.Cond.fieldLink "java/lang/StringUTF16" (63 : Nat) "java/lang/StringUTF16" "LO_BYTE_SHIFT" "I") ∈ tb := tbI (i := 358) (by decide +kernel) rfl
theorem tw_361 : (Jvm.Cond.methodLink "SameLetters$Text" (35 : Nat) ({ cls := "SameLetters$Text", name := "takeNumber", desc := "()V" } : Jvm.MethodName)) ∈ tb := tbI (i := 361) (by decide +kernel) rfl
theorem tw_363 : (Jvm.Cond.instanceMethod ({ cls := "SameLetters$Text", name := "takeNumber", desc := "()V" } : Jvm.MethodName)) ∈ tb := tbI (i := 363) (by decide +kernel) rfl
theorem tw_364 : (Jvm.Cond.code ({ cls := "SameLetters$Text", name := "takeNumber", desc := "()V" } : Jvm.MethodName) prog_5_method_8_code (2 : Nat) (Option.none : Option Jvm.ClassFile.FieldType)) ∈ tb := tbI (i := 364) (by decide +kernel) rfl
theorem tw_365 : (Jvm.Cond.methodLink "SameLetters$Text" (58 : Nat) ({ cls := "java/lang/Math", name := "min", desc := "(II)I" } : Jvm.MethodName)) ∈ tb := tbI (i := 365) (by decide +kernel) rfl
theorem tw_366 : (Jvm.Cond.static ({ cls := "java/lang/Math", name := "min", desc := "(II)I" } : Jvm.MethodName)) ∈ tb := tbI (i := 366) (by decide +kernel) rfl
theorem tw_367 : (Jvm.Cond.code ({ cls := "java/lang/Math", name := "min", desc := "(II)I" } : Jvm.MethodName) prog_11_method_69_code (2 : Nat) (Option.some Jvm.ClassFile.FieldType.int)) ∈ tb := tbI (i := 367) (by decide +kernel) rfl
theorem tw_368 : (Jvm.Cond.methodLink "SameLetters$Tongue" (43 : Nat) ({ cls := "SameLetters$Tongue", name := "readWord", desc := "(LSameLetters$Text;)Z" } : Jvm.MethodName)) ∈ tb := tbI (i := 368) (by decide +kernel) rfl
theorem tw_370 : (Jvm.Cond.instanceMethod ({ cls := "SameLetters$Tongue", name := "readWord", desc := "(LSameLetters$Text;)Z" } : Jvm.MethodName)) ∈ tb := tbI (i := 370) (by decide +kernel) rfl
theorem tw_371 : (Jvm.Cond.code ({ cls := "SameLetters$Tongue", name := "readWord", desc := "(LSameLetters$Text;)Z" } : Jvm.MethodName) prog_6_method_3_code (3 : Nat) (Option.some Jvm.ClassFile.FieldType.boolean)) ∈ tb := tbI (i := 371) (by decide +kernel) rfl
theorem tw_372 : (Jvm.Cond.methodLink "SameLetters$Tongue" (50 : Nat) ({ cls := "SameLetters$Tongue", name := "readSigns", desc := "(LSameLetters$Text;LSameLetters$Word;)Z" } : Jvm.MethodName)) ∈ tb := tbI (i := 372) (by decide +kernel) rfl
theorem tw_373 : (Jvm.Cond.static ({ cls := "SameLetters$Tongue", name := "readSigns", desc := "(LSameLetters$Text;LSameLetters$Word;)Z" } : Jvm.MethodName)) ∈ tb := tbI (i := 373) (by decide +kernel) rfl
theorem tw_374 : (Jvm.Cond.code ({ cls := "SameLetters$Tongue", name := "readSigns", desc := "(LSameLetters$Text;LSameLetters$Word;)Z" } : Jvm.MethodName) prog_6_method_5_code (3 : Nat) (Option.some Jvm.ClassFile.FieldType.boolean)) ∈ tb := tbI (i := 374) (by decide +kernel) rfl
theorem tw_375 : (Jvm.Cond.methodLink "SameLetters$Tongue" (86 : Nat) ({ cls := "java/lang/Math", name := "min", desc := "(II)I" } : Jvm.MethodName)) ∈ tb := tbI (i := 375) (by decide +kernel) rfl
theorem tw_376 : (Jvm.Cond.methodLink "SameLetters$Tongue" (54 : Nat) ({ cls := "SameLetters$Tongue", name := "readNumber", desc := "(LSameLetters$Text;I)Z" } : Jvm.MethodName)) ∈ tb := tbI (i := 376) (by decide +kernel) rfl
theorem tw_377 : (Jvm.Cond.static ({ cls := "SameLetters$Tongue", name := "readNumber", desc := "(LSameLetters$Text;I)Z" } : Jvm.MethodName)) ∈ tb := tbI (i := 377) (by decide +kernel) rfl
theorem tw_378 : (Jvm.Cond.code ({ cls := "SameLetters$Tongue", name := "readNumber", desc := "(LSameLetters$Text;I)Z" } : Jvm.MethodName) prog_6_method_6_code (2 : Nat) (Option.some Jvm.ClassFile.FieldType.boolean)) ∈ tb := tbI (i := 378) (by decide +kernel) rfl
theorem tw_379 : (Jvm.Cond.methodLink "SameLetters$Tongue" (70 : Nat) ({ cls := "SameLetters$Tongue", name := "readEnd", desc := "(LSameLetters$Text;)Z" } : Jvm.MethodName)) ∈ tb := tbI (i := 379) (by decide +kernel) rfl
theorem tw_380 : (Jvm.Cond.static ({ cls := "SameLetters$Tongue", name := "readEnd", desc := "(LSameLetters$Text;)Z" } : Jvm.MethodName)) ∈ tb := tbI (i := 380) (by decide +kernel) rfl
theorem tw_381 : (Jvm.Cond.code ({ cls := "SameLetters$Tongue", name := "readEnd", desc := "(LSameLetters$Text;)Z" } : Jvm.MethodName) prog_6_method_7_code (1 : Nat) (Option.some Jvm.ClassFile.FieldType.boolean)) ∈ tb := tbI (i := 381) (by decide +kernel) rfl
theorem tw_382 : (Jvm.Cond.methodLink "SameLetters$Tongue" (47 : Nat) ({ cls := "SameLetters$Tongue", name := "readShape", desc := "(LSameLetters$Text;)Z" } : Jvm.MethodName)) ∈ tb := tbI (i := 382) (by decide +kernel) rfl
theorem tw_384 : (Jvm.Cond.instanceMethod ({ cls := "SameLetters$Tongue", name := "readShape", desc := "(LSameLetters$Text;)Z" } : Jvm.MethodName)) ∈ tb := tbI (i := 384) (by decide +kernel) rfl
theorem tw_385 : (Jvm.Cond.code ({ cls := "SameLetters$Tongue", name := "readShape", desc := "(LSameLetters$Text;)Z" } : Jvm.MethodName) prog_6_method_4_code (4 : Nat) (Option.some Jvm.ClassFile.FieldType.boolean)) ∈ tb := tbI (i := 385) (by decide +kernel) rfl
theorem tw_386 : (Jvm.Cond.methodLink "SameLetters" (63 : Nat) ({ cls := "SameLetters$Sayings", name := "fill", desc := "(LSameLetters$Tongue;)V" } : Jvm.MethodName)) ∈ tb := tbI (i := 386) (by decide +kernel) rfl
theorem tw_387 : (Jvm.Cond.instanceMethod ({ cls := "SameLetters$Sayings", name := "fill", desc := "(LSameLetters$Tongue;)V" } : Jvm.MethodName)) ∈ tb := tbI (i := 387) (by decide +kernel) rfl
theorem tw_388 : (Jvm.Cond.selects "SameLetters$Sayings" ({ cls := "SameLetters$Sayings", name := "fill", desc := "(LSameLetters$Tongue;)V" } : Jvm.MethodName) ({ cls := "SameLetters$Sayings", name := "fill", desc := "(LSameLetters$Tongue;)V" } : Jvm.MethodName)) ∈ tb := tbI (i := 388) (by decide +kernel) rfl
theorem tw_389 : (Jvm.Cond.code ({ cls := "SameLetters$Sayings", name := "fill", desc := "(LSameLetters$Tongue;)V" } : Jvm.MethodName) prog_3_method_2_code (4 : Nat) (Option.none : Option Jvm.ClassFile.FieldType)) ∈ tb := tbI (i := 389) (by decide +kernel) rfl
theorem tw_390 : (Jvm.Cond.methodLink "SameLetters$Sayings" (57 : Nat) ({ cls := "SameLetters$Sayings", name := "fillRow", desc := "(ILSameLetters$Tongue;)V" } : Jvm.MethodName)) ∈ tb := tbI (i := 390) (by decide +kernel) rfl
theorem tw_392 : (Jvm.Cond.instanceMethod ({ cls := "SameLetters$Sayings", name := "fillRow", desc := "(ILSameLetters$Tongue;)V" } : Jvm.MethodName)) ∈ tb := tbI (i := 392) (by decide +kernel) rfl
theorem tw_393 : (Jvm.Cond.code ({ cls := "SameLetters$Sayings", name := "fillRow", desc := "(ILSameLetters$Tongue;)V" } : Jvm.MethodName) prog_3_method_3_code (8 : Nat) (Option.none : Option Jvm.ClassFile.FieldType)) ∈ tb := tbI (i := 393) (by decide +kernel) rfl
theorem tw_394 : (Jvm.Cond.methodLink "SameLetters$Sayings" (79 : Nat) ({ cls := "SameLetters$Shape", name := "lengthened", desc := "(II)I" } : Jvm.MethodName)) ∈ tb := tbI (i := 394) (by decide +kernel) rfl
theorem tw_395 : (Jvm.Cond.static ({ cls := "SameLetters$Shape", name := "lengthened", desc := "(II)I" } : Jvm.MethodName)) ∈ tb := tbI (i := 395) (by decide +kernel) rfl
theorem tw_396 : (Jvm.Cond.code ({ cls := "SameLetters$Shape", name := "lengthened", desc := "(II)I" } : Jvm.MethodName) prog_4_method_3_code (2 : Nat) (Option.some Jvm.ClassFile.FieldType.int)) ∈ tb := tbI (i := 396) (by decide +kernel) rfl
theorem tw_397 : (Jvm.Cond.methodLink "SameLetters$Sayings" (101 : Nat) ({ cls := "SameLetters$Shape", name := "row", desc := "()I" } : Jvm.MethodName)) ∈ tb := tbI (i := 397) (by decide +kernel) rfl
theorem tw_398 : (Jvm.Cond.instanceMethod ({ cls := "SameLetters$Shape", name := "row", desc := "()I" } : Jvm.MethodName)) ∈ tb := tbI (i := 398) (by decide +kernel) rfl
theorem tw_399 : (Jvm.Cond.selects "SameLetters$Shape" ({ cls := "SameLetters$Shape", name := "row", desc := "()I" } : Jvm.MethodName) ({ cls := "SameLetters$Shape", name := "row", desc := "()I" } : Jvm.MethodName)) ∈ tb := tbI (i := 399) (by decide +kernel) rfl
theorem tw_400 : (Jvm.Cond.code ({ cls := "SameLetters$Shape", name := "row", desc := "()I" } : Jvm.MethodName) prog_4_method_2_code (3 : Nat) (Option.some Jvm.ClassFile.FieldType.int)) ∈ tb := tbI (i := 400) (by decide +kernel) rfl
theorem tw_401 : (Jvm.Cond.methodLink "SameLetters$Shape" (19 : Nat) ({ cls := "SameLetters$Shape", name := "lengthened", desc := "(II)I" } : Jvm.MethodName)) ∈ tb := tbI (i := 401) (by decide +kernel) rfl
theorem tw_402 : (Jvm.Cond.methodLink "SameLetters$Sayings" (61 : Nat) ({ cls := "SameLetters$Sayings", name := "putIntoGroup", desc := "(I)V" } : Jvm.MethodName)) ∈ tb := tbI (i := 402) (by decide +kernel) rfl
theorem tw_404 : (Jvm.Cond.instanceMethod ({ cls := "SameLetters$Sayings", name := "putIntoGroup", desc := "(I)V" } : Jvm.MethodName)) ∈ tb := tbI (i := 404) (by decide +kernel) rfl
theorem tw_405 : (Jvm.Cond.code ({ cls := "SameLetters$Sayings", name := "putIntoGroup", desc := "(I)V" } : Jvm.MethodName) prog_3_method_4_code (3 : Nat) (Option.none : Option Jvm.ClassFile.FieldType)) ∈ tb := tbI (i := 405) (by decide +kernel) rfl
theorem tw_406 : (Jvm.Cond.arrayClass Jvm.ClassFile.FieldType.byte) ∈ tb := tbI (i := 406) (by decide +kernel) rfl
theorem tw_407 : (Jvm.Cond.methodLink "SameLettersLaw" (29 : Nat) ({ cls := "SameLetters", name := "word", desc := "(II)I" } : Jvm.MethodName)) ∈ tb := tbI (i := 407) (by decide +kernel) rfl
theorem tw_408 : (Jvm.Cond.instanceMethod ({ cls := "SameLetters", name := "word", desc := "(II)I" } : Jvm.MethodName)) ∈ tb := tbI (i := 408) (by decide +kernel) rfl
theorem tw_409 : (Jvm.Cond.selects "SameLetters" ({ cls := "SameLetters", name := "word", desc := "(II)I" } : Jvm.MethodName) ({ cls := "SameLetters", name := "word", desc := "(II)I" } : Jvm.MethodName)) ∈ tb := tbI (i := 409) (by decide +kernel) rfl
theorem tw_410 : (Jvm.Cond.code ({ cls := "SameLetters", name := "word", desc := "(II)I" } : Jvm.MethodName) prog_1_method_5_code (4 : Nat) (Option.some Jvm.ClassFile.FieldType.int)) ∈ tb := tbI (i := 410) (by decide +kernel) rfl
theorem tw_411 : (Jvm.Cond.methodLink "SameLetters" (80 : Nat) ({ cls := "SameLetters", name := "isWord", desc := "(I)Z" } : Jvm.MethodName)) ∈ tb := tbI (i := 411) (by decide +kernel) rfl
theorem tw_413 : (Jvm.Cond.instanceMethod ({ cls := "SameLetters", name := "isWord", desc := "(I)Z" } : Jvm.MethodName)) ∈ tb := tbI (i := 413) (by decide +kernel) rfl
theorem tw_414 : (Jvm.Cond.code ({ cls := "SameLetters", name := "isWord", desc := "(I)Z" } : Jvm.MethodName) prog_1_method_28_code (2 : Nat) (Option.some Jvm.ClassFile.FieldType.boolean)) ∈ tb := tbI (i := 414) (by decide +kernel) rfl
theorem tw_415 : (Jvm.Cond.methodLink "SameLettersLaw" (34 : Nat) ({ cls := "SameLetters", name := "spell", desc := "(II)I" } : Jvm.MethodName)) ∈ tb := tbI (i := 415) (by decide +kernel) rfl
theorem tw_416 : (Jvm.Cond.instanceMethod ({ cls := "SameLetters", name := "spell", desc := "(II)I" } : Jvm.MethodName)) ∈ tb := tbI (i := 416) (by decide +kernel) rfl
theorem tw_417 : (Jvm.Cond.selects "SameLetters" ({ cls := "SameLetters", name := "spell", desc := "(II)I" } : Jvm.MethodName) ({ cls := "SameLetters", name := "spell", desc := "(II)I" } : Jvm.MethodName)) ∈ tb := tbI (i := 417) (by decide +kernel) rfl
theorem tw_418 : (Jvm.Cond.code ({ cls := "SameLetters", name := "spell", desc := "(II)I" } : Jvm.MethodName) prog_1_method_6_code (4 : Nat) (Option.some Jvm.ClassFile.FieldType.int)) ∈ tb := tbI (i := 418) (by decide +kernel) rfl
theorem tw_419 : (Jvm.Cond.methodLink "SameLettersLaw" (38 : Nat) ({ cls := "SameLetters", name := "shape", desc := "(II)I" } : Jvm.MethodName)) ∈ tb := tbI (i := 419) (by decide +kernel) rfl
theorem tw_420 : (Jvm.Cond.instanceMethod ({ cls := "SameLetters", name := "shape", desc := "(II)I" } : Jvm.MethodName)) ∈ tb := tbI (i := 420) (by decide +kernel) rfl
theorem tw_421 : (Jvm.Cond.selects "SameLetters" ({ cls := "SameLetters", name := "shape", desc := "(II)I" } : Jvm.MethodName) ({ cls := "SameLetters", name := "shape", desc := "(II)I" } : Jvm.MethodName)) ∈ tb := tbI (i := 421) (by decide +kernel) rfl
theorem tw_422 : (Jvm.Cond.code ({ cls := "SameLetters", name := "shape", desc := "(II)I" } : Jvm.MethodName) prog_1_method_7_code (4 : Nat) (Option.some Jvm.ClassFile.FieldType.int)) ∈ tb := tbI (i := 422) (by decide +kernel) rfl
theorem tw_423 : (Jvm.Cond.methodLink "SameLetters" (104 : Nat) ({ cls := "SameLetters", name := "isShape", desc := "(I)Z" } : Jvm.MethodName)) ∈ tb := tbI (i := 423) (by decide +kernel) rfl
theorem tw_425 : (Jvm.Cond.instanceMethod ({ cls := "SameLetters", name := "isShape", desc := "(I)Z" } : Jvm.MethodName)) ∈ tb := tbI (i := 425) (by decide +kernel) rfl
theorem tw_426 : (Jvm.Cond.code ({ cls := "SameLetters", name := "isShape", desc := "(I)Z" } : Jvm.MethodName) prog_1_method_29_code (2 : Nat) (Option.some Jvm.ClassFile.FieldType.boolean)) ∈ tb := tbI (i := 426) (by decide +kernel) rfl
theorem tw_427 : (Jvm.Cond.methodLink "SameLettersLaw" (42 : Nat) ({ cls := "SameLetters", name := "letter", desc := "(II)I" } : Jvm.MethodName)) ∈ tb := tbI (i := 427) (by decide +kernel) rfl
theorem tw_428 : (Jvm.Cond.instanceMethod ({ cls := "SameLetters", name := "letter", desc := "(II)I" } : Jvm.MethodName)) ∈ tb := tbI (i := 428) (by decide +kernel) rfl
theorem tw_429 : (Jvm.Cond.selects "SameLetters" ({ cls := "SameLetters", name := "letter", desc := "(II)I" } : Jvm.MethodName) ({ cls := "SameLetters", name := "letter", desc := "(II)I" } : Jvm.MethodName)) ∈ tb := tbI (i := 429) (by decide +kernel) rfl
theorem tw_430 : (Jvm.Cond.code ({ cls := "SameLetters", name := "letter", desc := "(II)I" } : Jvm.MethodName) prog_1_method_8_code (3 : Nat) (Option.some Jvm.ClassFile.FieldType.int)) ∈ tb := tbI (i := 430) (by decide +kernel) rfl
theorem tw_431 : (Jvm.Cond.methodLink "SameLetters" (117 : Nat) ({ cls := "SameLetters$Sayings", name := "canBeSaid", desc := "(I)Z" } : Jvm.MethodName)) ∈ tb := tbI (i := 431) (by decide +kernel) rfl
theorem tw_432 : (Jvm.Cond.instanceMethod ({ cls := "SameLetters$Sayings", name := "canBeSaid", desc := "(I)Z" } : Jvm.MethodName)) ∈ tb := tbI (i := 432) (by decide +kernel) rfl
theorem tw_433 : (Jvm.Cond.selects "SameLetters$Sayings" ({ cls := "SameLetters$Sayings", name := "canBeSaid", desc := "(I)Z" } : Jvm.MethodName) ({ cls := "SameLetters$Sayings", name := "canBeSaid", desc := "(I)Z" } : Jvm.MethodName)) ∈ tb := tbI (i := 433) (by decide +kernel) rfl
theorem tw_434 : (Jvm.Cond.code ({ cls := "SameLetters$Sayings", name := "canBeSaid", desc := "(I)Z" } : Jvm.MethodName) prog_3_method_5_code (2 : Nat) (Option.some Jvm.ClassFile.FieldType.boolean)) ∈ tb := tbI (i := 434) (by decide +kernel) rfl
theorem tw_435 : (Jvm.Cond.methodLink "SameLettersLaw" (46 : Nat) ({ cls := "SameLetters", name := "has", desc := "(II)I" } : Jvm.MethodName)) ∈ tb := tbI (i := 435) (by decide +kernel) rfl
theorem tw_436 : (Jvm.Cond.instanceMethod ({ cls := "SameLetters", name := "has", desc := "(II)I" } : Jvm.MethodName)) ∈ tb := tbI (i := 436) (by decide +kernel) rfl
theorem tw_437 : (Jvm.Cond.selects "SameLetters" ({ cls := "SameLetters", name := "has", desc := "(II)I" } : Jvm.MethodName) ({ cls := "SameLetters", name := "has", desc := "(II)I" } : Jvm.MethodName)) ∈ tb := tbI (i := 437) (by decide +kernel) rfl
theorem tw_438 : (Jvm.Cond.code ({ cls := "SameLetters", name := "has", desc := "(II)I" } : Jvm.MethodName) prog_1_method_9_code (3 : Nat) (Option.some Jvm.ClassFile.FieldType.int)) ∈ tb := tbI (i := 438) (by decide +kernel) rfl
theorem tw_439 : (Jvm.Cond.methodLink "SameLetters" (126 : Nat) ({ cls := "SameLetters$Sayings", name := "countOf", desc := "(II)I" } : Jvm.MethodName)) ∈ tb := tbI (i := 439) (by decide +kernel) rfl
theorem tw_440 : (Jvm.Cond.instanceMethod ({ cls := "SameLetters$Sayings", name := "countOf", desc := "(II)I" } : Jvm.MethodName)) ∈ tb := tbI (i := 440) (by decide +kernel) rfl
theorem tw_441 : (Jvm.Cond.selects "SameLetters$Sayings" ({ cls := "SameLetters$Sayings", name := "countOf", desc := "(II)I" } : Jvm.MethodName) ({ cls := "SameLetters$Sayings", name := "countOf", desc := "(II)I" } : Jvm.MethodName)) ∈ tb := tbI (i := 441) (by decide +kernel) rfl
theorem tw_442 : (Jvm.Cond.code ({ cls := "SameLetters$Sayings", name := "countOf", desc := "(II)I" } : Jvm.MethodName) prog_3_method_6_code (3 : Nat) (Option.some Jvm.ClassFile.FieldType.int)) ∈ tb := tbI (i := 442) (by decide +kernel) rfl
theorem tw_443 : (Jvm.Cond.methodLink "SameLettersLaw" (50 : Nat) ({ cls := "SameLetters", name := "write", desc := "(I)I" } : Jvm.MethodName)) ∈ tb := tbI (i := 443) (by decide +kernel) rfl
theorem tw_444 : (Jvm.Cond.instanceMethod ({ cls := "SameLetters", name := "write", desc := "(I)I" } : Jvm.MethodName)) ∈ tb := tbI (i := 444) (by decide +kernel) rfl
theorem tw_445 : (Jvm.Cond.selects "SameLetters" ({ cls := "SameLetters", name := "write", desc := "(I)I" } : Jvm.MethodName) ({ cls := "SameLetters", name := "write", desc := "(I)I" } : Jvm.MethodName)) ∈ tb := tbI (i := 445) (by decide +kernel) rfl
theorem tw_446 : (Jvm.Cond.code ({ cls := "SameLetters", name := "write", desc := "(I)I" } : Jvm.MethodName) prog_1_method_10_code (2 : Nat) (Option.some Jvm.ClassFile.FieldType.int)) ∈ tb := tbI (i := 446) (by decide +kernel) rfl
theorem tw_447 : (Jvm.Cond.methodLink "SameLetters" (133 : Nat) ({ cls := "SameLetters$Sayings", name := "isAnswer", desc := "(II)Z" } : Jvm.MethodName)) ∈ tb := tbI (i := 447) (by decide +kernel) rfl
theorem tw_448 : (Jvm.Cond.instanceMethod ({ cls := "SameLetters$Sayings", name := "isAnswer", desc := "(II)Z" } : Jvm.MethodName)) ∈ tb := tbI (i := 448) (by decide +kernel) rfl
theorem tw_449 : (Jvm.Cond.selects "SameLetters$Sayings" ({ cls := "SameLetters$Sayings", name := "isAnswer", desc := "(II)Z" } : Jvm.MethodName) ({ cls := "SameLetters$Sayings", name := "isAnswer", desc := "(II)Z" } : Jvm.MethodName)) ∈ tb := tbI (i := 449) (by decide +kernel) rfl
theorem tw_450 : (Jvm.Cond.code ({ cls := "SameLetters$Sayings", name := "isAnswer", desc := "(II)Z" } : Jvm.MethodName) prog_3_method_7_code (3 : Nat) (Option.some Jvm.ClassFile.FieldType.boolean)) ∈ tb := tbI (i := 450) (by decide +kernel) rfl
theorem tw_451 : (Jvm.Cond.methodLink "SameLettersLaw" (55 : Nat) ({ cls := "SameLetters", name := "undo", desc := "()I" } : Jvm.MethodName)) ∈ tb := tbI (i := 451) (by decide +kernel) rfl
theorem tw_452 : (Jvm.Cond.instanceMethod ({ cls := "SameLetters", name := "undo", desc := "()I" } : Jvm.MethodName)) ∈ tb := tbI (i := 452) (by decide +kernel) rfl
theorem tw_453 : (Jvm.Cond.selects "SameLetters" ({ cls := "SameLetters", name := "undo", desc := "()I" } : Jvm.MethodName) ({ cls := "SameLetters", name := "undo", desc := "()I" } : Jvm.MethodName)) ∈ tb := tbI (i := 453) (by decide +kernel) rfl
theorem tw_454 : (Jvm.Cond.code ({ cls := "SameLetters", name := "undo", desc := "()I" } : Jvm.MethodName) prog_1_method_11_code (1 : Nat) (Option.some Jvm.ClassFile.FieldType.int)) ∈ tb := tbI (i := 454) (by decide +kernel) rfl
theorem tw_455 : (Jvm.Cond.methodLink "SameLettersLaw" (59 : Nat) ({ cls := "SameLetters", name := "wrote", desc := "(I)I" } : Jvm.MethodName)) ∈ tb := tbI (i := 455) (by decide +kernel) rfl
theorem tw_456 : (Jvm.Cond.instanceMethod ({ cls := "SameLetters", name := "wrote", desc := "(I)I" } : Jvm.MethodName)) ∈ tb := tbI (i := 456) (by decide +kernel) rfl
theorem tw_457 : (Jvm.Cond.selects "SameLetters" ({ cls := "SameLetters", name := "wrote", desc := "(I)I" } : Jvm.MethodName) ({ cls := "SameLetters", name := "wrote", desc := "(I)I" } : Jvm.MethodName)) ∈ tb := tbI (i := 457) (by decide +kernel) rfl
theorem tw_458 : (Jvm.Cond.code ({ cls := "SameLetters", name := "wrote", desc := "(I)I" } : Jvm.MethodName) prog_1_method_12_code (2 : Nat) (Option.some Jvm.ClassFile.FieldType.int)) ∈ tb := tbI (i := 458) (by decide +kernel) rfl
end
section
theorem tw_459 : (Jvm.Cond.methodLink "SameLettersLaw" (63 : Nat) ({ cls := "SameLetters", name := "side", desc := "(I)I" } : Jvm.MethodName)) ∈ tb := tbI (i := 459) (by decide +kernel) rfl
theorem tw_460 : (Jvm.Cond.instanceMethod ({ cls := "SameLetters", name := "side", desc := "(I)I" } : Jvm.MethodName)) ∈ tb := tbI (i := 460) (by decide +kernel) rfl
theorem tw_461 : (Jvm.Cond.selects "SameLetters" ({ cls := "SameLetters", name := "side", desc := "(I)I" } : Jvm.MethodName) ({ cls := "SameLetters", name := "side", desc := "(I)I" } : Jvm.MethodName)) ∈ tb := tbI (i := 461) (by decide +kernel) rfl
theorem tw_462 : (Jvm.Cond.code ({ cls := "SameLetters", name := "side", desc := "(I)I" } : Jvm.MethodName) prog_1_method_13_code (5 : Nat) (Option.some Jvm.ClassFile.FieldType.int)) ∈ tb := tbI (i := 462) (by decide +kernel) rfl
theorem tw_463 : (Jvm.Cond.methodLink "SameLettersLaw" (67 : Nat) ({ cls := "SameLetters", name := "says", desc := "(I)I" } : Jvm.MethodName)) ∈ tb := tbI (i := 463) (by decide +kernel) rfl
theorem tw_464 : (Jvm.Cond.instanceMethod ({ cls := "SameLetters", name := "says", desc := "(I)I" } : Jvm.MethodName)) ∈ tb := tbI (i := 464) (by decide +kernel) rfl
theorem tw_465 : (Jvm.Cond.selects "SameLetters" ({ cls := "SameLetters", name := "says", desc := "(I)I" } : Jvm.MethodName) ({ cls := "SameLetters", name := "says", desc := "(I)I" } : Jvm.MethodName)) ∈ tb := tbI (i := 465) (by decide +kernel) rfl
theorem tw_466 : (Jvm.Cond.code ({ cls := "SameLetters", name := "says", desc := "(I)I" } : Jvm.MethodName) prog_1_method_14_code (2 : Nat) (Option.some Jvm.ClassFile.FieldType.int)) ∈ tb := tbI (i := 466) (by decide +kernel) rfl
theorem tw_467 : (Jvm.Cond.methodLink "SameLetters" (137 : Nat) ({ cls := "SameLetters$Sayings", name := "mostOwn", desc := "()I" } : Jvm.MethodName)) ∈ tb := tbI (i := 467) (by decide +kernel) rfl
theorem tw_468 : (Jvm.Cond.instanceMethod ({ cls := "SameLetters$Sayings", name := "mostOwn", desc := "()I" } : Jvm.MethodName)) ∈ tb := tbI (i := 468) (by decide +kernel) rfl
theorem tw_469 : (Jvm.Cond.selects "SameLetters$Sayings" ({ cls := "SameLetters$Sayings", name := "mostOwn", desc := "()I" } : Jvm.MethodName) ({ cls := "SameLetters$Sayings", name := "mostOwn", desc := "()I" } : Jvm.MethodName)) ∈ tb := tbI (i := 469) (by decide +kernel) rfl
theorem tw_470 : (Jvm.Cond.code ({ cls := "SameLetters$Sayings", name := "mostOwn", desc := "()I" } : Jvm.MethodName) prog_3_method_10_code (3 : Nat) (Option.some Jvm.ClassFile.FieldType.int)) ∈ tb := tbI (i := 470) (by decide +kernel) rfl
theorem tw_471 : (Jvm.Cond.methodLink "SameLetters$Sayings" (117 : Nat) ({ cls := "java/lang/Math", name := "max", desc := "(II)I" } : Jvm.MethodName)) ∈ tb := tbI (i := 471) (by decide +kernel) rfl
theorem tw_472 : (Jvm.Cond.static ({ cls := "java/lang/Math", name := "max", desc := "(II)I" } : Jvm.MethodName)) ∈ tb := tbI (i := 472) (by decide +kernel) rfl
theorem tw_473 : (Jvm.Cond.code ({ cls := "java/lang/Math", name := "max", desc := "(II)I" } : Jvm.MethodName) prog_11_method_65_code (2 : Nat) (Option.some Jvm.ClassFile.FieldType.int)) ∈ tb := tbI (i := 473) (by decide +kernel) rfl
theorem tw_474 : (Jvm.Cond.methodLink "SameLetters" (144 : Nat) ({ cls := "SameLetters$Sayings", name := "numberAt", desc := "(I)I" } : Jvm.MethodName)) ∈ tb := tbI (i := 474) (by decide +kernel) rfl
theorem tw_475 : (Jvm.Cond.instanceMethod ({ cls := "SameLetters$Sayings", name := "numberAt", desc := "(I)I" } : Jvm.MethodName)) ∈ tb := tbI (i := 475) (by decide +kernel) rfl
theorem tw_476 : (Jvm.Cond.selects "SameLetters$Sayings" ({ cls := "SameLetters$Sayings", name := "numberAt", desc := "(I)I" } : Jvm.MethodName) ({ cls := "SameLetters$Sayings", name := "numberAt", desc := "(I)I" } : Jvm.MethodName)) ∈ tb := tbI (i := 476) (by decide +kernel) rfl
theorem tw_477 : (Jvm.Cond.code ({ cls := "SameLetters$Sayings", name := "numberAt", desc := "(I)I" } : Jvm.MethodName) prog_3_method_11_code (4 : Nat) (Option.some Jvm.ClassFile.FieldType.int)) ∈ tb := tbI (i := 477) (by decide +kernel) rfl
theorem tw_478 : (Jvm.Cond.methodLink "SameLettersLaw" (71 : Nat) ({ cls := "SameLetters", name := "answers", desc := "(III)I" } : Jvm.MethodName)) ∈ tb := tbI (i := 478) (by decide +kernel) rfl
theorem tw_479 : (Jvm.Cond.instanceMethod ({ cls := "SameLetters", name := "answers", desc := "(III)I" } : Jvm.MethodName)) ∈ tb := tbI (i := 479) (by decide +kernel) rfl
theorem tw_480 : (Jvm.Cond.selects "SameLetters" ({ cls := "SameLetters", name := "answers", desc := "(III)I" } : Jvm.MethodName) ({ cls := "SameLetters", name := "answers", desc := "(III)I" } : Jvm.MethodName)) ∈ tb := tbI (i := 480) (by decide +kernel) rfl
theorem tw_481 : (Jvm.Cond.code ({ cls := "SameLetters", name := "answers", desc := "(III)I" } : Jvm.MethodName) prog_1_method_15_code (4 : Nat) (Option.some Jvm.ClassFile.FieldType.int)) ∈ tb := tbI (i := 481) (by decide +kernel) rfl
theorem tw_482 : (Jvm.Cond.methodLink "SameLetters" (148 : Nat) ({ cls := "SameLetters", name := "isSlack", desc := "(I)Z" } : Jvm.MethodName)) ∈ tb := tbI (i := 482) (by decide +kernel) rfl
theorem tw_483 : (Jvm.Cond.static ({ cls := "SameLetters", name := "isSlack", desc := "(I)Z" } : Jvm.MethodName)) ∈ tb := tbI (i := 483) (by decide +kernel) rfl
theorem tw_484 : (Jvm.Cond.code ({ cls := "SameLetters", name := "isSlack", desc := "(I)Z" } : Jvm.MethodName) prog_1_method_30_code (1 : Nat) (Option.some Jvm.ClassFile.FieldType.boolean)) ∈ tb := tbI (i := 484) (by decide +kernel) rfl
theorem tw_485 : (Jvm.Cond.methodLink "SameLetters" (151 : Nat) ({ cls := "SameLetters$Sayings", name := "countAnswers", desc := "(II)I" } : Jvm.MethodName)) ∈ tb := tbI (i := 485) (by decide +kernel) rfl
theorem tw_486 : (Jvm.Cond.instanceMethod ({ cls := "SameLetters$Sayings", name := "countAnswers", desc := "(II)I" } : Jvm.MethodName)) ∈ tb := tbI (i := 486) (by decide +kernel) rfl
theorem tw_487 : (Jvm.Cond.selects "SameLetters$Sayings" ({ cls := "SameLetters$Sayings", name := "countAnswers", desc := "(II)I" } : Jvm.MethodName) ({ cls := "SameLetters$Sayings", name := "countAnswers", desc := "(II)I" } : Jvm.MethodName)) ∈ tb := tbI (i := 487) (by decide +kernel) rfl
theorem tw_488 : (Jvm.Cond.code ({ cls := "SameLetters$Sayings", name := "countAnswers", desc := "(II)I" } : Jvm.MethodName) prog_3_method_12_code (5 : Nat) (Option.some Jvm.ClassFile.FieldType.int)) ∈ tb := tbI (i := 488) (by decide +kernel) rfl
theorem tw_489 : (Jvm.Cond.methodLink "SameLetters$Sayings" (120 : Nat) ({ cls := "SameLetters$Sayings", name := "isNear", desc := "(III)Z" } : Jvm.MethodName)) ∈ tb := tbI (i := 489) (by decide +kernel) rfl
theorem tw_491 : (Jvm.Cond.instanceMethod ({ cls := "SameLetters$Sayings", name := "isNear", desc := "(III)Z" } : Jvm.MethodName)) ∈ tb := tbI (i := 491) (by decide +kernel) rfl
theorem tw_492 : (Jvm.Cond.code ({ cls := "SameLetters$Sayings", name := "isNear", desc := "(III)Z" } : Jvm.MethodName) prog_3_method_8_code (4 : Nat) (Option.some Jvm.ClassFile.FieldType.boolean)) ∈ tb := tbI (i := 492) (by decide +kernel) rfl
theorem tw_493 : (Jvm.Cond.methodLink "SameLetters$Sayings" (105 : Nat) ({ cls := "SameLetters$Sayings", name := "difference", desc := "(II)I" } : Jvm.MethodName)) ∈ tb := tbI (i := 493) (by decide +kernel) rfl
theorem tw_495 : (Jvm.Cond.instanceMethod ({ cls := "SameLetters$Sayings", name := "difference", desc := "(II)I" } : Jvm.MethodName)) ∈ tb := tbI (i := 495) (by decide +kernel) rfl
theorem tw_496 : (Jvm.Cond.code ({ cls := "SameLetters$Sayings", name := "difference", desc := "(II)I" } : Jvm.MethodName) prog_3_method_9_code (5 : Nat) (Option.some Jvm.ClassFile.FieldType.int)) ∈ tb := tbI (i := 496) (by decide +kernel) rfl
theorem tw_497 : (Jvm.Cond.methodLink "SameLetters$Sayings" (108 : Nat) ({ cls := "SameLetters$Sayings", name := "countOf", desc := "(II)I" } : Jvm.MethodName)) ∈ tb := tbI (i := 497) (by decide +kernel) rfl
theorem tw_498 : (Jvm.Cond.methodLink "SameLetters$Sayings" (111 : Nat) ({ cls := "java/lang/Math", name := "abs", desc := "(I)I" } : Jvm.MethodName)) ∈ tb := tbI (i := 498) (by decide +kernel) rfl
theorem tw_499 : (Jvm.Cond.static ({ cls := "java/lang/Math", name := "abs", desc := "(I)I" } : Jvm.MethodName)) ∈ tb := tbI (i := 499) (by decide +kernel) rfl
theorem tw_500 : (Jvm.Cond.code ({ cls := "java/lang/Math", name := "abs", desc := "(I)I" } : Jvm.MethodName) prog_11_method_59_code (1 : Nat) (Option.some Jvm.ClassFile.FieldType.int)) ∈ tb := tbI (i := 500) (by decide +kernel) rfl
theorem tw_501 : (Jvm.Cond.methodLink "SameLetters" (154 : Nat) ({ cls := "SameLetters$Sayings", name := "findBest", desc := "(II)I" } : Jvm.MethodName)) ∈ tb := tbI (i := 501) (by decide +kernel) rfl
theorem tw_502 : (Jvm.Cond.instanceMethod ({ cls := "SameLetters$Sayings", name := "findBest", desc := "(II)I" } : Jvm.MethodName)) ∈ tb := tbI (i := 502) (by decide +kernel) rfl
theorem tw_503 : (Jvm.Cond.selects "SameLetters$Sayings" ({ cls := "SameLetters$Sayings", name := "findBest", desc := "(II)I" } : Jvm.MethodName) ({ cls := "SameLetters$Sayings", name := "findBest", desc := "(II)I" } : Jvm.MethodName)) ∈ tb := tbI (i := 503) (by decide +kernel) rfl
theorem tw_504 : (Jvm.Cond.code ({ cls := "SameLetters$Sayings", name := "findBest", desc := "(II)I" } : Jvm.MethodName) prog_3_method_13_code (6 : Nat) (Option.some Jvm.ClassFile.FieldType.int)) ∈ tb := tbI (i := 504) (by decide +kernel) rfl
theorem tw_505 : (Jvm.Cond.methodLink "SameLettersLaw" (76 : Nat) ({ cls := "SameLetters", name := "mute", desc := "(I)I" } : Jvm.MethodName)) ∈ tb := tbI (i := 505) (by decide +kernel) rfl
theorem tw_506 : (Jvm.Cond.instanceMethod ({ cls := "SameLetters", name := "mute", desc := "(I)I" } : Jvm.MethodName)) ∈ tb := tbI (i := 506) (by decide +kernel) rfl
theorem tw_507 : (Jvm.Cond.selects "SameLetters" ({ cls := "SameLetters", name := "mute", desc := "(I)I" } : Jvm.MethodName) ({ cls := "SameLetters", name := "mute", desc := "(I)I" } : Jvm.MethodName)) ∈ tb := tbI (i := 507) (by decide +kernel) rfl
theorem tw_508 : (Jvm.Cond.code ({ cls := "SameLetters", name := "mute", desc := "(I)I" } : Jvm.MethodName) prog_1_method_16_code (2 : Nat) (Option.some Jvm.ClassFile.FieldType.int)) ∈ tb := tbI (i := 508) (by decide +kernel) rfl
theorem tw_509 : (Jvm.Cond.methodLink "SameLetters" (157 : Nat) ({ cls := "SameLetters$Sayings", name := "countMute", desc := "()I" } : Jvm.MethodName)) ∈ tb := tbI (i := 509) (by decide +kernel) rfl
theorem tw_510 : (Jvm.Cond.instanceMethod ({ cls := "SameLetters$Sayings", name := "countMute", desc := "()I" } : Jvm.MethodName)) ∈ tb := tbI (i := 510) (by decide +kernel) rfl
theorem tw_511 : (Jvm.Cond.selects "SameLetters$Sayings" ({ cls := "SameLetters$Sayings", name := "countMute", desc := "()I" } : Jvm.MethodName) ({ cls := "SameLetters$Sayings", name := "countMute", desc := "()I" } : Jvm.MethodName)) ∈ tb := tbI (i := 511) (by decide +kernel) rfl
theorem tw_512 : (Jvm.Cond.code ({ cls := "SameLetters$Sayings", name := "countMute", desc := "()I" } : Jvm.MethodName) prog_3_method_14_code (3 : Nat) (Option.some Jvm.ClassFile.FieldType.int)) ∈ tb := tbI (i := 512) (by decide +kernel) rfl
theorem tw_513 : (Jvm.Cond.methodLink "SameLetters" (160 : Nat) ({ cls := "SameLetters$Sayings", name := "firstMute", desc := "()I" } : Jvm.MethodName)) ∈ tb := tbI (i := 513) (by decide +kernel) rfl
theorem tw_514 : (Jvm.Cond.instanceMethod ({ cls := "SameLetters$Sayings", name := "firstMute", desc := "()I" } : Jvm.MethodName)) ∈ tb := tbI (i := 514) (by decide +kernel) rfl
theorem tw_515 : (Jvm.Cond.selects "SameLetters$Sayings" ({ cls := "SameLetters$Sayings", name := "firstMute", desc := "()I" } : Jvm.MethodName) ({ cls := "SameLetters$Sayings", name := "firstMute", desc := "()I" } : Jvm.MethodName)) ∈ tb := tbI (i := 515) (by decide +kernel) rfl
theorem tw_516 : (Jvm.Cond.code ({ cls := "SameLetters$Sayings", name := "firstMute", desc := "()I" } : Jvm.MethodName) prog_3_method_15_code (2 : Nat) (Option.some Jvm.ClassFile.FieldType.int)) ∈ tb := tbI (i := 516) (by decide +kernel) rfl
theorem tw_517 : (Jvm.Cond.methodLink "SameLettersLaw" (80 : Nat) ({ cls := "SameLetters", name := "best", desc := "(I)I" } : Jvm.MethodName)) ∈ tb := tbI (i := 517) (by decide +kernel) rfl
theorem tw_518 : (Jvm.Cond.instanceMethod ({ cls := "SameLetters", name := "best", desc := "(I)I" } : Jvm.MethodName)) ∈ tb := tbI (i := 518) (by decide +kernel) rfl
theorem tw_519 : (Jvm.Cond.selects "SameLetters" ({ cls := "SameLetters", name := "best", desc := "(I)I" } : Jvm.MethodName) ({ cls := "SameLetters", name := "best", desc := "(I)I" } : Jvm.MethodName)) ∈ tb := tbI (i := 519) (by decide +kernel) rfl
theorem tw_520 : (Jvm.Cond.code ({ cls := "SameLetters", name := "best", desc := "(I)I" } : Jvm.MethodName) prog_1_method_17_code (3 : Nat) (Option.some Jvm.ClassFile.FieldType.int)) ∈ tb := tbI (i := 520) (by decide +kernel) rfl
theorem tw_521 : (Jvm.Cond.methodLink "SameLetters" (163 : Nat) ({ cls := "SameLetters$Sayings", name := "bestToWrite", desc := "()I" } : Jvm.MethodName)) ∈ tb := tbI (i := 521) (by decide +kernel) rfl
theorem tw_522 : (Jvm.Cond.instanceMethod ({ cls := "SameLetters$Sayings", name := "bestToWrite", desc := "()I" } : Jvm.MethodName)) ∈ tb := tbI (i := 522) (by decide +kernel) rfl
theorem tw_523 : (Jvm.Cond.selects "SameLetters$Sayings" ({ cls := "SameLetters$Sayings", name := "bestToWrite", desc := "()I" } : Jvm.MethodName) ({ cls := "SameLetters$Sayings", name := "bestToWrite", desc := "()I" } : Jvm.MethodName)) ∈ tb := tbI (i := 523) (by decide +kernel) rfl
theorem tw_524 : (Jvm.Cond.code ({ cls := "SameLetters$Sayings", name := "bestToWrite", desc := "()I" } : Jvm.MethodName) prog_3_method_16_code (4 : Nat) (Option.some Jvm.ClassFile.FieldType.int)) ∈ tb := tbI (i := 524) (by decide +kernel) rfl
theorem tw_525 : (Jvm.Cond.methodLink "SameLettersLaw" (84 : Nat) ({ cls := "SameLetters", name := "bar", desc := "(II)I" } : Jvm.MethodName)) ∈ tb := tbI (i := 525) (by decide +kernel) rfl
theorem tw_526 : (Jvm.Cond.instanceMethod ({ cls := "SameLetters", name := "bar", desc := "(II)I" } : Jvm.MethodName)) ∈ tb := tbI (i := 526) (by decide +kernel) rfl
theorem tw_527 : (Jvm.Cond.selects "SameLetters" ({ cls := "SameLetters", name := "bar", desc := "(II)I" } : Jvm.MethodName) ({ cls := "SameLetters", name := "bar", desc := "(II)I" } : Jvm.MethodName)) ∈ tb := tbI (i := 527) (by decide +kernel) rfl
theorem tw_528 : (Jvm.Cond.code ({ cls := "SameLetters", name := "bar", desc := "(II)I" } : Jvm.MethodName) prog_1_method_18_code (3 : Nat) (Option.some Jvm.ClassFile.FieldType.int)) ∈ tb := tbI (i := 528) (by decide +kernel) rfl
theorem tw_529 : (Jvm.Cond.methodLink "SameLetters" (169 : Nat) ({ cls := "SameLetters$Sayings", name := "leastCommonSign", desc := "(II)I" } : Jvm.MethodName)) ∈ tb := tbI (i := 529) (by decide +kernel) rfl
theorem tw_530 : (Jvm.Cond.instanceMethod ({ cls := "SameLetters$Sayings", name := "leastCommonSign", desc := "(II)I" } : Jvm.MethodName)) ∈ tb := tbI (i := 530) (by decide +kernel) rfl
theorem tw_531 : (Jvm.Cond.selects "SameLetters$Sayings" ({ cls := "SameLetters$Sayings", name := "leastCommonSign", desc := "(II)I" } : Jvm.MethodName) ({ cls := "SameLetters$Sayings", name := "leastCommonSign", desc := "(II)I" } : Jvm.MethodName)) ∈ tb := tbI (i := 531) (by decide +kernel) rfl
theorem tw_532 : (Jvm.Cond.code ({ cls := "SameLetters$Sayings", name := "leastCommonSign", desc := "(II)I" } : Jvm.MethodName) prog_3_method_17_code (6 : Nat) (Option.some Jvm.ClassFile.FieldType.int)) ∈ tb := tbI (i := 532) (by decide +kernel) rfl
theorem tw_533 : (Jvm.Cond.methodLink "SameLettersLaw" (88 : Nat) ({ cls := "SameLetters", name := "chain", desc := "(II)I" } : Jvm.MethodName)) ∈ tb := tbI (i := 533) (by decide +kernel) rfl
theorem tw_534 : (Jvm.Cond.instanceMethod ({ cls := "SameLetters", name := "chain", desc := "(II)I" } : Jvm.MethodName)) ∈ tb := tbI (i := 534) (by decide +kernel) rfl
theorem tw_535 : (Jvm.Cond.selects "SameLetters" ({ cls := "SameLetters", name := "chain", desc := "(II)I" } : Jvm.MethodName) ({ cls := "SameLetters", name := "chain", desc := "(II)I" } : Jvm.MethodName)) ∈ tb := tbI (i := 535) (by decide +kernel) rfl
theorem tw_536 : (Jvm.Cond.code ({ cls := "SameLetters", name := "chain", desc := "(II)I" } : Jvm.MethodName) prog_1_method_19_code (3 : Nat) (Option.some Jvm.ClassFile.FieldType.int)) ∈ tb := tbI (i := 536) (by decide +kernel) rfl
theorem tw_537 : (Jvm.Cond.methodLink "SameLetters" (172 : Nat) ({ cls := "SameLetters$Sayings", name := "follow", desc := "(II)I" } : Jvm.MethodName)) ∈ tb := tbI (i := 537) (by decide +kernel) rfl
theorem tw_538 : (Jvm.Cond.instanceMethod ({ cls := "SameLetters$Sayings", name := "follow", desc := "(II)I" } : Jvm.MethodName)) ∈ tb := tbI (i := 538) (by decide +kernel) rfl
theorem tw_539 : (Jvm.Cond.selects "SameLetters$Sayings" ({ cls := "SameLetters$Sayings", name := "follow", desc := "(II)I" } : Jvm.MethodName) ({ cls := "SameLetters$Sayings", name := "follow", desc := "(II)I" } : Jvm.MethodName)) ∈ tb := tbI (i := 539) (by decide +kernel) rfl
theorem tw_540 : (Jvm.Cond.code ({ cls := "SameLetters$Sayings", name := "follow", desc := "(II)I" } : Jvm.MethodName) prog_3_method_18_code (5 : Nat) (Option.some Jvm.ClassFile.FieldType.int)) ∈ tb := tbI (i := 540) (by decide +kernel) rfl
theorem tw_541 : (Jvm.Cond.methodLink "SameLettersLaw" (92 : Nat) ({ cls := "SameLetters", name := "ring", desc := "(I)I" } : Jvm.MethodName)) ∈ tb := tbI (i := 541) (by decide +kernel) rfl
theorem tw_542 : (Jvm.Cond.instanceMethod ({ cls := "SameLetters", name := "ring", desc := "(I)I" } : Jvm.MethodName)) ∈ tb := tbI (i := 542) (by decide +kernel) rfl
theorem tw_543 : (Jvm.Cond.selects "SameLetters" ({ cls := "SameLetters", name := "ring", desc := "(I)I" } : Jvm.MethodName) ({ cls := "SameLetters", name := "ring", desc := "(I)I" } : Jvm.MethodName)) ∈ tb := tbI (i := 543) (by decide +kernel) rfl
theorem tw_544 : (Jvm.Cond.code ({ cls := "SameLetters", name := "ring", desc := "(I)I" } : Jvm.MethodName) prog_1_method_20_code (2 : Nat) (Option.some Jvm.ClassFile.FieldType.int)) ∈ tb := tbI (i := 544) (by decide +kernel) rfl
theorem tw_545 : (Jvm.Cond.methodLink "SameLetters" (175 : Nat) ({ cls := "SameLetters$Sayings", name := "stepsToRing", desc := "(I)I" } : Jvm.MethodName)) ∈ tb := tbI (i := 545) (by decide +kernel) rfl
theorem tw_546 : (Jvm.Cond.instanceMethod ({ cls := "SameLetters$Sayings", name := "stepsToRing", desc := "(I)I" } : Jvm.MethodName)) ∈ tb := tbI (i := 546) (by decide +kernel) rfl
theorem tw_547 : (Jvm.Cond.selects "SameLetters$Sayings" ({ cls := "SameLetters$Sayings", name := "stepsToRing", desc := "(I)I" } : Jvm.MethodName) ({ cls := "SameLetters$Sayings", name := "stepsToRing", desc := "(I)I" } : Jvm.MethodName)) ∈ tb := tbI (i := 547) (by decide +kernel) rfl
theorem tw_548 : (Jvm.Cond.code ({ cls := "SameLetters$Sayings", name := "stepsToRing", desc := "(I)I" } : Jvm.MethodName) prog_3_method_19_code (6 : Nat) (Option.some Jvm.ClassFile.FieldType.int)) ∈ tb := tbI (i := 548) (by decide +kernel) rfl
theorem tw_549 : (Jvm.Cond.methodLink "SameLettersLaw" (96 : Nat) ({ cls := "SameLetters", name := "alphabet", desc := "(II)I" } : Jvm.MethodName)) ∈ tb := tbI (i := 549) (by decide +kernel) rfl
theorem tw_550 : (Jvm.Cond.instanceMethod ({ cls := "SameLetters", name := "alphabet", desc := "(II)I" } : Jvm.MethodName)) ∈ tb := tbI (i := 550) (by decide +kernel) rfl
theorem tw_551 : (Jvm.Cond.selects "SameLetters" ({ cls := "SameLetters", name := "alphabet", desc := "(II)I" } : Jvm.MethodName) ({ cls := "SameLetters", name := "alphabet", desc := "(II)I" } : Jvm.MethodName)) ∈ tb := tbI (i := 551) (by decide +kernel) rfl
theorem tw_552 : (Jvm.Cond.code ({ cls := "SameLetters", name := "alphabet", desc := "(II)I" } : Jvm.MethodName) prog_1_method_21_code (4 : Nat) (Option.some Jvm.ClassFile.FieldType.int)) ∈ tb := tbI (i := 552) (by decide +kernel) rfl
theorem tw_553 : (Jvm.Cond.methodLink "SameLetters" (178 : Nat) ({ cls := "SameLetters$Sayings", name := "bestSet", desc := "(I)I" } : Jvm.MethodName)) ∈ tb := tbI (i := 553) (by decide +kernel) rfl
theorem tw_554 : (Jvm.Cond.instanceMethod ({ cls := "SameLetters$Sayings", name := "bestSet", desc := "(I)I" } : Jvm.MethodName)) ∈ tb := tbI (i := 554) (by decide +kernel) rfl
theorem tw_555 : (Jvm.Cond.selects "SameLetters$Sayings" ({ cls := "SameLetters$Sayings", name := "bestSet", desc := "(I)I" } : Jvm.MethodName) ({ cls := "SameLetters$Sayings", name := "bestSet", desc := "(I)I" } : Jvm.MethodName)) ∈ tb := tbI (i := 555) (by decide +kernel) rfl
theorem tw_556 : (Jvm.Cond.code ({ cls := "SameLetters$Sayings", name := "bestSet", desc := "(I)I" } : Jvm.MethodName) prog_3_method_20_code (6 : Nat) (Option.some Jvm.ClassFile.FieldType.int)) ∈ tb := tbI (i := 556) (by decide +kernel) rfl
theorem tw_557 : (Jvm.Cond.methodLink "SameLetters$Sayings" (124 : Nat) ({ cls := "java/lang/Integer", name := "bitCount", desc := "(I)I" } : Jvm.MethodName)) ∈ tb := tbI (i := 557) (by decide +kernel) rfl
theorem tw_558 : (Jvm.Cond.static ({ cls := "java/lang/Integer", name := "bitCount", desc := "(I)I" } : Jvm.MethodName)) ∈ tb := tbI (i := 558) (by decide +kernel) rfl
theorem tw_559 : (Jvm.Cond.code ({ cls := "java/lang/Integer", name := "bitCount", desc := "(I)I" } : Jvm.MethodName) prog_10_method_49_code (1 : Nat) (Option.some Jvm.ClassFile.FieldType.int)) ∈ tb := tbI (i := 559) (by decide +kernel) rfl
theorem tw_560 : (Jvm.Cond.constant "java/lang/Integer" (265 : Nat) (1431655765 : Int32)) ∈ tb := tbI (i := 560) (by decide +kernel) rfl
theorem tw_561 : (Jvm.Cond.constant "java/lang/Integer" (266 : Nat) (858993459 : Int32)) ∈ tb := tbI (i := 561) (by decide +kernel) rfl
theorem tw_562 : (Jvm.Cond.constant "java/lang/Integer" (267 : Nat) (252645135 : Int32)) ∈ tb := tbI (i := 562) (by decide +kernel) rfl
theorem tw_563 : (Jvm.Cond.methodLink "SameLetters$Sayings" (129 : Nat) ({ cls := "SameLetters$Sayings", name := "countWithin", desc := "(I)I" } : Jvm.MethodName)) ∈ tb := tbI (i := 563) (by decide +kernel) rfl
theorem tw_564 : (Jvm.Cond.instanceMethod ({ cls := "SameLetters$Sayings", name := "countWithin", desc := "(I)I" } : Jvm.MethodName)) ∈ tb := tbI (i := 564) (by decide +kernel) rfl
theorem tw_565 : (Jvm.Cond.selects "SameLetters$Sayings" ({ cls := "SameLetters$Sayings", name := "countWithin", desc := "(I)I" } : Jvm.MethodName) ({ cls := "SameLetters$Sayings", name := "countWithin", desc := "(I)I" } : Jvm.MethodName)) ∈ tb := tbI (i := 565) (by decide +kernel) rfl
theorem tw_566 : (Jvm.Cond.code ({ cls := "SameLetters$Sayings", name := "countWithin", desc := "(I)I" } : Jvm.MethodName) prog_3_method_21_code (4 : Nat) (Option.some Jvm.ClassFile.FieldType.int)) ∈ tb := tbI (i := 566) (by decide +kernel) rfl
theorem tw_567 : (Jvm.Cond.methodLink "SameLetters" (181 : Nat) ({ cls := "SameLetters$Sayings", name := "countWithin", desc := "(I)I" } : Jvm.MethodName)) ∈ tb := tbI (i := 567) (by decide +kernel) rfl
theorem tw_568 : (Jvm.Cond.methodLink "SameLettersLaw" (100 : Nat) ({ cls := "SameLetters", name := "asked", desc := "(II)I" } : Jvm.MethodName)) ∈ tb := tbI (i := 568) (by decide +kernel) rfl
theorem tw_569 : (Jvm.Cond.instanceMethod ({ cls := "SameLetters", name := "asked", desc := "(II)I" } : Jvm.MethodName)) ∈ tb := tbI (i := 569) (by decide +kernel) rfl
theorem tw_570 : (Jvm.Cond.selects "SameLetters" ({ cls := "SameLetters", name := "asked", desc := "(II)I" } : Jvm.MethodName) ({ cls := "SameLetters", name := "asked", desc := "(II)I" } : Jvm.MethodName)) ∈ tb := tbI (i := 570) (by decide +kernel) rfl
theorem tw_571 : (Jvm.Cond.code ({ cls := "SameLetters", name := "asked", desc := "(II)I" } : Jvm.MethodName) prog_1_method_22_code (3 : Nat) (Option.some Jvm.ClassFile.FieldType.int)) ∈ tb := tbI (i := 571) (by decide +kernel) rfl
theorem tw_572 : (Jvm.Cond.methodLink "SameLetters" (184 : Nat) ({ cls := "SameLetters$Shape", name := "row", desc := "()I" } : Jvm.MethodName)) ∈ tb := tbI (i := 572) (by decide +kernel) rfl
theorem tw_573 : (Jvm.Cond.methodLink "SameLetters" (187 : Nat) ({ cls := "SameLetters$Sayings", name := "countAsked", desc := "(II)I" } : Jvm.MethodName)) ∈ tb := tbI (i := 573) (by decide +kernel) rfl
theorem tw_574 : (Jvm.Cond.instanceMethod ({ cls := "SameLetters$Sayings", name := "countAsked", desc := "(II)I" } : Jvm.MethodName)) ∈ tb := tbI (i := 574) (by decide +kernel) rfl
theorem tw_575 : (Jvm.Cond.selects "SameLetters$Sayings" ({ cls := "SameLetters$Sayings", name := "countAsked", desc := "(II)I" } : Jvm.MethodName) ({ cls := "SameLetters$Sayings", name := "countAsked", desc := "(II)I" } : Jvm.MethodName)) ∈ tb := tbI (i := 575) (by decide +kernel) rfl
theorem tw_576 : (Jvm.Cond.code ({ cls := "SameLetters$Sayings", name := "countAsked", desc := "(II)I" } : Jvm.MethodName) prog_3_method_22_code (5 : Nat) (Option.some Jvm.ClassFile.FieldType.int)) ∈ tb := tbI (i := 576) (by decide +kernel) rfl
theorem tw_577 : (Jvm.Cond.methodLink "SameLetters$Sayings" (132 : Nat) ({ cls := "SameLetters$Sayings", name := "isAnswer", desc := "(II)Z" } : Jvm.MethodName)) ∈ tb := tbI (i := 577) (by decide +kernel) rfl
theorem tw_578 : (Jvm.Cond.methodLink "SameLettersLaw" (104 : Nat) ({ cls := "SameLetters", name := "rate", desc := "(II)I" } : Jvm.MethodName)) ∈ tb := tbI (i := 578) (by decide +kernel) rfl
theorem tw_579 : (Jvm.Cond.instanceMethod ({ cls := "SameLetters", name := "rate", desc := "(II)I" } : Jvm.MethodName)) ∈ tb := tbI (i := 579) (by decide +kernel) rfl
theorem tw_580 : (Jvm.Cond.selects "SameLetters" ({ cls := "SameLetters", name := "rate", desc := "(II)I" } : Jvm.MethodName) ({ cls := "SameLetters", name := "rate", desc := "(II)I" } : Jvm.MethodName)) ∈ tb := tbI (i := 580) (by decide +kernel) rfl
theorem tw_581 : (Jvm.Cond.code ({ cls := "SameLetters", name := "rate", desc := "(II)I" } : Jvm.MethodName) prog_1_method_23_code (3 : Nat) (Option.some Jvm.ClassFile.FieldType.int)) ∈ tb := tbI (i := 581) (by decide +kernel) rfl
theorem tw_582 : (Jvm.Cond.constant "SameLetters" (190 : Nat) (-1000000 : Int32)) ∈ tb := tbI (i := 582) (by decide +kernel) rfl
theorem tw_583 : (Jvm.Cond.methodLink "SameLetters" (191 : Nat) ({ cls := "SameLetters", name := "rateWord", desc := "(I)I" } : Jvm.MethodName)) ∈ tb := tbI (i := 583) (by decide +kernel) rfl
theorem tw_585 : (Jvm.Cond.instanceMethod ({ cls := "SameLetters", name := "rateWord", desc := "(I)I" } : Jvm.MethodName)) ∈ tb := tbI (i := 585) (by decide +kernel) rfl
theorem tw_586 : (Jvm.Cond.code ({ cls := "SameLetters", name := "rateWord", desc := "(I)I" } : Jvm.MethodName) prog_1_method_31_code (2 : Nat) (Option.some Jvm.ClassFile.FieldType.int)) ∈ tb := tbI (i := 586) (by decide +kernel) rfl
theorem tw_587 : (Jvm.Cond.methodLink "SameLetters" (194 : Nat) ({ cls := "SameLetters", name := "rateVow", desc := "(I)I" } : Jvm.MethodName)) ∈ tb := tbI (i := 587) (by decide +kernel) rfl
theorem tw_589 : (Jvm.Cond.instanceMethod ({ cls := "SameLetters", name := "rateVow", desc := "(I)I" } : Jvm.MethodName)) ∈ tb := tbI (i := 589) (by decide +kernel) rfl
theorem tw_590 : (Jvm.Cond.code ({ cls := "SameLetters", name := "rateVow", desc := "(I)I" } : Jvm.MethodName) prog_1_method_32_code (2 : Nat) (Option.some Jvm.ClassFile.FieldType.int)) ∈ tb := tbI (i := 590) (by decide +kernel) rfl
theorem tw_591 : (Jvm.Cond.constantLong "SameLetters" (213 : Nat) (10 : Int64)) ∈ tb := tbI (i := 591) (by decide +kernel) rfl
theorem tw_592 : (Jvm.Cond.methodLink "SameLetters" (197 : Nat) ({ cls := "SameLetters", name := "rateBill", desc := "(I)I" } : Jvm.MethodName)) ∈ tb := tbI (i := 592) (by decide +kernel) rfl
theorem tw_594 : (Jvm.Cond.instanceMethod ({ cls := "SameLetters", name := "rateBill", desc := "(I)I" } : Jvm.MethodName)) ∈ tb := tbI (i := 594) (by decide +kernel) rfl
theorem tw_595 : (Jvm.Cond.code ({ cls := "SameLetters", name := "rateBill", desc := "(I)I" } : Jvm.MethodName) prog_1_method_33_code (2 : Nat) (Option.some Jvm.ClassFile.FieldType.int)) ∈ tb := tbI (i := 595) (by decide +kernel) rfl
theorem tw_596 : (Jvm.Cond.constantLong "SameLetters" (215 : Nat) (100 : Int64)) ∈ tb := tbI (i := 596) (by decide +kernel) rfl
theorem tw_597 : (Jvm.Cond.methodLink "SameLetters" (200 : Nat) ({ cls := "SameLetters", name := "rateVerse", desc := "(I)I" } : Jvm.MethodName)) ∈ tb := tbI (i := 597) (by decide +kernel) rfl
theorem tw_599 : (Jvm.Cond.instanceMethod ({ cls := "SameLetters", name := "rateVerse", desc := "(I)I" } : Jvm.MethodName)) ∈ tb := tbI (i := 599) (by decide +kernel) rfl
theorem tw_600 : (Jvm.Cond.code ({ cls := "SameLetters", name := "rateVerse", desc := "(I)I" } : Jvm.MethodName) prog_1_method_34_code (2 : Nat) (Option.some Jvm.ClassFile.FieldType.int)) ∈ tb := tbI (i := 600) (by decide +kernel) rfl
theorem tw_601 : (Jvm.Cond.constantLong "SameLetters" (217 : Nat) (1000 : Int64)) ∈ tb := tbI (i := 601) (by decide +kernel) rfl
theorem tw_602 : (Jvm.Cond.methodLink "SameLetters" (203 : Nat) ({ cls := "SameLetters", name := "rateInsult", desc := "(I)I" } : Jvm.MethodName)) ∈ tb := tbI (i := 602) (by decide +kernel) rfl
theorem tw_604 : (Jvm.Cond.instanceMethod ({ cls := "SameLetters", name := "rateInsult", desc := "(I)I" } : Jvm.MethodName)) ∈ tb := tbI (i := 604) (by decide +kernel) rfl
theorem tw_605 : (Jvm.Cond.code ({ cls := "SameLetters", name := "rateInsult", desc := "(I)I" } : Jvm.MethodName) prog_1_method_35_code (2 : Nat) (Option.some Jvm.ClassFile.FieldType.int)) ∈ tb := tbI (i := 605) (by decide +kernel) rfl
theorem tw_606 : (Jvm.Cond.constantLong "SameLetters" (219 : Nat) (10000 : Int64)) ∈ tb := tbI (i := 606) (by decide +kernel) rfl
theorem tw_607 : (Jvm.Cond.methodLink "SameLetters" (206 : Nat) ({ cls := "SameLetters", name := "rateThreat", desc := "(I)I" } : Jvm.MethodName)) ∈ tb := tbI (i := 607) (by decide +kernel) rfl
theorem tw_609 : (Jvm.Cond.instanceMethod ({ cls := "SameLetters", name := "rateThreat", desc := "(I)I" } : Jvm.MethodName)) ∈ tb := tbI (i := 609) (by decide +kernel) rfl
theorem tw_610 : (Jvm.Cond.code ({ cls := "SameLetters", name := "rateThreat", desc := "(I)I" } : Jvm.MethodName) prog_1_method_36_code (2 : Nat) (Option.some Jvm.ClassFile.FieldType.int)) ∈ tb := tbI (i := 610) (by decide +kernel) rfl
theorem tw_611 : (Jvm.Cond.constantLong "SameLetters" (221 : Nat) (100000 : Int64)) ∈ tb := tbI (i := 611) (by decide +kernel) rfl
theorem tw_612 : (Jvm.Cond.methodLink "SameLetters" (223 : Nat) ({ cls := "SameLetters$Post", name := "timesOf", desc := "(I)I" } : Jvm.MethodName)) ∈ tb := tbI (i := 612) (by decide +kernel) rfl
theorem tw_613 : (Jvm.Cond.instanceMethod ({ cls := "SameLetters$Post", name := "timesOf", desc := "(I)I" } : Jvm.MethodName)) ∈ tb := tbI (i := 613) (by decide +kernel) rfl
theorem tw_614 : (Jvm.Cond.selects "SameLetters$Post" ({ cls := "SameLetters$Post", name := "timesOf", desc := "(I)I" } : Jvm.MethodName) ({ cls := "SameLetters$Post", name := "timesOf", desc := "(I)I" } : Jvm.MethodName)) ∈ tb := tbI (i := 614) (by decide +kernel) rfl
theorem tw_615 : (Jvm.Cond.code ({ cls := "SameLetters$Post", name := "timesOf", desc := "(I)I" } : Jvm.MethodName) prog_2_method_3_code (6 : Nat) (Option.some Jvm.ClassFile.FieldType.int)) ∈ tb := tbI (i := 615) (by decide +kernel) rfl
theorem tw_616 : (Jvm.Cond.methodLink "SameLettersLaw" (108 : Nat) ({ cls := "SameLetters", name := "keep", desc := "(I)I" } : Jvm.MethodName)) ∈ tb := tbI (i := 616) (by decide +kernel) rfl
theorem tw_617 : (Jvm.Cond.instanceMethod ({ cls := "SameLetters", name := "keep", desc := "(I)I" } : Jvm.MethodName)) ∈ tb := tbI (i := 617) (by decide +kernel) rfl
theorem tw_618 : (Jvm.Cond.selects "SameLetters" ({ cls := "SameLetters", name := "keep", desc := "(I)I" } : Jvm.MethodName) ({ cls := "SameLetters", name := "keep", desc := "(I)I" } : Jvm.MethodName)) ∈ tb := tbI (i := 618) (by decide +kernel) rfl
theorem tw_619 : (Jvm.Cond.code ({ cls := "SameLetters", name := "keep", desc := "(I)I" } : Jvm.MethodName) prog_1_method_24_code (2 : Nat) (Option.some Jvm.ClassFile.FieldType.int)) ∈ tb := tbI (i := 619) (by decide +kernel) rfl
theorem tw_620 : (Jvm.Cond.methodLink "SameLetters" (209 : Nat) ({ cls := "SameLetters$Post", name := "become", desc := "(LSameLetters$Post;)V" } : Jvm.MethodName)) ∈ tb := tbI (i := 620) (by decide +kernel) rfl
theorem tw_621 : (Jvm.Cond.instanceMethod ({ cls := "SameLetters$Post", name := "become", desc := "(LSameLetters$Post;)V" } : Jvm.MethodName)) ∈ tb := tbI (i := 621) (by decide +kernel) rfl
theorem tw_622 : (Jvm.Cond.selects "SameLetters$Post" ({ cls := "SameLetters$Post", name := "become", desc := "(LSameLetters$Post;)V" } : Jvm.MethodName) ({ cls := "SameLetters$Post", name := "become", desc := "(LSameLetters$Post;)V" } : Jvm.MethodName)) ∈ tb := tbI (i := 622) (by decide +kernel) rfl
theorem tw_623 : (Jvm.Cond.code ({ cls := "SameLetters$Post", name := "become", desc := "(LSameLetters$Post;)V" } : Jvm.MethodName) prog_2_method_2_code (3 : Nat) (Option.none : Option Jvm.ClassFile.FieldType)) ∈ tb := tbI (i := 623) (by decide +kernel) rfl
theorem tw_624 : (Jvm.Cond.methodLink "SameLettersLaw" (112 : Nat) ({ cls := "SameLetters", name := "back", desc := "(I)I" } : Jvm.MethodName)) ∈ tb := tbI (i := 624) (by decide +kernel) rfl
theorem tw_625 : (Jvm.Cond.instanceMethod ({ cls := "SameLetters", name := "back", desc := "(I)I" } : Jvm.MethodName)) ∈ tb := tbI (i := 625) (by decide +kernel) rfl
theorem tw_626 : (Jvm.Cond.selects "SameLetters" ({ cls := "SameLetters", name := "back", desc := "(I)I" } : Jvm.MethodName) ({ cls := "SameLetters", name := "back", desc := "(I)I" } : Jvm.MethodName)) ∈ tb := tbI (i := 626) (by decide +kernel) rfl
theorem tw_627 : (Jvm.Cond.code ({ cls := "SameLetters", name := "back", desc := "(I)I" } : Jvm.MethodName) prog_1_method_25_code (2 : Nat) (Option.some Jvm.ClassFile.FieldType.int)) ∈ tb := tbI (i := 627) (by decide +kernel) rfl
theorem tw_628 : (Jvm.Cond.methodLink "SameLettersLaw" (116 : Nat) ({ cls := "SameLetters", name := "count", desc := "(I)I" } : Jvm.MethodName)) ∈ tb := tbI (i := 628) (by decide +kernel) rfl
theorem tw_629 : (Jvm.Cond.instanceMethod ({ cls := "SameLetters", name := "count", desc := "(I)I" } : Jvm.MethodName)) ∈ tb := tbI (i := 629) (by decide +kernel) rfl
theorem tw_630 : (Jvm.Cond.selects "SameLetters" ({ cls := "SameLetters", name := "count", desc := "(I)I" } : Jvm.MethodName) ({ cls := "SameLetters", name := "count", desc := "(I)I" } : Jvm.MethodName)) ∈ tb := tbI (i := 630) (by decide +kernel) rfl
theorem tw_631 : (Jvm.Cond.code ({ cls := "SameLetters", name := "count", desc := "(I)I" } : Jvm.MethodName) prog_1_method_26_code (2 : Nat) (Option.some Jvm.ClassFile.FieldType.int)) ∈ tb := tbI (i := 631) (by decide +kernel) rfl
theorem tw_632 : (Jvm.Cond.methodLink "SameLettersLaw" (120 : Nat) ({ cls := "SameLetters", name := "trace", desc := "()J" } : Jvm.MethodName)) ∈ tb := tbI (i := 632) (by decide +kernel) rfl
theorem tw_633 : (Jvm.Cond.instanceMethod ({ cls := "SameLetters", name := "trace", desc := "()J" } : Jvm.MethodName)) ∈ tb := tbI (i := 633) (by decide +kernel) rfl
theorem tw_634 : (Jvm.Cond.selects "SameLetters" ({ cls := "SameLetters", name := "trace", desc := "()J" } : Jvm.MethodName) ({ cls := "SameLetters", name := "trace", desc := "()J" } : Jvm.MethodName)) ∈ tb := tbI (i := 634) (by decide +kernel) rfl
theorem tw_635 : (Jvm.Cond.code ({ cls := "SameLetters", name := "trace", desc := "()J" } : Jvm.MethodName) prog_1_method_27_code (1 : Nat) (Option.some Jvm.ClassFile.FieldType.long)) ∈ tb := tbI (i := 635) (by decide +kernel) rfl
theorem tw_636 : (Jvm.Cond.classLink "SameLettersLaw" (10 : Nat) "SameLettersModel") ∈ tb := tbI (i := 636) (by decide +kernel) rfl
theorem tw_637 : (Jvm.Cond.instantiable "SameLettersModel" (18 : Nat)) ∈ tb := tbI (i := 637) (by decide +kernel) rfl
theorem tw_638 : (Jvm.Cond.methodLink "SameLettersLaw" (12 : Nat) ({ cls := "SameLettersModel", name := "<init>", desc := "()V" } : Jvm.MethodName)) ∈ tb := tbI (i := 638) (by decide +kernel) rfl
theorem tw_639 : (Jvm.Cond.instanceMethod ({ cls := "SameLettersModel", name := "<init>", desc := "()V" } : Jvm.MethodName)) ∈ tb := tbI (i := 639) (by decide +kernel) rfl
theorem tw_640 : (Jvm.Cond.code ({ cls := "SameLettersModel", name := "<init>", desc := "()V" } : Jvm.MethodName) prog_9_method_1_code (1 : Nat) (Option.none : Option Jvm.ClassFile.FieldType)) ∈ tb := tbI (i := 640) (by decide +kernel) rfl
theorem tw_641 : (Jvm.Cond.methodLink "SameLettersModel" (1 : Nat) ({ cls := "java/lang/Object", name := "<init>", desc := "()V" } : Jvm.MethodName)) ∈ tb := tbI (i := 641) (by decide +kernel) rfl
theorem tw_642 : (Jvm.Cond.methodLink "SameLettersModel" (44 : Nat) ({ cls := "SameLettersModel", name := "lists", desc := "()V" } : Jvm.MethodName)) ∈ tb := tbI (i := 642) (by decide +kernel) rfl
theorem tw_644 : (Jvm.Cond.instanceMethod ({ cls := "SameLettersModel", name := "lists", desc := "()V" } : Jvm.MethodName)) ∈ tb := tbI (i := 644) (by decide +kernel) rfl
theorem tw_645 : (Jvm.Cond.code ({ cls := "SameLettersModel", name := "lists", desc := "()V" } : Jvm.MethodName) prog_9_method_23_code (3 : Nat) (Option.none : Option Jvm.ClassFile.FieldType)) ∈ tb := tbI (i := 645) (by decide +kernel) rfl
theorem tw_646 : (Jvm.Cond.methodLink "SameLettersModel" (126 : Nat) ({ cls := "SameLettersModel", name := "isSaid", desc := "(I)Z" } : Jvm.MethodName)) ∈ tb := tbI (i := 646) (by decide +kernel) rfl
theorem tw_648 : (Jvm.Cond.instanceMethod ({ cls := "SameLettersModel", name := "isSaid", desc := "(I)Z" } : Jvm.MethodName)) ∈ tb := tbI (i := 648) (by decide +kernel) rfl
theorem tw_649 : (Jvm.Cond.code ({ cls := "SameLettersModel", name := "isSaid", desc := "(I)Z" } : Jvm.MethodName) prog_9_method_22_code (5 : Nat) (Option.some Jvm.ClassFile.FieldType.boolean)) ∈ tb := tbI (i := 649) (by decide +kernel) rfl
theorem tw_650 : (Jvm.Cond.methodLink "SameLettersModel" (110 : Nat) ({ cls := "SameLettersModel", name := "length", desc := "(I)I" } : Jvm.MethodName)) ∈ tb := tbI (i := 650) (by decide +kernel) rfl
theorem tw_651 : (Jvm.Cond.static ({ cls := "SameLettersModel", name := "length", desc := "(I)I" } : Jvm.MethodName)) ∈ tb := tbI (i := 651) (by decide +kernel) rfl
theorem tw_652 : (Jvm.Cond.code ({ cls := "SameLettersModel", name := "length", desc := "(I)I" } : Jvm.MethodName) prog_9_method_19_code (1 : Nat) (Option.some Jvm.ClassFile.FieldType.int)) ∈ tb := tbI (i := 652) (by decide +kernel) rfl
theorem tw_653 : (Jvm.Cond.methodLink "SameLettersModel" (113 : Nat) ({ cls := "SameLettersModel", name := "wordOf", desc := "(II)I" } : Jvm.MethodName)) ∈ tb := tbI (i := 653) (by decide +kernel) rfl
theorem tw_654 : (Jvm.Cond.static ({ cls := "SameLettersModel", name := "wordOf", desc := "(II)I" } : Jvm.MethodName)) ∈ tb := tbI (i := 654) (by decide +kernel) rfl
theorem tw_655 : (Jvm.Cond.code ({ cls := "SameLettersModel", name := "wordOf", desc := "(II)I" } : Jvm.MethodName) prog_9_method_20_code (4 : Nat) (Option.some Jvm.ClassFile.FieldType.int)) ∈ tb := tbI (i := 655) (by decide +kernel) rfl
theorem tw_656 : (Jvm.Cond.methodLink "SameLettersModel" (117 : Nat) ({ cls := "SameLettersModel", name := "isWord", desc := "(I)Z" } : Jvm.MethodName)) ∈ tb := tbI (i := 656) (by decide +kernel) rfl
theorem tw_658 : (Jvm.Cond.instanceMethod ({ cls := "SameLettersModel", name := "isWord", desc := "(I)Z" } : Jvm.MethodName)) ∈ tb := tbI (i := 658) (by decide +kernel) rfl
theorem tw_659 : (Jvm.Cond.code ({ cls := "SameLettersModel", name := "isWord", desc := "(I)Z" } : Jvm.MethodName) prog_9_method_4_code (2 : Nat) (Option.some Jvm.ClassFile.FieldType.boolean)) ∈ tb := tbI (i := 659) (by decide +kernel) rfl
theorem tw_660 : (Jvm.Cond.methodLink "SameLettersModel" (47 : Nat) ({ cls := "SameLettersModel", name := "in", desc := "(III)Z" } : Jvm.MethodName)) ∈ tb := tbI (i := 660) (by decide +kernel) rfl
theorem tw_661 : (Jvm.Cond.static ({ cls := "SameLettersModel", name := "in", desc := "(III)Z" } : Jvm.MethodName)) ∈ tb := tbI (i := 661) (by decide +kernel) rfl
theorem tw_662 : (Jvm.Cond.code ({ cls := "SameLettersModel", name := "in", desc := "(III)Z" } : Jvm.MethodName) prog_9_method_3_code (3 : Nat) (Option.some Jvm.ClassFile.FieldType.boolean)) ∈ tb := tbI (i := 662) (by decide +kernel) rfl
theorem tw_663 : (Jvm.Cond.methodLink "SameLettersModel" (120 : Nat) ({ cls := "SameLettersModel", name := "isOf", desc := "(II)Z" } : Jvm.MethodName)) ∈ tb := tbI (i := 663) (by decide +kernel) rfl
theorem tw_665 : (Jvm.Cond.instanceMethod ({ cls := "SameLettersModel", name := "isOf", desc := "(II)Z" } : Jvm.MethodName)) ∈ tb := tbI (i := 665) (by decide +kernel) rfl
theorem tw_666 : (Jvm.Cond.code ({ cls := "SameLettersModel", name := "isOf", desc := "(II)Z" } : Jvm.MethodName) prog_9_method_21_code (5 : Nat) (Option.some Jvm.ClassFile.FieldType.boolean)) ∈ tb := tbI (i := 666) (by decide +kernel) rfl
theorem tw_667 : (Jvm.Cond.methodLink "SameLettersModel" (129 : Nat) ({ cls := "SameLettersModel", name := "adds", desc := "(I)V" } : Jvm.MethodName)) ∈ tb := tbI (i := 667) (by decide +kernel) rfl
theorem tw_669 : (Jvm.Cond.instanceMethod ({ cls := "SameLettersModel", name := "adds", desc := "(I)V" } : Jvm.MethodName)) ∈ tb := tbI (i := 669) (by decide +kernel) rfl
theorem tw_670 : (Jvm.Cond.code ({ cls := "SameLettersModel", name := "adds", desc := "(I)V" } : Jvm.MethodName) prog_9_method_24_code (3 : Nat) (Option.none : Option Jvm.ClassFile.FieldType)) ∈ tb := tbI (i := 670) (by decide +kernel) rfl
theorem tw_671 : (Jvm.Cond.fieldLink "SameLettersModel" (161 : Nat) "SameLettersModel" "trace" "J") ∈ tb := tbI (i := 671) (by decide +kernel) rfl
theorem tw_672 : (Jvm.Cond.fieldLink "SameLettersModel" (7 : Nat) "SameLettersModel" "text" "[I") ∈ tb := tbI (i := 672) (by decide +kernel) rfl
theorem tw_673 : (Jvm.Cond.fieldLink "SameLettersModel" (51 : Nat) "SameLettersModel" "typed" "I") ∈ tb := tbI (i := 673) (by decide +kernel) rfl
theorem tw_674 : (Jvm.Cond.fieldLink "SameLettersModel" (13 : Nat) "SameLettersModel" "told" "[I") ∈ tb := tbI (i := 674) (by decide +kernel) rfl
theorem tw_675 : (Jvm.Cond.fieldLink "SameLettersModel" (16 : Nat) "SameLettersModel" "draft" "[I") ∈ tb := tbI (i := 675) (by decide +kernel) rfl
theorem tw_676 : (Jvm.Cond.fieldLink "SameLettersModel" (19 : Nat) "SameLettersModel" "s" "[I") ∈ tb := tbI (i := 676) (by decide +kernel) rfl
theorem tw_677 : (Jvm.Cond.fieldLink "SameLettersModel" (22 : Nat) "SameLettersModel" "images" "[I") ∈ tb := tbI (i := 677) (by decide +kernel) rfl
theorem tw_678 : (Jvm.Cond.fieldLink "SameLettersModel" (25 : Nat) "SameLettersModel" "kept" "[Z") ∈ tb := tbI (i := 678) (by decide +kernel) rfl
theorem tw_679 : (Jvm.Cond.fieldLink "SameLettersModel" (29 : Nat) "SameLettersModel" "letters" "[I") ∈ tb := tbI (i := 679) (by decide +kernel) rfl
theorem tw_680 : (Jvm.Cond.fieldLink "SameLettersModel" (32 : Nat) "SameLettersModel" "counts" "[I") ∈ tb := tbI (i := 680) (by decide +kernel) rfl
theorem tw_681 : (Jvm.Cond.fieldLink "SameLettersModel" (35 : Nat) "SameLettersModel" "owns" "[I") ∈ tb := tbI (i := 681) (by decide +kernel) rfl
theorem tw_682 : (Jvm.Cond.fieldLink "SameLettersModel" (38 : Nat) "SameLettersModel" "others" "[I") ∈ tb := tbI (i := 682) (by decide +kernel) rfl
theorem tw_683 : (Jvm.Cond.fieldLink "SameLettersModel" (123 : Nat) "SameLettersModel" "many" "I") ∈ tb := tbI (i := 683) (by decide +kernel) rfl
theorem tw_684 : (Jvm.Cond.fieldLink "SameLettersModel" (57 : Nat) "SameLettersModel" "at" "I") ∈ tb := tbI (i := 684) (by decide +kernel) rfl
theorem tw_685 : (Jvm.Cond.fieldLink "SameLettersModel" (70 : Nat) "SameLettersModel" "sort" "I") ∈ tb := tbI (i := 685) (by decide +kernel) rfl
theorem tw_686 : (Jvm.Cond.fieldLink "SameLettersModel" (64 : Nat) "SameLettersModel" "start" "I") ∈ tb := tbI (i := 686) (by decide +kernel) rfl
theorem tw_687 : (Jvm.Cond.fieldLink "SameLettersModel" (73 : Nat) "SameLettersModel" "size" "I") ∈ tb := tbI (i := 687) (by decide +kernel) rfl
theorem tw_688 : (Jvm.Cond.fieldLink "SameLettersModel" (41 : Nat) "SameLettersModel" "row" "[I") ∈ tb := tbI (i := 688) (by decide +kernel) rfl
theorem tw_726 : (Jvm.Cond.methodLink "SameLettersLaw" (19 : Nat) ({ cls := "SameLettersModel", name := "type", desc := "(JI)I" } : Jvm.MethodName)) ∈ tb := tbI (i := 726) (by decide +kernel) rfl
theorem tw_727 : (Jvm.Cond.instanceMethod ({ cls := "SameLettersModel", name := "type", desc := "(JI)I" } : Jvm.MethodName)) ∈ tb := tbI (i := 727) (by decide +kernel) rfl
theorem tw_728 : (Jvm.Cond.selects "SameLettersModel" ({ cls := "SameLettersModel", name := "type", desc := "(JI)I" } : Jvm.MethodName) ({ cls := "SameLettersModel", name := "type", desc := "(JI)I" } : Jvm.MethodName)) ∈ tb := tbI (i := 728) (by decide +kernel) rfl
theorem tw_729 : (Jvm.Cond.code ({ cls := "SameLettersModel", name := "type", desc := "(JI)I" } : Jvm.MethodName) prog_9_method_6_code (5 : Nat) (Option.some Jvm.ClassFile.FieldType.int)) ∈ tb := tbI (i := 729) (by decide +kernel) rfl
theorem tw_730 : (Jvm.Cond.constantLong "SameLettersModel" (55 : Nat) (255 : Int64)) ∈ tb := tbI (i := 730) (by decide +kernel) rfl
theorem tw_731 : (Jvm.Cond.methodLink "SameLettersLaw" (24 : Nat) ({ cls := "SameLettersModel", name := "clear", desc := "()I" } : Jvm.MethodName)) ∈ tb := tbI (i := 731) (by decide +kernel) rfl
theorem tw_732 : (Jvm.Cond.instanceMethod ({ cls := "SameLettersModel", name := "clear", desc := "()I" } : Jvm.MethodName)) ∈ tb := tbI (i := 732) (by decide +kernel) rfl
theorem tw_733 : (Jvm.Cond.selects "SameLettersModel" ({ cls := "SameLettersModel", name := "clear", desc := "()I" } : Jvm.MethodName) ({ cls := "SameLettersModel", name := "clear", desc := "()I" } : Jvm.MethodName)) ∈ tb := tbI (i := 733) (by decide +kernel) rfl
theorem tw_734 : (Jvm.Cond.code ({ cls := "SameLettersModel", name := "clear", desc := "()I" } : Jvm.MethodName) prog_9_method_7_code (2 : Nat) (Option.some Jvm.ClassFile.FieldType.int)) ∈ tb := tbI (i := 734) (by decide +kernel) rfl
theorem tw_735 : (Jvm.Cond.methodLink "SameLettersLaw" (28 : Nat) ({ cls := "SameLettersModel", name := "tongue", desc := "()I" } : Jvm.MethodName)) ∈ tb := tbI (i := 735) (by decide +kernel) rfl
theorem tw_736 : (Jvm.Cond.instanceMethod ({ cls := "SameLettersModel", name := "tongue", desc := "()I" } : Jvm.MethodName)) ∈ tb := tbI (i := 736) (by decide +kernel) rfl
theorem tw_737 : (Jvm.Cond.selects "SameLettersModel" ({ cls := "SameLettersModel", name := "tongue", desc := "()I" } : Jvm.MethodName) ({ cls := "SameLettersModel", name := "tongue", desc := "()I" } : Jvm.MethodName)) ∈ tb := tbI (i := 737) (by decide +kernel) rfl
theorem tw_738 : (Jvm.Cond.code ({ cls := "SameLettersModel", name := "tongue", desc := "()I" } : Jvm.MethodName) prog_9_method_18_code (2 : Nat) (Option.some Jvm.ClassFile.FieldType.int)) ∈ tb := tbI (i := 738) (by decide +kernel) rfl
theorem tw_739 : (Jvm.Cond.methodLink "SameLettersModel" (107 : Nat) ({ cls := "SameLettersModel", name := "reads", desc := "()Z" } : Jvm.MethodName)) ∈ tb := tbI (i := 739) (by decide +kernel) rfl
theorem tw_741 : (Jvm.Cond.instanceMethod ({ cls := "SameLettersModel", name := "reads", desc := "()Z" } : Jvm.MethodName)) ∈ tb := tbI (i := 741) (by decide +kernel) rfl
theorem tw_742 : (Jvm.Cond.code ({ cls := "SameLettersModel", name := "reads", desc := "()Z" } : Jvm.MethodName) prog_9_method_17_code (3 : Nat) (Option.some Jvm.ClassFile.FieldType.boolean)) ∈ tb := tbI (i := 742) (by decide +kernel) rfl
theorem tw_743 : (Jvm.Cond.methodLink "SameLettersModel" (82 : Nat) ({ cls := "SameLettersModel", name := "token", desc := "()V" } : Jvm.MethodName)) ∈ tb := tbI (i := 743) (by decide +kernel) rfl
theorem tw_745 : (Jvm.Cond.instanceMethod ({ cls := "SameLettersModel", name := "token", desc := "()V" } : Jvm.MethodName)) ∈ tb := tbI (i := 745) (by decide +kernel) rfl
theorem tw_746 : (Jvm.Cond.code ({ cls := "SameLettersModel", name := "token", desc := "()V" } : Jvm.MethodName) prog_9_method_10_code (1 : Nat) (Option.none : Option Jvm.ClassFile.FieldType)) ∈ tb := tbI (i := 746) (by decide +kernel) rfl
theorem tw_747 : (Jvm.Cond.methodLink "SameLettersModel" (60 : Nat) ({ cls := "SameLettersModel", name := "byteAt", desc := "(I)I" } : Jvm.MethodName)) ∈ tb := tbI (i := 747) (by decide +kernel) rfl
theorem tw_749 : (Jvm.Cond.instanceMethod ({ cls := "SameLettersModel", name := "byteAt", desc := "(I)I" } : Jvm.MethodName)) ∈ tb := tbI (i := 749) (by decide +kernel) rfl
theorem tw_750 : (Jvm.Cond.code ({ cls := "SameLettersModel", name := "byteAt", desc := "(I)I" } : Jvm.MethodName) prog_9_method_8_code (2 : Nat) (Option.some Jvm.ClassFile.FieldType.int)) ∈ tb := tbI (i := 750) (by decide +kernel) rfl
theorem tw_751 : (Jvm.Cond.methodLink "SameLettersModel" (67 : Nat) ({ cls := "SameLettersModel", name := "sortOf", desc := "(I)I" } : Jvm.MethodName)) ∈ tb := tbI (i := 751) (by decide +kernel) rfl
theorem tw_752 : (Jvm.Cond.static ({ cls := "SameLettersModel", name := "sortOf", desc := "(I)I" } : Jvm.MethodName)) ∈ tb := tbI (i := 752) (by decide +kernel) rfl
theorem tw_753 : (Jvm.Cond.code ({ cls := "SameLettersModel", name := "sortOf", desc := "(I)I" } : Jvm.MethodName) prog_9_method_9_code (1 : Nat) (Option.some Jvm.ClassFile.FieldType.int)) ∈ tb := tbI (i := 753) (by decide +kernel) rfl
theorem tw_754 : (Jvm.Cond.methodLink "SameLettersModel" (96 : Nat) ({ cls := "SameLettersModel", name := "verb", desc := "()I" } : Jvm.MethodName)) ∈ tb := tbI (i := 754) (by decide +kernel) rfl
theorem tw_756 : (Jvm.Cond.instanceMethod ({ cls := "SameLettersModel", name := "verb", desc := "()I" } : Jvm.MethodName)) ∈ tb := tbI (i := 756) (by decide +kernel) rfl
theorem tw_757 : (Jvm.Cond.code ({ cls := "SameLettersModel", name := "verb", desc := "()I" } : Jvm.MethodName) prog_9_method_11_code (4 : Nat) (Option.some Jvm.ClassFile.FieldType.int)) ∈ tb := tbI (i := 757) (by decide +kernel) rfl
theorem tw_758 : (Jvm.Cond.constantLong "SameLettersModel" (76 : Nat) (256 : Int64)) ∈ tb := tbI (i := 758) (by decide +kernel) rfl
theorem tw_759 : (Jvm.Cond.constantLong "SameLettersModel" (78 : Nat) (2003792484 : Int64)) ∈ tb := tbI (i := 759) (by decide +kernel) rfl
theorem tw_760 : (Jvm.Cond.constantLong "SameLettersModel" (80 : Nat) (495672455269 : Int64)) ∈ tb := tbI (i := 760) (by decide +kernel) rfl
theorem tw_761 : (Jvm.Cond.methodLink "SameLettersModel" (100 : Nat) ({ cls := "SameLettersModel", name := "readsWord", desc := "()Z" } : Jvm.MethodName)) ∈ tb := tbI (i := 761) (by decide +kernel) rfl
theorem tw_763 : (Jvm.Cond.instanceMethod ({ cls := "SameLettersModel", name := "readsWord", desc := "()Z" } : Jvm.MethodName)) ∈ tb := tbI (i := 763) (by decide +kernel) rfl
theorem tw_764 : (Jvm.Cond.code ({ cls := "SameLettersModel", name := "readsWord", desc := "()Z" } : Jvm.MethodName) prog_9_method_15_code (2 : Nat) (Option.some Jvm.ClassFile.FieldType.boolean)) ∈ tb := tbI (i := 764) (by decide +kernel) rfl
theorem tw_765 : (Jvm.Cond.methodLink "SameLettersModel" (88 : Nat) ({ cls := "SameLettersModel", name := "readsSigns", desc := "(I)Z" } : Jvm.MethodName)) ∈ tb := tbI (i := 765) (by decide +kernel) rfl
theorem tw_767 : (Jvm.Cond.instanceMethod ({ cls := "SameLettersModel", name := "readsSigns", desc := "(I)Z" } : Jvm.MethodName)) ∈ tb := tbI (i := 767) (by decide +kernel) rfl
theorem tw_768 : (Jvm.Cond.code ({ cls := "SameLettersModel", name := "readsSigns", desc := "(I)Z" } : Jvm.MethodName) prog_9_method_13_code (4 : Nat) (Option.some Jvm.ClassFile.FieldType.boolean)) ∈ tb := tbI (i := 768) (by decide +kernel) rfl
theorem tw_769 : (Jvm.Cond.methodLink "SameLettersModel" (92 : Nat) ({ cls := "SameLettersModel", name := "readsNumber", desc := "(II)Z" } : Jvm.MethodName)) ∈ tb := tbI (i := 769) (by decide +kernel) rfl
theorem tw_771 : (Jvm.Cond.instanceMethod ({ cls := "SameLettersModel", name := "readsNumber", desc := "(II)Z" } : Jvm.MethodName)) ∈ tb := tbI (i := 771) (by decide +kernel) rfl
theorem tw_772 : (Jvm.Cond.code ({ cls := "SameLettersModel", name := "readsNumber", desc := "(II)Z" } : Jvm.MethodName) prog_9_method_14_code (4 : Nat) (Option.some Jvm.ClassFile.FieldType.boolean)) ∈ tb := tbI (i := 772) (by decide +kernel) rfl
theorem tw_773 : (Jvm.Cond.methodLink "SameLettersModel" (85 : Nat) ({ cls := "SameLettersModel", name := "figure", desc := "(I)I" } : Jvm.MethodName)) ∈ tb := tbI (i := 773) (by decide +kernel) rfl
theorem tw_775 : (Jvm.Cond.instanceMethod ({ cls := "SameLettersModel", name := "figure", desc := "(I)I" } : Jvm.MethodName)) ∈ tb := tbI (i := 775) (by decide +kernel) rfl
theorem tw_776 : (Jvm.Cond.code ({ cls := "SameLettersModel", name := "figure", desc := "(I)I" } : Jvm.MethodName) prog_9_method_12_code (3 : Nat) (Option.some Jvm.ClassFile.FieldType.int)) ∈ tb := tbI (i := 776) (by decide +kernel) rfl
theorem tw_777 : (Jvm.Cond.methodLink "SameLettersModel" (104 : Nat) ({ cls := "SameLettersModel", name := "readsShape", desc := "()Z" } : Jvm.MethodName)) ∈ tb := tbI (i := 777) (by decide +kernel) rfl
theorem tw_779 : (Jvm.Cond.instanceMethod ({ cls := "SameLettersModel", name := "readsShape", desc := "()Z" } : Jvm.MethodName)) ∈ tb := tbI (i := 779) (by decide +kernel) rfl
theorem tw_780 : (Jvm.Cond.code ({ cls := "SameLettersModel", name := "readsShape", desc := "()Z" } : Jvm.MethodName) prog_9_method_16_code (4 : Nat) (Option.some Jvm.ClassFile.FieldType.boolean)) ∈ tb := tbI (i := 780) (by decide +kernel) rfl
theorem tw_781 : (Jvm.Cond.methodLink "SameLettersLaw" (33 : Nat) ({ cls := "SameLettersModel", name := "word", desc := "(II)I" } : Jvm.MethodName)) ∈ tb := tbI (i := 781) (by decide +kernel) rfl
theorem tw_782 : (Jvm.Cond.instanceMethod ({ cls := "SameLettersModel", name := "word", desc := "(II)I" } : Jvm.MethodName)) ∈ tb := tbI (i := 782) (by decide +kernel) rfl
theorem tw_783 : (Jvm.Cond.selects "SameLettersModel" ({ cls := "SameLettersModel", name := "word", desc := "(II)I" } : Jvm.MethodName) ({ cls := "SameLettersModel", name := "word", desc := "(II)I" } : Jvm.MethodName)) ∈ tb := tbI (i := 783) (by decide +kernel) rfl
theorem tw_784 : (Jvm.Cond.code ({ cls := "SameLettersModel", name := "word", desc := "(II)I" } : Jvm.MethodName) prog_9_method_27_code (3 : Nat) (Option.some Jvm.ClassFile.FieldType.int)) ∈ tb := tbI (i := 784) (by decide +kernel) rfl
theorem tw_785 : (Jvm.Cond.methodLink "SameLettersLaw" (37 : Nat) ({ cls := "SameLettersModel", name := "spell", desc := "(II)I" } : Jvm.MethodName)) ∈ tb := tbI (i := 785) (by decide +kernel) rfl
theorem tw_786 : (Jvm.Cond.instanceMethod ({ cls := "SameLettersModel", name := "spell", desc := "(II)I" } : Jvm.MethodName)) ∈ tb := tbI (i := 786) (by decide +kernel) rfl
theorem tw_787 : (Jvm.Cond.selects "SameLettersModel" ({ cls := "SameLettersModel", name := "spell", desc := "(II)I" } : Jvm.MethodName) ({ cls := "SameLettersModel", name := "spell", desc := "(II)I" } : Jvm.MethodName)) ∈ tb := tbI (i := 787) (by decide +kernel) rfl
theorem tw_788 : (Jvm.Cond.code ({ cls := "SameLettersModel", name := "spell", desc := "(II)I" } : Jvm.MethodName) prog_9_method_28_code (3 : Nat) (Option.some Jvm.ClassFile.FieldType.int)) ∈ tb := tbI (i := 788) (by decide +kernel) rfl
theorem tw_789 : (Jvm.Cond.methodLink "SameLettersLaw" (41 : Nat) ({ cls := "SameLettersModel", name := "shape", desc := "(II)I" } : Jvm.MethodName)) ∈ tb := tbI (i := 789) (by decide +kernel) rfl
theorem tw_790 : (Jvm.Cond.instanceMethod ({ cls := "SameLettersModel", name := "shape", desc := "(II)I" } : Jvm.MethodName)) ∈ tb := tbI (i := 790) (by decide +kernel) rfl
theorem tw_791 : (Jvm.Cond.selects "SameLettersModel" ({ cls := "SameLettersModel", name := "shape", desc := "(II)I" } : Jvm.MethodName) ({ cls := "SameLettersModel", name := "shape", desc := "(II)I" } : Jvm.MethodName)) ∈ tb := tbI (i := 791) (by decide +kernel) rfl
theorem tw_792 : (Jvm.Cond.code ({ cls := "SameLettersModel", name := "shape", desc := "(II)I" } : Jvm.MethodName) prog_9_method_29_code (3 : Nat) (Option.some Jvm.ClassFile.FieldType.int)) ∈ tb := tbI (i := 792) (by decide +kernel) rfl
theorem tw_793 : (Jvm.Cond.methodLink "SameLettersModel" (133 : Nat) ({ cls := "SameLettersModel", name := "isShape", desc := "(I)Z" } : Jvm.MethodName)) ∈ tb := tbI (i := 793) (by decide +kernel) rfl
theorem tw_795 : (Jvm.Cond.instanceMethod ({ cls := "SameLettersModel", name := "isShape", desc := "(I)Z" } : Jvm.MethodName)) ∈ tb := tbI (i := 795) (by decide +kernel) rfl
theorem tw_796 : (Jvm.Cond.code ({ cls := "SameLettersModel", name := "isShape", desc := "(I)Z" } : Jvm.MethodName) prog_9_method_5_code (2 : Nat) (Option.some Jvm.ClassFile.FieldType.boolean)) ∈ tb := tbI (i := 796) (by decide +kernel) rfl
theorem tw_797 : (Jvm.Cond.methodLink "SameLettersLaw" (45 : Nat) ({ cls := "SameLettersModel", name := "letter", desc := "(II)I" } : Jvm.MethodName)) ∈ tb := tbI (i := 797) (by decide +kernel) rfl
theorem tw_798 : (Jvm.Cond.instanceMethod ({ cls := "SameLettersModel", name := "letter", desc := "(II)I" } : Jvm.MethodName)) ∈ tb := tbI (i := 798) (by decide +kernel) rfl
theorem tw_799 : (Jvm.Cond.selects "SameLettersModel" ({ cls := "SameLettersModel", name := "letter", desc := "(II)I" } : Jvm.MethodName) ({ cls := "SameLettersModel", name := "letter", desc := "(II)I" } : Jvm.MethodName)) ∈ tb := tbI (i := 799) (by decide +kernel) rfl
theorem tw_800 : (Jvm.Cond.code ({ cls := "SameLettersModel", name := "letter", desc := "(II)I" } : Jvm.MethodName) prog_9_method_30_code (6 : Nat) (Option.some Jvm.ClassFile.FieldType.int)) ∈ tb := tbI (i := 800) (by decide +kernel) rfl
theorem tw_801 : (Jvm.Cond.methodLink "SameLettersModel" (136 : Nat) ({ cls := "SameLettersModel", name := "placeOf", desc := "(I)I" } : Jvm.MethodName)) ∈ tb := tbI (i := 801) (by decide +kernel) rfl
theorem tw_803 : (Jvm.Cond.instanceMethod ({ cls := "SameLettersModel", name := "placeOf", desc := "(I)I" } : Jvm.MethodName)) ∈ tb := tbI (i := 803) (by decide +kernel) rfl
theorem tw_804 : (Jvm.Cond.code ({ cls := "SameLettersModel", name := "placeOf", desc := "(I)I" } : Jvm.MethodName) prog_9_method_25_code (4 : Nat) (Option.some Jvm.ClassFile.FieldType.int)) ∈ tb := tbI (i := 804) (by decide +kernel) rfl
theorem tw_805 : (Jvm.Cond.methodLink "SameLettersModel" (139 : Nat) ({ cls := "SameLettersModel", name := "countOf", desc := "(II)I" } : Jvm.MethodName)) ∈ tb := tbI (i := 805) (by decide +kernel) rfl
theorem tw_806 : (Jvm.Cond.static ({ cls := "SameLettersModel", name := "countOf", desc := "(II)I" } : Jvm.MethodName)) ∈ tb := tbI (i := 806) (by decide +kernel) rfl
theorem tw_807 : (Jvm.Cond.code ({ cls := "SameLettersModel", name := "countOf", desc := "(II)I" } : Jvm.MethodName) prog_9_method_26_code (2 : Nat) (Option.some Jvm.ClassFile.FieldType.int)) ∈ tb := tbI (i := 807) (by decide +kernel) rfl
theorem tw_808 : (Jvm.Cond.methodLink "SameLettersLaw" (49 : Nat) ({ cls := "SameLettersModel", name := "has", desc := "(II)I" } : Jvm.MethodName)) ∈ tb := tbI (i := 808) (by decide +kernel) rfl
theorem tw_809 : (Jvm.Cond.instanceMethod ({ cls := "SameLettersModel", name := "has", desc := "(II)I" } : Jvm.MethodName)) ∈ tb := tbI (i := 809) (by decide +kernel) rfl
theorem tw_810 : (Jvm.Cond.selects "SameLettersModel" ({ cls := "SameLettersModel", name := "has", desc := "(II)I" } : Jvm.MethodName) ({ cls := "SameLettersModel", name := "has", desc := "(II)I" } : Jvm.MethodName)) ∈ tb := tbI (i := 810) (by decide +kernel) rfl
theorem tw_811 : (Jvm.Cond.code ({ cls := "SameLettersModel", name := "has", desc := "(II)I" } : Jvm.MethodName) prog_9_method_31_code (4 : Nat) (Option.some Jvm.ClassFile.FieldType.int)) ∈ tb := tbI (i := 811) (by decide +kernel) rfl
theorem tw_812 : (Jvm.Cond.methodLink "SameLettersLaw" (54 : Nat) ({ cls := "SameLettersModel", name := "write", desc := "(I)I" } : Jvm.MethodName)) ∈ tb := tbI (i := 812) (by decide +kernel) rfl
theorem tw_813 : (Jvm.Cond.instanceMethod ({ cls := "SameLettersModel", name := "write", desc := "(I)I" } : Jvm.MethodName)) ∈ tb := tbI (i := 813) (by decide +kernel) rfl
theorem tw_814 : (Jvm.Cond.selects "SameLettersModel" ({ cls := "SameLettersModel", name := "write", desc := "(I)I" } : Jvm.MethodName) ({ cls := "SameLettersModel", name := "write", desc := "(I)I" } : Jvm.MethodName)) ∈ tb := tbI (i := 814) (by decide +kernel) rfl
theorem tw_815 : (Jvm.Cond.code ({ cls := "SameLettersModel", name := "write", desc := "(I)I" } : Jvm.MethodName) prog_9_method_32_code (3 : Nat) (Option.some Jvm.ClassFile.FieldType.int)) ∈ tb := tbI (i := 815) (by decide +kernel) rfl
theorem tw_816 : (Jvm.Cond.methodLink "SameLettersLaw" (58 : Nat) ({ cls := "SameLettersModel", name := "undo", desc := "()I" } : Jvm.MethodName)) ∈ tb := tbI (i := 816) (by decide +kernel) rfl
theorem tw_817 : (Jvm.Cond.instanceMethod ({ cls := "SameLettersModel", name := "undo", desc := "()I" } : Jvm.MethodName)) ∈ tb := tbI (i := 817) (by decide +kernel) rfl
theorem tw_818 : (Jvm.Cond.selects "SameLettersModel" ({ cls := "SameLettersModel", name := "undo", desc := "()I" } : Jvm.MethodName) ({ cls := "SameLettersModel", name := "undo", desc := "()I" } : Jvm.MethodName)) ∈ tb := tbI (i := 818) (by decide +kernel) rfl
theorem tw_819 : (Jvm.Cond.code ({ cls := "SameLettersModel", name := "undo", desc := "()I" } : Jvm.MethodName) prog_9_method_33_code (1 : Nat) (Option.some Jvm.ClassFile.FieldType.int)) ∈ tb := tbI (i := 819) (by decide +kernel) rfl
theorem tw_820 : (Jvm.Cond.methodLink "SameLettersLaw" (62 : Nat) ({ cls := "SameLettersModel", name := "wrote", desc := "(I)I" } : Jvm.MethodName)) ∈ tb := tbI (i := 820) (by decide +kernel) rfl
theorem tw_821 : (Jvm.Cond.instanceMethod ({ cls := "SameLettersModel", name := "wrote", desc := "(I)I" } : Jvm.MethodName)) ∈ tb := tbI (i := 821) (by decide +kernel) rfl
theorem tw_822 : (Jvm.Cond.selects "SameLettersModel" ({ cls := "SameLettersModel", name := "wrote", desc := "(I)I" } : Jvm.MethodName) ({ cls := "SameLettersModel", name := "wrote", desc := "(I)I" } : Jvm.MethodName)) ∈ tb := tbI (i := 822) (by decide +kernel) rfl
theorem tw_823 : (Jvm.Cond.code ({ cls := "SameLettersModel", name := "wrote", desc := "(I)I" } : Jvm.MethodName) prog_9_method_34_code (2 : Nat) (Option.some Jvm.ClassFile.FieldType.int)) ∈ tb := tbI (i := 823) (by decide +kernel) rfl
theorem tw_824 : (Jvm.Cond.methodLink "SameLettersLaw" (66 : Nat) ({ cls := "SameLettersModel", name := "side", desc := "(I)I" } : Jvm.MethodName)) ∈ tb := tbI (i := 824) (by decide +kernel) rfl
theorem tw_825 : (Jvm.Cond.instanceMethod ({ cls := "SameLettersModel", name := "side", desc := "(I)I" } : Jvm.MethodName)) ∈ tb := tbI (i := 825) (by decide +kernel) rfl
theorem tw_826 : (Jvm.Cond.selects "SameLettersModel" ({ cls := "SameLettersModel", name := "side", desc := "(I)I" } : Jvm.MethodName) ({ cls := "SameLettersModel", name := "side", desc := "(I)I" } : Jvm.MethodName)) ∈ tb := tbI (i := 826) (by decide +kernel) rfl
theorem tw_827 : (Jvm.Cond.code ({ cls := "SameLettersModel", name := "side", desc := "(I)I" } : Jvm.MethodName) prog_9_method_35_code (5 : Nat) (Option.some Jvm.ClassFile.FieldType.int)) ∈ tb := tbI (i := 827) (by decide +kernel) rfl
theorem tw_828 : (Jvm.Cond.methodLink "SameLettersLaw" (70 : Nat) ({ cls := "SameLettersModel", name := "says", desc := "(I)I" } : Jvm.MethodName)) ∈ tb := tbI (i := 828) (by decide +kernel) rfl
theorem tw_829 : (Jvm.Cond.instanceMethod ({ cls := "SameLettersModel", name := "says", desc := "(I)I" } : Jvm.MethodName)) ∈ tb := tbI (i := 829) (by decide +kernel) rfl
theorem tw_830 : (Jvm.Cond.selects "SameLettersModel" ({ cls := "SameLettersModel", name := "says", desc := "(I)I" } : Jvm.MethodName) ({ cls := "SameLettersModel", name := "says", desc := "(I)I" } : Jvm.MethodName)) ∈ tb := tbI (i := 830) (by decide +kernel) rfl
theorem tw_831 : (Jvm.Cond.code ({ cls := "SameLettersModel", name := "says", desc := "(I)I" } : Jvm.MethodName) prog_9_method_36_code (4 : Nat) (Option.some Jvm.ClassFile.FieldType.int)) ∈ tb := tbI (i := 831) (by decide +kernel) rfl
theorem tw_832 : (Jvm.Cond.methodLink "SameLettersLaw" (75 : Nat) ({ cls := "SameLettersModel", name := "answers", desc := "(III)I" } : Jvm.MethodName)) ∈ tb := tbI (i := 832) (by decide +kernel) rfl
theorem tw_833 : (Jvm.Cond.instanceMethod ({ cls := "SameLettersModel", name := "answers", desc := "(III)I" } : Jvm.MethodName)) ∈ tb := tbI (i := 833) (by decide +kernel) rfl
theorem tw_834 : (Jvm.Cond.selects "SameLettersModel" ({ cls := "SameLettersModel", name := "answers", desc := "(III)I" } : Jvm.MethodName) ({ cls := "SameLettersModel", name := "answers", desc := "(III)I" } : Jvm.MethodName)) ∈ tb := tbI (i := 834) (by decide +kernel) rfl
theorem tw_835 : (Jvm.Cond.code ({ cls := "SameLettersModel", name := "answers", desc := "(III)I" } : Jvm.MethodName) prog_9_method_40_code (7 : Nat) (Option.some Jvm.ClassFile.FieldType.int)) ∈ tb := tbI (i := 835) (by decide +kernel) rfl
theorem tw_836 : (Jvm.Cond.methodLink "SameLettersModel" (145 : Nat) ({ cls := "SameLettersModel", name := "isAnswer", desc := "(III)Z" } : Jvm.MethodName)) ∈ tb := tbI (i := 836) (by decide +kernel) rfl
theorem tw_838 : (Jvm.Cond.instanceMethod ({ cls := "SameLettersModel", name := "isAnswer", desc := "(III)Z" } : Jvm.MethodName)) ∈ tb := tbI (i := 838) (by decide +kernel) rfl
theorem tw_839 : (Jvm.Cond.code ({ cls := "SameLettersModel", name := "isAnswer", desc := "(III)Z" } : Jvm.MethodName) prog_9_method_38_code (4 : Nat) (Option.some Jvm.ClassFile.FieldType.boolean)) ∈ tb := tbI (i := 839) (by decide +kernel) rfl
theorem tw_840 : (Jvm.Cond.methodLink "SameLettersModel" (142 : Nat) ({ cls := "SameLettersModel", name := "apart", desc := "(II)I" } : Jvm.MethodName)) ∈ tb := tbI (i := 840) (by decide +kernel) rfl
theorem tw_841 : (Jvm.Cond.static ({ cls := "SameLettersModel", name := "apart", desc := "(II)I" } : Jvm.MethodName)) ∈ tb := tbI (i := 841) (by decide +kernel) rfl
theorem tw_842 : (Jvm.Cond.code ({ cls := "SameLettersModel", name := "apart", desc := "(II)I" } : Jvm.MethodName) prog_9_method_37_code (5 : Nat) (Option.some Jvm.ClassFile.FieldType.int)) ∈ tb := tbI (i := 842) (by decide +kernel) rfl
theorem tw_843 : (Jvm.Cond.methodLink "SameLettersModel" (148 : Nat) ({ cls := "SameLettersModel", name := "bestOf", desc := "(II)I" } : Jvm.MethodName)) ∈ tb := tbI (i := 843) (by decide +kernel) rfl
theorem tw_845 : (Jvm.Cond.instanceMethod ({ cls := "SameLettersModel", name := "bestOf", desc := "(II)I" } : Jvm.MethodName)) ∈ tb := tbI (i := 845) (by decide +kernel) rfl
theorem tw_846 : (Jvm.Cond.code ({ cls := "SameLettersModel", name := "bestOf", desc := "(II)I" } : Jvm.MethodName) prog_9_method_39_code (5 : Nat) (Option.some Jvm.ClassFile.FieldType.int)) ∈ tb := tbI (i := 846) (by decide +kernel) rfl
theorem tw_847 : (Jvm.Cond.methodLink "SameLettersLaw" (79 : Nat) ({ cls := "SameLettersModel", name := "mute", desc := "(I)I" } : Jvm.MethodName)) ∈ tb := tbI (i := 847) (by decide +kernel) rfl
theorem tw_848 : (Jvm.Cond.instanceMethod ({ cls := "SameLettersModel", name := "mute", desc := "(I)I" } : Jvm.MethodName)) ∈ tb := tbI (i := 848) (by decide +kernel) rfl
theorem tw_849 : (Jvm.Cond.selects "SameLettersModel" ({ cls := "SameLettersModel", name := "mute", desc := "(I)I" } : Jvm.MethodName) ({ cls := "SameLettersModel", name := "mute", desc := "(I)I" } : Jvm.MethodName)) ∈ tb := tbI (i := 849) (by decide +kernel) rfl
theorem tw_850 : (Jvm.Cond.code ({ cls := "SameLettersModel", name := "mute", desc := "(I)I" } : Jvm.MethodName) prog_9_method_41_code (6 : Nat) (Option.some Jvm.ClassFile.FieldType.int)) ∈ tb := tbI (i := 850) (by decide +kernel) rfl
theorem tw_851 : (Jvm.Cond.methodLink "SameLettersLaw" (83 : Nat) ({ cls := "SameLettersModel", name := "best", desc := "(I)I" } : Jvm.MethodName)) ∈ tb := tbI (i := 851) (by decide +kernel) rfl
theorem tw_852 : (Jvm.Cond.instanceMethod ({ cls := "SameLettersModel", name := "best", desc := "(I)I" } : Jvm.MethodName)) ∈ tb := tbI (i := 852) (by decide +kernel) rfl
theorem tw_853 : (Jvm.Cond.selects "SameLettersModel" ({ cls := "SameLettersModel", name := "best", desc := "(I)I" } : Jvm.MethodName) ({ cls := "SameLettersModel", name := "best", desc := "(I)I" } : Jvm.MethodName)) ∈ tb := tbI (i := 853) (by decide +kernel) rfl
theorem tw_854 : (Jvm.Cond.code ({ cls := "SameLettersModel", name := "best", desc := "(I)I" } : Jvm.MethodName) prog_9_method_42_code (7 : Nat) (Option.some Jvm.ClassFile.FieldType.int)) ∈ tb := tbI (i := 854) (by decide +kernel) rfl
theorem tw_855 : (Jvm.Cond.methodLink "SameLettersLaw" (87 : Nat) ({ cls := "SameLettersModel", name := "bar", desc := "(II)I" } : Jvm.MethodName)) ∈ tb := tbI (i := 855) (by decide +kernel) rfl
theorem tw_856 : (Jvm.Cond.instanceMethod ({ cls := "SameLettersModel", name := "bar", desc := "(II)I" } : Jvm.MethodName)) ∈ tb := tbI (i := 856) (by decide +kernel) rfl
theorem tw_857 : (Jvm.Cond.selects "SameLettersModel" ({ cls := "SameLettersModel", name := "bar", desc := "(II)I" } : Jvm.MethodName) ({ cls := "SameLettersModel", name := "bar", desc := "(II)I" } : Jvm.MethodName)) ∈ tb := tbI (i := 857) (by decide +kernel) rfl
theorem tw_858 : (Jvm.Cond.code ({ cls := "SameLettersModel", name := "bar", desc := "(II)I" } : Jvm.MethodName) prog_9_method_43_code (9 : Nat) (Option.some Jvm.ClassFile.FieldType.int)) ∈ tb := tbI (i := 858) (by decide +kernel) rfl
theorem tw_859 : (Jvm.Cond.methodLink "SameLettersLaw" (91 : Nat) ({ cls := "SameLettersModel", name := "chain", desc := "(II)I" } : Jvm.MethodName)) ∈ tb := tbI (i := 859) (by decide +kernel) rfl
theorem tw_860 : (Jvm.Cond.instanceMethod ({ cls := "SameLettersModel", name := "chain", desc := "(II)I" } : Jvm.MethodName)) ∈ tb := tbI (i := 860) (by decide +kernel) rfl
theorem tw_861 : (Jvm.Cond.selects "SameLettersModel" ({ cls := "SameLettersModel", name := "chain", desc := "(II)I" } : Jvm.MethodName) ({ cls := "SameLettersModel", name := "chain", desc := "(II)I" } : Jvm.MethodName)) ∈ tb := tbI (i := 861) (by decide +kernel) rfl
theorem tw_862 : (Jvm.Cond.code ({ cls := "SameLettersModel", name := "chain", desc := "(II)I" } : Jvm.MethodName) prog_9_method_45_code (4 : Nat) (Option.some Jvm.ClassFile.FieldType.int)) ∈ tb := tbI (i := 862) (by decide +kernel) rfl
theorem tw_863 : (Jvm.Cond.methodLink "SameLettersModel" (151 : Nat) ({ cls := "SameLettersModel", name := "lays", desc := "(I)I" } : Jvm.MethodName)) ∈ tb := tbI (i := 863) (by decide +kernel) rfl
theorem tw_865 : (Jvm.Cond.instanceMethod ({ cls := "SameLettersModel", name := "lays", desc := "(I)I" } : Jvm.MethodName)) ∈ tb := tbI (i := 865) (by decide +kernel) rfl
theorem tw_866 : (Jvm.Cond.code ({ cls := "SameLettersModel", name := "lays", desc := "(I)I" } : Jvm.MethodName) prog_9_method_44_code (3 : Nat) (Option.some Jvm.ClassFile.FieldType.int)) ∈ tb := tbI (i := 866) (by decide +kernel) rfl
theorem tw_867 : (Jvm.Cond.methodLink "SameLettersLaw" (95 : Nat) ({ cls := "SameLettersModel", name := "ring", desc := "(I)I" } : Jvm.MethodName)) ∈ tb := tbI (i := 867) (by decide +kernel) rfl
theorem tw_868 : (Jvm.Cond.instanceMethod ({ cls := "SameLettersModel", name := "ring", desc := "(I)I" } : Jvm.MethodName)) ∈ tb := tbI (i := 868) (by decide +kernel) rfl
theorem tw_869 : (Jvm.Cond.selects "SameLettersModel" ({ cls := "SameLettersModel", name := "ring", desc := "(I)I" } : Jvm.MethodName) ({ cls := "SameLettersModel", name := "ring", desc := "(I)I" } : Jvm.MethodName)) ∈ tb := tbI (i := 869) (by decide +kernel) rfl
theorem tw_870 : (Jvm.Cond.code ({ cls := "SameLettersModel", name := "ring", desc := "(I)I" } : Jvm.MethodName) prog_9_method_46_code (6 : Nat) (Option.some Jvm.ClassFile.FieldType.int)) ∈ tb := tbI (i := 870) (by decide +kernel) rfl
theorem tw_871 : (Jvm.Cond.methodLink "SameLettersLaw" (99 : Nat) ({ cls := "SameLettersModel", name := "alphabet", desc := "(II)I" } : Jvm.MethodName)) ∈ tb := tbI (i := 871) (by decide +kernel) rfl
theorem tw_872 : (Jvm.Cond.instanceMethod ({ cls := "SameLettersModel", name := "alphabet", desc := "(II)I" } : Jvm.MethodName)) ∈ tb := tbI (i := 872) (by decide +kernel) rfl
theorem tw_873 : (Jvm.Cond.selects "SameLettersModel" ({ cls := "SameLettersModel", name := "alphabet", desc := "(II)I" } : Jvm.MethodName) ({ cls := "SameLettersModel", name := "alphabet", desc := "(II)I" } : Jvm.MethodName)) ∈ tb := tbI (i := 873) (by decide +kernel) rfl
theorem tw_874 : (Jvm.Cond.code ({ cls := "SameLettersModel", name := "alphabet", desc := "(II)I" } : Jvm.MethodName) prog_9_method_48_code (7 : Nat) (Option.some Jvm.ClassFile.FieldType.int)) ∈ tb := tbI (i := 874) (by decide +kernel) rfl
theorem tw_875 : (Jvm.Cond.methodLink "SameLettersModel" (154 : Nat) ({ cls := "SameLettersModel", name := "ones", desc := "(I)I" } : Jvm.MethodName)) ∈ tb := tbI (i := 875) (by decide +kernel) rfl
theorem tw_876 : (Jvm.Cond.static ({ cls := "SameLettersModel", name := "ones", desc := "(I)I" } : Jvm.MethodName)) ∈ tb := tbI (i := 876) (by decide +kernel) rfl
theorem tw_877 : (Jvm.Cond.code ({ cls := "SameLettersModel", name := "ones", desc := "(I)I" } : Jvm.MethodName) prog_9_method_47_code (3 : Nat) (Option.some Jvm.ClassFile.FieldType.int)) ∈ tb := tbI (i := 877) (by decide +kernel) rfl
theorem tw_878 : (Jvm.Cond.methodLink "SameLettersModel" (157 : Nat) ({ cls := "SameLettersModel", name := "writtenIn", desc := "(I)I" } : Jvm.MethodName)) ∈ tb := tbI (i := 878) (by decide +kernel) rfl
theorem tw_880 : (Jvm.Cond.instanceMethod ({ cls := "SameLettersModel", name := "writtenIn", desc := "(I)I" } : Jvm.MethodName)) ∈ tb := tbI (i := 880) (by decide +kernel) rfl
theorem tw_881 : (Jvm.Cond.code ({ cls := "SameLettersModel", name := "writtenIn", desc := "(I)I" } : Jvm.MethodName) prog_9_method_49_code (5 : Nat) (Option.some Jvm.ClassFile.FieldType.int)) ∈ tb := tbI (i := 881) (by decide +kernel) rfl
theorem tw_882 : (Jvm.Cond.methodLink "SameLettersLaw" (103 : Nat) ({ cls := "SameLettersModel", name := "asked", desc := "(II)I" } : Jvm.MethodName)) ∈ tb := tbI (i := 882) (by decide +kernel) rfl
theorem tw_883 : (Jvm.Cond.instanceMethod ({ cls := "SameLettersModel", name := "asked", desc := "(II)I" } : Jvm.MethodName)) ∈ tb := tbI (i := 883) (by decide +kernel) rfl
theorem tw_884 : (Jvm.Cond.selects "SameLettersModel" ({ cls := "SameLettersModel", name := "asked", desc := "(II)I" } : Jvm.MethodName) ({ cls := "SameLettersModel", name := "asked", desc := "(II)I" } : Jvm.MethodName)) ∈ tb := tbI (i := 884) (by decide +kernel) rfl
theorem tw_885 : (Jvm.Cond.code ({ cls := "SameLettersModel", name := "asked", desc := "(II)I" } : Jvm.MethodName) prog_9_method_50_code (6 : Nat) (Option.some Jvm.ClassFile.FieldType.int)) ∈ tb := tbI (i := 885) (by decide +kernel) rfl
theorem tw_886 : (Jvm.Cond.methodLink "SameLettersLaw" (107 : Nat) ({ cls := "SameLettersModel", name := "rate", desc := "(II)I" } : Jvm.MethodName)) ∈ tb := tbI (i := 886) (by decide +kernel) rfl
theorem tw_887 : (Jvm.Cond.instanceMethod ({ cls := "SameLettersModel", name := "rate", desc := "(II)I" } : Jvm.MethodName)) ∈ tb := tbI (i := 887) (by decide +kernel) rfl
theorem tw_888 : (Jvm.Cond.selects "SameLettersModel" ({ cls := "SameLettersModel", name := "rate", desc := "(II)I" } : Jvm.MethodName) ({ cls := "SameLettersModel", name := "rate", desc := "(II)I" } : Jvm.MethodName)) ∈ tb := tbI (i := 888) (by decide +kernel) rfl
theorem tw_889 : (Jvm.Cond.code ({ cls := "SameLettersModel", name := "rate", desc := "(II)I" } : Jvm.MethodName) prog_9_method_52_code (6 : Nat) (Option.some Jvm.ClassFile.FieldType.int)) ∈ tb := tbI (i := 889) (by decide +kernel) rfl
theorem tw_890 : (Jvm.Cond.constant "SameLettersModel" (160 : Nat) (-1000000 : Int32)) ∈ tb := tbI (i := 890) (by decide +kernel) rfl
theorem tw_891 : (Jvm.Cond.constantLong "SameLettersModel" (165 : Nat) (11 : Int64)) ∈ tb := tbI (i := 891) (by decide +kernel) rfl
theorem tw_892 : (Jvm.Cond.constantLong "SameLettersModel" (167 : Nat) (101 : Int64)) ∈ tb := tbI (i := 892) (by decide +kernel) rfl
theorem tw_893 : (Jvm.Cond.constantLong "SameLettersModel" (169 : Nat) (1011 : Int64)) ∈ tb := tbI (i := 893) (by decide +kernel) rfl
theorem tw_894 : (Jvm.Cond.constantLong "SameLettersModel" (171 : Nat) (10101 : Int64)) ∈ tb := tbI (i := 894) (by decide +kernel) rfl
theorem tw_895 : (Jvm.Cond.constantLong "SameLettersModel" (173 : Nat) (100001 : Int64)) ∈ tb := tbI (i := 895) (by decide +kernel) rfl
theorem tw_896 : (Jvm.Cond.methodLink "SameLettersModel" (175 : Nat) ({ cls := "SameLettersModel", name := "written", desc := "(I)I" } : Jvm.MethodName)) ∈ tb := tbI (i := 896) (by decide +kernel) rfl
theorem tw_898 : (Jvm.Cond.instanceMethod ({ cls := "SameLettersModel", name := "written", desc := "(I)I" } : Jvm.MethodName)) ∈ tb := tbI (i := 898) (by decide +kernel) rfl
theorem tw_899 : (Jvm.Cond.code ({ cls := "SameLettersModel", name := "written", desc := "(I)I" } : Jvm.MethodName) prog_9_method_51_code (6 : Nat) (Option.some Jvm.ClassFile.FieldType.int)) ∈ tb := tbI (i := 899) (by decide +kernel) rfl
theorem tw_900 : (Jvm.Cond.methodLink "SameLettersLaw" (111 : Nat) ({ cls := "SameLettersModel", name := "keep", desc := "(I)I" } : Jvm.MethodName)) ∈ tb := tbI (i := 900) (by decide +kernel) rfl
theorem tw_901 : (Jvm.Cond.instanceMethod ({ cls := "SameLettersModel", name := "keep", desc := "(I)I" } : Jvm.MethodName)) ∈ tb := tbI (i := 901) (by decide +kernel) rfl
theorem tw_902 : (Jvm.Cond.selects "SameLettersModel" ({ cls := "SameLettersModel", name := "keep", desc := "(I)I" } : Jvm.MethodName) ({ cls := "SameLettersModel", name := "keep", desc := "(I)I" } : Jvm.MethodName)) ∈ tb := tbI (i := 902) (by decide +kernel) rfl
theorem tw_903 : (Jvm.Cond.code ({ cls := "SameLettersModel", name := "keep", desc := "(I)I" } : Jvm.MethodName) prog_9_method_53_code (3 : Nat) (Option.some Jvm.ClassFile.FieldType.int)) ∈ tb := tbI (i := 903) (by decide +kernel) rfl
theorem tw_904 : (Jvm.Cond.methodLink "SameLettersLaw" (115 : Nat) ({ cls := "SameLettersModel", name := "back", desc := "(I)I" } : Jvm.MethodName)) ∈ tb := tbI (i := 904) (by decide +kernel) rfl
theorem tw_905 : (Jvm.Cond.instanceMethod ({ cls := "SameLettersModel", name := "back", desc := "(I)I" } : Jvm.MethodName)) ∈ tb := tbI (i := 905) (by decide +kernel) rfl
theorem tw_906 : (Jvm.Cond.selects "SameLettersModel" ({ cls := "SameLettersModel", name := "back", desc := "(I)I" } : Jvm.MethodName) ({ cls := "SameLettersModel", name := "back", desc := "(I)I" } : Jvm.MethodName)) ∈ tb := tbI (i := 906) (by decide +kernel) rfl
theorem tw_907 : (Jvm.Cond.code ({ cls := "SameLettersModel", name := "back", desc := "(I)I" } : Jvm.MethodName) prog_9_method_54_code (3 : Nat) (Option.some Jvm.ClassFile.FieldType.int)) ∈ tb := tbI (i := 907) (by decide +kernel) rfl
theorem tw_908 : (Jvm.Cond.methodLink "SameLettersLaw" (119 : Nat) ({ cls := "SameLettersModel", name := "count", desc := "(I)I" } : Jvm.MethodName)) ∈ tb := tbI (i := 908) (by decide +kernel) rfl
theorem tw_909 : (Jvm.Cond.instanceMethod ({ cls := "SameLettersModel", name := "count", desc := "(I)I" } : Jvm.MethodName)) ∈ tb := tbI (i := 909) (by decide +kernel) rfl
theorem tw_910 : (Jvm.Cond.selects "SameLettersModel" ({ cls := "SameLettersModel", name := "count", desc := "(I)I" } : Jvm.MethodName) ({ cls := "SameLettersModel", name := "count", desc := "(I)I" } : Jvm.MethodName)) ∈ tb := tbI (i := 910) (by decide +kernel) rfl
theorem tw_911 : (Jvm.Cond.code ({ cls := "SameLettersModel", name := "count", desc := "(I)I" } : Jvm.MethodName) prog_9_method_55_code (2 : Nat) (Option.some Jvm.ClassFile.FieldType.int)) ∈ tb := tbI (i := 911) (by decide +kernel) rfl
theorem tw_912 : (Jvm.Cond.methodLink "SameLettersLaw" (124 : Nat) ({ cls := "SameLettersModel", name := "trace", desc := "()J" } : Jvm.MethodName)) ∈ tb := tbI (i := 912) (by decide +kernel) rfl
theorem tw_913 : (Jvm.Cond.instanceMethod ({ cls := "SameLettersModel", name := "trace", desc := "()J" } : Jvm.MethodName)) ∈ tb := tbI (i := 913) (by decide +kernel) rfl
theorem tw_914 : (Jvm.Cond.selects "SameLettersModel" ({ cls := "SameLettersModel", name := "trace", desc := "()J" } : Jvm.MethodName) ({ cls := "SameLettersModel", name := "trace", desc := "()J" } : Jvm.MethodName)) ∈ tb := tbI (i := 914) (by decide +kernel) rfl
theorem tw_915 : (Jvm.Cond.code ({ cls := "SameLettersModel", name := "trace", desc := "()J" } : Jvm.MethodName) prog_9_method_56_code (1 : Nat) (Option.some Jvm.ClassFile.FieldType.long)) ∈ tb := tbI (i := 915) (by decide +kernel) rfl
theorem tw_916 : (Jvm.Cond.constantLong "SameLettersLaw" (13 : Nat) (4294967295 : Int64)) ∈ tb := tbI (i := 916) (by decide +kernel) rfl
theorem tw_917 : (Jvm.Cond.fieldLink "java/lang/String" (9 : Nat) "java/lang/String" "value" "[B") ∈ tb := tbI (i := 917) (by decide +kernel) rfl
theorem tw_918 : (Jvm.Cond.fieldLink "java/lang/String" (15 : Nat) "java/lang/String" "coder" "B") ∈ tb := tbI (i := 918) (by decide +kernel) rfl
theorem nw_0 : (Jvm.Cond.methodLinkNest "SameLetters" (11 : Nat) ({ cls := "SameLetters$Text", name := "<init>", desc := "()V" } : Jvm.MethodName) "SameLetters") ∈ nestL := List.mem_of_getElem? (i := 0) rfl
theorem nw_1 : (Jvm.Cond.methodLinkNest "SameLetters" (18 : Nat) ({ cls := "SameLetters$Sayings", name := "<init>", desc := "()V" } : Jvm.MethodName) "SameLetters") ∈ nestL := List.mem_of_getElem? (i := 1) rfl
theorem nw_2 : (Jvm.Cond.methodLinkNest "SameLetters" (25 : Nat) ({ cls := "SameLetters$Post", name := "<init>", desc := "()V" } : Jvm.MethodName) "SameLetters") ∈ nestL := List.mem_of_getElem? (i := 2) rfl
theorem nw_3 : (Jvm.Cond.methodLinkNest "SameLetters$Tongue" (23 : Nat) ({ cls := "SameLetters$Word", name := "<init>", desc := "()V" } : Jvm.MethodName) "SameLetters") ∈ nestL := List.mem_of_getElem? (i := 3) rfl
theorem nw_4 : (Jvm.Cond.methodLinkNest "SameLetters$Tongue" (24 : Nat) ({ cls := "SameLetters$Shape", name := "<init>", desc := "()V" } : Jvm.MethodName) "SameLetters") ∈ nestL := List.mem_of_getElem? (i := 4) rfl
theorem m_abs1 : Cond.static Lib.Math.abs.name ∈ tb := tw_499
theorem m_abs2 : Cond.code Lib.Math.abs.name Lib.Math.abs.code 1 (some .int) ∈ tb := tw_500
theorem m_max1 : Cond.static Lib.Math.max.name ∈ tb := tw_472
theorem m_max2 : Cond.code Lib.Math.max.name Lib.Math.max.code 2 (some .int) ∈ tb := tw_473
theorem m_min1 : Cond.static Lib.Math.min.name ∈ tb := tw_366
theorem m_min2 : Cond.code Lib.Math.min.name Lib.Math.min.code 2 (some .int) ∈ tb := tw_367
theorem m_m : Cond.initialized "java/lang/Math" ∈ tb := tw_52
end
section
/-! helpers of the programmed walks -/
theorem ifp {α : Type} {c : Prop} [inst : Decidable c] {a b r : α} (hc : c) (h : (if c then a else b) = r) : a = r := by rwa [if_pos hc] at h
theorem ifn {α : Type} {c : Prop} [inst : Decidable c] {a b r : α} (hc : ¬ c) (h : (if c then a else b) = r) : b = r := by rwa [if_neg hc] at h
def KI {α β : Type} (K : α → Prop) (W : β → Prop) : α ⊕ β → Prop
  | .inl a => K a
  | .inr b => W b
theorem mpi {α β : Type} {e : Option α} {o : α ⊕ β} (h : e.map Sum.inl = some o) : ∃ q, e = some q ∧ o = .inl q := by
  cases e with
  | none => cases h
  | some q => cases h; exact ⟨q, rfl, rfl⟩
theorem i32_ne {x : Int32} {k : Int32} (h : ¬ x = k) : x.toInt ≠ k.toInt := fun e => h (Int32.toInt_inj.mp e)
theorem wfI_n {M M' : MM} {p c k : Nat} {v : Int32} (h : wfI M p c k v = some M') : M'.1 = M.1 := by
  obtain ⟨_, h⟩ := gd h
  cases h
  rfl
theorem wfZ_n {M M' : MM} {p c k : Nat} {v : Int32} (h : wfZ M p c k v = some M') : M'.1 = M.1 := by
  obtain ⟨_, h⟩ := gd h
  cases h
  rfl
theorem wfJ_n {M M' : MM} {p c k : Nat} {v : Int64} (h : wfJ M p c k v = some M') : M'.1 = M.1 := by
  obtain ⟨_, h⟩ := gd h
  cases h
  rfl
theorem wfR_n {M M' : MM} {p c k v : Nat} (h : wfR M p c k v = some M') : M'.1 = M.1 := by
  obtain ⟨_, h⟩ := gd h
  cases h
  rfl
theorem waI_n {M M' : MM} {p : Nat} {i v : Int32} (h : waI M p i v = some M') : M'.1 = M.1 := by
  obtain ⟨_, h⟩ := gd h
  cases h
  rfl
theorem waZ_n {M M' : MM} {p : Nat} {i v : Int32} (h : waZ M p i v = some M') : M'.1 = M.1 := by
  obtain ⟨_, h⟩ := gd h
  cases h
  rfl
theorem waJ_n {M M' : MM} {p : Nat} {i : Int32} {v : Int64} (h : waJ M p i v = some M') : M'.1 = M.1 := by
  obtain ⟨_, h⟩ := gd h
  cases h
  rfl
theorem waR_n {M M' : MM} {p c ce : Nat} {i : Int32} {v : Nat} (h : waR M p c ce i v = some M') : M'.1 = M.1 := by
  obtain ⟨_, h⟩ := gd h
  cases h
  rfl
theorem nObj_n {M M' : MM} {lim c : Nat} (h : nObj M lim c = some M') : M'.1 ≤ lim := by
  obtain ⟨g, h⟩ := gd h
  cases h
  exact g.2
theorem nArr_n {M M' : MM} {lim c : Nat} {i : Int32} (h : nArr M lim c i = some M') : M'.1 ≤ lim := by
  obtain ⟨g, h⟩ := gd h
  cases h
  exact g.2.2.2
theorem ln_small (p : Nat) : ln p ≤ 100000 := by
  have key : ∀ (l : List Nat), (∀ x ∈ l, x ≤ 100000) → ∀ p, l.getD p 0 ≤ 100000 := by
    intro l hl p
    rw [List.getD_eq_getElem?_getD]
    cases h : l[p]? with
    | none => exact Nat.zero_le _
    | some x => exact hl x (List.mem_of_getElem? h)
  exact key lnL (by decide) p
def sf (G : GG) (i : Nat) : Value := .ref (G.2.2.2.2.1 i)
theorem s_aload_nS {X : CT} {cc : ByteArray} {own : String} {d lim w : Nat} (O : OKX X cc own d lim w) {M : MM} {pc : Nat} {loc : List (Nat × Value)} {st : List Value} {k : Fin 4} {i x : Nat} (hd : decode cc pc = .ok (.aload_n k, 1)) (hi : (k : Nat) = i) (j : Nat) (hj : loc[j]? = some (i, sf X.1 x)) (kk : WS X M (pc + 1) loc (sf X.1 x :: st)) : WS X M pc loc st := by
  obtain ⟨⟨l, D, cy, b, adK, adV⟩, p0, e, R, s, m, args, below, meth, c, Q, n0, nL⟩ := X
  obtain ⟨hx, hb, hml, hown, hts, hK, hlocks, hsz, hE, hfr, hlo, hce, hsl, hw⟩ := O
  intro H locs ls h0 hP hS hl
  exact lv_aload_n hx hb hd hi (lv_at hl j hj) (kk H locs ls h0 hP hS hl)
theorem s_ldcS0 {X : CT} {cc : ByteArray} {d lim w : Nat} (O : OKX X cc RX3 d lim w) {M : MM} {pc : Nat} {loc : List (Nat × Value)} {st : List Value} (hd : decode cc pc = .ok (.ldc 38, 2)) (kk : WS X M (pc + 2) loc (sf X.1 0 :: st)) : WS X M pc loc st := by
  obtain ⟨⟨l, D, cy, b, adK, adV⟩, p0, e, R, s, m, args, below, meth, c, Q, n0, nL⟩ := X
  obtain ⟨hx, hb, hml, hown, hts, hK, hlocks, hsz, hE, hfr, hlo, hce, hsl, hw⟩ := O
  intro H locs ls h0 hP hS hl
  exact va_ldcS hx hb hown hE.2.2.2.1 hd (kk H locs ls h0 hP hS hl)
theorem s_ldcS1 {X : CT} {cc : ByteArray} {d lim w : Nat} (O : OKX X cc RX3 d lim w) {M : MM} {pc : Nat} {loc : List (Nat × Value)} {st : List Value} (hd : decode cc pc = .ok (.ldc 44, 2)) (kk : WS X M (pc + 2) loc (sf X.1 1 :: st)) : WS X M pc loc st := by
  obtain ⟨⟨l, D, cy, b, adK, adV⟩, p0, e, R, s, m, args, below, meth, c, Q, n0, nL⟩ := X
  obtain ⟨hx, hb, hml, hown, hts, hK, hlocks, hsz, hE, hfr, hlo, hce, hsl, hw⟩ := O
  intro H locs ls h0 hP hS hl
  exact va_ldcS hx hb hown hE.2.2.2.2.1 hd (kk H locs ls h0 hP hS hl)
theorem ws_lim {p : Program} {l : Launch} {e : Env} {R : Room} {s : State} {m : MethodId} {args : Array Value} {below : List Frame} {meth : Method} {c : Code} {H : Heap} {locs : List Loc} {Q : State → Prop} {g : JFrame} {D : va_G} {cy : Nat → ClassId} {b n0 lim : Nat} {M : MM} (hsz : s.heap.size = b + n0) (h0 : n0 ≤ M.1) (hP : va_P D vwCl (wl b cy M) H) (hS : va_S (fun q : Nat => b ≤ q) s.heap H locs) (hce : lim - n0 ≤ R.cells) (hsl : Zs lim - Zs n0 ≤ R.slots)
    (kk : M.1 - n0 ≤ R.cells → Zs M.1 - Zs n0 ≤ R.slots → W p l e R s m args below meth c H locs (M.1 - n0) (Zs M.1 - Zs n0) Q g) (hlm : M.1 ≤ lim) : W p l e R s m args below meth c H locs (M.1 - n0) (Zs M.1 - Zs n0) Q g := by
  have := Zs_mono hlm
  exact kk (by omega) (by omega)
theorem s_mabs {X : CT} {cc : ByteArray} {own : String} {d lim w : Nat} (O : OKX X cc own d lim w) {M : MM} {pc : Nat} {loc : List (Nat × Value)} {st : List Value} {i : Nat} {x : Int32} (hlk : Cond.methodLink own i Lib.Math.abs.name ∈ tb) (hlm : M.1 ≤ lim) (hd1 : 1 ≤ d) (hcat : (st.map fun v => v.category).sum ≤ 8) (hd : decode cc pc = .ok (.invokestatic i, 3)) (kk : WS X M (pc + 3) loc (.int (if 0 ≤ x then x else 0 - x) :: st)) : WS X M pc loc (.int x :: st) := by
  obtain ⟨⟨l, D, cy, b, adK, adV⟩, p0, e, R, s, m, args, below, meth, c, Q, n0, nL⟩ := X
  obtain ⟨hx, hb, hml, hown, hts, hK, hlocks, hsz, hE, hfr, hlo, hce, hsl, hw⟩ := O
  intro H locs ls h0 hP hS hl
  have z1 := Zs_mono h0
  exact ws_lim (lim := lim) hsz h0 hP hS hce hsl (fun hc9 hs9 => va_mabs hx hb (by rw [hml]; exact hl.1.symm) hown (hts _ hlk) (hts _ m_abs1) (hts _ m_m) (hts _ m_abs2) (by omega) (by omega) hc9 hs9 hd (kk H locs ls h0 hP hS hl)) hlm
theorem s_mmax {X : CT} {cc : ByteArray} {own : String} {d lim w : Nat} (O : OKX X cc own d lim w) {M : MM} {pc : Nat} {loc : List (Nat × Value)} {st : List Value} {i : Nat} {x y : Int32} (hlk : Cond.methodLink own i Lib.Math.max.name ∈ tb) (hlm : M.1 ≤ lim) (hd1 : 1 ≤ d) (hcat : (st.map fun v => v.category).sum ≤ 8) (hd : decode cc pc = .ok (.invokestatic i, 3)) (kk : WS X M (pc + 3) loc (.int (if x < y then y else x) :: st)) : WS X M pc loc (.int y :: .int x :: st) := by
  obtain ⟨⟨l, D, cy, b, adK, adV⟩, p0, e, R, s, m, args, below, meth, c, Q, n0, nL⟩ := X
  obtain ⟨hx, hb, hml, hown, hts, hK, hlocks, hsz, hE, hfr, hlo, hce, hsl, hw⟩ := O
  intro H locs ls h0 hP hS hl
  have z1 := Zs_mono h0
  exact ws_lim (lim := lim) hsz h0 hP hS hce hsl (fun hc9 hs9 => va_mmax hx hb (by rw [hml]; exact hl.1.symm) hown (hts _ hlk) (hts _ m_max1) (hts _ m_m) (hts _ m_max2) (by omega) (by omega) hc9 hs9 hd (kk H locs ls h0 hP hS hl)) hlm
theorem s_mmin {X : CT} {cc : ByteArray} {own : String} {d lim w : Nat} (O : OKX X cc own d lim w) {M : MM} {pc : Nat} {loc : List (Nat × Value)} {st : List Value} {i : Nat} {x y : Int32} (hlk : Cond.methodLink own i Lib.Math.min.name ∈ tb) (hlm : M.1 ≤ lim) (hd1 : 1 ≤ d) (hcat : (st.map fun v => v.category).sum ≤ 8) (hd : decode cc pc = .ok (.invokestatic i, 3)) (kk : WS X M (pc + 3) loc (.int (if y < x then y else x) :: st)) : WS X M pc loc (.int y :: .int x :: st) := by
  obtain ⟨⟨l, D, cy, b, adK, adV⟩, p0, e, R, s, m, args, below, meth, c, Q, n0, nL⟩ := X
  obtain ⟨hx, hb, hml, hown, hts, hK, hlocks, hsz, hE, hfr, hlo, hce, hsl, hw⟩ := O
  intro H locs ls h0 hP hS hl
  have z1 := Zs_mono h0
  exact ws_lim (lim := lim) hsz h0 hP hS hce hsl (fun hc9 hs9 => va_mmin hx hb (by rw [hml]; exact hl.1.symm) hown (hts _ hlk) (hts _ m_min1) (hts _ m_m) (hts _ m_min2) (by omega) (by omega) hc9 hs9 hd (kk H locs ls h0 hP hS hl)) hlm
theorem s_callVi {X : CT} {cc : ByteArray} {own : String} {d lim w : Nat} (O : OKX X cc own d lim w) {M : MM} {pc : Nat} {loc : List (Nat × Value)} {st : List Value} {y : MethodName} {cy' : ByteArray} {n k i d' : Nat} {ret : Option FieldType} {As st0 : List Value} {M' : MM} {v : Int32} {ci p : Nat} {C : String} {T : u_T} {N : Nat} {ty : Nat → FieldType} (HK : KCok ci C T N ty) (hM : Ct X.1 y cy' n ret d' (rf X.1 p :: As) M (some (.int v)) M') (hy : CallY y cy' n ret k) (hlk : Cond.methodLink own i y ∈ tb) (hin : Cond.instanceMethod y ∈ tb) (hse : Cond.selects C y y ∈ tb) (hd' : d' + 1 ≤ d) (hlen : As.length = k) (hle : M.1 ≤ M'.1) (hlim : M'.1 ≤ lim) (hp : p < M.1) (hkd : kd p = ci) (hst : st0 = As.reverse ++ rf X.1 p :: st) (hcat : (st.map fun v => v.category).sum ≤ 8) (hd : decode cc pc = .ok (.invokevirtual i, 3)) (kk : WS X M' (pc + 3) loc (.int v :: st)) : WS X M pc loc st0 :=
  s_callV O HK hM hy hlk hin hse hd' hlen hle hlim hp hkd hst hcat hd kk
theorem s_callSi {X : CT} {cc : ByteArray} {own : String} {d lim w : Nat} (O : OKX X cc own d lim w) {M : MM} {pc : Nat} {loc : List (Nat × Value)} {st : List Value} {y : MethodName} {cy' : ByteArray} {n k i d' : Nat} {ret : Option FieldType} {As st0 : List Value} {M' : MM} {v : Int32} (hM : Ct X.1 y cy' n ret d' As M (some (.int v)) M') (hy : CallY y cy' n ret k) (hlk : Cond.methodLink own i y ∈ tb) (hin : Cond.static y ∈ tb) (hd' : d' + 1 ≤ d) (hlen : As.length = k) (hle : M.1 ≤ M'.1) (hlim : M'.1 ≤ lim) (hst : st0 = As.reverse ++ st) (hcat : (st.map fun v => v.category).sum ≤ 8) (hd : decode cc pc = .ok (.invokestatic i, 3)) (kk : WS X M' (pc + 3) loc (.int v :: st)) : WS X M pc loc st0 :=
  s_callS O hM hy hlk hin hd' hlen hle hlim hst hcat hd kk
theorem s_callVl {X : CT} {cc : ByteArray} {own : String} {d lim w : Nat} (O : OKX X cc own d lim w) {M : MM} {pc : Nat} {loc : List (Nat × Value)} {st : List Value} {y : MethodName} {cy' : ByteArray} {n k i d' : Nat} {ret : Option FieldType} {As st0 : List Value} {M' : MM} {v : Int64} {ci p : Nat} {C : String} {T : u_T} {N : Nat} {ty : Nat → FieldType} (HK : KCok ci C T N ty) (hM : Ct X.1 y cy' n ret d' (rf X.1 p :: As) M (some (.long v)) M') (hy : CallY y cy' n ret k) (hlk : Cond.methodLink own i y ∈ tb) (hin : Cond.instanceMethod y ∈ tb) (hse : Cond.selects C y y ∈ tb) (hd' : d' + 1 ≤ d) (hlen : As.length = k) (hle : M.1 ≤ M'.1) (hlim : M'.1 ≤ lim) (hp : p < M.1) (hkd : kd p = ci) (hst : st0 = As.reverse ++ rf X.1 p :: st) (hcat : (st.map fun v => v.category).sum ≤ 8) (hd : decode cc pc = .ok (.invokevirtual i, 3)) (kk : WS X M' (pc + 3) loc (.long v :: st)) : WS X M pc loc st0 :=
  s_callV O HK hM hy hlk hin hse hd' hlen hle hlim hp hkd hst hcat hd kk
theorem s_callSl {X : CT} {cc : ByteArray} {own : String} {d lim w : Nat} (O : OKX X cc own d lim w) {M : MM} {pc : Nat} {loc : List (Nat × Value)} {st : List Value} {y : MethodName} {cy' : ByteArray} {n k i d' : Nat} {ret : Option FieldType} {As st0 : List Value} {M' : MM} {v : Int64} (hM : Ct X.1 y cy' n ret d' As M (some (.long v)) M') (hy : CallY y cy' n ret k) (hlk : Cond.methodLink own i y ∈ tb) (hin : Cond.static y ∈ tb) (hd' : d' + 1 ≤ d) (hlen : As.length = k) (hle : M.1 ≤ M'.1) (hlim : M'.1 ≤ lim) (hst : st0 = As.reverse ++ st) (hcat : (st.map fun v => v.category).sum ≤ 8) (hd : decode cc pc = .ok (.invokestatic i, 3)) (kk : WS X M' (pc + 3) loc (.long v :: st)) : WS X M pc loc st0 :=
  s_callS O hM hy hlk hin hd' hlen hle hlim hst hcat hd kk
theorem s_callVv {X : CT} {cc : ByteArray} {own : String} {d lim w : Nat} (O : OKX X cc own d lim w) {M : MM} {pc : Nat} {loc : List (Nat × Value)} {st : List Value} {y : MethodName} {cy' : ByteArray} {n k i d' : Nat} {ret : Option FieldType} {As st0 : List Value} {M' : MM}  {ci p : Nat} {C : String} {T : u_T} {N : Nat} {ty : Nat → FieldType} (HK : KCok ci C T N ty) (hM : Ct X.1 y cy' n ret d' (rf X.1 p :: As) M none M') (hy : CallY y cy' n ret k) (hlk : Cond.methodLink own i y ∈ tb) (hin : Cond.instanceMethod y ∈ tb) (hse : Cond.selects C y y ∈ tb) (hd' : d' + 1 ≤ d) (hlen : As.length = k) (hle : M.1 ≤ M'.1) (hlim : M'.1 ≤ lim) (hp : p < M.1) (hkd : kd p = ci) (hst : st0 = As.reverse ++ rf X.1 p :: st) (hcat : (st.map fun v => v.category).sum ≤ 8) (hd : decode cc pc = .ok (.invokevirtual i, 3)) (kk : WS X M' (pc + 3) loc (st)) : WS X M pc loc st0 :=
  s_callV O HK hM hy hlk hin hse hd' hlen hle hlim hp hkd hst hcat hd kk
theorem s_callSv {X : CT} {cc : ByteArray} {own : String} {d lim w : Nat} (O : OKX X cc own d lim w) {M : MM} {pc : Nat} {loc : List (Nat × Value)} {st : List Value} {y : MethodName} {cy' : ByteArray} {n k i d' : Nat} {ret : Option FieldType} {As st0 : List Value} {M' : MM}  (hM : Ct X.1 y cy' n ret d' As M none M') (hy : CallY y cy' n ret k) (hlk : Cond.methodLink own i y ∈ tb) (hin : Cond.static y ∈ tb) (hd' : d' + 1 ≤ d) (hlen : As.length = k) (hle : M.1 ≤ M'.1) (hlim : M'.1 ≤ lim) (hst : st0 = As.reverse ++ st) (hcat : (st.map fun v => v.category).sum ≤ 8) (hd : decode cc pc = .ok (.invokestatic i, 3)) (kk : WS X M' (pc + 3) loc (st)) : WS X M pc loc st0 :=
  s_callS O hM hy hlk hin hd' hlen hle hlim hst hcat hd kk
theorem s_callIv {X : CT} {cc : ByteArray} {own : String} {d lim w : Nat} (O : OKX X cc own d lim w) {M : MM} {pc : Nat} {loc : List (Nat × Value)} {st : List Value} {y : MethodName} {cy' : ByteArray} {n k i d' : Nat} {As st0 : List Value} {M' : MM}  {p : Nat} (hM : Ct X.1 y cy' n none d' (rf X.1 p :: As) M none M') (hy : CallY y cy' n none k) (hlk : Cond.methodLink own i y ∈ tb) (hin : Cond.instanceMethod y ∈ tb) (hnm : y.name = "<init>") (hd' : d' + 1 ≤ d) (hlen : As.length = k) (hle : M.1 ≤ M'.1) (hlim : M'.1 ≤ lim) (hst : st0 = As.reverse ++ rf X.1 p :: st) (hcat : (st.map fun v => v.category).sum ≤ 8) (hd : decode cc pc = .ok (.invokespecial i, 3)) (kk : WS X M' (pc + 3) loc st) : WS X M pc loc st0 :=
  s_callI O hM hy hlk hin hnm hd' hlen hle hlim hst hcat hd kk
theorem s_callINv {X : CT} {cc : ByteArray} {own : String} {d lim w : Nat} (O : OKX X cc own d lim w) {M : MM} {pc : Nat} {loc : List (Nat × Value)} {st : List Value} {y : MethodName} {cy' : ByteArray} {n k i d' : Nat} {As st0 : List Value} {M' : MM}  {p : Nat} {host : String} (hM : Ct X.1 y cy' n none d' (rf X.1 p :: As) M none M') (hy : CallY y cy' n none k) (hlk : Cond.methodLinkNest own i y host ∈ nestL) (hin : Cond.instanceMethod y ∈ tb) (hnm : y.name = "<init>") (hd' : d' + 1 ≤ d) (hlen : As.length = k) (hle : M.1 ≤ M'.1) (hlim : M'.1 ≤ lim) (hst : st0 = As.reverse ++ rf X.1 p :: st) (hcat : (st.map fun v => v.category).sum ≤ 8) (hd : decode cc pc = .ok (.invokespecial i, 3)) (kk : WS X M' (pc + 3) loc st) : WS X M pc loc st0 :=
  s_callIN O hM hy hlk hin hnm hd' hlen hle hlim hst hcat hd kk
end
