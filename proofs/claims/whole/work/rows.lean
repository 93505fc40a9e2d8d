section
-- ===== PART A: goes FIRST, ahead of the names: the tables' words, and 'selects' of the private methods out of them =====
/-- a private method of a class that the tables say can be made, by its rows of tables_1 -/
def lw_okq (q : MethodName × Nat) : Prop := (q.1.cls ≠ "java/lang/invoke/MethodHandle" ∧ q.1.cls ≠ "java/lang/invoke/VarHandle") ∧ Cond.instantiable q.1.cls q.2 ∈ tables_1 ∧ Cond.privateMethod q.1 ∈ tables_1 ∧ Cond.instanceMethod q.1 ∈ tables_1
theorem lw_p0 : lw_okq (⟨"SectionFibres$Section", "add", "(III)V"⟩, 7) := ⟨⟨by decide +kernel, by decide +kernel⟩, List.mem_of_getElem? (i := 20) (by decide +kernel), List.mem_of_getElem? (i := 113) (by decide +kernel), List.mem_of_getElem? (i := 114) (by decide +kernel)⟩
theorem lw_p1 : lw_okq (⟨"SectionFibres$Kinds", "addPoint", "(III)Z"⟩, 5) := ⟨⟨by decide +kernel, by decide +kernel⟩, List.mem_of_getElem? (i := 26) (by decide +kernel), List.mem_of_getElem? (i := 126) (by decide +kernel), List.mem_of_getElem? (i := 127) (by decide +kernel)⟩
theorem lw_p2 : lw_okq (⟨"SectionFibres$Section", "has", "(I)Z"⟩, 7) := ⟨⟨by decide +kernel, by decide +kernel⟩, List.mem_of_getElem? (i := 20) (by decide +kernel), List.mem_of_getElem? (i := 134) (by decide +kernel), List.mem_of_getElem? (i := 135) (by decide +kernel)⟩
theorem lw_p3 : lw_okq (⟨"SectionFibres$Section", "sumOf", "(III)J"⟩, 7) := ⟨⟨by decide +kernel, by decide +kernel⟩, List.mem_of_getElem? (i := 20) (by decide +kernel), List.mem_of_getElem? (i := 162) (by decide +kernel), List.mem_of_getElem? (i := 163) (by decide +kernel)⟩
theorem lw_p4 : lw_okq (⟨"SectionFibres$Section", "stressOn", "(III)I"⟩, 7) := ⟨⟨by decide +kernel, by decide +kernel⟩, List.mem_of_getElem? (i := 20) (by decide +kernel), List.mem_of_getElem? (i := 166) (by decide +kernel), List.mem_of_getElem? (i := 167) (by decide +kernel)⟩
theorem lw_p5 : lw_okq (⟨"SectionFibres$Section", "worksOn", "(III)I"⟩, 7) := ⟨⟨by decide +kernel, by decide +kernel⟩, List.mem_of_getElem? (i := 20) (by decide +kernel), List.mem_of_getElem? (i := 170) (by decide +kernel), List.mem_of_getElem? (i := 171) (by decide +kernel)⟩
theorem lw_p6 : lw_okq (⟨"SectionFibres$Kinds", "stressAt", "(II)I"⟩, 5) := ⟨⟨by decide +kernel, by decide +kernel⟩, List.mem_of_getElem? (i := 26) (by decide +kernel), List.mem_of_getElem? (i := 181) (by decide +kernel), List.mem_of_getElem? (i := 182) (by decide +kernel)⟩
theorem lw_p7 : lw_okq (⟨"SectionFibres$Section", "balanceOf", "(JI)I"⟩, 7) := ⟨⟨by decide +kernel, by decide +kernel⟩, List.mem_of_getElem? (i := 20) (by decide +kernel), List.mem_of_getElem? (i := 190) (by decide +kernel), List.mem_of_getElem? (i := 191) (by decide +kernel)⟩
theorem lw_p8 : lw_okq (⟨"SectionFibres$Section", "bendFor", "(JJ)I"⟩, 7) := ⟨⟨by decide +kernel, by decide +kernel⟩, List.mem_of_getElem? (i := 20) (by decide +kernel), List.mem_of_getElem? (i := 200) (by decide +kernel), List.mem_of_getElem? (i := 201) (by decide +kernel)⟩
theorem lw_p9 : lw_okq (⟨"SectionFibres$Section", "firstBeyond", "(II)I"⟩, 7) := ⟨⟨by decide +kernel, by decide +kernel⟩, List.mem_of_getElem? (i := 20) (by decide +kernel), List.mem_of_getElem? (i := 213) (by decide +kernel), List.mem_of_getElem? (i := 214) (by decide +kernel)⟩
theorem lw_p10 : lw_okq (⟨"SectionFibres$Kinds", "isBeyond", "(II)Z"⟩, 5) := ⟨⟨by decide +kernel, by decide +kernel⟩, List.mem_of_getElem? (i := 26) (by decide +kernel), List.mem_of_getElem? (i := 217) (by decide +kernel), List.mem_of_getElem? (i := 218) (by decide +kernel)⟩
theorem lw_p11 : lw_okq (⟨"SectionFibres$Section", "setLastArea", "(I)V"⟩, 7) := ⟨⟨by decide +kernel, by decide +kernel⟩, List.mem_of_getElem? (i := 20) (by decide +kernel), List.mem_of_getElem? (i := 240) (by decide +kernel), List.mem_of_getElem? (i := 241) (by decide +kernel)⟩
theorem lw_p12 : lw_okq (⟨"SectionFibres$Section", "dropLast", "()V"⟩, 7) := ⟨⟨by decide +kernel, by decide +kernel⟩, List.mem_of_getElem? (i := 20) (by decide +kernel), List.mem_of_getElem? (i := 244) (by decide +kernel), List.mem_of_getElem? (i := 245) (by decide +kernel)⟩
theorem lw_p13 : lw_okq (⟨"SectionFibres$Section", "allAreas", "()I"⟩, 7) := ⟨⟨by decide +kernel, by decide +kernel⟩, List.mem_of_getElem? (i := 20) (by decide +kernel), List.mem_of_getElem? (i := 252) (by decide +kernel), List.mem_of_getElem? (i := 253) (by decide +kernel)⟩
theorem lw_p14 : lw_okq (⟨"java/lang/Throwable", "fillInStackTrace", "(I)Ljava/lang/Throwable;"⟩, 6) := ⟨⟨by decide +kernel, by decide +kernel⟩, List.mem_of_getElem? (i := 302) (by decide +kernel), List.mem_of_getElem? (i := 300) (by decide +kernel), List.mem_of_getElem? (i := 301) (by decide +kernel)⟩
theorem lw_p15 : lw_okq (⟨"SectionFibresModel", "lay", "(IIII)V"⟩, 19) := ⟨⟨by decide +kernel, by decide +kernel⟩, List.mem_of_getElem? (i := 346) (by decide +kernel), List.mem_of_getElem? (i := 425) (by decide +kernel), List.mem_of_getElem? (i := 426) (by decide +kernel)⟩
def lw_privs_1 : List (MethodName × Nat) := [(⟨"SectionFibres$Section", "add", "(III)V"⟩, 7), (⟨"SectionFibres$Kinds", "addPoint", "(III)Z"⟩, 5), (⟨"SectionFibres$Section", "has", "(I)Z"⟩, 7), (⟨"SectionFibres$Section", "sumOf", "(III)J"⟩, 7), (⟨"SectionFibres$Section", "stressOn", "(III)I"⟩, 7), (⟨"SectionFibres$Section", "worksOn", "(III)I"⟩, 7), (⟨"SectionFibres$Kinds", "stressAt", "(II)I"⟩, 5), (⟨"SectionFibres$Section", "balanceOf", "(JI)I"⟩, 7), (⟨"SectionFibres$Section", "bendFor", "(JJ)I"⟩, 7), (⟨"SectionFibres$Section", "firstBeyond", "(II)I"⟩, 7), (⟨"SectionFibres$Kinds", "isBeyond", "(II)Z"⟩, 5), (⟨"SectionFibres$Section", "setLastArea", "(I)V"⟩, 7), (⟨"SectionFibres$Section", "dropLast", "()V"⟩, 7), (⟨"SectionFibres$Section", "allAreas", "()I"⟩, 7), (⟨"java/lang/Throwable", "fillInStackTrace", "(I)Ljava/lang/Throwable;"⟩, 6), (⟨"SectionFibresModel", "lay", "(IIII)V"⟩, 19)]
theorem lw_r1 : ∀ q ∈ lw_privs_1, lw_okq q := List.forall_mem_cons.mpr ⟨lw_p0, List.forall_mem_cons.mpr ⟨lw_p1, List.forall_mem_cons.mpr ⟨lw_p2, List.forall_mem_cons.mpr ⟨lw_p3, List.forall_mem_cons.mpr ⟨lw_p4, List.forall_mem_cons.mpr ⟨lw_p5, List.forall_mem_cons.mpr ⟨lw_p6, List.forall_mem_cons.mpr ⟨lw_p7, List.forall_mem_cons.mpr ⟨lw_p8, List.forall_mem_cons.mpr ⟨lw_p9, List.forall_mem_cons.mpr ⟨lw_p10, List.forall_mem_cons.mpr ⟨lw_p11, List.forall_mem_cons.mpr ⟨lw_p12, List.forall_mem_cons.mpr ⟨lw_p13, List.forall_mem_cons.mpr ⟨lw_p14, List.forall_mem_cons.mpr ⟨lw_p15, fun _ h => absurd h List.not_mem_nil⟩⟩⟩⟩⟩⟩⟩⟩⟩⟩⟩⟩⟩⟩⟩⟩
theorem lw_p16 : lw_okq (⟨"SectionFibresModel", "isFibre", "(I)Z"⟩, 19) := ⟨⟨by decide +kernel, by decide +kernel⟩, List.mem_of_getElem? (i := 346) (by decide +kernel), List.mem_of_getElem? (i := 439) (by decide +kernel), List.mem_of_getElem? (i := 440) (by decide +kernel)⟩
theorem lw_p17 : lw_okq (⟨"SectionFibresModel", "stressAt", "(II)I"⟩, 19) := ⟨⟨by decide +kernel, by decide +kernel⟩, List.mem_of_getElem? (i := 346) (by decide +kernel), List.mem_of_getElem? (i := 459) (by decide +kernel), List.mem_of_getElem? (i := 460) (by decide +kernel)⟩
theorem lw_p18 : lw_okq (⟨"SectionFibresModel", "sum", "(IIZ)J"⟩, 19) := ⟨⟨by decide +kernel, by decide +kernel⟩, List.mem_of_getElem? (i := 346) (by decide +kernel), List.mem_of_getElem? (i := 467) (by decide +kernel), List.mem_of_getElem? (i := 468) (by decide +kernel)⟩
theorem lw_p19 : lw_okq (⟨"SectionFibresModel", "stressOf", "(III)I"⟩, 19) := ⟨⟨by decide +kernel, by decide +kernel⟩, List.mem_of_getElem? (i := 346) (by decide +kernel), List.mem_of_getElem? (i := 471) (by decide +kernel), List.mem_of_getElem? (i := 472) (by decide +kernel)⟩
theorem lw_p20 : lw_okq (⟨"SectionFibresModel", "works", "(III)I"⟩, 19) := ⟨⟨by decide +kernel, by decide +kernel⟩, List.mem_of_getElem? (i := 346) (by decide +kernel), List.mem_of_getElem? (i := 475) (by decide +kernel), List.mem_of_getElem? (i := 476) (by decide +kernel)⟩
theorem lw_p21 : lw_okq (⟨"SectionFibresModel", "balanceOf", "(JI)I"⟩, 19) := ⟨⟨by decide +kernel, by decide +kernel⟩, List.mem_of_getElem? (i := 346) (by decide +kernel), List.mem_of_getElem? (i := 485) (by decide +kernel), List.mem_of_getElem? (i := 486) (by decide +kernel)⟩
theorem lw_p22 : lw_okq (⟨"SectionFibresModel", "solve", "(JJ)I"⟩, 19) := ⟨⟨by decide +kernel, by decide +kernel⟩, List.mem_of_getElem? (i := 346) (by decide +kernel), List.mem_of_getElem? (i := 493) (by decide +kernel), List.mem_of_getElem? (i := 494) (by decide +kernel)⟩
theorem lw_p23 : lw_okq (⟨"SectionFibresModel", "firstBeyond", "(II)I"⟩, 19) := ⟨⟨by decide +kernel, by decide +kernel⟩, List.mem_of_getElem? (i := 346) (by decide +kernel), List.mem_of_getElem? (i := 501) (by decide +kernel), List.mem_of_getElem? (i := 502) (by decide +kernel)⟩
theorem lw_p24 : lw_okq (⟨"SectionFibresModel", "isBeyond", "(III)Z"⟩, 19) := ⟨⟨by decide +kernel, by decide +kernel⟩, List.mem_of_getElem? (i := 346) (by decide +kernel), List.mem_of_getElem? (i := 505) (by decide +kernel), List.mem_of_getElem? (i := 506) (by decide +kernel)⟩
def lw_privs_2 : List (MethodName × Nat) := [(⟨"SectionFibresModel", "isFibre", "(I)Z"⟩, 19), (⟨"SectionFibresModel", "stressAt", "(II)I"⟩, 19), (⟨"SectionFibresModel", "sum", "(IIZ)J"⟩, 19), (⟨"SectionFibresModel", "stressOf", "(III)I"⟩, 19), (⟨"SectionFibresModel", "works", "(III)I"⟩, 19), (⟨"SectionFibresModel", "balanceOf", "(JI)I"⟩, 19), (⟨"SectionFibresModel", "solve", "(JJ)I"⟩, 19), (⟨"SectionFibresModel", "firstBeyond", "(II)I"⟩, 19), (⟨"SectionFibresModel", "isBeyond", "(III)Z"⟩, 19)]
theorem lw_r2 : ∀ q ∈ lw_privs_2, lw_okq q := List.forall_mem_cons.mpr ⟨lw_p16, List.forall_mem_cons.mpr ⟨lw_p17, List.forall_mem_cons.mpr ⟨lw_p18, List.forall_mem_cons.mpr ⟨lw_p19, List.forall_mem_cons.mpr ⟨lw_p20, List.forall_mem_cons.mpr ⟨lw_p21, List.forall_mem_cons.mpr ⟨lw_p22, List.forall_mem_cons.mpr ⟨lw_p23, List.forall_mem_cons.mpr ⟨lw_p24, fun _ h => absurd h List.not_mem_nil⟩⟩⟩⟩⟩⟩⟩⟩⟩
def lw_privs : List (MethodName × Nat) := lw_privs_1 ++ (lw_privs_2)
def lw_tbl : List Cond := k2_sels lw_privs ++ tables_1
theorem lw_privs_ok : ∀ q ∈ lw_privs, lw_okq q := by
  show ∀ q ∈ lw_privs_1 ++ (lw_privs_2), lw_okq q
  exact List.forall_mem_append.mpr ⟨lw_r1, lw_r2⟩
/-! ===== BEGIN words of one list among another's, by their places ===== -/
theorem goodIn_r {big : List Cond} (ws : List Cond) (ps : List Nat) (hp : ws = ps.filterMap (fun i => big[i]?)) (h : ws.all goodWord = true) : GoodIn big ws := by
  intro w hw
  have h1 := List.all_eq_true.mp h w hw
  rw [hp] at hw
  obtain ⟨i, -, hi⟩ := List.mem_filterMap.mp hw
  have hm : w ∈ big := by first | exact List.mem_of_getElem? hi | exact List.getElem?_mem hi
  exact ⟨hm, good_of_word h1⟩
theorem goodIn_app {big a b : List Cond} (ha : GoodIn big a) (hb : GoodIn big b) : GoodIn big (a ++ b) := fun w h => (List.mem_append.mp h).elim (ha w) (hb w)
theorem goodIn_ca {big a b : List Cond} {c : Cond} (ha : GoodIn big (c :: a)) (hb : GoodIn big b) : GoodIn big (c :: (a ++ b)) := fun w h => (List.mem_cons.mp h).elim (fun e => ha w (List.mem_cons.mpr (Or.inl e))) (fun h => (List.mem_append.mp h).elim (fun h => ha w (List.mem_cons.mpr (Or.inr h))) (hb w))
theorem goodIn_sub {big ws : List Cond} (hm : ∀ w ∈ ws, w ∈ big) (h : ws.all goodWord = true) : GoodIn big ws := fun w hw => ⟨hm w hw, good_of_word (List.all_eq_true.mp h w hw)⟩
/-! ===== END ===== -/

/-! ===== BEGIN printed: names, fields, word lists, decode rows ===== -/
def RX0 : String := "SectionFibres$Kinds"
def TX0 : u_T := fun k => match k with
  | 0 => ("SectionFibres$Kinds", "strains", "[I", true)
  | 1 => ("SectionFibres$Kinds", "stresses", "[I", true)
  | 2 => ("SectionFibres$Kinds", "points", "[I", true)
  | 3 => ("SectionFibres$Kinds", "creep", "[I", true)
  | _ => ("SectionFibres$Kinds", "shrunk", "[I", true)
def tyX0 : Nat → FieldType := fun k => match k with
  | 0 => .array .int
  | 1 => .array .int
  | 2 => .array .int
  | 3 => .array .int
  | _ => .array .int
abbrev wsX00 : List Cond := u_ws RX0 TX0 5
theorem nmX0 : ∀ a, a < 5 → ∀ b, b < 5 → a ≠ b → (TX0 a).2.1 ≠ (TX0 b).2.1 := by decide +kernel
theorem tyX0_ok : ∀ k, k < 5 → parseFieldDescriptor (TX0 k).2.2.1 = some (tyX0 k) := by decide +kernel
abbrev cX0_init : ByteArray := prog_2_method_1_code
def yX0_init : MethodName := ⟨RX0, "<init>", "()V"⟩
abbrev cX0_addPoint : ByteArray := prog_2_method_2_code
def yX0_addPoint : MethodName := ⟨RX0, "addPoint", "(III)Z"⟩
abbrev cX0_stressAt : ByteArray := prog_2_method_3_code
def yX0_stressAt : MethodName := ⟨RX0, "stressAt", "(II)I"⟩
abbrev cX0_isBeyond : ByteArray := prog_2_method_4_code
def yX0_isBeyond : MethodName := ⟨RX0, "isBeyond", "(II)Z"⟩
def RX1 : String := "SectionFibres$Section"
def TX1 : u_T := fun k => match k with
  | 0 => ("SectionFibres$Section", "kinds", "LSectionFibres$Kinds;", true)
  | 1 => ("SectionFibres$Section", "areas", "[I", true)
  | 2 => ("SectionFibres$Section", "places", "[I", true)
  | 3 => ("SectionFibres$Section", "kindOf", "[I", true)
  | 4 => ("SectionFibres$Section", "births", "[I", true)
  | 5 => ("SectionFibres$Section", "kept", "[I", true)
  | _ => ("SectionFibres$Section", "size", "I", false)
def tyX1 : Nat → FieldType := fun k => match k with
  | 0 => .object "SectionFibres$Kinds"
  | 1 => .array .int
  | 2 => .array .int
  | 3 => .array .int
  | 4 => .array .int
  | 5 => .array .int
  | _ => .int
abbrev wsX10 : List Cond := u_ws RX1 TX1 7
theorem nmX1 : ∀ a, a < 7 → ∀ b, b < 7 → a ≠ b → (TX1 a).2.1 ≠ (TX1 b).2.1 := by decide +kernel
theorem tyX1_ok : ∀ k, k < 7 → parseFieldDescriptor (TX1 k).2.2.1 = some (tyX1 k) := by decide +kernel
abbrev cX1_init : ByteArray := prog_3_method_1_code
def yX1_init : MethodName := ⟨RX1, "<init>", "()V"⟩
abbrev cX1_has : ByteArray := prog_3_method_2_code
def yX1_has : MethodName := ⟨RX1, "has", "(I)Z"⟩
abbrev cX1_add : ByteArray := prog_3_method_3_code
def yX1_add : MethodName := ⟨RX1, "add", "(III)V"⟩
abbrev cX1_setLastArea : ByteArray := prog_3_method_4_code
def yX1_setLastArea : MethodName := ⟨RX1, "setLastArea", "(I)V"⟩
abbrev cX1_dropLast : ByteArray := prog_3_method_5_code
def yX1_dropLast : MethodName := ⟨RX1, "dropLast", "()V"⟩
abbrev cX1_allAreas : ByteArray := prog_3_method_6_code
def yX1_allAreas : MethodName := ⟨RX1, "allAreas", "()I"⟩
abbrev cX1_worksOn : ByteArray := prog_3_method_7_code
def yX1_worksOn : MethodName := ⟨RX1, "worksOn", "(III)I"⟩
abbrev cX1_stressOn : ByteArray := prog_3_method_8_code
def yX1_stressOn : MethodName := ⟨RX1, "stressOn", "(III)I"⟩
abbrev cX1_sumOf : ByteArray := prog_3_method_9_code
def yX1_sumOf : MethodName := ⟨RX1, "sumOf", "(III)J"⟩
abbrev cX1_firstBeyond : ByteArray := prog_3_method_10_code
def yX1_firstBeyond : MethodName := ⟨RX1, "firstBeyond", "(II)I"⟩
abbrev cX1_balanceOf : ByteArray := prog_3_method_11_code
def yX1_balanceOf : MethodName := ⟨RX1, "balanceOf", "(JI)I"⟩
abbrev cX1_bendFor : ByteArray := prog_3_method_12_code
def yX1_bendFor : MethodName := ⟨RX1, "bendFor", "(JJ)I"⟩
def RX2 : String := "SectionFibres"
def TX2 : u_T := fun k => match k with
  | 0 => ("SectionFibres", "section", "LSectionFibres$Section;", true)
  | 1 => ("SectionFibres", "planeAtHand", "Z", false)
  | 2 => ("SectionFibres", "planeE", "I", false)
  | 3 => ("SectionFibres", "planeK", "I", false)
  | 4 => ("SectionFibres", "solvedForce", "J", false)
  | _ => ("SectionFibres", "solvedMoment", "J", false)
def tyX2 : Nat → FieldType := fun k => match k with
  | 0 => .object "SectionFibres$Section"
  | 1 => .boolean
  | 2 => .int
  | 3 => .int
  | 4 => .long
  | _ => .long
abbrev wsX20 : List Cond := u_ws RX2 TX2 6
theorem nmX2 : ∀ a, a < 6 → ∀ b, b < 6 → a ≠ b → (TX2 a).2.1 ≠ (TX2 b).2.1 := by decide +kernel
theorem tyX2_ok : ∀ k, k < 6 → parseFieldDescriptor (TX2 k).2.2.1 = some (tyX2 k) := by decide +kernel
abbrev cX2_init : ByteArray := prog_1_method_1_code
def yX2_init : MethodName := ⟨RX2, "<init>", "()V"⟩
abbrev cX2_fibre : ByteArray := prog_1_method_2_code
def yX2_fibre : MethodName := ⟨RX2, "fibre", "(III)I"⟩
abbrev cX2_point : ByteArray := prog_1_method_3_code
def yX2_point : MethodName := ⟨RX2, "point", "(III)Z"⟩
abbrev cX2_born : ByteArray := prog_1_method_4_code
def yX2_born : MethodName := ⟨RX2, "born", "(II)Z"⟩
abbrev cX2_creeps : ByteArray := prog_1_method_5_code
def yX2_creeps : MethodName := ⟨RX2, "creeps", "(II)Z"⟩
abbrev cX2_shrinks : ByteArray := prog_1_method_6_code
def yX2_shrinks : MethodName := ⟨RX2, "shrinks", "(II)Z"⟩
abbrev cX2_keeps : ByteArray := prog_1_method_7_code
def yX2_keeps : MethodName := ⟨RX2, "keeps", "(II)Z"⟩
abbrev cX2_row : ByteArray := prog_1_method_8_code
def yX2_row : MethodName := ⟨RX2, "row", "(II)I"⟩
abbrev cX2_of : ByteArray := prog_1_method_9_code
def yX2_of : MethodName := ⟨RX2, "of", "(III)J"⟩
abbrev cX2_balance : ByteArray := prog_1_method_10_code
def yX2_balance : MethodName := ⟨RX2, "balance", "(JI)I"⟩
abbrev cX2_run : ByteArray := prog_1_method_11_code
def yX2_run : MethodName := ⟨RX2, "run", "(JJ)I"⟩
abbrev cX2_told : ByteArray := prog_1_method_12_code
def yX2_told : MethodName := ⟨RX2, "told", "(I)I"⟩
abbrev cX2_residual : ByteArray := prog_1_method_13_code
def yX2_residual : MethodName := ⟨RX2, "residual", "(I)J"⟩
abbrev cX2_in : ByteArray := prog_1_method_14_code
def yX2_in : MethodName := ⟨RX2, "in", "(II)I"⟩
abbrev cX2_curve : ByteArray := prog_1_method_15_code
def yX2_curve : MethodName := ⟨RX2, "curve", "(JII)J"⟩
abbrev cX2_last : ByteArray := prog_1_method_16_code
def yX2_last : MethodName := ⟨RX2, "last", "(JI)I"⟩
abbrev cX2_needed : ByteArray := prog_1_method_17_code
def yX2_needed : MethodName := ⟨RX2, "needed", "(IIIJJ)I"⟩
abbrev cX2_count : ByteArray := prog_1_method_18_code
def yX2_count : MethodName := ⟨RX2, "count", "(I)I"⟩
abbrev cX2_within : ByteArray := prog_1_method_19_code
def yX2_within : MethodName := ⟨RX2, "within", "(III)Z"⟩
abbrev cX2_isKind : ByteArray := prog_1_method_20_code
def yX2_isKind : MethodName := ⟨RX2, "isKind", "(I)Z"⟩
abbrev cX2_isPlace : ByteArray := prog_1_method_21_code
def yX2_isPlace : MethodName := ⟨RX2, "isPlace", "(I)Z"⟩
abbrev cX2_isToldStrain : ByteArray := prog_1_method_22_code
def yX2_isToldStrain : MethodName := ⟨RX2, "isToldStrain", "(I)Z"⟩
abbrev cX2_isOfPlane : ByteArray := prog_1_method_23_code
def yX2_isOfPlane : MethodName := ⟨RX2, "isOfPlane", "(I)Z"⟩
abbrev cX2_isSum : ByteArray := prog_1_method_24_code
def yX2_isSum : MethodName := ⟨RX2, "isSum", "(I)Z"⟩
abbrev cX2_isBendStep : ByteArray := prog_1_method_25_code
def yX2_isBendStep : MethodName := ⟨RX2, "isBendStep", "(I)Z"⟩
abbrev cX2_share : ByteArray := prog_1_method_26_code
def yX2_share : MethodName := ⟨RX2, "share", "(JJJ)I"⟩
def RX3 : String := "SectionFibresModel"
def TX3 : u_T := fun k => match k with
  | 0 => ("SectionFibresModel", "thrown", "I", false)
  | 1 => ("SectionFibresModel", "fibres", "I", false)
  | 2 => ("SectionFibresModel", "areas", "[I", true)
  | 3 => ("SectionFibresModel", "places", "[I", true)
  | 4 => ("SectionFibresModel", "kinds", "[I", true)
  | 5 => ("SectionFibresModel", "borns", "[I", true)
  | 6 => ("SectionFibresModel", "kept", "[I", true)
  | 7 => ("SectionFibresModel", "points", "[I", true)
  | 8 => ("SectionFibresModel", "strains", "[I", true)
  | 9 => ("SectionFibresModel", "stresses", "[I", true)
  | 10 => ("SectionFibresModel", "creep", "[I", true)
  | 11 => ("SectionFibresModel", "shrunk", "[I", true)
  | 12 => ("SectionFibresModel", "has", "Z", false)
  | 13 => ("SectionFibresModel", "e", "I", false)
  | 14 => ("SectionFibresModel", "k", "I", false)
  | 15 => ("SectionFibresModel", "wantedForce", "J", false)
  | 16 => ("SectionFibresModel", "wantedMoment", "J", false)
  | 17 => ("SectionFibresModel", "foundE", "I", false)
  | _ => ("SectionFibresModel", "foundK", "I", false)
def tyX3 : Nat → FieldType := fun k => match k with
  | 0 => .int
  | 1 => .int
  | 2 => .array .int
  | 3 => .array .int
  | 4 => .array .int
  | 5 => .array .int
  | 6 => .array .int
  | 7 => .array .int
  | 8 => .array .int
  | 9 => .array .int
  | 10 => .array .int
  | 11 => .array .int
  | 12 => .boolean
  | 13 => .int
  | 14 => .int
  | 15 => .long
  | 16 => .long
  | 17 => .int
  | _ => .int
abbrev wsX30 : List Cond := u_ws RX3 TX3 19
theorem nmX3 : ∀ a, a < 19 → ∀ b, b < 19 → a ≠ b → (TX3 a).2.1 ≠ (TX3 b).2.1 := by decide +kernel
theorem tyX3_ok : ∀ k, k < 19 → parseFieldDescriptor (TX3 k).2.2.1 = some (tyX3 k) := by decide +kernel
abbrev cX3_init : ByteArray := prog_5_method_1_code
def yX3_init : MethodName := ⟨RX3, "<init>", "()V"⟩
abbrev cX3_thrown : ByteArray := prog_5_method_2_code
def yX3_thrown : MethodName := ⟨RX3, "thrown", "()I"⟩
abbrev cX3_within : ByteArray := prog_5_method_3_code
def yX3_within : MethodName := ⟨RX3, "within", "(III)Z"⟩
abbrev cX3_isFibre : ByteArray := prog_5_method_4_code
def yX3_isFibre : MethodName := ⟨RX3, "isFibre", "(I)Z"⟩
abbrev cX3_isKind : ByteArray := prog_5_method_5_code
def yX3_isKind : MethodName := ⟨RX3, "isKind", "(I)Z"⟩
abbrev cX3_lay : ByteArray := prog_5_method_6_code
def yX3_lay : MethodName := ⟨RX3, "lay", "(IIII)V"⟩
abbrev cX3_fibre : ByteArray := prog_5_method_7_code
def yX3_fibre : MethodName := ⟨RX3, "fibre", "(III)I"⟩
abbrev cX3_point : ByteArray := prog_5_method_8_code
def yX3_point : MethodName := ⟨RX3, "point", "(III)Z"⟩
abbrev cX3_born : ByteArray := prog_5_method_9_code
def yX3_born : MethodName := ⟨RX3, "born", "(II)Z"⟩
abbrev cX3_creeps : ByteArray := prog_5_method_10_code
def yX3_creeps : MethodName := ⟨RX3, "creeps", "(II)Z"⟩
abbrev cX3_shrinks : ByteArray := prog_5_method_11_code
def yX3_shrinks : MethodName := ⟨RX3, "shrinks", "(II)Z"⟩
abbrev cX3_keeps : ByteArray := prog_5_method_12_code
def yX3_keeps : MethodName := ⟨RX3, "keeps", "(II)Z"⟩
abbrev cX3_stressAt : ByteArray := prog_5_method_13_code
def yX3_stressAt : MethodName := ⟨RX3, "stressAt", "(II)I"⟩
abbrev cX3_row : ByteArray := prog_5_method_14_code
def yX3_row : MethodName := ⟨RX3, "row", "(II)I"⟩
abbrev cX3_works : ByteArray := prog_5_method_15_code
def yX3_works : MethodName := ⟨RX3, "works", "(III)I"⟩
abbrev cX3_stressOf : ByteArray := prog_5_method_16_code
def yX3_stressOf : MethodName := ⟨RX3, "stressOf", "(III)I"⟩
abbrev cX3_isBeyond : ByteArray := prog_5_method_17_code
def yX3_isBeyond : MethodName := ⟨RX3, "isBeyond", "(III)Z"⟩
abbrev cX3_firstBeyond : ByteArray := prog_5_method_18_code
def yX3_firstBeyond : MethodName := ⟨RX3, "firstBeyond", "(II)I"⟩
abbrev cX3_sum : ByteArray := prog_5_method_19_code
def yX3_sum : MethodName := ⟨RX3, "sum", "(IIZ)J"⟩
abbrev cX3_of : ByteArray := prog_5_method_20_code
def yX3_of : MethodName := ⟨RX3, "of", "(III)J"⟩
abbrev cX3_balanceOf : ByteArray := prog_5_method_21_code
def yX3_balanceOf : MethodName := ⟨RX3, "balanceOf", "(JI)I"⟩
abbrev cX3_balance : ByteArray := prog_5_method_22_code
def yX3_balance : MethodName := ⟨RX3, "balance", "(JI)I"⟩
abbrev cX3_solve : ByteArray := prog_5_method_23_code
def yX3_solve : MethodName := ⟨RX3, "solve", "(JJ)I"⟩
abbrev cX3_run : ByteArray := prog_5_method_24_code
def yX3_run : MethodName := ⟨RX3, "run", "(JJ)I"⟩
abbrev cX3_told : ByteArray := prog_5_method_25_code
def yX3_told : MethodName := ⟨RX3, "told", "(I)I"⟩
abbrev cX3_residual : ByteArray := prog_5_method_26_code
def yX3_residual : MethodName := ⟨RX3, "residual", "(I)J"⟩
abbrev cX3_in : ByteArray := prog_5_method_27_code
def yX3_in : MethodName := ⟨RX3, "in", "(II)I"⟩
abbrev cX3_curve : ByteArray := prog_5_method_28_code
def yX3_curve : MethodName := ⟨RX3, "curve", "(JII)J"⟩
abbrev cX3_last : ByteArray := prog_5_method_29_code
def yX3_last : MethodName := ⟨RX3, "last", "(JI)I"⟩
abbrev cX3_needed : ByteArray := prog_5_method_30_code
def yX3_needed : MethodName := ⟨RX3, "needed", "(IIIJJ)I"⟩
abbrev cX3_count : ByteArray := prog_5_method_31_code
def yX3_count : MethodName := ⟨RX3, "count", "(I)I"⟩
def RJx00060 : String := "java/lang/ArrayIndexOutOfBoundsException"
def TJx00060 : u_T := fun k => match k with
  | 0 => ("java/lang/Throwable", "cause", "Ljava/lang/Throwable;", false)
  | 1 => ("java/lang/Throwable", "stackTrace", "[Ljava/lang/StackTraceElement;", false)
  | 2 => ("java/lang/Throwable", "suppressedExceptions", "Ljava/util/List;", false)
  | 3 => ("java/lang/Throwable", "detailMessage", "Ljava/lang/String;", false)
  | 4 => ("java/lang/Throwable", "backtrace", "Ljava/lang/Object;", false)
  | _ => ("java/lang/Throwable", "depth", "I", false)
def tyJx00060 : Nat → FieldType := fun k => match k with
  | 0 => .object "java/lang/Throwable"
  | 1 => .array (.object "java/lang/StackTraceElement")
  | 2 => .object "java/util/List"
  | 3 => .object "java/lang/String"
  | 4 => .object "java/lang/Object"
  | _ => .int
abbrev wsJx000600 : List Cond := u_ws RJx00060 TJx00060 6
theorem nmJx00060 : ∀ a, a < 6 → ∀ b, b < 6 → a ≠ b → (TJx00060 a).2.1 ≠ (TJx00060 b).2.1 := by decide +kernel
theorem tyJx00060_ok : ∀ k, k < 6 → parseFieldDescriptor (TJx00060 k).2.2.1 = some (tyJx00060 k) := by decide +kernel
abbrev cJx00060_init_a7421 : ByteArray := prog_6_method_2_code
def yJx00060_init_a7421 : MethodName := ⟨RJx00060, "<init>", "(Ljava/lang/String;)V"⟩
def RJ9 : String := "java/lang/Math"
def TJ9 : u_T := fun k => match k with
  | _ => ("", "", "", false)
def tyJ9 : Nat → FieldType := fun k => match k with
  | _ => .int
abbrev wsJ90 : List Cond := u_ws RJ9 TJ9 0
theorem nmJ9 : ∀ a, a < 0 → ∀ b, b < 0 → a ≠ b → (TJ9 a).2.1 ≠ (TJ9 b).2.1 := by decide +kernel
theorem tyJ9_ok : ∀ k, k < 0 → parseFieldDescriptor (TJ9 k).2.2.1 = some (tyJ9 k) := by decide +kernel
abbrev cJ9_floorDiv_7cf53 : ByteArray := prog_9_method_47_code
def yJ9_floorDiv_7cf53 : MethodName := ⟨RJ9, "floorDiv", "(II)I"⟩
def RJ0 : String := "java/lang/String"
def TJ0 : u_T := fun k => match k with
  | _ => ("", "", "", false)
def tyJ0 : Nat → FieldType := fun k => match k with
  | _ => .int
abbrev wsJ00 : List Cond := u_ws RJ0 TJ0 0
theorem nmJ0 : ∀ a, a < 0 → ∀ b, b < 0 → a ≠ b → (TJ0 a).2.1 ≠ (TJ0 b).2.1 := by decide +kernel
theorem tyJ0_ok : ∀ k, k < 0 → parseFieldDescriptor (TJ0 k).2.2.1 = some (tyJ0 k) := by decide +kernel
def RL : String := "SectionFibresLaw"
abbrev cL_row : ByteArray := method_3_code
def yL_row : MethodName := ⟨RL, "row", "(LSectionFibres;II[J)I"⟩
abbrev cL_in : ByteArray := method_4_code
def yL_in : MethodName := ⟨RL, "in", "(LSectionFibres;II[J)I"⟩
abbrev cL_law : ByteArray := code
def yL_law : MethodName := ⟨RL, "law", "([I)Z"⟩
def wsX0_init : List Cond := .code yX0_init cX0_init 1 none :: ([.methodLink RX0 3 objectInit, .instanceMethod objectInit, .code objectInit ⟨#[0xb1]⟩ 1 none, .arrayClass .int, .fieldLink RX0 9 "SectionFibres$Kinds" "strains" "[I", .fieldLink RX0 15 "SectionFibres$Kinds" "stresses" "[I", .fieldLink RX0 18 "SectionFibres$Kinds" "points" "[I", .fieldLink RX0 21 "SectionFibres$Kinds" "creep" "[I", .fieldLink RX0 24 "SectionFibres$Kinds" "shrunk" "[I"] ++ wsX00)
def wsX0_addPoint : List Cond := .code yX0_addPoint cX0_addPoint 6 (some .boolean) :: ([.fieldLink RX0 18 "SectionFibres$Kinds" "points" "[I", .fieldLink RX0 9 "SectionFibres$Kinds" "strains" "[I", .fieldLink RX0 15 "SectionFibres$Kinds" "stresses" "[I"] ++ wsX00)
def wsX2_share : List Cond := .code yX2_share cX2_share 6 (some .int) :: ([])
def wsX0_stressAt : List Cond := .code yX0_stressAt cX0_stressAt 7 (some .int) :: ([.fieldLink RX0 18 "SectionFibres$Kinds" "points" "[I", .fieldLink RX0 9 "SectionFibres$Kinds" "strains" "[I", .fieldLink RX0 15 "SectionFibres$Kinds" "stresses" "[I", .static yX2_share, .initialized RX2, .code yX2_share cX2_share 6 (some .int)] ++ wsX00)
def wsX0_isBeyond : List Cond := .code yX0_isBeyond cX0_isBeyond 4 (some .boolean) :: ([.fieldLink RX0 18 "SectionFibres$Kinds" "points" "[I", .fieldLink RX0 9 "SectionFibres$Kinds" "strains" "[I"] ++ wsX00)
def wsX1_init : List Cond := .code yX1_init cX1_init 1 none :: ([.methodLink RX1 3 objectInit, .instanceMethod objectInit, .code objectInit ⟨#[0xb1]⟩ 1 none, .classLink RX1 9 RX0, .instantiable RX0 5, .initialized RX0, .fieldLink RX1 12 "SectionFibres$Section" "kinds" "LSectionFibres$Kinds;", .arrayClass .int, .fieldLink RX1 18 "SectionFibres$Section" "areas" "[I", .fieldLink RX1 22 "SectionFibres$Section" "places" "[I", .fieldLink RX1 25 "SectionFibres$Section" "kindOf" "[I", .fieldLink RX1 28 "SectionFibres$Section" "births" "[I", .fieldLink RX1 31 "SectionFibres$Section" "kept" "[I", .instanceMethod yX0_init, .code yX0_init cX0_init 1 none, .methodLink RX0 3 objectInit, .fieldLink RX0 9 "SectionFibres$Kinds" "strains" "[I", .fieldLink RX0 15 "SectionFibres$Kinds" "stresses" "[I", .fieldLink RX0 18 "SectionFibres$Kinds" "points" "[I", .fieldLink RX0 21 "SectionFibres$Kinds" "creep" "[I", .fieldLink RX0 24 "SectionFibres$Kinds" "shrunk" "[I"] ++ wsX00 ++ wsX10)
def wsX2_within : List Cond := .code yX2_within cX2_within 3 (some .boolean) :: ([])
def wsX1_has : List Cond := .code yX1_has cX1_has 2 (some .boolean) :: ([.fieldLink RX1 34 "SectionFibres$Section" "size" "I", .static yX2_within, .initialized RX2, .code yX2_within cX2_within 3 (some .boolean)] ++ wsX10)
def wsX1_add : List Cond := .code yX1_add cX1_add 4 none :: ([.fieldLink RX1 34 "SectionFibres$Section" "size" "I", .fieldLink RX1 18 "SectionFibres$Section" "areas" "[I", .fieldLink RX1 22 "SectionFibres$Section" "places" "[I", .fieldLink RX1 25 "SectionFibres$Section" "kindOf" "[I", .fieldLink RX1 28 "SectionFibres$Section" "births" "[I", .fieldLink RX1 31 "SectionFibres$Section" "kept" "[I"] ++ wsX10)
def wsX1_setLastArea : List Cond := .code yX1_setLastArea cX1_setLastArea 2 none :: ([.fieldLink RX1 34 "SectionFibres$Section" "size" "I", .fieldLink RX1 18 "SectionFibres$Section" "areas" "[I"] ++ wsX10)
def wsX1_dropLast : List Cond := .code yX1_dropLast cX1_dropLast 1 none :: ([.fieldLink RX1 34 "SectionFibres$Section" "size" "I"] ++ wsX10)
def wsX1_allAreas : List Cond := .code yX1_allAreas cX1_allAreas 3 (some .int) :: ([.fieldLink RX1 34 "SectionFibres$Section" "size" "I", .fieldLink RX1 18 "SectionFibres$Section" "areas" "[I"] ++ wsX10)
def wsJ9_floorDiv_7cf53 : List Cond := .code yJ9_floorDiv_7cf53 cJ9_floorDiv_7cf53 3 (some .int) :: ([])
def wsX1_worksOn : List Cond := .code yX1_worksOn cX1_worksOn 6 (some .int) :: ([.fieldLink RX1 25 "SectionFibres$Section" "kindOf" "[I", .fieldLink RX1 22 "SectionFibres$Section" "places" "[I", .fieldLink RX1 28 "SectionFibres$Section" "births" "[I", .fieldLink RX1 12 "SectionFibres$Section" "kinds" "LSectionFibres$Kinds;", .constantLong RX1 51 (100), .methodLink RX1 42 yJ9_floorDiv_7cf53, .static yJ9_floorDiv_7cf53, .initialized RJ9, .code yJ9_floorDiv_7cf53 cJ9_floorDiv_7cf53 3 (some .int), .static yX2_share, .initialized RX2, .code yX2_share cX2_share 6 (some .int)] ++ wsX10 ++ wsX00)
def wsX1_stressOn_r1 : List Cond := [Cond.fieldLink RX1 12 "SectionFibres$Section" "kinds" "LSectionFibres$Kinds;", Cond.fieldLink RX1 25 "SectionFibres$Section" "kindOf" "[I", Cond.fieldLink RX1 31 "SectionFibres$Section" "kept" "[I", Cond.constantLong RX1 51 (100), Cond.methodLink RX1 60 yX1_worksOn, Cond.instanceMethod yX1_worksOn, Cond.selects RX1 yX1_worksOn yX1_worksOn, Cond.initialized RX1, Cond.code yX1_worksOn cX1_worksOn 6 (some .int), Cond.fieldLink RX1 22 "SectionFibres$Section" "places" "[I", Cond.fieldLink RX1 28 "SectionFibres$Section" "births" "[I", Cond.methodLink RX1 42 yJ9_floorDiv_7cf53, Cond.static yJ9_floorDiv_7cf53, Cond.initialized RJ9, Cond.code yJ9_floorDiv_7cf53 cJ9_floorDiv_7cf53 3 (some .int), Cond.static yX2_share, Cond.initialized RX2, Cond.code yX2_share cX2_share 6 (some .int), Cond.instanceMethod yX0_stressAt, Cond.initialized RX0, Cond.selects RX0 yX0_stressAt yX0_stressAt, Cond.code yX0_stressAt cX0_stressAt 7 (some .int), Cond.fieldLink RX0 18 "SectionFibres$Kinds" "points" "[I", Cond.fieldLink RX0 9 "SectionFibres$Kinds" "strains" "[I"]
def wsX1_stressOn_r2 : List Cond := [Cond.fieldLink RX0 15 "SectionFibres$Kinds" "stresses" "[I"]
def wsX1_stressOn : List Cond := .code yX1_stressOn cX1_stressOn 4 (some .int) :: ((wsX1_stressOn_r1 ++ wsX1_stressOn_r2) ++ wsX10 ++ wsX00)
def wsX1_sumOf_r1 : List Cond := [Cond.fieldLink RX1 34 "SectionFibres$Section" "size" "I", Cond.fieldLink RX1 18 "SectionFibres$Section" "areas" "[I", Cond.fieldLink RX1 22 "SectionFibres$Section" "places" "[I", Cond.methodLink RX1 67 yX1_stressOn, Cond.instanceMethod yX1_stressOn, Cond.selects RX1 yX1_stressOn yX1_stressOn, Cond.initialized RX1, Cond.code yX1_stressOn cX1_stressOn 4 (some .int), Cond.fieldLink RX1 12 "SectionFibres$Section" "kinds" "LSectionFibres$Kinds;", Cond.fieldLink RX1 25 "SectionFibres$Section" "kindOf" "[I", Cond.fieldLink RX1 31 "SectionFibres$Section" "kept" "[I", Cond.constantLong RX1 51 (100), Cond.methodLink RX1 60 yX1_worksOn, Cond.instanceMethod yX1_worksOn, Cond.selects RX1 yX1_worksOn yX1_worksOn, Cond.code yX1_worksOn cX1_worksOn 6 (some .int), Cond.fieldLink RX1 28 "SectionFibres$Section" "births" "[I", Cond.methodLink RX1 42 yJ9_floorDiv_7cf53, Cond.static yJ9_floorDiv_7cf53, Cond.initialized RJ9, Cond.code yJ9_floorDiv_7cf53 cJ9_floorDiv_7cf53 3 (some .int), Cond.static yX2_share, Cond.initialized RX2, Cond.code yX2_share cX2_share 6 (some .int)]
def wsX1_sumOf_r2 : List Cond := [Cond.instanceMethod yX0_stressAt, Cond.initialized RX0, Cond.selects RX0 yX0_stressAt yX0_stressAt, Cond.code yX0_stressAt cX0_stressAt 7 (some .int), Cond.fieldLink RX0 18 "SectionFibres$Kinds" "points" "[I", Cond.fieldLink RX0 9 "SectionFibres$Kinds" "strains" "[I", Cond.fieldLink RX0 15 "SectionFibres$Kinds" "stresses" "[I"]
def wsX1_sumOf : List Cond := .code yX1_sumOf cX1_sumOf 9 (some .long) :: ((wsX1_sumOf_r1 ++ wsX1_sumOf_r2) ++ wsX10 ++ wsX00)
def wsX1_firstBeyond : List Cond := .code yX1_firstBeyond cX1_firstBeyond 4 (some .int) :: ([.fieldLink RX1 34 "SectionFibres$Section" "size" "I", .fieldLink RX1 12 "SectionFibres$Section" "kinds" "LSectionFibres$Kinds;", .fieldLink RX1 25 "SectionFibres$Section" "kindOf" "[I", .methodLink RX1 60 yX1_worksOn, .instanceMethod yX1_worksOn, .selects RX1 yX1_worksOn yX1_worksOn, .initialized RX1, .code yX1_worksOn cX1_worksOn 6 (some .int), .fieldLink RX1 22 "SectionFibres$Section" "places" "[I", .fieldLink RX1 28 "SectionFibres$Section" "births" "[I", .constantLong RX1 51 (100), .methodLink RX1 42 yJ9_floorDiv_7cf53, .static yJ9_floorDiv_7cf53, .initialized RJ9, .code yJ9_floorDiv_7cf53 cJ9_floorDiv_7cf53 3 (some .int), .static yX2_share, .initialized RX2, .code yX2_share cX2_share 6 (some .int), .instanceMethod yX0_isBeyond, .initialized RX0, .selects RX0 yX0_isBeyond yX0_isBeyond, .code yX0_isBeyond cX0_isBeyond 4 (some .boolean), .fieldLink RX0 18 "SectionFibres$Kinds" "points" "[I", .fieldLink RX0 9 "SectionFibres$Kinds" "strains" "[I"] ++ wsX10 ++ wsX00)
def wsX1_balanceOf_r1 : List Cond := [Cond.constant RX1 78 (-1000000), Cond.methodLink RX1 74 yX1_sumOf, Cond.instanceMethod yX1_sumOf, Cond.selects RX1 yX1_sumOf yX1_sumOf, Cond.initialized RX1, Cond.code yX1_sumOf cX1_sumOf 9 (some .long), Cond.fieldLink RX1 34 "SectionFibres$Section" "size" "I", Cond.fieldLink RX1 18 "SectionFibres$Section" "areas" "[I", Cond.fieldLink RX1 22 "SectionFibres$Section" "places" "[I", Cond.methodLink RX1 67 yX1_stressOn, Cond.instanceMethod yX1_stressOn, Cond.selects RX1 yX1_stressOn yX1_stressOn, Cond.code yX1_stressOn cX1_stressOn 4 (some .int), Cond.fieldLink RX1 12 "SectionFibres$Section" "kinds" "LSectionFibres$Kinds;", Cond.fieldLink RX1 25 "SectionFibres$Section" "kindOf" "[I", Cond.fieldLink RX1 31 "SectionFibres$Section" "kept" "[I", Cond.constantLong RX1 51 (100), Cond.methodLink RX1 60 yX1_worksOn, Cond.instanceMethod yX1_worksOn, Cond.selects RX1 yX1_worksOn yX1_worksOn, Cond.code yX1_worksOn cX1_worksOn 6 (some .int), Cond.fieldLink RX1 28 "SectionFibres$Section" "births" "[I", Cond.methodLink RX1 42 yJ9_floorDiv_7cf53, Cond.static yJ9_floorDiv_7cf53]
def wsX1_balanceOf_r2 : List Cond := [Cond.initialized RJ9, Cond.code yJ9_floorDiv_7cf53 cJ9_floorDiv_7cf53 3 (some .int), Cond.static yX2_share, Cond.initialized RX2, Cond.code yX2_share cX2_share 6 (some .int), Cond.instanceMethod yX0_stressAt, Cond.initialized RX0, Cond.selects RX0 yX0_stressAt yX0_stressAt, Cond.code yX0_stressAt cX0_stressAt 7 (some .int), Cond.fieldLink RX0 18 "SectionFibres$Kinds" "points" "[I", Cond.fieldLink RX0 9 "SectionFibres$Kinds" "strains" "[I", Cond.fieldLink RX0 15 "SectionFibres$Kinds" "stresses" "[I"]
def wsX1_balanceOf : List Cond := .code yX1_balanceOf cX1_balanceOf 8 (some .int) :: ((wsX1_balanceOf_r1 ++ wsX1_balanceOf_r2) ++ wsX10 ++ wsX00)
def wsX1_bendFor_r1 : List Cond := [Cond.constant RX1 78 (-1000000), Cond.constant RX1 83 (1000001), Cond.constant RX1 84 (1000002), Cond.methodLink RX1 42 yJ9_floorDiv_7cf53, Cond.static yJ9_floorDiv_7cf53, Cond.initialized RJ9, Cond.code yJ9_floorDiv_7cf53 cJ9_floorDiv_7cf53 3 (some .int), Cond.methodLink RX1 79 yX1_balanceOf, Cond.instanceMethod yX1_balanceOf, Cond.selects RX1 yX1_balanceOf yX1_balanceOf, Cond.initialized RX1, Cond.code yX1_balanceOf cX1_balanceOf 8 (some .int), Cond.methodLink RX1 74 yX1_sumOf, Cond.instanceMethod yX1_sumOf, Cond.selects RX1 yX1_sumOf yX1_sumOf, Cond.code yX1_sumOf cX1_sumOf 9 (some .long), Cond.fieldLink RX1 34 "SectionFibres$Section" "size" "I", Cond.fieldLink RX1 18 "SectionFibres$Section" "areas" "[I", Cond.fieldLink RX1 22 "SectionFibres$Section" "places" "[I", Cond.methodLink RX1 67 yX1_stressOn, Cond.instanceMethod yX1_stressOn, Cond.selects RX1 yX1_stressOn yX1_stressOn, Cond.code yX1_stressOn cX1_stressOn 4 (some .int), Cond.fieldLink RX1 12 "SectionFibres$Section" "kinds" "LSectionFibres$Kinds;"]
def wsX1_bendFor_r2 : List Cond := [Cond.fieldLink RX1 25 "SectionFibres$Section" "kindOf" "[I", Cond.fieldLink RX1 31 "SectionFibres$Section" "kept" "[I", Cond.constantLong RX1 51 (100), Cond.methodLink RX1 60 yX1_worksOn, Cond.instanceMethod yX1_worksOn, Cond.selects RX1 yX1_worksOn yX1_worksOn, Cond.code yX1_worksOn cX1_worksOn 6 (some .int), Cond.fieldLink RX1 28 "SectionFibres$Section" "births" "[I", Cond.static yX2_share, Cond.initialized RX2, Cond.code yX2_share cX2_share 6 (some .int), Cond.instanceMethod yX0_stressAt, Cond.initialized RX0, Cond.selects RX0 yX0_stressAt yX0_stressAt, Cond.code yX0_stressAt cX0_stressAt 7 (some .int), Cond.fieldLink RX0 18 "SectionFibres$Kinds" "points" "[I", Cond.fieldLink RX0 9 "SectionFibres$Kinds" "strains" "[I", Cond.fieldLink RX0 15 "SectionFibres$Kinds" "stresses" "[I"]
def wsX1_bendFor : List Cond := .code yX1_bendFor cX1_bendFor 10 (some .int) :: ((wsX1_bendFor_r1 ++ wsX1_bendFor_r2) ++ wsX10 ++ wsX00)
def wsX2_init_r1 : List Cond := [Cond.methodLink RX2 1 objectInit, Cond.instanceMethod objectInit, Cond.code objectInit ⟨#[0xb1]⟩ 1 none, Cond.classLink RX2 7 RX1, Cond.instantiable RX1 7, Cond.initialized RX1, Cond.fieldLink RX2 10 "SectionFibres" "section" "LSectionFibres$Section;", Cond.instanceMethod yX1_init, Cond.code yX1_init cX1_init 1 none, Cond.methodLink RX1 3 objectInit, Cond.classLink RX1 9 RX0, Cond.instantiable RX0 5, Cond.initialized RX0, Cond.fieldLink RX1 12 "SectionFibres$Section" "kinds" "LSectionFibres$Kinds;", Cond.arrayClass .int, Cond.fieldLink RX1 18 "SectionFibres$Section" "areas" "[I", Cond.fieldLink RX1 22 "SectionFibres$Section" "places" "[I", Cond.fieldLink RX1 25 "SectionFibres$Section" "kindOf" "[I", Cond.fieldLink RX1 28 "SectionFibres$Section" "births" "[I", Cond.fieldLink RX1 31 "SectionFibres$Section" "kept" "[I", Cond.instanceMethod yX0_init, Cond.code yX0_init cX0_init 1 none, Cond.methodLink RX0 3 objectInit, Cond.fieldLink RX0 9 "SectionFibres$Kinds" "strains" "[I"]
def wsX2_init_r2 : List Cond := [Cond.fieldLink RX0 15 "SectionFibres$Kinds" "stresses" "[I", Cond.fieldLink RX0 18 "SectionFibres$Kinds" "points" "[I", Cond.fieldLink RX0 21 "SectionFibres$Kinds" "creep" "[I", Cond.fieldLink RX0 24 "SectionFibres$Kinds" "shrunk" "[I"]
def wsX2_init : List Cond := .code yX2_init cX2_init 1 none :: ((wsX2_init_r1 ++ wsX2_init_r2) ++ wsX10 ++ wsX20 ++ wsX00)
def wsX2_isPlace : List Cond := .code yX2_isPlace cX2_isPlace 1 (some .boolean) :: ([.methodLink RX2 17 yX2_within, .static yX2_within, .initialized RX2, .code yX2_within cX2_within 3 (some .boolean)])
def wsX2_isKind : List Cond := .code yX2_isKind cX2_isKind 1 (some .boolean) :: ([.methodLink RX2 17 yX2_within, .static yX2_within, .initialized RX2, .code yX2_within cX2_within 3 (some .boolean)])
def wsX2_fibre : List Cond := .code yX2_fibre cX2_fibre 4 (some .int) :: ([.constant RX2 16 (100000), .fieldLink RX2 10 "SectionFibres" "section" "LSectionFibres$Section;", .fieldLink RX2 36 "SectionFibres" "planeAtHand" "Z", .methodLink RX2 17 yX2_within, .static yX2_within, .initialized RX2, .code yX2_within cX2_within 3 (some .boolean), .methodLink RX2 21 yX2_isPlace, .static yX2_isPlace, .code yX2_isPlace cX2_isPlace 1 (some .boolean), .methodLink RX2 25 yX2_isKind, .static yX2_isKind, .code yX2_isKind cX2_isKind 1 (some .boolean), .instanceMethod yX1_add, .initialized RX1, .selects RX1 yX1_add yX1_add, .code yX1_add cX1_add 4 none, .fieldLink RX1 34 "SectionFibres$Section" "size" "I", .fieldLink RX1 18 "SectionFibres$Section" "areas" "[I", .fieldLink RX1 22 "SectionFibres$Section" "places" "[I", .fieldLink RX1 25 "SectionFibres$Section" "kindOf" "[I", .fieldLink RX1 28 "SectionFibres$Section" "births" "[I", .fieldLink RX1 31 "SectionFibres$Section" "kept" "[I"] ++ wsX20 ++ wsX10)
def wsX2_isToldStrain : List Cond := .code yX2_isToldStrain cX2_isToldStrain 1 (some .boolean) :: ([.methodLink RX2 17 yX2_within, .static yX2_within, .initialized RX2, .code yX2_within cX2_within 3 (some .boolean)])
def wsX2_point : List Cond := .code yX2_point cX2_point 4 (some .boolean) :: ([.constant RX2 43 (-1000000), .constant RX2 44 (1000000), .fieldLink RX2 10 "SectionFibres" "section" "LSectionFibres$Section;", .fieldLink RX2 36 "SectionFibres" "planeAtHand" "Z", .methodLink RX2 25 yX2_isKind, .static yX2_isKind, .initialized RX2, .code yX2_isKind cX2_isKind 1 (some .boolean), .methodLink RX2 17 yX2_within, .static yX2_within, .code yX2_within cX2_within 3 (some .boolean), .methodLink RX2 40 yX2_isToldStrain, .static yX2_isToldStrain, .code yX2_isToldStrain cX2_isToldStrain 1 (some .boolean), .instanceMethod yX0_addPoint, .initialized RX0, .selects RX0 yX0_addPoint yX0_addPoint, .code yX0_addPoint cX0_addPoint 6 (some .boolean), .fieldLink RX0 18 "SectionFibres$Kinds" "points" "[I", .fieldLink RX0 9 "SectionFibres$Kinds" "strains" "[I", .fieldLink RX0 15 "SectionFibres$Kinds" "stresses" "[I"] ++ wsX20 ++ wsX10 ++ wsX00)
def wsX2_born : List Cond := .code yX2_born cX2_born 3 (some .boolean) :: ([.fieldLink RX2 10 "SectionFibres" "section" "LSectionFibres$Section;", .fieldLink RX2 36 "SectionFibres" "planeAtHand" "Z", .instanceMethod yX1_has, .initialized RX1, .selects RX1 yX1_has yX1_has, .code yX1_has cX1_has 2 (some .boolean), .fieldLink RX1 34 "SectionFibres$Section" "size" "I", .static yX2_within, .initialized RX2, .code yX2_within cX2_within 3 (some .boolean), .methodLink RX2 40 yX2_isToldStrain, .static yX2_isToldStrain, .code yX2_isToldStrain cX2_isToldStrain 1 (some .boolean), .methodLink RX2 17 yX2_within] ++ wsX20 ++ wsX10)
def wsX2_creeps : List Cond := .code yX2_creeps cX2_creeps 3 (some .boolean) :: ([.fieldLink RX2 10 "SectionFibres" "section" "LSectionFibres$Section;", .fieldLink RX2 36 "SectionFibres" "planeAtHand" "Z", .methodLink RX2 25 yX2_isKind, .static yX2_isKind, .initialized RX2, .code yX2_isKind cX2_isKind 1 (some .boolean), .methodLink RX2 17 yX2_within, .static yX2_within, .code yX2_within cX2_within 3 (some .boolean)] ++ wsX20 ++ wsX10 ++ wsX00)
def wsX2_shrinks : List Cond := .code yX2_shrinks cX2_shrinks 3 (some .boolean) :: ([.fieldLink RX2 10 "SectionFibres" "section" "LSectionFibres$Section;", .fieldLink RX2 36 "SectionFibres" "planeAtHand" "Z", .methodLink RX2 25 yX2_isKind, .static yX2_isKind, .initialized RX2, .code yX2_isKind cX2_isKind 1 (some .boolean), .methodLink RX2 17 yX2_within, .static yX2_within, .code yX2_within cX2_within 3 (some .boolean)] ++ wsX20 ++ wsX10 ++ wsX00)
def wsX2_keeps : List Cond := .code yX2_keeps cX2_keeps 3 (some .boolean) :: ([.fieldLink RX2 10 "SectionFibres" "section" "LSectionFibres$Section;", .fieldLink RX2 36 "SectionFibres" "planeAtHand" "Z", .instanceMethod yX1_has, .initialized RX1, .selects RX1 yX1_has yX1_has, .code yX1_has cX1_has 2 (some .boolean), .fieldLink RX1 34 "SectionFibres$Section" "size" "I", .static yX2_within, .initialized RX2, .code yX2_within cX2_within 3 (some .boolean), .methodLink RX2 17 yX2_within] ++ wsX20 ++ wsX10)
def wsX2_row : List Cond := .code yX2_row cX2_row 3 (some .int) :: ([.classLink RX2 70 RJx00060, .instantiable RJx00060 6, .initialized RJx00060, .fieldLink RX2 10 "SectionFibres" "section" "LSectionFibres$Section;", .methodLink RX2 25 yX2_isKind, .static yX2_isKind, .initialized RX2, .code yX2_isKind cX2_isKind 1 (some .boolean), .methodLink RX2 17 yX2_within, .static yX2_within, .code yX2_within cX2_within 3 (some .boolean), .instanceMethod yX0_stressAt, .initialized RX0, .selects RX0 yX0_stressAt yX0_stressAt, .code yX0_stressAt cX0_stressAt 7 (some .int), .fieldLink RX0 18 "SectionFibres$Kinds" "points" "[I", .fieldLink RX0 9 "SectionFibres$Kinds" "strains" "[I", .fieldLink RX0 15 "SectionFibres$Kinds" "stresses" "[I", .static yX2_share, .code yX2_share cX2_share 6 (some .int)] ++ wsJx000600 ++ wsX20 ++ wsX10 ++ wsX00)
def wsX2_isOfPlane : List Cond := .code yX2_isOfPlane cX2_isOfPlane 1 (some .boolean) :: ([.methodLink RX2 17 yX2_within, .static yX2_within, .initialized RX2, .code yX2_within cX2_within 3 (some .boolean)])
def wsX2_isSum : List Cond := .code yX2_isSum cX2_isSum 1 (some .boolean) :: ([])
def wsX2_of_r1 : List Cond := [Cond.constantLong RX2 87 (-4611686018427387904), Cond.fieldLink RX2 10 "SectionFibres" "section" "LSectionFibres$Section;", Cond.methodLink RX2 81 yX2_isOfPlane, Cond.static yX2_isOfPlane, Cond.initialized RX2, Cond.code yX2_isOfPlane cX2_isOfPlane 1 (some .boolean), Cond.methodLink RX2 17 yX2_within, Cond.static yX2_within, Cond.code yX2_within cX2_within 3 (some .boolean), Cond.methodLink RX2 84 yX2_isSum, Cond.static yX2_isSum, Cond.code yX2_isSum cX2_isSum 1 (some .boolean), Cond.instanceMethod yX1_sumOf, Cond.initialized RX1, Cond.selects RX1 yX1_sumOf yX1_sumOf, Cond.code yX1_sumOf cX1_sumOf 9 (some .long), Cond.fieldLink RX1 34 "SectionFibres$Section" "size" "I", Cond.fieldLink RX1 18 "SectionFibres$Section" "areas" "[I", Cond.fieldLink RX1 22 "SectionFibres$Section" "places" "[I", Cond.methodLink RX1 67 yX1_stressOn, Cond.instanceMethod yX1_stressOn, Cond.selects RX1 yX1_stressOn yX1_stressOn, Cond.code yX1_stressOn cX1_stressOn 4 (some .int), Cond.fieldLink RX1 12 "SectionFibres$Section" "kinds" "LSectionFibres$Kinds;"]
def wsX2_of_r2 : List Cond := [Cond.fieldLink RX1 25 "SectionFibres$Section" "kindOf" "[I", Cond.fieldLink RX1 31 "SectionFibres$Section" "kept" "[I", Cond.constantLong RX1 51 (100), Cond.methodLink RX1 60 yX1_worksOn, Cond.instanceMethod yX1_worksOn, Cond.selects RX1 yX1_worksOn yX1_worksOn, Cond.code yX1_worksOn cX1_worksOn 6 (some .int), Cond.fieldLink RX1 28 "SectionFibres$Section" "births" "[I", Cond.methodLink RX1 42 yJ9_floorDiv_7cf53, Cond.static yJ9_floorDiv_7cf53, Cond.initialized RJ9, Cond.code yJ9_floorDiv_7cf53 cJ9_floorDiv_7cf53 3 (some .int), Cond.static yX2_share, Cond.code yX2_share cX2_share 6 (some .int), Cond.instanceMethod yX0_stressAt, Cond.initialized RX0, Cond.selects RX0 yX0_stressAt yX0_stressAt, Cond.code yX0_stressAt cX0_stressAt 7 (some .int), Cond.fieldLink RX0 18 "SectionFibres$Kinds" "points" "[I", Cond.fieldLink RX0 9 "SectionFibres$Kinds" "strains" "[I", Cond.fieldLink RX0 15 "SectionFibres$Kinds" "stresses" "[I"]
def wsX2_of : List Cond := .code yX2_of cX2_of 4 (some .long) :: ((wsX2_of_r1 ++ wsX2_of_r2) ++ wsX20 ++ wsX10 ++ wsX00)
def wsX2_balance_r1 : List Cond := [Cond.constant RX2 43 (-1000000), Cond.fieldLink RX2 10 "SectionFibres" "section" "LSectionFibres$Section;", Cond.methodLink RX2 81 yX2_isOfPlane, Cond.static yX2_isOfPlane, Cond.initialized RX2, Cond.code yX2_isOfPlane cX2_isOfPlane 1 (some .boolean), Cond.methodLink RX2 17 yX2_within, Cond.static yX2_within, Cond.code yX2_within cX2_within 3 (some .boolean), Cond.instanceMethod yX1_balanceOf, Cond.initialized RX1, Cond.selects RX1 yX1_balanceOf yX1_balanceOf, Cond.code yX1_balanceOf cX1_balanceOf 8 (some .int), Cond.constant RX1 78 (-1000000), Cond.methodLink RX1 74 yX1_sumOf, Cond.instanceMethod yX1_sumOf, Cond.selects RX1 yX1_sumOf yX1_sumOf, Cond.code yX1_sumOf cX1_sumOf 9 (some .long), Cond.fieldLink RX1 34 "SectionFibres$Section" "size" "I", Cond.fieldLink RX1 18 "SectionFibres$Section" "areas" "[I", Cond.fieldLink RX1 22 "SectionFibres$Section" "places" "[I", Cond.methodLink RX1 67 yX1_stressOn, Cond.instanceMethod yX1_stressOn, Cond.selects RX1 yX1_stressOn yX1_stressOn]
def wsX2_balance_r2 : List Cond := [Cond.code yX1_stressOn cX1_stressOn 4 (some .int), Cond.fieldLink RX1 12 "SectionFibres$Section" "kinds" "LSectionFibres$Kinds;", Cond.fieldLink RX1 25 "SectionFibres$Section" "kindOf" "[I", Cond.fieldLink RX1 31 "SectionFibres$Section" "kept" "[I", Cond.constantLong RX1 51 (100), Cond.methodLink RX1 60 yX1_worksOn, Cond.instanceMethod yX1_worksOn, Cond.selects RX1 yX1_worksOn yX1_worksOn, Cond.code yX1_worksOn cX1_worksOn 6 (some .int), Cond.fieldLink RX1 28 "SectionFibres$Section" "births" "[I", Cond.methodLink RX1 42 yJ9_floorDiv_7cf53, Cond.static yJ9_floorDiv_7cf53, Cond.initialized RJ9, Cond.code yJ9_floorDiv_7cf53 cJ9_floorDiv_7cf53 3 (some .int), Cond.static yX2_share, Cond.code yX2_share cX2_share 6 (some .int), Cond.instanceMethod yX0_stressAt, Cond.initialized RX0, Cond.selects RX0 yX0_stressAt yX0_stressAt, Cond.code yX0_stressAt cX0_stressAt 7 (some .int), Cond.fieldLink RX0 18 "SectionFibres$Kinds" "points" "[I", Cond.fieldLink RX0 9 "SectionFibres$Kinds" "strains" "[I", Cond.fieldLink RX0 15 "SectionFibres$Kinds" "stresses" "[I"]
def wsX2_balance : List Cond := .code yX2_balance cX2_balance 4 (some .int) :: ((wsX2_balance_r1 ++ wsX2_balance_r2) ++ wsX20 ++ wsX10 ++ wsX00)
def wsX2_run_r1 : List Cond := [Cond.fieldLink RX2 10 "SectionFibres" "section" "LSectionFibres$Section;", Cond.constant RX2 101 (1000001), Cond.constant RX2 102 (1000002), Cond.fieldLink RX2 36 "SectionFibres" "planeAtHand" "Z", Cond.fieldLink RX2 103 "SectionFibres" "planeE" "I", Cond.fieldLink RX2 106 "SectionFibres" "planeK" "I", Cond.fieldLink RX2 109 "SectionFibres" "solvedForce" "J", Cond.fieldLink RX2 113 "SectionFibres" "solvedMoment" "J", Cond.instanceMethod yX1_bendFor, Cond.initialized RX1, Cond.selects RX1 yX1_bendFor yX1_bendFor, Cond.code yX1_bendFor cX1_bendFor 10 (some .int), Cond.constant RX1 78 (-1000000), Cond.constant RX1 83 (1000001), Cond.constant RX1 84 (1000002), Cond.methodLink RX1 42 yJ9_floorDiv_7cf53, Cond.static yJ9_floorDiv_7cf53, Cond.initialized RJ9, Cond.code yJ9_floorDiv_7cf53 cJ9_floorDiv_7cf53 3 (some .int), Cond.methodLink RX1 79 yX1_balanceOf, Cond.instanceMethod yX1_balanceOf, Cond.selects RX1 yX1_balanceOf yX1_balanceOf, Cond.code yX1_balanceOf cX1_balanceOf 8 (some .int), Cond.methodLink RX1 74 yX1_sumOf]
def wsX2_run_r2 : List Cond := [Cond.instanceMethod yX1_sumOf, Cond.selects RX1 yX1_sumOf yX1_sumOf, Cond.code yX1_sumOf cX1_sumOf 9 (some .long), Cond.fieldLink RX1 34 "SectionFibres$Section" "size" "I", Cond.fieldLink RX1 18 "SectionFibres$Section" "areas" "[I", Cond.fieldLink RX1 22 "SectionFibres$Section" "places" "[I", Cond.methodLink RX1 67 yX1_stressOn, Cond.instanceMethod yX1_stressOn, Cond.selects RX1 yX1_stressOn yX1_stressOn, Cond.code yX1_stressOn cX1_stressOn 4 (some .int), Cond.fieldLink RX1 12 "SectionFibres$Section" "kinds" "LSectionFibres$Kinds;", Cond.fieldLink RX1 25 "SectionFibres$Section" "kindOf" "[I", Cond.fieldLink RX1 31 "SectionFibres$Section" "kept" "[I", Cond.constantLong RX1 51 (100), Cond.methodLink RX1 60 yX1_worksOn, Cond.instanceMethod yX1_worksOn, Cond.selects RX1 yX1_worksOn yX1_worksOn, Cond.code yX1_worksOn cX1_worksOn 6 (some .int), Cond.fieldLink RX1 28 "SectionFibres$Section" "births" "[I", Cond.static yX2_share, Cond.initialized RX2, Cond.code yX2_share cX2_share 6 (some .int), Cond.instanceMethod yX0_stressAt, Cond.initialized RX0]
def wsX2_run_r3 : List Cond := [Cond.selects RX0 yX0_stressAt yX0_stressAt, Cond.code yX0_stressAt cX0_stressAt 7 (some .int), Cond.fieldLink RX0 18 "SectionFibres$Kinds" "points" "[I", Cond.fieldLink RX0 9 "SectionFibres$Kinds" "strains" "[I", Cond.fieldLink RX0 15 "SectionFibres$Kinds" "stresses" "[I"]
def wsX2_run : List Cond := .code yX2_run cX2_run 6 (some .int) :: ((wsX2_run_r1 ++ (wsX2_run_r2 ++ wsX2_run_r3)) ++ wsX20 ++ wsX10 ++ wsX00)
def wsX2_told_r1 : List Cond := [Cond.fieldLink RX2 36 "SectionFibres" "planeAtHand" "Z", Cond.fieldLink RX2 103 "SectionFibres" "planeE" "I", Cond.fieldLink RX2 106 "SectionFibres" "planeK" "I", Cond.fieldLink RX2 10 "SectionFibres" "section" "LSectionFibres$Section;", Cond.instanceMethod yX1_firstBeyond, Cond.initialized RX1, Cond.selects RX1 yX1_firstBeyond yX1_firstBeyond, Cond.code yX1_firstBeyond cX1_firstBeyond 4 (some .int), Cond.fieldLink RX1 34 "SectionFibres$Section" "size" "I", Cond.fieldLink RX1 12 "SectionFibres$Section" "kinds" "LSectionFibres$Kinds;", Cond.fieldLink RX1 25 "SectionFibres$Section" "kindOf" "[I", Cond.methodLink RX1 60 yX1_worksOn, Cond.instanceMethod yX1_worksOn, Cond.selects RX1 yX1_worksOn yX1_worksOn, Cond.code yX1_worksOn cX1_worksOn 6 (some .int), Cond.fieldLink RX1 22 "SectionFibres$Section" "places" "[I", Cond.fieldLink RX1 28 "SectionFibres$Section" "births" "[I", Cond.constantLong RX1 51 (100), Cond.methodLink RX1 42 yJ9_floorDiv_7cf53, Cond.static yJ9_floorDiv_7cf53, Cond.initialized RJ9, Cond.code yJ9_floorDiv_7cf53 cJ9_floorDiv_7cf53 3 (some .int), Cond.static yX2_share, Cond.initialized RX2]
def wsX2_told_r2 : List Cond := [Cond.code yX2_share cX2_share 6 (some .int), Cond.instanceMethod yX0_isBeyond, Cond.initialized RX0, Cond.selects RX0 yX0_isBeyond yX0_isBeyond, Cond.code yX0_isBeyond cX0_isBeyond 4 (some .boolean), Cond.fieldLink RX0 18 "SectionFibres$Kinds" "points" "[I", Cond.fieldLink RX0 9 "SectionFibres$Kinds" "strains" "[I"]
def wsX2_told : List Cond := .code yX2_told cX2_told 2 (some .int) :: ((wsX2_told_r1 ++ wsX2_told_r2) ++ wsX20 ++ wsX10 ++ wsX00)
def wsX2_residual_r1 : List Cond := [Cond.fieldLink RX2 36 "SectionFibres" "planeAtHand" "Z", Cond.constantLong RX2 87 (-4611686018427387904), Cond.fieldLink RX2 10 "SectionFibres" "section" "LSectionFibres$Section;", Cond.fieldLink RX2 103 "SectionFibres" "planeE" "I", Cond.fieldLink RX2 106 "SectionFibres" "planeK" "I", Cond.fieldLink RX2 109 "SectionFibres" "solvedForce" "J", Cond.fieldLink RX2 113 "SectionFibres" "solvedMoment" "J", Cond.methodLink RX2 84 yX2_isSum, Cond.static yX2_isSum, Cond.initialized RX2, Cond.code yX2_isSum cX2_isSum 1 (some .boolean), Cond.instanceMethod yX1_sumOf, Cond.initialized RX1, Cond.selects RX1 yX1_sumOf yX1_sumOf, Cond.code yX1_sumOf cX1_sumOf 9 (some .long), Cond.fieldLink RX1 34 "SectionFibres$Section" "size" "I", Cond.fieldLink RX1 18 "SectionFibres$Section" "areas" "[I", Cond.fieldLink RX1 22 "SectionFibres$Section" "places" "[I", Cond.methodLink RX1 67 yX1_stressOn, Cond.instanceMethod yX1_stressOn, Cond.selects RX1 yX1_stressOn yX1_stressOn, Cond.code yX1_stressOn cX1_stressOn 4 (some .int), Cond.fieldLink RX1 12 "SectionFibres$Section" "kinds" "LSectionFibres$Kinds;", Cond.fieldLink RX1 25 "SectionFibres$Section" "kindOf" "[I"]
def wsX2_residual_r2 : List Cond := [Cond.fieldLink RX1 31 "SectionFibres$Section" "kept" "[I", Cond.constantLong RX1 51 (100), Cond.methodLink RX1 60 yX1_worksOn, Cond.instanceMethod yX1_worksOn, Cond.selects RX1 yX1_worksOn yX1_worksOn, Cond.code yX1_worksOn cX1_worksOn 6 (some .int), Cond.fieldLink RX1 28 "SectionFibres$Section" "births" "[I", Cond.methodLink RX1 42 yJ9_floorDiv_7cf53, Cond.static yJ9_floorDiv_7cf53, Cond.initialized RJ9, Cond.code yJ9_floorDiv_7cf53 cJ9_floorDiv_7cf53 3 (some .int), Cond.static yX2_share, Cond.code yX2_share cX2_share 6 (some .int), Cond.instanceMethod yX0_stressAt, Cond.initialized RX0, Cond.selects RX0 yX0_stressAt yX0_stressAt, Cond.code yX0_stressAt cX0_stressAt 7 (some .int), Cond.fieldLink RX0 18 "SectionFibres$Kinds" "points" "[I", Cond.fieldLink RX0 9 "SectionFibres$Kinds" "strains" "[I", Cond.fieldLink RX0 15 "SectionFibres$Kinds" "stresses" "[I"]
def wsX2_residual : List Cond := .code yX2_residual cX2_residual 2 (some .long) :: ((wsX2_residual_r1 ++ wsX2_residual_r2) ++ wsX20 ++ wsX10 ++ wsX00)
def wsX2_in_r1 : List Cond := [Cond.fieldLink RX2 10 "SectionFibres" "section" "LSectionFibres$Section;", Cond.classLink RX2 70 RJx00060, Cond.instantiable RJx00060 6, Cond.initialized RJx00060, Cond.fieldLink RX2 36 "SectionFibres" "planeAtHand" "Z", Cond.constant RX2 43 (-1000000), Cond.fieldLink RX2 103 "SectionFibres" "planeE" "I", Cond.fieldLink RX2 106 "SectionFibres" "planeK" "I", Cond.instanceMethod yX1_has, Cond.initialized RX1, Cond.selects RX1 yX1_has yX1_has, Cond.code yX1_has cX1_has 2 (some .boolean), Cond.fieldLink RX1 34 "SectionFibres$Section" "size" "I", Cond.static yX2_within, Cond.initialized RX2, Cond.code yX2_within cX2_within 3 (some .boolean), Cond.instanceMethod yX1_worksOn, Cond.selects RX1 yX1_worksOn yX1_worksOn, Cond.code yX1_worksOn cX1_worksOn 6 (some .int), Cond.fieldLink RX1 25 "SectionFibres$Section" "kindOf" "[I", Cond.fieldLink RX1 22 "SectionFibres$Section" "places" "[I", Cond.fieldLink RX1 28 "SectionFibres$Section" "births" "[I", Cond.fieldLink RX1 12 "SectionFibres$Section" "kinds" "LSectionFibres$Kinds;", Cond.constantLong RX1 51 (100)]
def wsX2_in_r2 : List Cond := [Cond.methodLink RX1 42 yJ9_floorDiv_7cf53, Cond.static yJ9_floorDiv_7cf53, Cond.initialized RJ9, Cond.code yJ9_floorDiv_7cf53 cJ9_floorDiv_7cf53 3 (some .int), Cond.static yX2_share, Cond.code yX2_share cX2_share 6 (some .int), Cond.instanceMethod yX1_stressOn, Cond.selects RX1 yX1_stressOn yX1_stressOn, Cond.code yX1_stressOn cX1_stressOn 4 (some .int), Cond.fieldLink RX1 31 "SectionFibres$Section" "kept" "[I", Cond.methodLink RX1 60 yX1_worksOn, Cond.instanceMethod yX0_stressAt, Cond.initialized RX0, Cond.selects RX0 yX0_stressAt yX0_stressAt, Cond.code yX0_stressAt cX0_stressAt 7 (some .int), Cond.fieldLink RX0 18 "SectionFibres$Kinds" "points" "[I", Cond.fieldLink RX0 9 "SectionFibres$Kinds" "strains" "[I", Cond.fieldLink RX0 15 "SectionFibres$Kinds" "stresses" "[I"]
def wsX2_in : List Cond := .code yX2_in cX2_in 3 (some .int) :: ((wsX2_in_r1 ++ wsX2_in_r2) ++ wsX20 ++ wsJx000600 ++ wsX10 ++ wsX00)
def wsX2_isBendStep : List Cond := .code yX2_isBendStep cX2_isBendStep 1 (some .boolean) :: ([.methodLink RX2 17 yX2_within, .static yX2_within, .initialized RX2, .code yX2_within cX2_within 3 (some .boolean)])
def wsX2_curve_r1 : List Cond := [Cond.constantLong RX2 87 (-4611686018427387904), Cond.fieldLink RX2 10 "SectionFibres" "section" "LSectionFibres$Section;", Cond.constant RX2 43 (-1000000), Cond.methodLink RX2 128 yX2_isBendStep, Cond.static yX2_isBendStep, Cond.initialized RX2, Cond.code yX2_isBendStep cX2_isBendStep 1 (some .boolean), Cond.methodLink RX2 17 yX2_within, Cond.static yX2_within, Cond.code yX2_within cX2_within 3 (some .boolean), Cond.instanceMethod yX1_balanceOf, Cond.initialized RX1, Cond.selects RX1 yX1_balanceOf yX1_balanceOf, Cond.code yX1_balanceOf cX1_balanceOf 8 (some .int), Cond.constant RX1 78 (-1000000), Cond.methodLink RX1 74 yX1_sumOf, Cond.instanceMethod yX1_sumOf, Cond.selects RX1 yX1_sumOf yX1_sumOf, Cond.code yX1_sumOf cX1_sumOf 9 (some .long), Cond.fieldLink RX1 34 "SectionFibres$Section" "size" "I", Cond.fieldLink RX1 18 "SectionFibres$Section" "areas" "[I", Cond.fieldLink RX1 22 "SectionFibres$Section" "places" "[I", Cond.methodLink RX1 67 yX1_stressOn, Cond.instanceMethod yX1_stressOn]
def wsX2_curve_r2 : List Cond := [Cond.selects RX1 yX1_stressOn yX1_stressOn, Cond.code yX1_stressOn cX1_stressOn 4 (some .int), Cond.fieldLink RX1 12 "SectionFibres$Section" "kinds" "LSectionFibres$Kinds;", Cond.fieldLink RX1 25 "SectionFibres$Section" "kindOf" "[I", Cond.fieldLink RX1 31 "SectionFibres$Section" "kept" "[I", Cond.constantLong RX1 51 (100), Cond.methodLink RX1 60 yX1_worksOn, Cond.instanceMethod yX1_worksOn, Cond.selects RX1 yX1_worksOn yX1_worksOn, Cond.code yX1_worksOn cX1_worksOn 6 (some .int), Cond.fieldLink RX1 28 "SectionFibres$Section" "births" "[I", Cond.methodLink RX1 42 yJ9_floorDiv_7cf53, Cond.static yJ9_floorDiv_7cf53, Cond.initialized RJ9, Cond.code yJ9_floorDiv_7cf53 cJ9_floorDiv_7cf53 3 (some .int), Cond.static yX2_share, Cond.code yX2_share cX2_share 6 (some .int), Cond.instanceMethod yX0_stressAt, Cond.initialized RX0, Cond.selects RX0 yX0_stressAt yX0_stressAt, Cond.code yX0_stressAt cX0_stressAt 7 (some .int), Cond.fieldLink RX0 18 "SectionFibres$Kinds" "points" "[I", Cond.fieldLink RX0 9 "SectionFibres$Kinds" "strains" "[I", Cond.fieldLink RX0 15 "SectionFibres$Kinds" "stresses" "[I"]
def wsX2_curve : List Cond := .code yX2_curve cX2_curve 6 (some .long) :: ((wsX2_curve_r1 ++ wsX2_curve_r2) ++ wsX20 ++ wsX10 ++ wsX00)
def wsX2_last_r1 : List Cond := [Cond.fieldLink RX2 10 "SectionFibres" "section" "LSectionFibres$Section;", Cond.constant RX2 43 (-1000000), Cond.methodLink RX2 128 yX2_isBendStep, Cond.static yX2_isBendStep, Cond.initialized RX2, Cond.code yX2_isBendStep cX2_isBendStep 1 (some .boolean), Cond.methodLink RX2 17 yX2_within, Cond.static yX2_within, Cond.code yX2_within cX2_within 3 (some .boolean), Cond.instanceMethod yX1_balanceOf, Cond.initialized RX1, Cond.selects RX1 yX1_balanceOf yX1_balanceOf, Cond.code yX1_balanceOf cX1_balanceOf 8 (some .int), Cond.constant RX1 78 (-1000000), Cond.methodLink RX1 74 yX1_sumOf, Cond.instanceMethod yX1_sumOf, Cond.selects RX1 yX1_sumOf yX1_sumOf, Cond.code yX1_sumOf cX1_sumOf 9 (some .long), Cond.fieldLink RX1 34 "SectionFibres$Section" "size" "I", Cond.fieldLink RX1 18 "SectionFibres$Section" "areas" "[I", Cond.fieldLink RX1 22 "SectionFibres$Section" "places" "[I", Cond.methodLink RX1 67 yX1_stressOn, Cond.instanceMethod yX1_stressOn, Cond.selects RX1 yX1_stressOn yX1_stressOn]
def wsX2_last_r2 : List Cond := [Cond.code yX1_stressOn cX1_stressOn 4 (some .int), Cond.fieldLink RX1 12 "SectionFibres$Section" "kinds" "LSectionFibres$Kinds;", Cond.fieldLink RX1 25 "SectionFibres$Section" "kindOf" "[I", Cond.fieldLink RX1 31 "SectionFibres$Section" "kept" "[I", Cond.constantLong RX1 51 (100), Cond.methodLink RX1 60 yX1_worksOn, Cond.instanceMethod yX1_worksOn, Cond.selects RX1 yX1_worksOn yX1_worksOn, Cond.code yX1_worksOn cX1_worksOn 6 (some .int), Cond.fieldLink RX1 28 "SectionFibres$Section" "births" "[I", Cond.methodLink RX1 42 yJ9_floorDiv_7cf53, Cond.static yJ9_floorDiv_7cf53, Cond.initialized RJ9, Cond.code yJ9_floorDiv_7cf53 cJ9_floorDiv_7cf53 3 (some .int), Cond.static yX2_share, Cond.code yX2_share cX2_share 6 (some .int), Cond.instanceMethod yX0_stressAt, Cond.initialized RX0, Cond.selects RX0 yX0_stressAt yX0_stressAt, Cond.code yX0_stressAt cX0_stressAt 7 (some .int), Cond.fieldLink RX0 18 "SectionFibres$Kinds" "points" "[I", Cond.fieldLink RX0 9 "SectionFibres$Kinds" "strains" "[I", Cond.fieldLink RX0 15 "SectionFibres$Kinds" "stresses" "[I", Cond.instanceMethod yX1_firstBeyond]
def wsX2_last_r3 : List Cond := [Cond.selects RX1 yX1_firstBeyond yX1_firstBeyond, Cond.code yX1_firstBeyond cX1_firstBeyond 4 (some .int), Cond.instanceMethod yX0_isBeyond, Cond.selects RX0 yX0_isBeyond yX0_isBeyond, Cond.code yX0_isBeyond cX0_isBeyond 4 (some .boolean)]
def wsX2_last : List Cond := .code yX2_last cX2_last 6 (some .int) :: ((wsX2_last_r1 ++ (wsX2_last_r2 ++ wsX2_last_r3)) ++ wsX20 ++ wsX10 ++ wsX00)
def wsX2_needed_r1 : List Cond := [Cond.fieldLink RX2 10 "SectionFibres" "section" "LSectionFibres$Section;", Cond.methodLink RX2 21 yX2_isPlace, Cond.static yX2_isPlace, Cond.initialized RX2, Cond.code yX2_isPlace cX2_isPlace 1 (some .boolean), Cond.methodLink RX2 17 yX2_within, Cond.static yX2_within, Cond.code yX2_within cX2_within 3 (some .boolean), Cond.methodLink RX2 25 yX2_isKind, Cond.static yX2_isKind, Cond.code yX2_isKind cX2_isKind 1 (some .boolean), Cond.instanceMethod yX1_add, Cond.initialized RX1, Cond.selects RX1 yX1_add yX1_add, Cond.code yX1_add cX1_add 4 none, Cond.fieldLink RX1 34 "SectionFibres$Section" "size" "I", Cond.fieldLink RX1 18 "SectionFibres$Section" "areas" "[I", Cond.fieldLink RX1 22 "SectionFibres$Section" "places" "[I", Cond.fieldLink RX1 25 "SectionFibres$Section" "kindOf" "[I", Cond.fieldLink RX1 28 "SectionFibres$Section" "births" "[I", Cond.fieldLink RX1 31 "SectionFibres$Section" "kept" "[I", Cond.instanceMethod yX1_setLastArea, Cond.selects RX1 yX1_setLastArea yX1_setLastArea, Cond.code yX1_setLastArea cX1_setLastArea 2 none]
def wsX2_needed_r2 : List Cond := [Cond.instanceMethod yX1_bendFor, Cond.selects RX1 yX1_bendFor yX1_bendFor, Cond.code yX1_bendFor cX1_bendFor 10 (some .int), Cond.constant RX1 78 (-1000000), Cond.constant RX1 83 (1000001), Cond.constant RX1 84 (1000002), Cond.methodLink RX1 42 yJ9_floorDiv_7cf53, Cond.static yJ9_floorDiv_7cf53, Cond.initialized RJ9, Cond.code yJ9_floorDiv_7cf53 cJ9_floorDiv_7cf53 3 (some .int), Cond.methodLink RX1 79 yX1_balanceOf, Cond.instanceMethod yX1_balanceOf, Cond.selects RX1 yX1_balanceOf yX1_balanceOf, Cond.code yX1_balanceOf cX1_balanceOf 8 (some .int), Cond.methodLink RX1 74 yX1_sumOf, Cond.instanceMethod yX1_sumOf, Cond.selects RX1 yX1_sumOf yX1_sumOf, Cond.code yX1_sumOf cX1_sumOf 9 (some .long), Cond.methodLink RX1 67 yX1_stressOn, Cond.instanceMethod yX1_stressOn, Cond.selects RX1 yX1_stressOn yX1_stressOn, Cond.code yX1_stressOn cX1_stressOn 4 (some .int), Cond.fieldLink RX1 12 "SectionFibres$Section" "kinds" "LSectionFibres$Kinds;", Cond.constantLong RX1 51 (100)]
def wsX2_needed_r3 : List Cond := [Cond.methodLink RX1 60 yX1_worksOn, Cond.instanceMethod yX1_worksOn, Cond.selects RX1 yX1_worksOn yX1_worksOn, Cond.code yX1_worksOn cX1_worksOn 6 (some .int), Cond.static yX2_share, Cond.code yX2_share cX2_share 6 (some .int), Cond.instanceMethod yX0_stressAt, Cond.initialized RX0, Cond.selects RX0 yX0_stressAt yX0_stressAt, Cond.code yX0_stressAt cX0_stressAt 7 (some .int), Cond.fieldLink RX0 18 "SectionFibres$Kinds" "points" "[I", Cond.fieldLink RX0 9 "SectionFibres$Kinds" "strains" "[I", Cond.fieldLink RX0 15 "SectionFibres$Kinds" "stresses" "[I", Cond.methodLink RX2 81 yX2_isOfPlane, Cond.static yX2_isOfPlane, Cond.code yX2_isOfPlane cX2_isOfPlane 1 (some .boolean), Cond.instanceMethod yX1_dropLast, Cond.selects RX1 yX1_dropLast yX1_dropLast, Cond.code yX1_dropLast cX1_dropLast 1 none]
def wsX2_needed : List Cond := .code yX2_needed cX2_needed 10 (some .int) :: ((wsX2_needed_r1 ++ (wsX2_needed_r2 ++ wsX2_needed_r3)) ++ wsX20 ++ wsX10 ++ wsX00)
def wsX2_count : List Cond := .code yX2_count cX2_count 2 (some .int) :: ([.fieldLink RX2 10 "SectionFibres" "section" "LSectionFibres$Section;", .instanceMethod yX1_allAreas, .initialized RX1, .selects RX1 yX1_allAreas yX1_allAreas, .code yX1_allAreas cX1_allAreas 3 (some .int), .fieldLink RX1 34 "SectionFibres$Section" "size" "I", .fieldLink RX1 18 "SectionFibres$Section" "areas" "[I", .methodLink RX2 17 yX2_within, .static yX2_within, .initialized RX2, .code yX2_within cX2_within 3 (some .boolean)] ++ wsX20 ++ wsX10 ++ wsX00)
def wsX3_init : List Cond := .code yX3_init cX3_init 1 none :: ([.methodLink RX3 1 objectInit, .instanceMethod objectInit, .code objectInit ⟨#[0xb1]⟩ 1 none, .arrayClass .int, .fieldLink RX3 7 "SectionFibresModel" "areas" "[I", .fieldLink RX3 13 "SectionFibresModel" "places" "[I", .fieldLink RX3 16 "SectionFibresModel" "kinds" "[I", .fieldLink RX3 19 "SectionFibresModel" "borns" "[I", .fieldLink RX3 22 "SectionFibresModel" "kept" "[I", .fieldLink RX3 25 "SectionFibresModel" "points" "[I", .fieldLink RX3 28 "SectionFibresModel" "strains" "[I", .fieldLink RX3 31 "SectionFibresModel" "stresses" "[I", .fieldLink RX3 34 "SectionFibresModel" "creep" "[I", .fieldLink RX3 37 "SectionFibresModel" "shrunk" "[I"] ++ wsX30)
def wsX3_thrown : List Cond := .code yX3_thrown cX3_thrown 1 (some .int) :: ([.fieldLink RX3 40 "SectionFibresModel" "thrown" "I"] ++ wsX30)
def wsX3_within : List Cond := .code yX3_within cX3_within 3 (some .boolean) :: ([])
def wsX3_isFibre : List Cond := .code yX3_isFibre cX3_isFibre 2 (some .boolean) :: ([.fieldLink RX3 44 "SectionFibresModel" "fibres" "I"] ++ wsX30)
def wsX3_isKind : List Cond := .code yX3_isKind cX3_isKind 1 (some .boolean) :: ([])
def wsX3_lay : List Cond := .code yX3_lay cX3_lay 5 none :: ([.fieldLink RX3 7 "SectionFibresModel" "areas" "[I", .fieldLink RX3 13 "SectionFibresModel" "places" "[I", .fieldLink RX3 16 "SectionFibresModel" "kinds" "[I", .fieldLink RX3 19 "SectionFibresModel" "borns" "[I", .fieldLink RX3 22 "SectionFibresModel" "kept" "[I"] ++ wsX30)
def wsX3_fibre : List Cond := .code yX3_fibre cX3_fibre 4 (some .int) :: ([.fieldLink RX3 40 "SectionFibresModel" "thrown" "I", .constant RX3 47 (100000), .fieldLink RX3 44 "SectionFibresModel" "fibres" "I", .fieldLink RX3 60 "SectionFibresModel" "has" "Z", .methodLink RX3 48 yX3_within, .static yX3_within, .initialized RX3, .code yX3_within cX3_within 3 (some .boolean), .methodLink RX3 52 yX3_isKind, .static yX3_isKind, .code yX3_isKind cX3_isKind 1 (some .boolean), .methodLink RX3 56 yX3_lay, .instanceMethod yX3_lay, .selects RX3 yX3_lay yX3_lay, .code yX3_lay cX3_lay 5 none, .fieldLink RX3 7 "SectionFibresModel" "areas" "[I", .fieldLink RX3 13 "SectionFibresModel" "places" "[I", .fieldLink RX3 16 "SectionFibresModel" "kinds" "[I", .fieldLink RX3 19 "SectionFibresModel" "borns" "[I", .fieldLink RX3 22 "SectionFibresModel" "kept" "[I"] ++ wsX30)
def wsX3_point : List Cond := .code yX3_point cX3_point 5 (some .boolean) :: ([.fieldLink RX3 40 "SectionFibresModel" "thrown" "I", .constant RX3 64 (-1000000), .constant RX3 65 (1000000), .fieldLink RX3 25 "SectionFibresModel" "points" "[I", .fieldLink RX3 28 "SectionFibresModel" "strains" "[I", .fieldLink RX3 31 "SectionFibresModel" "stresses" "[I", .fieldLink RX3 60 "SectionFibresModel" "has" "Z", .methodLink RX3 52 yX3_isKind, .static yX3_isKind, .initialized RX3, .code yX3_isKind cX3_isKind 1 (some .boolean), .methodLink RX3 48 yX3_within, .static yX3_within, .code yX3_within cX3_within 3 (some .boolean)] ++ wsX30)
def wsX3_born : List Cond := .code yX3_born cX3_born 3 (some .boolean) :: ([.fieldLink RX3 40 "SectionFibresModel" "thrown" "I", .fieldLink RX3 19 "SectionFibresModel" "borns" "[I", .fieldLink RX3 60 "SectionFibresModel" "has" "Z", .methodLink RX3 66 yX3_isFibre, .instanceMethod yX3_isFibre, .selects RX3 yX3_isFibre yX3_isFibre, .initialized RX3, .code yX3_isFibre cX3_isFibre 2 (some .boolean), .fieldLink RX3 44 "SectionFibresModel" "fibres" "I", .methodLink RX3 48 yX3_within, .static yX3_within, .code yX3_within cX3_within 3 (some .boolean)] ++ wsX30)
def wsX3_creeps : List Cond := .code yX3_creeps cX3_creeps 3 (some .boolean) :: ([.fieldLink RX3 40 "SectionFibresModel" "thrown" "I", .fieldLink RX3 34 "SectionFibresModel" "creep" "[I", .fieldLink RX3 60 "SectionFibresModel" "has" "Z", .methodLink RX3 52 yX3_isKind, .static yX3_isKind, .initialized RX3, .code yX3_isKind cX3_isKind 1 (some .boolean), .methodLink RX3 48 yX3_within, .static yX3_within, .code yX3_within cX3_within 3 (some .boolean)] ++ wsX30)
def wsX3_shrinks : List Cond := .code yX3_shrinks cX3_shrinks 3 (some .boolean) :: ([.fieldLink RX3 40 "SectionFibresModel" "thrown" "I", .fieldLink RX3 37 "SectionFibresModel" "shrunk" "[I", .fieldLink RX3 60 "SectionFibresModel" "has" "Z", .methodLink RX3 52 yX3_isKind, .static yX3_isKind, .initialized RX3, .code yX3_isKind cX3_isKind 1 (some .boolean), .methodLink RX3 48 yX3_within, .static yX3_within, .code yX3_within cX3_within 3 (some .boolean)] ++ wsX30)
def wsX3_keeps : List Cond := .code yX3_keeps cX3_keeps 3 (some .boolean) :: ([.fieldLink RX3 40 "SectionFibresModel" "thrown" "I", .fieldLink RX3 22 "SectionFibresModel" "kept" "[I", .fieldLink RX3 60 "SectionFibresModel" "has" "Z", .methodLink RX3 66 yX3_isFibre, .instanceMethod yX3_isFibre, .selects RX3 yX3_isFibre yX3_isFibre, .initialized RX3, .code yX3_isFibre cX3_isFibre 2 (some .boolean), .fieldLink RX3 44 "SectionFibresModel" "fibres" "I", .methodLink RX3 48 yX3_within, .static yX3_within, .code yX3_within cX3_within 3 (some .boolean)] ++ wsX30)
def wsX3_stressAt : List Cond := .code yX3_stressAt cX3_stressAt 8 (some .int) :: ([.fieldLink RX3 25 "SectionFibresModel" "points" "[I", .fieldLink RX3 28 "SectionFibresModel" "strains" "[I", .fieldLink RX3 31 "SectionFibresModel" "stresses" "[I"] ++ wsX30)
def wsX3_row : List Cond := .code yX3_row cX3_row 3 (some .int) :: ([.fieldLink RX3 40 "SectionFibresModel" "thrown" "I", .methodLink RX3 52 yX3_isKind, .static yX3_isKind, .initialized RX3, .code yX3_isKind cX3_isKind 1 (some .boolean), .methodLink RX3 69 yX3_stressAt, .instanceMethod yX3_stressAt, .selects RX3 yX3_stressAt yX3_stressAt, .code yX3_stressAt cX3_stressAt 8 (some .int), .fieldLink RX3 25 "SectionFibresModel" "points" "[I", .fieldLink RX3 28 "SectionFibresModel" "strains" "[I", .fieldLink RX3 31 "SectionFibresModel" "stresses" "[I"] ++ wsX30)
def wsX3_works : List Cond := .code yX3_works cX3_works 7 (some .int) :: ([.fieldLink RX3 13 "SectionFibresModel" "places" "[I", .fieldLink RX3 19 "SectionFibresModel" "borns" "[I", .fieldLink RX3 37 "SectionFibresModel" "shrunk" "[I", .fieldLink RX3 16 "SectionFibresModel" "kinds" "[I", .fieldLink RX3 34 "SectionFibresModel" "creep" "[I"] ++ wsX30)
def wsX3_stressOf : List Cond := .code yX3_stressOf cX3_stressOf 4 (some .int) :: ([.fieldLink RX3 16 "SectionFibresModel" "kinds" "[I", .fieldLink RX3 22 "SectionFibresModel" "kept" "[I", .constantLong RX3 77 (100), .methodLink RX3 73 yX3_works, .instanceMethod yX3_works, .selects RX3 yX3_works yX3_works, .initialized RX3, .code yX3_works cX3_works 7 (some .int), .fieldLink RX3 13 "SectionFibresModel" "places" "[I", .fieldLink RX3 19 "SectionFibresModel" "borns" "[I", .fieldLink RX3 37 "SectionFibresModel" "shrunk" "[I", .fieldLink RX3 34 "SectionFibresModel" "creep" "[I", .methodLink RX3 69 yX3_stressAt, .instanceMethod yX3_stressAt, .selects RX3 yX3_stressAt yX3_stressAt, .code yX3_stressAt cX3_stressAt 8 (some .int), .fieldLink RX3 25 "SectionFibresModel" "points" "[I", .fieldLink RX3 28 "SectionFibresModel" "strains" "[I", .fieldLink RX3 31 "SectionFibresModel" "stresses" "[I"] ++ wsX30)
def wsX3_isBeyond : List Cond := .code yX3_isBeyond cX3_isBeyond 7 (some .boolean) :: ([.fieldLink RX3 16 "SectionFibresModel" "kinds" "[I", .fieldLink RX3 25 "SectionFibresModel" "points" "[I", .fieldLink RX3 28 "SectionFibresModel" "strains" "[I", .methodLink RX3 73 yX3_works, .instanceMethod yX3_works, .selects RX3 yX3_works yX3_works, .initialized RX3, .code yX3_works cX3_works 7 (some .int), .fieldLink RX3 13 "SectionFibresModel" "places" "[I", .fieldLink RX3 19 "SectionFibresModel" "borns" "[I", .fieldLink RX3 37 "SectionFibresModel" "shrunk" "[I", .fieldLink RX3 34 "SectionFibresModel" "creep" "[I"] ++ wsX30)
def wsX3_firstBeyond : List Cond := .code yX3_firstBeyond cX3_firstBeyond 4 (some .int) :: ([.fieldLink RX3 44 "SectionFibresModel" "fibres" "I", .methodLink RX3 79 yX3_isBeyond, .instanceMethod yX3_isBeyond, .selects RX3 yX3_isBeyond yX3_isBeyond, .initialized RX3, .code yX3_isBeyond cX3_isBeyond 7 (some .boolean), .fieldLink RX3 16 "SectionFibresModel" "kinds" "[I", .fieldLink RX3 25 "SectionFibresModel" "points" "[I", .fieldLink RX3 28 "SectionFibresModel" "strains" "[I", .methodLink RX3 73 yX3_works, .instanceMethod yX3_works, .selects RX3 yX3_works yX3_works, .code yX3_works cX3_works 7 (some .int), .fieldLink RX3 13 "SectionFibresModel" "places" "[I", .fieldLink RX3 19 "SectionFibresModel" "borns" "[I", .fieldLink RX3 37 "SectionFibresModel" "shrunk" "[I", .fieldLink RX3 34 "SectionFibresModel" "creep" "[I"] ++ wsX30)
def wsX3_sum_r1 : List Cond := [Cond.fieldLink RX3 44 "SectionFibresModel" "fibres" "I", Cond.fieldLink RX3 7 "SectionFibresModel" "areas" "[I", Cond.fieldLink RX3 13 "SectionFibresModel" "places" "[I", Cond.methodLink RX3 82 yX3_stressOf, Cond.instanceMethod yX3_stressOf, Cond.selects RX3 yX3_stressOf yX3_stressOf, Cond.initialized RX3, Cond.code yX3_stressOf cX3_stressOf 4 (some .int), Cond.fieldLink RX3 16 "SectionFibresModel" "kinds" "[I", Cond.fieldLink RX3 22 "SectionFibresModel" "kept" "[I", Cond.constantLong RX3 77 (100), Cond.methodLink RX3 73 yX3_works, Cond.instanceMethod yX3_works, Cond.selects RX3 yX3_works yX3_works, Cond.code yX3_works cX3_works 7 (some .int), Cond.fieldLink RX3 19 "SectionFibresModel" "borns" "[I", Cond.fieldLink RX3 37 "SectionFibresModel" "shrunk" "[I", Cond.fieldLink RX3 34 "SectionFibresModel" "creep" "[I", Cond.methodLink RX3 69 yX3_stressAt, Cond.instanceMethod yX3_stressAt, Cond.selects RX3 yX3_stressAt yX3_stressAt, Cond.code yX3_stressAt cX3_stressAt 8 (some .int), Cond.fieldLink RX3 25 "SectionFibresModel" "points" "[I", Cond.fieldLink RX3 28 "SectionFibresModel" "strains" "[I"]
def wsX3_sum_r2 : List Cond := [Cond.fieldLink RX3 31 "SectionFibresModel" "stresses" "[I"]
def wsX3_sum : List Cond := .code yX3_sum cX3_sum 7 (some .long) :: ((wsX3_sum_r1 ++ wsX3_sum_r2) ++ wsX30)
def wsX3_of_r1 : List Cond := [Cond.fieldLink RX3 40 "SectionFibresModel" "thrown" "I", Cond.constantLong RX3 89 (-4611686018427387904), Cond.methodLink RX3 48 yX3_within, Cond.static yX3_within, Cond.initialized RX3, Cond.code yX3_within cX3_within 3 (some .boolean), Cond.methodLink RX3 85 yX3_sum, Cond.instanceMethod yX3_sum, Cond.selects RX3 yX3_sum yX3_sum, Cond.code yX3_sum cX3_sum 7 (some .long), Cond.fieldLink RX3 44 "SectionFibresModel" "fibres" "I", Cond.fieldLink RX3 7 "SectionFibresModel" "areas" "[I", Cond.fieldLink RX3 13 "SectionFibresModel" "places" "[I", Cond.methodLink RX3 82 yX3_stressOf, Cond.instanceMethod yX3_stressOf, Cond.selects RX3 yX3_stressOf yX3_stressOf, Cond.code yX3_stressOf cX3_stressOf 4 (some .int), Cond.fieldLink RX3 16 "SectionFibresModel" "kinds" "[I", Cond.fieldLink RX3 22 "SectionFibresModel" "kept" "[I", Cond.constantLong RX3 77 (100), Cond.methodLink RX3 73 yX3_works, Cond.instanceMethod yX3_works, Cond.selects RX3 yX3_works yX3_works, Cond.code yX3_works cX3_works 7 (some .int)]
def wsX3_of_r2 : List Cond := [Cond.fieldLink RX3 19 "SectionFibresModel" "borns" "[I", Cond.fieldLink RX3 37 "SectionFibresModel" "shrunk" "[I", Cond.fieldLink RX3 34 "SectionFibresModel" "creep" "[I", Cond.methodLink RX3 69 yX3_stressAt, Cond.instanceMethod yX3_stressAt, Cond.selects RX3 yX3_stressAt yX3_stressAt, Cond.code yX3_stressAt cX3_stressAt 8 (some .int), Cond.fieldLink RX3 25 "SectionFibresModel" "points" "[I", Cond.fieldLink RX3 28 "SectionFibresModel" "strains" "[I", Cond.fieldLink RX3 31 "SectionFibresModel" "stresses" "[I"]
def wsX3_of : List Cond := .code yX3_of cX3_of 5 (some .long) :: ((wsX3_of_r1 ++ wsX3_of_r2) ++ wsX30)
def wsX3_balanceOf_r1 : List Cond := [Cond.constant RX3 64 (-1000000), Cond.methodLink RX3 85 yX3_sum, Cond.instanceMethod yX3_sum, Cond.selects RX3 yX3_sum yX3_sum, Cond.initialized RX3, Cond.code yX3_sum cX3_sum 7 (some .long), Cond.fieldLink RX3 44 "SectionFibresModel" "fibres" "I", Cond.fieldLink RX3 7 "SectionFibresModel" "areas" "[I", Cond.fieldLink RX3 13 "SectionFibresModel" "places" "[I", Cond.methodLink RX3 82 yX3_stressOf, Cond.instanceMethod yX3_stressOf, Cond.selects RX3 yX3_stressOf yX3_stressOf, Cond.code yX3_stressOf cX3_stressOf 4 (some .int), Cond.fieldLink RX3 16 "SectionFibresModel" "kinds" "[I", Cond.fieldLink RX3 22 "SectionFibresModel" "kept" "[I", Cond.constantLong RX3 77 (100), Cond.methodLink RX3 73 yX3_works, Cond.instanceMethod yX3_works, Cond.selects RX3 yX3_works yX3_works, Cond.code yX3_works cX3_works 7 (some .int), Cond.fieldLink RX3 19 "SectionFibresModel" "borns" "[I", Cond.fieldLink RX3 37 "SectionFibresModel" "shrunk" "[I", Cond.fieldLink RX3 34 "SectionFibresModel" "creep" "[I", Cond.methodLink RX3 69 yX3_stressAt]
def wsX3_balanceOf_r2 : List Cond := [Cond.instanceMethod yX3_stressAt, Cond.selects RX3 yX3_stressAt yX3_stressAt, Cond.code yX3_stressAt cX3_stressAt 8 (some .int), Cond.fieldLink RX3 25 "SectionFibresModel" "points" "[I", Cond.fieldLink RX3 28 "SectionFibresModel" "strains" "[I", Cond.fieldLink RX3 31 "SectionFibresModel" "stresses" "[I"]
def wsX3_balanceOf : List Cond := .code yX3_balanceOf cX3_balanceOf 7 (some .int) :: ((wsX3_balanceOf_r1 ++ wsX3_balanceOf_r2) ++ wsX30)
def wsX3_balance_r1 : List Cond := [Cond.fieldLink RX3 40 "SectionFibresModel" "thrown" "I", Cond.constant RX3 64 (-1000000), Cond.methodLink RX3 48 yX3_within, Cond.static yX3_within, Cond.initialized RX3, Cond.code yX3_within cX3_within 3 (some .boolean), Cond.methodLink RX3 91 yX3_balanceOf, Cond.instanceMethod yX3_balanceOf, Cond.selects RX3 yX3_balanceOf yX3_balanceOf, Cond.code yX3_balanceOf cX3_balanceOf 7 (some .int), Cond.methodLink RX3 85 yX3_sum, Cond.instanceMethod yX3_sum, Cond.selects RX3 yX3_sum yX3_sum, Cond.code yX3_sum cX3_sum 7 (some .long), Cond.fieldLink RX3 44 "SectionFibresModel" "fibres" "I", Cond.fieldLink RX3 7 "SectionFibresModel" "areas" "[I", Cond.fieldLink RX3 13 "SectionFibresModel" "places" "[I", Cond.methodLink RX3 82 yX3_stressOf, Cond.instanceMethod yX3_stressOf, Cond.selects RX3 yX3_stressOf yX3_stressOf, Cond.code yX3_stressOf cX3_stressOf 4 (some .int), Cond.fieldLink RX3 16 "SectionFibresModel" "kinds" "[I", Cond.fieldLink RX3 22 "SectionFibresModel" "kept" "[I", Cond.constantLong RX3 77 (100)]
def wsX3_balance_r2 : List Cond := [Cond.methodLink RX3 73 yX3_works, Cond.instanceMethod yX3_works, Cond.selects RX3 yX3_works yX3_works, Cond.code yX3_works cX3_works 7 (some .int), Cond.fieldLink RX3 19 "SectionFibresModel" "borns" "[I", Cond.fieldLink RX3 37 "SectionFibresModel" "shrunk" "[I", Cond.fieldLink RX3 34 "SectionFibresModel" "creep" "[I", Cond.methodLink RX3 69 yX3_stressAt, Cond.instanceMethod yX3_stressAt, Cond.selects RX3 yX3_stressAt yX3_stressAt, Cond.code yX3_stressAt cX3_stressAt 8 (some .int), Cond.fieldLink RX3 25 "SectionFibresModel" "points" "[I", Cond.fieldLink RX3 28 "SectionFibresModel" "strains" "[I", Cond.fieldLink RX3 31 "SectionFibresModel" "stresses" "[I"]
def wsX3_balance : List Cond := .code yX3_balance cX3_balance 4 (some .int) :: ((wsX3_balance_r1 ++ wsX3_balance_r2) ++ wsX30)
def wsX3_solve_r1 : List Cond := [Cond.constant RX3 64 (-1000000), Cond.fieldLink RX3 95 "SectionFibresModel" "foundK" "I", Cond.fieldLink RX3 98 "SectionFibresModel" "foundE" "I", Cond.methodLink RX3 91 yX3_balanceOf, Cond.instanceMethod yX3_balanceOf, Cond.selects RX3 yX3_balanceOf yX3_balanceOf, Cond.initialized RX3, Cond.code yX3_balanceOf cX3_balanceOf 7 (some .int), Cond.methodLink RX3 85 yX3_sum, Cond.instanceMethod yX3_sum, Cond.selects RX3 yX3_sum yX3_sum, Cond.code yX3_sum cX3_sum 7 (some .long), Cond.fieldLink RX3 44 "SectionFibresModel" "fibres" "I", Cond.fieldLink RX3 7 "SectionFibresModel" "areas" "[I", Cond.fieldLink RX3 13 "SectionFibresModel" "places" "[I", Cond.methodLink RX3 82 yX3_stressOf, Cond.instanceMethod yX3_stressOf, Cond.selects RX3 yX3_stressOf yX3_stressOf, Cond.code yX3_stressOf cX3_stressOf 4 (some .int), Cond.fieldLink RX3 16 "SectionFibresModel" "kinds" "[I", Cond.fieldLink RX3 22 "SectionFibresModel" "kept" "[I", Cond.constantLong RX3 77 (100), Cond.methodLink RX3 73 yX3_works, Cond.instanceMethod yX3_works]
def wsX3_solve_r2 : List Cond := [Cond.selects RX3 yX3_works yX3_works, Cond.code yX3_works cX3_works 7 (some .int), Cond.fieldLink RX3 19 "SectionFibresModel" "borns" "[I", Cond.fieldLink RX3 37 "SectionFibresModel" "shrunk" "[I", Cond.fieldLink RX3 34 "SectionFibresModel" "creep" "[I", Cond.methodLink RX3 69 yX3_stressAt, Cond.instanceMethod yX3_stressAt, Cond.selects RX3 yX3_stressAt yX3_stressAt, Cond.code yX3_stressAt cX3_stressAt 8 (some .int), Cond.fieldLink RX3 25 "SectionFibresModel" "points" "[I", Cond.fieldLink RX3 28 "SectionFibresModel" "strains" "[I", Cond.fieldLink RX3 31 "SectionFibresModel" "stresses" "[I"]
def wsX3_solve : List Cond := .code yX3_solve cX3_solve 9 (some .int) :: ((wsX3_solve_r1 ++ wsX3_solve_r2) ++ wsX30)
def wsX3_run_r1 : List Cond := [Cond.fieldLink RX3 40 "SectionFibresModel" "thrown" "I", Cond.fieldLink RX3 60 "SectionFibresModel" "has" "Z", Cond.fieldLink RX3 98 "SectionFibresModel" "foundE" "I", Cond.fieldLink RX3 105 "SectionFibresModel" "e" "I", Cond.fieldLink RX3 95 "SectionFibresModel" "foundK" "I", Cond.fieldLink RX3 108 "SectionFibresModel" "k" "I", Cond.fieldLink RX3 111 "SectionFibresModel" "wantedForce" "J", Cond.fieldLink RX3 115 "SectionFibresModel" "wantedMoment" "J", Cond.methodLink RX3 101 yX3_solve, Cond.instanceMethod yX3_solve, Cond.selects RX3 yX3_solve yX3_solve, Cond.initialized RX3, Cond.code yX3_solve cX3_solve 9 (some .int), Cond.constant RX3 64 (-1000000), Cond.methodLink RX3 91 yX3_balanceOf, Cond.instanceMethod yX3_balanceOf, Cond.selects RX3 yX3_balanceOf yX3_balanceOf, Cond.code yX3_balanceOf cX3_balanceOf 7 (some .int), Cond.methodLink RX3 85 yX3_sum, Cond.instanceMethod yX3_sum, Cond.selects RX3 yX3_sum yX3_sum, Cond.code yX3_sum cX3_sum 7 (some .long), Cond.fieldLink RX3 44 "SectionFibresModel" "fibres" "I", Cond.fieldLink RX3 7 "SectionFibresModel" "areas" "[I"]
def wsX3_run_r2 : List Cond := [Cond.fieldLink RX3 13 "SectionFibresModel" "places" "[I", Cond.methodLink RX3 82 yX3_stressOf, Cond.instanceMethod yX3_stressOf, Cond.selects RX3 yX3_stressOf yX3_stressOf, Cond.code yX3_stressOf cX3_stressOf 4 (some .int), Cond.fieldLink RX3 16 "SectionFibresModel" "kinds" "[I", Cond.fieldLink RX3 22 "SectionFibresModel" "kept" "[I", Cond.constantLong RX3 77 (100), Cond.methodLink RX3 73 yX3_works, Cond.instanceMethod yX3_works, Cond.selects RX3 yX3_works yX3_works, Cond.code yX3_works cX3_works 7 (some .int), Cond.fieldLink RX3 19 "SectionFibresModel" "borns" "[I", Cond.fieldLink RX3 37 "SectionFibresModel" "shrunk" "[I", Cond.fieldLink RX3 34 "SectionFibresModel" "creep" "[I", Cond.methodLink RX3 69 yX3_stressAt, Cond.instanceMethod yX3_stressAt, Cond.selects RX3 yX3_stressAt yX3_stressAt, Cond.code yX3_stressAt cX3_stressAt 8 (some .int), Cond.fieldLink RX3 25 "SectionFibresModel" "points" "[I", Cond.fieldLink RX3 28 "SectionFibresModel" "strains" "[I", Cond.fieldLink RX3 31 "SectionFibresModel" "stresses" "[I"]
def wsX3_run : List Cond := .code yX3_run cX3_run 6 (some .int) :: ((wsX3_run_r1 ++ wsX3_run_r2) ++ wsX30)
def wsX3_told_r1 : List Cond := [Cond.fieldLink RX3 40 "SectionFibresModel" "thrown" "I", Cond.fieldLink RX3 60 "SectionFibresModel" "has" "Z", Cond.fieldLink RX3 105 "SectionFibresModel" "e" "I", Cond.fieldLink RX3 108 "SectionFibresModel" "k" "I", Cond.methodLink RX3 48 yX3_within, Cond.static yX3_within, Cond.initialized RX3, Cond.code yX3_within cX3_within 3 (some .boolean), Cond.methodLink RX3 118 yX3_firstBeyond, Cond.instanceMethod yX3_firstBeyond, Cond.selects RX3 yX3_firstBeyond yX3_firstBeyond, Cond.code yX3_firstBeyond cX3_firstBeyond 4 (some .int), Cond.fieldLink RX3 44 "SectionFibresModel" "fibres" "I", Cond.methodLink RX3 79 yX3_isBeyond, Cond.instanceMethod yX3_isBeyond, Cond.selects RX3 yX3_isBeyond yX3_isBeyond, Cond.code yX3_isBeyond cX3_isBeyond 7 (some .boolean), Cond.fieldLink RX3 16 "SectionFibresModel" "kinds" "[I", Cond.fieldLink RX3 25 "SectionFibresModel" "points" "[I", Cond.fieldLink RX3 28 "SectionFibresModel" "strains" "[I", Cond.methodLink RX3 73 yX3_works, Cond.instanceMethod yX3_works, Cond.selects RX3 yX3_works yX3_works, Cond.code yX3_works cX3_works 7 (some .int)]
def wsX3_told_r2 : List Cond := [Cond.fieldLink RX3 13 "SectionFibresModel" "places" "[I", Cond.fieldLink RX3 19 "SectionFibresModel" "borns" "[I", Cond.fieldLink RX3 37 "SectionFibresModel" "shrunk" "[I", Cond.fieldLink RX3 34 "SectionFibresModel" "creep" "[I"]
def wsX3_told : List Cond := .code yX3_told cX3_told 2 (some .int) :: ((wsX3_told_r1 ++ wsX3_told_r2) ++ wsX30)
def wsX3_residual_r1 : List Cond := [Cond.fieldLink RX3 40 "SectionFibresModel" "thrown" "I", Cond.fieldLink RX3 60 "SectionFibresModel" "has" "Z", Cond.constantLong RX3 89 (-4611686018427387904), Cond.fieldLink RX3 105 "SectionFibresModel" "e" "I", Cond.fieldLink RX3 108 "SectionFibresModel" "k" "I", Cond.fieldLink RX3 111 "SectionFibresModel" "wantedForce" "J", Cond.fieldLink RX3 115 "SectionFibresModel" "wantedMoment" "J", Cond.methodLink RX3 48 yX3_within, Cond.static yX3_within, Cond.initialized RX3, Cond.code yX3_within cX3_within 3 (some .boolean), Cond.methodLink RX3 85 yX3_sum, Cond.instanceMethod yX3_sum, Cond.selects RX3 yX3_sum yX3_sum, Cond.code yX3_sum cX3_sum 7 (some .long), Cond.fieldLink RX3 44 "SectionFibresModel" "fibres" "I", Cond.fieldLink RX3 7 "SectionFibresModel" "areas" "[I", Cond.fieldLink RX3 13 "SectionFibresModel" "places" "[I", Cond.methodLink RX3 82 yX3_stressOf, Cond.instanceMethod yX3_stressOf, Cond.selects RX3 yX3_stressOf yX3_stressOf, Cond.code yX3_stressOf cX3_stressOf 4 (some .int), Cond.fieldLink RX3 16 "SectionFibresModel" "kinds" "[I", Cond.fieldLink RX3 22 "SectionFibresModel" "kept" "[I"]
def wsX3_residual_r2 : List Cond := [Cond.constantLong RX3 77 (100), Cond.methodLink RX3 73 yX3_works, Cond.instanceMethod yX3_works, Cond.selects RX3 yX3_works yX3_works, Cond.code yX3_works cX3_works 7 (some .int), Cond.fieldLink RX3 19 "SectionFibresModel" "borns" "[I", Cond.fieldLink RX3 37 "SectionFibresModel" "shrunk" "[I", Cond.fieldLink RX3 34 "SectionFibresModel" "creep" "[I", Cond.methodLink RX3 69 yX3_stressAt, Cond.instanceMethod yX3_stressAt, Cond.selects RX3 yX3_stressAt yX3_stressAt, Cond.code yX3_stressAt cX3_stressAt 8 (some .int), Cond.fieldLink RX3 25 "SectionFibresModel" "points" "[I", Cond.fieldLink RX3 28 "SectionFibresModel" "strains" "[I", Cond.fieldLink RX3 31 "SectionFibresModel" "stresses" "[I"]
def wsX3_residual : List Cond := .code yX3_residual cX3_residual 2 (some .long) :: ((wsX3_residual_r1 ++ wsX3_residual_r2) ++ wsX30)
def wsX3_in_r1 : List Cond := [Cond.fieldLink RX3 40 "SectionFibresModel" "thrown" "I", Cond.fieldLink RX3 60 "SectionFibresModel" "has" "Z", Cond.constant RX3 64 (-1000000), Cond.fieldLink RX3 105 "SectionFibresModel" "e" "I", Cond.fieldLink RX3 108 "SectionFibresModel" "k" "I", Cond.methodLink RX3 66 yX3_isFibre, Cond.instanceMethod yX3_isFibre, Cond.selects RX3 yX3_isFibre yX3_isFibre, Cond.initialized RX3, Cond.code yX3_isFibre cX3_isFibre 2 (some .boolean), Cond.fieldLink RX3 44 "SectionFibresModel" "fibres" "I", Cond.methodLink RX3 48 yX3_within, Cond.static yX3_within, Cond.code yX3_within cX3_within 3 (some .boolean), Cond.methodLink RX3 73 yX3_works, Cond.instanceMethod yX3_works, Cond.selects RX3 yX3_works yX3_works, Cond.code yX3_works cX3_works 7 (some .int), Cond.fieldLink RX3 13 "SectionFibresModel" "places" "[I", Cond.fieldLink RX3 19 "SectionFibresModel" "borns" "[I", Cond.fieldLink RX3 37 "SectionFibresModel" "shrunk" "[I", Cond.fieldLink RX3 16 "SectionFibresModel" "kinds" "[I", Cond.fieldLink RX3 34 "SectionFibresModel" "creep" "[I", Cond.methodLink RX3 82 yX3_stressOf]
def wsX3_in_r2 : List Cond := [Cond.instanceMethod yX3_stressOf, Cond.selects RX3 yX3_stressOf yX3_stressOf, Cond.code yX3_stressOf cX3_stressOf 4 (some .int), Cond.fieldLink RX3 22 "SectionFibresModel" "kept" "[I", Cond.constantLong RX3 77 (100), Cond.methodLink RX3 69 yX3_stressAt, Cond.instanceMethod yX3_stressAt, Cond.selects RX3 yX3_stressAt yX3_stressAt, Cond.code yX3_stressAt cX3_stressAt 8 (some .int), Cond.fieldLink RX3 25 "SectionFibresModel" "points" "[I", Cond.fieldLink RX3 28 "SectionFibresModel" "strains" "[I", Cond.fieldLink RX3 31 "SectionFibresModel" "stresses" "[I"]
def wsX3_in : List Cond := .code yX3_in cX3_in 3 (some .int) :: ((wsX3_in_r1 ++ wsX3_in_r2) ++ wsX30)
def wsX3_curve_r1 : List Cond := [Cond.fieldLink RX3 40 "SectionFibresModel" "thrown" "I", Cond.constantLong RX3 89 (-4611686018427387904), Cond.constant RX3 64 (-1000000), Cond.methodLink RX3 48 yX3_within, Cond.static yX3_within, Cond.initialized RX3, Cond.code yX3_within cX3_within 3 (some .boolean), Cond.methodLink RX3 91 yX3_balanceOf, Cond.instanceMethod yX3_balanceOf, Cond.selects RX3 yX3_balanceOf yX3_balanceOf, Cond.code yX3_balanceOf cX3_balanceOf 7 (some .int), Cond.methodLink RX3 85 yX3_sum, Cond.instanceMethod yX3_sum, Cond.selects RX3 yX3_sum yX3_sum, Cond.code yX3_sum cX3_sum 7 (some .long), Cond.fieldLink RX3 44 "SectionFibresModel" "fibres" "I", Cond.fieldLink RX3 7 "SectionFibresModel" "areas" "[I", Cond.fieldLink RX3 13 "SectionFibresModel" "places" "[I", Cond.methodLink RX3 82 yX3_stressOf, Cond.instanceMethod yX3_stressOf, Cond.selects RX3 yX3_stressOf yX3_stressOf, Cond.code yX3_stressOf cX3_stressOf 4 (some .int), Cond.fieldLink RX3 16 "SectionFibresModel" "kinds" "[I", Cond.fieldLink RX3 22 "SectionFibresModel" "kept" "[I"]
def wsX3_curve_r2 : List Cond := [Cond.constantLong RX3 77 (100), Cond.methodLink RX3 73 yX3_works, Cond.instanceMethod yX3_works, Cond.selects RX3 yX3_works yX3_works, Cond.code yX3_works cX3_works 7 (some .int), Cond.fieldLink RX3 19 "SectionFibresModel" "borns" "[I", Cond.fieldLink RX3 37 "SectionFibresModel" "shrunk" "[I", Cond.fieldLink RX3 34 "SectionFibresModel" "creep" "[I", Cond.methodLink RX3 69 yX3_stressAt, Cond.instanceMethod yX3_stressAt, Cond.selects RX3 yX3_stressAt yX3_stressAt, Cond.code yX3_stressAt cX3_stressAt 8 (some .int), Cond.fieldLink RX3 25 "SectionFibresModel" "points" "[I", Cond.fieldLink RX3 28 "SectionFibresModel" "strains" "[I", Cond.fieldLink RX3 31 "SectionFibresModel" "stresses" "[I"]
def wsX3_curve : List Cond := .code yX3_curve cX3_curve 6 (some .long) :: ((wsX3_curve_r1 ++ wsX3_curve_r2) ++ wsX30)
def wsX3_last_r1 : List Cond := [Cond.fieldLink RX3 40 "SectionFibresModel" "thrown" "I", Cond.constant RX3 64 (-1000000), Cond.methodLink RX3 48 yX3_within, Cond.static yX3_within, Cond.initialized RX3, Cond.code yX3_within cX3_within 3 (some .boolean), Cond.methodLink RX3 91 yX3_balanceOf, Cond.instanceMethod yX3_balanceOf, Cond.selects RX3 yX3_balanceOf yX3_balanceOf, Cond.code yX3_balanceOf cX3_balanceOf 7 (some .int), Cond.methodLink RX3 85 yX3_sum, Cond.instanceMethod yX3_sum, Cond.selects RX3 yX3_sum yX3_sum, Cond.code yX3_sum cX3_sum 7 (some .long), Cond.fieldLink RX3 44 "SectionFibresModel" "fibres" "I", Cond.fieldLink RX3 7 "SectionFibresModel" "areas" "[I", Cond.fieldLink RX3 13 "SectionFibresModel" "places" "[I", Cond.methodLink RX3 82 yX3_stressOf, Cond.instanceMethod yX3_stressOf, Cond.selects RX3 yX3_stressOf yX3_stressOf, Cond.code yX3_stressOf cX3_stressOf 4 (some .int), Cond.fieldLink RX3 16 "SectionFibresModel" "kinds" "[I", Cond.fieldLink RX3 22 "SectionFibresModel" "kept" "[I", Cond.constantLong RX3 77 (100)]
def wsX3_last_r2 : List Cond := [Cond.methodLink RX3 73 yX3_works, Cond.instanceMethod yX3_works, Cond.selects RX3 yX3_works yX3_works, Cond.code yX3_works cX3_works 7 (some .int), Cond.fieldLink RX3 19 "SectionFibresModel" "borns" "[I", Cond.fieldLink RX3 37 "SectionFibresModel" "shrunk" "[I", Cond.fieldLink RX3 34 "SectionFibresModel" "creep" "[I", Cond.methodLink RX3 69 yX3_stressAt, Cond.instanceMethod yX3_stressAt, Cond.selects RX3 yX3_stressAt yX3_stressAt, Cond.code yX3_stressAt cX3_stressAt 8 (some .int), Cond.fieldLink RX3 25 "SectionFibresModel" "points" "[I", Cond.fieldLink RX3 28 "SectionFibresModel" "strains" "[I", Cond.fieldLink RX3 31 "SectionFibresModel" "stresses" "[I", Cond.methodLink RX3 118 yX3_firstBeyond, Cond.instanceMethod yX3_firstBeyond, Cond.selects RX3 yX3_firstBeyond yX3_firstBeyond, Cond.code yX3_firstBeyond cX3_firstBeyond 4 (some .int), Cond.methodLink RX3 79 yX3_isBeyond, Cond.instanceMethod yX3_isBeyond, Cond.selects RX3 yX3_isBeyond yX3_isBeyond, Cond.code yX3_isBeyond cX3_isBeyond 7 (some .boolean)]
def wsX3_last : List Cond := .code yX3_last cX3_last 6 (some .int) :: ((wsX3_last_r1 ++ wsX3_last_r2) ++ wsX30)
def wsX3_needed_r1 : List Cond := [Cond.fieldLink RX3 40 "SectionFibresModel" "thrown" "I", Cond.fieldLink RX3 44 "SectionFibresModel" "fibres" "I", Cond.methodLink RX3 48 yX3_within, Cond.static yX3_within, Cond.initialized RX3, Cond.code yX3_within cX3_within 3 (some .boolean), Cond.methodLink RX3 52 yX3_isKind, Cond.static yX3_isKind, Cond.code yX3_isKind cX3_isKind 1 (some .boolean), Cond.methodLink RX3 56 yX3_lay, Cond.instanceMethod yX3_lay, Cond.selects RX3 yX3_lay yX3_lay, Cond.code yX3_lay cX3_lay 5 none, Cond.fieldLink RX3 7 "SectionFibresModel" "areas" "[I", Cond.fieldLink RX3 13 "SectionFibresModel" "places" "[I", Cond.fieldLink RX3 16 "SectionFibresModel" "kinds" "[I", Cond.fieldLink RX3 19 "SectionFibresModel" "borns" "[I", Cond.fieldLink RX3 22 "SectionFibresModel" "kept" "[I", Cond.methodLink RX3 101 yX3_solve, Cond.instanceMethod yX3_solve, Cond.selects RX3 yX3_solve yX3_solve, Cond.code yX3_solve cX3_solve 9 (some .int), Cond.constant RX3 64 (-1000000), Cond.fieldLink RX3 95 "SectionFibresModel" "foundK" "I"]
def wsX3_needed_r2 : List Cond := [Cond.fieldLink RX3 98 "SectionFibresModel" "foundE" "I", Cond.methodLink RX3 91 yX3_balanceOf, Cond.instanceMethod yX3_balanceOf, Cond.selects RX3 yX3_balanceOf yX3_balanceOf, Cond.code yX3_balanceOf cX3_balanceOf 7 (some .int), Cond.methodLink RX3 85 yX3_sum, Cond.instanceMethod yX3_sum, Cond.selects RX3 yX3_sum yX3_sum, Cond.code yX3_sum cX3_sum 7 (some .long), Cond.methodLink RX3 82 yX3_stressOf, Cond.instanceMethod yX3_stressOf, Cond.selects RX3 yX3_stressOf yX3_stressOf, Cond.code yX3_stressOf cX3_stressOf 4 (some .int), Cond.constantLong RX3 77 (100), Cond.methodLink RX3 73 yX3_works, Cond.instanceMethod yX3_works, Cond.selects RX3 yX3_works yX3_works, Cond.code yX3_works cX3_works 7 (some .int), Cond.fieldLink RX3 37 "SectionFibresModel" "shrunk" "[I", Cond.fieldLink RX3 34 "SectionFibresModel" "creep" "[I", Cond.methodLink RX3 69 yX3_stressAt, Cond.instanceMethod yX3_stressAt, Cond.selects RX3 yX3_stressAt yX3_stressAt, Cond.code yX3_stressAt cX3_stressAt 8 (some .int)]
def wsX3_needed_r3 : List Cond := [Cond.fieldLink RX3 25 "SectionFibresModel" "points" "[I", Cond.fieldLink RX3 28 "SectionFibresModel" "strains" "[I", Cond.fieldLink RX3 31 "SectionFibresModel" "stresses" "[I"]
def wsX3_needed : List Cond := .code yX3_needed cX3_needed 10 (some .int) :: ((wsX3_needed_r1 ++ (wsX3_needed_r2 ++ wsX3_needed_r3)) ++ wsX30)
def wsX3_count : List Cond := .code yX3_count cX3_count 4 (some .int) :: ([.fieldLink RX3 40 "SectionFibresModel" "thrown" "I", .fieldLink RX3 44 "SectionFibresModel" "fibres" "I", .fieldLink RX3 7 "SectionFibresModel" "areas" "[I", .fieldLink RX3 25 "SectionFibresModel" "points" "[I", .methodLink RX3 48 yX3_within, .static yX3_within, .initialized RX3, .code yX3_within cX3_within 3 (some .boolean)] ++ wsX30)
def wsJx00060_init_a7421 : List Cond := .code yJx00060_init_a7421 cJx00060_init_a7421 2 none :: ([])
def wsL_row : List Cond := .codeWith yL_row cL_row 5 (some .int) [(0, 10, 13, 13)] :: ([.methodLink RL 7 yX2_row, .instanceMethod yX2_row, .selects RX2 yX2_row yX2_row, .initialized RX2, .code yX2_row cX2_row 3 (some .int), .classLink RX2 70 RJx00060, .instantiable RJx00060 6, .initialized RJx00060, .fieldLink RX2 10 "SectionFibres" "section" "LSectionFibres$Section;", .methodLink RX2 25 yX2_isKind, .static yX2_isKind, .code yX2_isKind cX2_isKind 1 (some .boolean), .methodLink RX2 17 yX2_within, .static yX2_within, .code yX2_within cX2_within 3 (some .boolean), .instanceMethod yX0_stressAt, .initialized RX0, .selects RX0 yX0_stressAt yX0_stressAt, .code yX0_stressAt cX0_stressAt 7 (some .int), .fieldLink RX0 18 "SectionFibres$Kinds" "points" "[I", .fieldLink RX0 9 "SectionFibres$Kinds" "strains" "[I", .fieldLink RX0 15 "SectionFibres$Kinds" "stresses" "[I", .static yX2_share, .code yX2_share cX2_share 6 (some .int)] ++ wsJx000600 ++ wsX20 ++ wsX10 ++ wsX00)
def wsL_in_r1 : List Cond := [Cond.methodLink RL 15 yX2_in, Cond.instanceMethod yX2_in, Cond.selects RX2 yX2_in yX2_in, Cond.initialized RX2, Cond.code yX2_in cX2_in 3 (some .int), Cond.fieldLink RX2 10 "SectionFibres" "section" "LSectionFibres$Section;", Cond.classLink RX2 70 RJx00060, Cond.instantiable RJx00060 6, Cond.initialized RJx00060, Cond.fieldLink RX2 36 "SectionFibres" "planeAtHand" "Z", Cond.constant RX2 43 (-1000000), Cond.fieldLink RX2 103 "SectionFibres" "planeE" "I", Cond.fieldLink RX2 106 "SectionFibres" "planeK" "I", Cond.instanceMethod yX1_has, Cond.initialized RX1, Cond.selects RX1 yX1_has yX1_has, Cond.code yX1_has cX1_has 2 (some .boolean), Cond.fieldLink RX1 34 "SectionFibres$Section" "size" "I", Cond.static yX2_within, Cond.code yX2_within cX2_within 3 (some .boolean), Cond.instanceMethod yX1_worksOn, Cond.selects RX1 yX1_worksOn yX1_worksOn, Cond.code yX1_worksOn cX1_worksOn 6 (some .int), Cond.fieldLink RX1 25 "SectionFibres$Section" "kindOf" "[I"]
def wsL_in_r2 : List Cond := [Cond.fieldLink RX1 22 "SectionFibres$Section" "places" "[I", Cond.fieldLink RX1 28 "SectionFibres$Section" "births" "[I", Cond.fieldLink RX1 12 "SectionFibres$Section" "kinds" "LSectionFibres$Kinds;", Cond.constantLong RX1 51 (100), Cond.methodLink RX1 42 yJ9_floorDiv_7cf53, Cond.static yJ9_floorDiv_7cf53, Cond.initialized RJ9, Cond.code yJ9_floorDiv_7cf53 cJ9_floorDiv_7cf53 3 (some .int), Cond.static yX2_share, Cond.code yX2_share cX2_share 6 (some .int), Cond.instanceMethod yX1_stressOn, Cond.selects RX1 yX1_stressOn yX1_stressOn, Cond.code yX1_stressOn cX1_stressOn 4 (some .int), Cond.fieldLink RX1 31 "SectionFibres$Section" "kept" "[I", Cond.methodLink RX1 60 yX1_worksOn, Cond.instanceMethod yX0_stressAt, Cond.initialized RX0, Cond.selects RX0 yX0_stressAt yX0_stressAt, Cond.code yX0_stressAt cX0_stressAt 7 (some .int), Cond.fieldLink RX0 18 "SectionFibres$Kinds" "points" "[I", Cond.fieldLink RX0 9 "SectionFibres$Kinds" "strains" "[I", Cond.fieldLink RX0 15 "SectionFibres$Kinds" "stresses" "[I"]
def wsL_in : List Cond := .codeWith yL_in cL_in 5 (some .int) [(0, 10, 13, 13)] :: ((wsL_in_r1 ++ wsL_in_r2) ++ wsX20 ++ wsJx000600 ++ wsX10 ++ wsX00)
def wsL_law_r1 : List Cond := [Cond.classLink RL 8 RX2, Cond.instantiable RX2 6, Cond.initialized RX2, Cond.classLink RL 19 RX3, Cond.instantiable RX3 19, Cond.initialized RX3, Cond.arrayClass .long, Cond.constantLong RL 64 (4294967295), Cond.methodLink RL 18 yX2_init, Cond.instanceMethod yX2_init, Cond.code yX2_init cX2_init 1 none, Cond.methodLink RX2 1 objectInit, Cond.instanceMethod objectInit, Cond.code objectInit ⟨#[0xb1]⟩ 1 none, Cond.classLink RX2 7 RX1, Cond.instantiable RX1 7, Cond.initialized RX1, Cond.fieldLink RX2 10 "SectionFibres" "section" "LSectionFibres$Section;", Cond.instanceMethod yX1_init, Cond.code yX1_init cX1_init 1 none, Cond.methodLink RX1 3 objectInit, Cond.classLink RX1 9 RX0, Cond.instantiable RX0 5, Cond.initialized RX0]
def wsL_law_r2 : List Cond := [Cond.fieldLink RX1 12 "SectionFibres$Section" "kinds" "LSectionFibres$Kinds;", Cond.arrayClass .int, Cond.fieldLink RX1 18 "SectionFibres$Section" "areas" "[I", Cond.fieldLink RX1 22 "SectionFibres$Section" "places" "[I", Cond.fieldLink RX1 25 "SectionFibres$Section" "kindOf" "[I", Cond.fieldLink RX1 28 "SectionFibres$Section" "births" "[I", Cond.fieldLink RX1 31 "SectionFibres$Section" "kept" "[I", Cond.instanceMethod yX0_init, Cond.code yX0_init cX0_init 1 none, Cond.methodLink RX0 3 objectInit, Cond.fieldLink RX0 9 "SectionFibres$Kinds" "strains" "[I", Cond.fieldLink RX0 15 "SectionFibres$Kinds" "stresses" "[I", Cond.fieldLink RX0 18 "SectionFibres$Kinds" "points" "[I", Cond.fieldLink RX0 21 "SectionFibres$Kinds" "creep" "[I", Cond.fieldLink RX0 24 "SectionFibres$Kinds" "shrunk" "[I", Cond.methodLink RL 21 yX3_init, Cond.instanceMethod yX3_init, Cond.code yX3_init cX3_init 1 none, Cond.methodLink RX3 1 objectInit, Cond.fieldLink RX3 7 "SectionFibresModel" "areas" "[I", Cond.fieldLink RX3 13 "SectionFibresModel" "places" "[I", Cond.fieldLink RX3 16 "SectionFibresModel" "kinds" "[I", Cond.fieldLink RX3 19 "SectionFibresModel" "borns" "[I", Cond.fieldLink RX3 22 "SectionFibresModel" "kept" "[I"]
def wsL_law_r3 : List Cond := [Cond.fieldLink RX3 25 "SectionFibresModel" "points" "[I", Cond.fieldLink RX3 28 "SectionFibresModel" "strains" "[I", Cond.fieldLink RX3 31 "SectionFibresModel" "stresses" "[I", Cond.fieldLink RX3 34 "SectionFibresModel" "creep" "[I", Cond.fieldLink RX3 37 "SectionFibresModel" "shrunk" "[I", Cond.methodLink RL 22 yX2_fibre, Cond.instanceMethod yX2_fibre, Cond.selects RX2 yX2_fibre yX2_fibre, Cond.code yX2_fibre cX2_fibre 4 (some .int), Cond.constant RX2 16 (100000), Cond.fieldLink RX2 36 "SectionFibres" "planeAtHand" "Z", Cond.methodLink RX2 17 yX2_within, Cond.static yX2_within, Cond.code yX2_within cX2_within 3 (some .boolean), Cond.methodLink RX2 21 yX2_isPlace, Cond.static yX2_isPlace, Cond.code yX2_isPlace cX2_isPlace 1 (some .boolean), Cond.methodLink RX2 25 yX2_isKind, Cond.static yX2_isKind, Cond.code yX2_isKind cX2_isKind 1 (some .boolean), Cond.instanceMethod yX1_add, Cond.selects RX1 yX1_add yX1_add, Cond.code yX1_add cX1_add 4 none, Cond.fieldLink RX1 34 "SectionFibres$Section" "size" "I"]
def wsL_law_r4 : List Cond := [Cond.methodLink RL 26 yX3_fibre, Cond.instanceMethod yX3_fibre, Cond.selects RX3 yX3_fibre yX3_fibre, Cond.code yX3_fibre cX3_fibre 4 (some .int), Cond.fieldLink RX3 40 "SectionFibresModel" "thrown" "I", Cond.constant RX3 47 (100000), Cond.fieldLink RX3 44 "SectionFibresModel" "fibres" "I", Cond.fieldLink RX3 60 "SectionFibresModel" "has" "Z", Cond.methodLink RX3 48 yX3_within, Cond.static yX3_within, Cond.code yX3_within cX3_within 3 (some .boolean), Cond.methodLink RX3 52 yX3_isKind, Cond.static yX3_isKind, Cond.code yX3_isKind cX3_isKind 1 (some .boolean), Cond.methodLink RX3 56 yX3_lay, Cond.instanceMethod yX3_lay, Cond.selects RX3 yX3_lay yX3_lay, Cond.code yX3_lay cX3_lay 5 none, Cond.methodLink RL 27 yX2_point, Cond.instanceMethod yX2_point, Cond.selects RX2 yX2_point yX2_point, Cond.code yX2_point cX2_point 4 (some .boolean), Cond.constant RX2 43 (-1000000), Cond.constant RX2 44 (1000000)]
def wsL_law_r5 : List Cond := [Cond.methodLink RX2 40 yX2_isToldStrain, Cond.static yX2_isToldStrain, Cond.code yX2_isToldStrain cX2_isToldStrain 1 (some .boolean), Cond.instanceMethod yX0_addPoint, Cond.selects RX0 yX0_addPoint yX0_addPoint, Cond.code yX0_addPoint cX0_addPoint 6 (some .boolean), Cond.methodLink RL 31 yX3_point, Cond.instanceMethod yX3_point, Cond.selects RX3 yX3_point yX3_point, Cond.code yX3_point cX3_point 5 (some .boolean), Cond.constant RX3 64 (-1000000), Cond.constant RX3 65 (1000000), Cond.methodLink RL 32 yX2_born, Cond.instanceMethod yX2_born, Cond.selects RX2 yX2_born yX2_born, Cond.code yX2_born cX2_born 3 (some .boolean), Cond.instanceMethod yX1_has, Cond.selects RX1 yX1_has yX1_has, Cond.code yX1_has cX1_has 2 (some .boolean), Cond.methodLink RL 36 yX3_born, Cond.instanceMethod yX3_born, Cond.selects RX3 yX3_born yX3_born, Cond.code yX3_born cX3_born 3 (some .boolean), Cond.methodLink RX3 66 yX3_isFibre]
def wsL_law_r6 : List Cond := [Cond.instanceMethod yX3_isFibre, Cond.selects RX3 yX3_isFibre yX3_isFibre, Cond.code yX3_isFibre cX3_isFibre 2 (some .boolean), Cond.methodLink RL 37 yX2_creeps, Cond.instanceMethod yX2_creeps, Cond.selects RX2 yX2_creeps yX2_creeps, Cond.code yX2_creeps cX2_creeps 3 (some .boolean), Cond.methodLink RL 40 yX3_creeps, Cond.instanceMethod yX3_creeps, Cond.selects RX3 yX3_creeps yX3_creeps, Cond.code yX3_creeps cX3_creeps 3 (some .boolean), Cond.methodLink RL 41 yX2_shrinks, Cond.instanceMethod yX2_shrinks, Cond.selects RX2 yX2_shrinks yX2_shrinks, Cond.code yX2_shrinks cX2_shrinks 3 (some .boolean), Cond.methodLink RL 44 yX3_shrinks, Cond.instanceMethod yX3_shrinks, Cond.selects RX3 yX3_shrinks yX3_shrinks, Cond.code yX3_shrinks cX3_shrinks 3 (some .boolean), Cond.methodLink RL 45 yX2_keeps, Cond.instanceMethod yX2_keeps, Cond.selects RX2 yX2_keeps yX2_keeps, Cond.code yX2_keeps cX2_keeps 3 (some .boolean), Cond.methodLink RL 48 yX3_keeps]
def wsL_law_r7 : List Cond := [Cond.instanceMethod yX3_keeps, Cond.selects RX3 yX3_keeps yX3_keeps, Cond.code yX3_keeps cX3_keeps 3 (some .boolean), Cond.methodLink RL 49 yL_row, Cond.static yL_row, Cond.initialized RL, Cond.codeWith yL_row cL_row 5 (some .int) [(0, 10, 13, 13)], Cond.methodLink RL 7 yX2_row, Cond.instanceMethod yX2_row, Cond.selects RX2 yX2_row yX2_row, Cond.code yX2_row cX2_row 3 (some .int), Cond.classLink RX2 70 RJx00060, Cond.instantiable RJx00060 6, Cond.initialized RJx00060, Cond.instanceMethod yX0_stressAt, Cond.selects RX0 yX0_stressAt yX0_stressAt, Cond.code yX0_stressAt cX0_stressAt 7 (some .int), Cond.static yX2_share, Cond.code yX2_share cX2_share 6 (some .int), Cond.methodLink RL 54 yX3_row, Cond.instanceMethod yX3_row, Cond.selects RX3 yX3_row yX3_row, Cond.code yX3_row cX3_row 3 (some .int), Cond.methodLink RX3 69 yX3_stressAt]
def wsL_law_r8 : List Cond := [Cond.instanceMethod yX3_stressAt, Cond.selects RX3 yX3_stressAt yX3_stressAt, Cond.code yX3_stressAt cX3_stressAt 8 (some .int), Cond.methodLink RL 55 yX3_thrown, Cond.instanceMethod yX3_thrown, Cond.selects RX3 yX3_thrown yX3_thrown, Cond.code yX3_thrown cX3_thrown 1 (some .int), Cond.methodLink RL 59 yX2_of, Cond.instanceMethod yX2_of, Cond.selects RX2 yX2_of yX2_of, Cond.code yX2_of cX2_of 4 (some .long), Cond.constantLong RX2 87 (-4611686018427387904), Cond.methodLink RX2 81 yX2_isOfPlane, Cond.static yX2_isOfPlane, Cond.code yX2_isOfPlane cX2_isOfPlane 1 (some .boolean), Cond.methodLink RX2 84 yX2_isSum, Cond.static yX2_isSum, Cond.code yX2_isSum cX2_isSum 1 (some .boolean), Cond.instanceMethod yX1_sumOf, Cond.selects RX1 yX1_sumOf yX1_sumOf, Cond.code yX1_sumOf cX1_sumOf 9 (some .long), Cond.methodLink RX1 67 yX1_stressOn, Cond.instanceMethod yX1_stressOn, Cond.selects RX1 yX1_stressOn yX1_stressOn]
def wsL_law_r9 : List Cond := [Cond.code yX1_stressOn cX1_stressOn 4 (some .int), Cond.constantLong RX1 51 (100), Cond.methodLink RX1 60 yX1_worksOn, Cond.instanceMethod yX1_worksOn, Cond.selects RX1 yX1_worksOn yX1_worksOn, Cond.code yX1_worksOn cX1_worksOn 6 (some .int), Cond.methodLink RX1 42 yJ9_floorDiv_7cf53, Cond.static yJ9_floorDiv_7cf53, Cond.initialized RJ9, Cond.code yJ9_floorDiv_7cf53 cJ9_floorDiv_7cf53 3 (some .int), Cond.methodLink RL 63 yX3_of, Cond.instanceMethod yX3_of, Cond.selects RX3 yX3_of yX3_of, Cond.code yX3_of cX3_of 5 (some .long), Cond.constantLong RX3 89 (-4611686018427387904), Cond.methodLink RX3 85 yX3_sum, Cond.instanceMethod yX3_sum, Cond.selects RX3 yX3_sum yX3_sum, Cond.code yX3_sum cX3_sum 7 (some .long), Cond.methodLink RX3 82 yX3_stressOf, Cond.instanceMethod yX3_stressOf, Cond.selects RX3 yX3_stressOf yX3_stressOf, Cond.code yX3_stressOf cX3_stressOf 4 (some .int), Cond.constantLong RX3 77 (100)]
def wsL_law_r10 : List Cond := [Cond.methodLink RX3 73 yX3_works, Cond.instanceMethod yX3_works, Cond.selects RX3 yX3_works yX3_works, Cond.code yX3_works cX3_works 7 (some .int), Cond.methodLink RL 66 yX2_balance, Cond.instanceMethod yX2_balance, Cond.selects RX2 yX2_balance yX2_balance, Cond.code yX2_balance cX2_balance 4 (some .int), Cond.instanceMethod yX1_balanceOf, Cond.selects RX1 yX1_balanceOf yX1_balanceOf, Cond.code yX1_balanceOf cX1_balanceOf 8 (some .int), Cond.constant RX1 78 (-1000000), Cond.methodLink RX1 74 yX1_sumOf, Cond.methodLink RL 70 yX3_balance, Cond.instanceMethod yX3_balance, Cond.selects RX3 yX3_balance yX3_balance, Cond.code yX3_balance cX3_balance 4 (some .int), Cond.methodLink RX3 91 yX3_balanceOf, Cond.instanceMethod yX3_balanceOf, Cond.selects RX3 yX3_balanceOf yX3_balanceOf, Cond.code yX3_balanceOf cX3_balanceOf 7 (some .int), Cond.methodLink RL 71 yX2_run, Cond.instanceMethod yX2_run, Cond.selects RX2 yX2_run yX2_run]
def wsL_law_r11 : List Cond := [Cond.code yX2_run cX2_run 6 (some .int), Cond.constant RX2 101 (1000001), Cond.constant RX2 102 (1000002), Cond.fieldLink RX2 103 "SectionFibres" "planeE" "I", Cond.fieldLink RX2 106 "SectionFibres" "planeK" "I", Cond.fieldLink RX2 109 "SectionFibres" "solvedForce" "J", Cond.fieldLink RX2 113 "SectionFibres" "solvedMoment" "J", Cond.instanceMethod yX1_bendFor, Cond.selects RX1 yX1_bendFor yX1_bendFor, Cond.code yX1_bendFor cX1_bendFor 10 (some .int), Cond.constant RX1 83 (1000001), Cond.constant RX1 84 (1000002), Cond.methodLink RX1 79 yX1_balanceOf, Cond.methodLink RL 75 yX3_run, Cond.instanceMethod yX3_run, Cond.selects RX3 yX3_run yX3_run, Cond.code yX3_run cX3_run 6 (some .int), Cond.fieldLink RX3 98 "SectionFibresModel" "foundE" "I", Cond.fieldLink RX3 105 "SectionFibresModel" "e" "I", Cond.fieldLink RX3 95 "SectionFibresModel" "foundK" "I", Cond.fieldLink RX3 108 "SectionFibresModel" "k" "I", Cond.fieldLink RX3 111 "SectionFibresModel" "wantedForce" "J", Cond.fieldLink RX3 115 "SectionFibresModel" "wantedMoment" "J", Cond.methodLink RX3 101 yX3_solve]
def wsL_law_r12 : List Cond := [Cond.instanceMethod yX3_solve, Cond.selects RX3 yX3_solve yX3_solve, Cond.code yX3_solve cX3_solve 9 (some .int), Cond.methodLink RL 76 yX2_told, Cond.instanceMethod yX2_told, Cond.selects RX2 yX2_told yX2_told, Cond.code yX2_told cX2_told 2 (some .int), Cond.instanceMethod yX1_firstBeyond, Cond.selects RX1 yX1_firstBeyond yX1_firstBeyond, Cond.code yX1_firstBeyond cX1_firstBeyond 4 (some .int), Cond.instanceMethod yX0_isBeyond, Cond.selects RX0 yX0_isBeyond yX0_isBeyond, Cond.code yX0_isBeyond cX0_isBeyond 4 (some .boolean), Cond.methodLink RL 80 yX3_told, Cond.instanceMethod yX3_told, Cond.selects RX3 yX3_told yX3_told, Cond.code yX3_told cX3_told 2 (some .int), Cond.methodLink RX3 118 yX3_firstBeyond, Cond.instanceMethod yX3_firstBeyond, Cond.selects RX3 yX3_firstBeyond yX3_firstBeyond, Cond.code yX3_firstBeyond cX3_firstBeyond 4 (some .int), Cond.methodLink RX3 79 yX3_isBeyond, Cond.instanceMethod yX3_isBeyond, Cond.selects RX3 yX3_isBeyond yX3_isBeyond]
def wsL_law_r13 : List Cond := [Cond.code yX3_isBeyond cX3_isBeyond 7 (some .boolean), Cond.methodLink RL 81 yX2_residual, Cond.instanceMethod yX2_residual, Cond.selects RX2 yX2_residual yX2_residual, Cond.code yX2_residual cX2_residual 2 (some .long), Cond.methodLink RL 85 yX3_residual, Cond.instanceMethod yX3_residual, Cond.selects RX3 yX3_residual yX3_residual, Cond.code yX3_residual cX3_residual 2 (some .long), Cond.methodLink RL 86 yL_in, Cond.static yL_in, Cond.codeWith yL_in cL_in 5 (some .int) [(0, 10, 13, 13)], Cond.methodLink RL 15 yX2_in, Cond.instanceMethod yX2_in, Cond.selects RX2 yX2_in yX2_in, Cond.code yX2_in cX2_in 3 (some .int), Cond.methodLink RL 88 yX3_in, Cond.instanceMethod yX3_in, Cond.selects RX3 yX3_in yX3_in, Cond.code yX3_in cX3_in 3 (some .int), Cond.methodLink RL 89 yX2_curve, Cond.instanceMethod yX2_curve, Cond.selects RX2 yX2_curve yX2_curve, Cond.code yX2_curve cX2_curve 6 (some .long)]
def wsL_law_r14 : List Cond := [Cond.methodLink RX2 128 yX2_isBendStep, Cond.static yX2_isBendStep, Cond.code yX2_isBendStep cX2_isBendStep 1 (some .boolean), Cond.methodLink RL 93 yX3_curve, Cond.instanceMethod yX3_curve, Cond.selects RX3 yX3_curve yX3_curve, Cond.code yX3_curve cX3_curve 6 (some .long), Cond.methodLink RL 94 yX2_last, Cond.instanceMethod yX2_last, Cond.selects RX2 yX2_last yX2_last, Cond.code yX2_last cX2_last 6 (some .int), Cond.methodLink RL 97 yX3_last, Cond.instanceMethod yX3_last, Cond.selects RX3 yX3_last yX3_last, Cond.code yX3_last cX3_last 6 (some .int), Cond.methodLink RL 98 yX2_needed, Cond.instanceMethod yX2_needed, Cond.selects RX2 yX2_needed yX2_needed, Cond.code yX2_needed cX2_needed 10 (some .int), Cond.instanceMethod yX1_setLastArea, Cond.selects RX1 yX1_setLastArea yX1_setLastArea, Cond.code yX1_setLastArea cX1_setLastArea 2 none, Cond.instanceMethod yX1_dropLast, Cond.selects RX1 yX1_dropLast yX1_dropLast]
def wsL_law_r15 : List Cond := [Cond.code yX1_dropLast cX1_dropLast 1 none, Cond.methodLink RL 102 yX3_needed, Cond.instanceMethod yX3_needed, Cond.selects RX3 yX3_needed yX3_needed, Cond.code yX3_needed cX3_needed 10 (some .int), Cond.methodLink RL 103 yX2_count, Cond.instanceMethod yX2_count, Cond.selects RX2 yX2_count yX2_count, Cond.code yX2_count cX2_count 2 (some .int), Cond.instanceMethod yX1_allAreas, Cond.selects RX1 yX1_allAreas yX1_allAreas, Cond.code yX1_allAreas cX1_allAreas 3 (some .int), Cond.methodLink RL 106 yX3_count, Cond.instanceMethod yX3_count, Cond.selects RX3 yX3_count yX3_count, Cond.code yX3_count cX3_count 4 (some .int)]
def wsL_law : List Cond := (wsL_law_r1 ++ (wsL_law_r2 ++ (wsL_law_r3 ++ (wsL_law_r4 ++ (wsL_law_r5 ++ (wsL_law_r6 ++ (wsL_law_r7 ++ (wsL_law_r8 ++ (wsL_law_r9 ++ (wsL_law_r10 ++ (wsL_law_r11 ++ (wsL_law_r12 ++ (wsL_law_r13 ++ (wsL_law_r14 ++ wsL_law_r15)))))))))))))) ++ wsX20 ++ wsX30 ++ wsX10 ++ wsX00 ++ wsJx000600 ++ ([] : List Cond)
set_option maxRecDepth 20000 in
theorem wsL_law_in : ∀ w ∈ wsL_law, w ∈ lw_tbl := fun w h => (goodIn_p wsL_law [40, 43, 48, 54, 374, 126, 130, 133, 136, 140, 441, 445, 448, 452, 144, 147, 153, 456, 157, 161, 462, 466, 166, 470, 170, 474, 174, 478, 287, 208, 204, 482, 486, 437, 178, 181, 184, 189, 193, 197, 200, 490, 494, 498, 502, 213, 217, 508, 512, 223, 227, 516, 520, 236, 240, 244, 524, 528, 532, 248, 536, 366, 540, 252, 255, 544, 259, 548, 263, 267, 271, 552, 275, 279, 556] (by decide +kernel) (by decide +kernel) w h).1
theorem inlX0 : ∀ w ∈ wsX00, w ∈ wsL_law := fun _ h => List.mem_append_left _ (List.mem_append_left _ (List.mem_append_right _ h))
theorem inX0 : ∀ w ∈ wsX00, w ∈ lw_tbl := fun w h => wsL_law_in w (inlX0 w h)
theorem inlX1 : ∀ w ∈ wsX10, w ∈ wsL_law := fun _ h => List.mem_append_left _ (List.mem_append_left _ (List.mem_append_left _ (List.mem_append_right _ h)))
theorem inX1 : ∀ w ∈ wsX10, w ∈ lw_tbl := fun w h => wsL_law_in w (inlX1 w h)
theorem inlX2 : ∀ w ∈ wsX20, w ∈ wsL_law := fun _ h => List.mem_append_left _ (List.mem_append_left _ (List.mem_append_left _ (List.mem_append_left _ (List.mem_append_left _ (List.mem_append_right _ h)))))
theorem inX2 : ∀ w ∈ wsX20, w ∈ lw_tbl := fun w h => wsL_law_in w (inlX2 w h)
theorem inlX3 : ∀ w ∈ wsX30, w ∈ wsL_law := fun _ h => List.mem_append_left _ (List.mem_append_left _ (List.mem_append_left _ (List.mem_append_left _ (List.mem_append_right _ h))))
theorem inX3 : ∀ w ∈ wsX30, w ∈ lw_tbl := fun w h => wsL_law_in w (inlX3 w h)
theorem inlJx00060 : ∀ w ∈ wsJx000600, w ∈ wsL_law := fun _ h => List.mem_append_left _ (List.mem_append_right _ h)
theorem inJx00060 : ∀ w ∈ wsJx000600, w ∈ lw_tbl := fun w h => wsL_law_in w (inlJx00060 w h)
theorem inJ9 : ∀ w ∈ wsJ90, w ∈ lw_tbl := by decide +kernel
theorem inJ0 : ∀ w ∈ wsJ00, w ∈ lw_tbl := by decide +kernel
abbrev vwCl : List vw_C := [(RJx00060, TJx00060, 6), (RX0, TX0, 5), (RX1, TX1, 7), (RX2, TX2, 6), (RX3, TX3, 19)]
end
section
theorem dX0_init_0 : decode cX0_init 0 = .ok (.aload_n 0, 1) := by decide +kernel
theorem dX0_init_1 : decode cX0_init 1 = .ok (.invokespecial 3, 3) := by decide +kernel
theorem dX0_init_4 : decode cX0_init 4 = .ok (.aload_n 0, 1) := by decide +kernel
theorem dX0_init_5 : decode cX0_init 5 = .ok (.bipush 32, 2) := by decide +kernel
theorem dX0_init_7 : decode cX0_init 7 = .ok (.newarray .int, 2) := by decide +kernel
theorem dX0_init_9 : decode cX0_init 9 = .ok (.putfield 9, 3) := by decide +kernel
theorem dX0_init_12 : decode cX0_init 12 = .ok (.aload_n 0, 1) := by decide +kernel
theorem dX0_init_13 : decode cX0_init 13 = .ok (.bipush 32, 2) := by decide +kernel
theorem dX0_init_15 : decode cX0_init 15 = .ok (.newarray .int, 2) := by decide +kernel
theorem dX0_init_17 : decode cX0_init 17 = .ok (.putfield 15, 3) := by decide +kernel
theorem dX0_init_20 : decode cX0_init 20 = .ok (.aload_n 0, 1) := by decide +kernel
theorem dX0_init_21 : decode cX0_init 21 = .ok (.iconst 4, 1) := by decide +kernel
theorem dX0_init_22 : decode cX0_init 22 = .ok (.newarray .int, 2) := by decide +kernel
theorem dX0_init_24 : decode cX0_init 24 = .ok (.putfield 18, 3) := by decide +kernel
theorem dX0_init_27 : decode cX0_init 27 = .ok (.aload_n 0, 1) := by decide +kernel
theorem dX0_init_28 : decode cX0_init 28 = .ok (.iconst 4, 1) := by decide +kernel
theorem dX0_init_29 : decode cX0_init 29 = .ok (.newarray .int, 2) := by decide +kernel
theorem dX0_init_31 : decode cX0_init 31 = .ok (.putfield 21, 3) := by decide +kernel
theorem dX0_init_34 : decode cX0_init 34 = .ok (.aload_n 0, 1) := by decide +kernel
theorem dX0_init_35 : decode cX0_init 35 = .ok (.iconst 4, 1) := by decide +kernel
theorem dX0_init_36 : decode cX0_init 36 = .ok (.newarray .int, 2) := by decide +kernel
theorem dX0_init_38 : decode cX0_init 38 = .ok (.putfield 24, 3) := by decide +kernel
theorem dX0_init_41 : decode cX0_init 41 = .ok (.return_, 1) := by decide +kernel
theorem dX0_addPoint_0 : decode cX0_addPoint 0 = .ok (.aload_n 0, 1) := by decide +kernel
theorem dX0_addPoint_1 : decode cX0_addPoint 1 = .ok (.getfield 18, 3) := by decide +kernel
theorem dX0_addPoint_4 : decode cX0_addPoint 4 = .ok (.iload_n 1, 1) := by decide +kernel
theorem dX0_addPoint_5 : decode cX0_addPoint 5 = .ok (.iaload, 1) := by decide +kernel
theorem dX0_addPoint_6 : decode cX0_addPoint 6 = .ok (.istore 4, 2) := by decide +kernel
theorem dX0_addPoint_8 : decode cX0_addPoint 8 = .ok (.iload 4, 2) := by decide +kernel
theorem dX0_addPoint_10 : decode cX0_addPoint 10 = .ok (.bipush 8, 2) := by decide +kernel
theorem dX0_addPoint_12 : decode cX0_addPoint 12 = .ok (.if_icmp .lt 5, 3) := by decide +kernel
theorem dX0_addPoint_15 : decode cX0_addPoint 15 = .ok (.iconst 0, 1) := by decide +kernel
theorem dX0_addPoint_16 : decode cX0_addPoint 16 = .ok (.ireturn, 1) := by decide +kernel
theorem dX0_addPoint_17 : decode cX0_addPoint 17 = .ok (.iload_n 1, 1) := by decide +kernel
theorem dX0_addPoint_18 : decode cX0_addPoint 18 = .ok (.bipush 8, 2) := by decide +kernel
theorem dX0_addPoint_20 : decode cX0_addPoint 20 = .ok (.imul, 1) := by decide +kernel
theorem dX0_addPoint_21 : decode cX0_addPoint 21 = .ok (.iload 4, 2) := by decide +kernel
theorem dX0_addPoint_23 : decode cX0_addPoint 23 = .ok (.iadd, 1) := by decide +kernel
theorem dX0_addPoint_24 : decode cX0_addPoint 24 = .ok (.istore 5, 2) := by decide +kernel
theorem dX0_addPoint_26 : decode cX0_addPoint 26 = .ok (.iload 4, 2) := by decide +kernel
theorem dX0_addPoint_28 : decode cX0_addPoint 28 = .ok (.ifCond .le 31, 3) := by decide +kernel
theorem dX0_addPoint_31 : decode cX0_addPoint 31 = .ok (.iload_n 2, 1) := by decide +kernel
theorem dX0_addPoint_32 : decode cX0_addPoint 32 = .ok (.aload_n 0, 1) := by decide +kernel
theorem dX0_addPoint_33 : decode cX0_addPoint 33 = .ok (.getfield 9, 3) := by decide +kernel
theorem dX0_addPoint_36 : decode cX0_addPoint 36 = .ok (.iload 5, 2) := by decide +kernel
theorem dX0_addPoint_38 : decode cX0_addPoint 38 = .ok (.iconst 1, 1) := by decide +kernel
theorem dX0_addPoint_39 : decode cX0_addPoint 39 = .ok (.isub, 1) := by decide +kernel
theorem dX0_addPoint_40 : decode cX0_addPoint 40 = .ok (.iaload, 1) := by decide +kernel
theorem dX0_addPoint_41 : decode cX0_addPoint 41 = .ok (.if_icmp .le 16, 3) := by decide +kernel
theorem dX0_addPoint_44 : decode cX0_addPoint 44 = .ok (.iload_n 3, 1) := by decide +kernel
theorem dX0_addPoint_45 : decode cX0_addPoint 45 = .ok (.aload_n 0, 1) := by decide +kernel
theorem dX0_addPoint_46 : decode cX0_addPoint 46 = .ok (.getfield 15, 3) := by decide +kernel
theorem dX0_addPoint_49 : decode cX0_addPoint 49 = .ok (.iload 5, 2) := by decide +kernel
theorem dX0_addPoint_51 : decode cX0_addPoint 51 = .ok (.iconst 1, 1) := by decide +kernel
theorem dX0_addPoint_52 : decode cX0_addPoint 52 = .ok (.isub, 1) := by decide +kernel
theorem dX0_addPoint_53 : decode cX0_addPoint 53 = .ok (.iaload, 1) := by decide +kernel
theorem dX0_addPoint_54 : decode cX0_addPoint 54 = .ok (.if_icmp .ge 5, 3) := by decide +kernel
theorem dX0_addPoint_57 : decode cX0_addPoint 57 = .ok (.iconst 0, 1) := by decide +kernel
theorem dX0_addPoint_58 : decode cX0_addPoint 58 = .ok (.ireturn, 1) := by decide +kernel
theorem dX0_addPoint_59 : decode cX0_addPoint 59 = .ok (.aload_n 0, 1) := by decide +kernel
theorem dX0_addPoint_60 : decode cX0_addPoint 60 = .ok (.getfield 9, 3) := by decide +kernel
theorem dX0_addPoint_63 : decode cX0_addPoint 63 = .ok (.iload 5, 2) := by decide +kernel
theorem dX0_addPoint_65 : decode cX0_addPoint 65 = .ok (.iload_n 2, 1) := by decide +kernel
theorem dX0_addPoint_66 : decode cX0_addPoint 66 = .ok (.iastore, 1) := by decide +kernel
theorem dX0_addPoint_67 : decode cX0_addPoint 67 = .ok (.aload_n 0, 1) := by decide +kernel
theorem dX0_addPoint_68 : decode cX0_addPoint 68 = .ok (.getfield 15, 3) := by decide +kernel
theorem dX0_addPoint_71 : decode cX0_addPoint 71 = .ok (.iload 5, 2) := by decide +kernel
theorem dX0_addPoint_73 : decode cX0_addPoint 73 = .ok (.iload_n 3, 1) := by decide +kernel
theorem dX0_addPoint_74 : decode cX0_addPoint 74 = .ok (.iastore, 1) := by decide +kernel
theorem dX0_addPoint_75 : decode cX0_addPoint 75 = .ok (.aload_n 0, 1) := by decide +kernel
theorem dX0_addPoint_76 : decode cX0_addPoint 76 = .ok (.getfield 18, 3) := by decide +kernel
theorem dX0_addPoint_79 : decode cX0_addPoint 79 = .ok (.iload_n 1, 1) := by decide +kernel
theorem dX0_addPoint_80 : decode cX0_addPoint 80 = .ok (.iload 4, 2) := by decide +kernel
theorem dX0_addPoint_82 : decode cX0_addPoint 82 = .ok (.iconst 1, 1) := by decide +kernel
theorem dX0_addPoint_83 : decode cX0_addPoint 83 = .ok (.iadd, 1) := by decide +kernel
theorem dX0_addPoint_84 : decode cX0_addPoint 84 = .ok (.iastore, 1) := by decide +kernel
theorem dX0_addPoint_85 : decode cX0_addPoint 85 = .ok (.iconst 1, 1) := by decide +kernel
theorem dX0_addPoint_86 : decode cX0_addPoint 86 = .ok (.ireturn, 1) := by decide +kernel
set_option maxRecDepth 20000 in
theorem ggX0_stressAt_X2_share : GoodIn wsX0_stressAt wsX2_share := goodIn_r _ [6] (by decide +kernel) (by decide +kernel)
set_option maxRecDepth 20000 in
theorem gX0_stressAt_X2_share_n27 : GoodIn wsX0_stressAt (wsX2_share) := ggX0_stressAt_X2_share
theorem dX0_stressAt_0 : decode cX0_stressAt 0 = .ok (.aload_n 0, 1) := by decide +kernel
theorem dX0_stressAt_1 : decode cX0_stressAt 1 = .ok (.getfield 18, 3) := by decide +kernel
theorem dX0_stressAt_4 : decode cX0_stressAt 4 = .ok (.iload_n 1, 1) := by decide +kernel
theorem dX0_stressAt_5 : decode cX0_stressAt 5 = .ok (.iaload, 1) := by decide +kernel
theorem dX0_stressAt_6 : decode cX0_stressAt 6 = .ok (.ifCond .ne 5, 3) := by decide +kernel
theorem dX0_stressAt_9 : decode cX0_stressAt 9 = .ok (.iconst 0, 1) := by decide +kernel
theorem dX0_stressAt_10 : decode cX0_stressAt 10 = .ok (.ireturn, 1) := by decide +kernel
theorem dX0_stressAt_11 : decode cX0_stressAt 11 = .ok (.iload_n 1, 1) := by decide +kernel
theorem dX0_stressAt_12 : decode cX0_stressAt 12 = .ok (.bipush 8, 2) := by decide +kernel
theorem dX0_stressAt_14 : decode cX0_stressAt 14 = .ok (.imul, 1) := by decide +kernel
theorem dX0_stressAt_15 : decode cX0_stressAt 15 = .ok (.istore_n 3, 1) := by decide +kernel
theorem dX0_stressAt_16 : decode cX0_stressAt 16 = .ok (.iload_n 3, 1) := by decide +kernel
theorem dX0_stressAt_17 : decode cX0_stressAt 17 = .ok (.aload_n 0, 1) := by decide +kernel
theorem dX0_stressAt_18 : decode cX0_stressAt 18 = .ok (.getfield 18, 3) := by decide +kernel
theorem dX0_stressAt_21 : decode cX0_stressAt 21 = .ok (.iload_n 1, 1) := by decide +kernel
theorem dX0_stressAt_22 : decode cX0_stressAt 22 = .ok (.iaload, 1) := by decide +kernel
theorem dX0_stressAt_23 : decode cX0_stressAt 23 = .ok (.iadd, 1) := by decide +kernel
theorem dX0_stressAt_24 : decode cX0_stressAt 24 = .ok (.iconst 1, 1) := by decide +kernel
theorem dX0_stressAt_25 : decode cX0_stressAt 25 = .ok (.isub, 1) := by decide +kernel
theorem dX0_stressAt_26 : decode cX0_stressAt 26 = .ok (.istore 4, 2) := by decide +kernel
theorem dX0_stressAt_28 : decode cX0_stressAt 28 = .ok (.iload_n 2, 1) := by decide +kernel
theorem dX0_stressAt_29 : decode cX0_stressAt 29 = .ok (.aload_n 0, 1) := by decide +kernel
theorem dX0_stressAt_30 : decode cX0_stressAt 30 = .ok (.getfield 9, 3) := by decide +kernel
theorem dX0_stressAt_33 : decode cX0_stressAt 33 = .ok (.iload_n 3, 1) := by decide +kernel
theorem dX0_stressAt_34 : decode cX0_stressAt 34 = .ok (.iaload, 1) := by decide +kernel
theorem dX0_stressAt_35 : decode cX0_stressAt 35 = .ok (.if_icmp .gt 10, 3) := by decide +kernel
theorem dX0_stressAt_38 : decode cX0_stressAt 38 = .ok (.aload_n 0, 1) := by decide +kernel
theorem dX0_stressAt_39 : decode cX0_stressAt 39 = .ok (.getfield 15, 3) := by decide +kernel
theorem dX0_stressAt_42 : decode cX0_stressAt 42 = .ok (.iload_n 3, 1) := by decide +kernel
theorem dX0_stressAt_43 : decode cX0_stressAt 43 = .ok (.iaload, 1) := by decide +kernel
theorem dX0_stressAt_44 : decode cX0_stressAt 44 = .ok (.ireturn, 1) := by decide +kernel
theorem dX0_stressAt_45 : decode cX0_stressAt 45 = .ok (.iload_n 3, 1) := by decide +kernel
theorem dX0_stressAt_46 : decode cX0_stressAt 46 = .ok (.istore 5, 2) := by decide +kernel
theorem dX0_stressAt_48 : decode cX0_stressAt 48 = .ok (.iload 5, 2) := by decide +kernel
theorem dX0_stressAt_50 : decode cX0_stressAt 50 = .ok (.iload 4, 2) := by decide +kernel
theorem dX0_stressAt_52 : decode cX0_stressAt 52 = .ok (.if_icmp .ge 84, 3) := by decide +kernel
theorem dX0_stressAt_55 : decode cX0_stressAt 55 = .ok (.iload_n 2, 1) := by decide +kernel
theorem dX0_stressAt_56 : decode cX0_stressAt 56 = .ok (.aload_n 0, 1) := by decide +kernel
theorem dX0_stressAt_57 : decode cX0_stressAt 57 = .ok (.getfield 9, 3) := by decide +kernel
theorem dX0_stressAt_60 : decode cX0_stressAt 60 = .ok (.iload 5, 2) := by decide +kernel
theorem dX0_stressAt_62 : decode cX0_stressAt 62 = .ok (.iconst 1, 1) := by decide +kernel
theorem dX0_stressAt_63 : decode cX0_stressAt 63 = .ok (.iadd, 1) := by decide +kernel
theorem dX0_stressAt_64 : decode cX0_stressAt 64 = .ok (.iaload, 1) := by decide +kernel
theorem dX0_stressAt_65 : decode cX0_stressAt 65 = .ok (.if_icmp .ge 65, 3) := by decide +kernel
theorem dX0_stressAt_68 : decode cX0_stressAt 68 = .ok (.aload_n 0, 1) := by decide +kernel
theorem dX0_stressAt_69 : decode cX0_stressAt 69 = .ok (.getfield 15, 3) := by decide +kernel
theorem dX0_stressAt_72 : decode cX0_stressAt 72 = .ok (.iload 5, 2) := by decide +kernel
theorem dX0_stressAt_74 : decode cX0_stressAt 74 = .ok (.iconst 1, 1) := by decide +kernel
theorem dX0_stressAt_75 : decode cX0_stressAt 75 = .ok (.iadd, 1) := by decide +kernel
theorem dX0_stressAt_76 : decode cX0_stressAt 76 = .ok (.iaload, 1) := by decide +kernel
theorem dX0_stressAt_77 : decode cX0_stressAt 77 = .ok (.aload_n 0, 1) := by decide +kernel
theorem dX0_stressAt_78 : decode cX0_stressAt 78 = .ok (.getfield 15, 3) := by decide +kernel
theorem dX0_stressAt_81 : decode cX0_stressAt 81 = .ok (.iload 5, 2) := by decide +kernel
theorem dX0_stressAt_83 : decode cX0_stressAt 83 = .ok (.iaload, 1) := by decide +kernel
theorem dX0_stressAt_84 : decode cX0_stressAt 84 = .ok (.isub, 1) := by decide +kernel
theorem dX0_stressAt_85 : decode cX0_stressAt 85 = .ok (.istore 6, 2) := by decide +kernel
theorem dX0_stressAt_87 : decode cX0_stressAt 87 = .ok (.aload_n 0, 1) := by decide +kernel
theorem dX0_stressAt_88 : decode cX0_stressAt 88 = .ok (.getfield 15, 3) := by decide +kernel
theorem dX0_stressAt_91 : decode cX0_stressAt 91 = .ok (.iload 5, 2) := by decide +kernel
theorem dX0_stressAt_93 : decode cX0_stressAt 93 = .ok (.iaload, 1) := by decide +kernel
theorem dX0_stressAt_94 : decode cX0_stressAt 94 = .ok (.iload 6, 2) := by decide +kernel
theorem dX0_stressAt_96 : decode cX0_stressAt 96 = .ok (.i2l, 1) := by decide +kernel
theorem dX0_stressAt_97 : decode cX0_stressAt 97 = .ok (.iload_n 2, 1) := by decide +kernel
theorem dX0_stressAt_98 : decode cX0_stressAt 98 = .ok (.aload_n 0, 1) := by decide +kernel
theorem dX0_stressAt_99 : decode cX0_stressAt 99 = .ok (.getfield 9, 3) := by decide +kernel
theorem dX0_stressAt_102 : decode cX0_stressAt 102 = .ok (.iload 5, 2) := by decide +kernel
theorem dX0_stressAt_104 : decode cX0_stressAt 104 = .ok (.iaload, 1) := by decide +kernel
theorem dX0_stressAt_105 : decode cX0_stressAt 105 = .ok (.isub, 1) := by decide +kernel
theorem dX0_stressAt_106 : decode cX0_stressAt 106 = .ok (.i2l, 1) := by decide +kernel
theorem dX0_stressAt_107 : decode cX0_stressAt 107 = .ok (.aload_n 0, 1) := by decide +kernel
theorem dX0_stressAt_108 : decode cX0_stressAt 108 = .ok (.getfield 9, 3) := by decide +kernel
theorem dX0_stressAt_111 : decode cX0_stressAt 111 = .ok (.iload 5, 2) := by decide +kernel
theorem dX0_stressAt_113 : decode cX0_stressAt 113 = .ok (.iconst 1, 1) := by decide +kernel
theorem dX0_stressAt_114 : decode cX0_stressAt 114 = .ok (.iadd, 1) := by decide +kernel
theorem dX0_stressAt_115 : decode cX0_stressAt 115 = .ok (.iaload, 1) := by decide +kernel
theorem dX0_stressAt_116 : decode cX0_stressAt 116 = .ok (.aload_n 0, 1) := by decide +kernel
theorem dX0_stressAt_117 : decode cX0_stressAt 117 = .ok (.getfield 9, 3) := by decide +kernel
theorem dX0_stressAt_120 : decode cX0_stressAt 120 = .ok (.iload 5, 2) := by decide +kernel
theorem dX0_stressAt_122 : decode cX0_stressAt 122 = .ok (.iaload, 1) := by decide +kernel
theorem dX0_stressAt_123 : decode cX0_stressAt 123 = .ok (.isub, 1) := by decide +kernel
theorem dX0_stressAt_124 : decode cX0_stressAt 124 = .ok (.i2l, 1) := by decide +kernel
theorem dX0_stressAt_125 : decode cX0_stressAt 125 = .ok (.invokestatic 27, 3) := by decide +kernel
theorem dX0_stressAt_128 : decode cX0_stressAt 128 = .ok (.iadd, 1) := by decide +kernel
theorem dX0_stressAt_129 : decode cX0_stressAt 129 = .ok (.ireturn, 1) := by decide +kernel
theorem dX0_stressAt_130 : decode cX0_stressAt 130 = .ok (.iinc 5 1, 3) := by decide +kernel
theorem dX0_stressAt_133 : decode cX0_stressAt 133 = .ok (.goto (-85), 3) := by decide +kernel
theorem dX0_stressAt_136 : decode cX0_stressAt 136 = .ok (.aload_n 0, 1) := by decide +kernel
theorem dX0_stressAt_137 : decode cX0_stressAt 137 = .ok (.getfield 15, 3) := by decide +kernel
theorem dX0_stressAt_140 : decode cX0_stressAt 140 = .ok (.iload 4, 2) := by decide +kernel
theorem dX0_stressAt_142 : decode cX0_stressAt 142 = .ok (.iaload, 1) := by decide +kernel
theorem dX0_stressAt_143 : decode cX0_stressAt 143 = .ok (.ireturn, 1) := by decide +kernel
theorem dX0_isBeyond_0 : decode cX0_isBeyond 0 = .ok (.aload_n 0, 1) := by decide +kernel
theorem dX0_isBeyond_1 : decode cX0_isBeyond 1 = .ok (.getfield 18, 3) := by decide +kernel
theorem dX0_isBeyond_4 : decode cX0_isBeyond 4 = .ok (.iload_n 1, 1) := by decide +kernel
theorem dX0_isBeyond_5 : decode cX0_isBeyond 5 = .ok (.iaload, 1) := by decide +kernel
theorem dX0_isBeyond_6 : decode cX0_isBeyond 6 = .ok (.ifCond .ne 5, 3) := by decide +kernel
theorem dX0_isBeyond_9 : decode cX0_isBeyond 9 = .ok (.iconst 0, 1) := by decide +kernel
theorem dX0_isBeyond_10 : decode cX0_isBeyond 10 = .ok (.ireturn, 1) := by decide +kernel
theorem dX0_isBeyond_11 : decode cX0_isBeyond 11 = .ok (.iload_n 1, 1) := by decide +kernel
theorem dX0_isBeyond_12 : decode cX0_isBeyond 12 = .ok (.bipush 8, 2) := by decide +kernel
theorem dX0_isBeyond_14 : decode cX0_isBeyond 14 = .ok (.imul, 1) := by decide +kernel
theorem dX0_isBeyond_15 : decode cX0_isBeyond 15 = .ok (.istore_n 3, 1) := by decide +kernel
theorem dX0_isBeyond_16 : decode cX0_isBeyond 16 = .ok (.iload_n 2, 1) := by decide +kernel
theorem dX0_isBeyond_17 : decode cX0_isBeyond 17 = .ok (.aload_n 0, 1) := by decide +kernel
theorem dX0_isBeyond_18 : decode cX0_isBeyond 18 = .ok (.getfield 9, 3) := by decide +kernel
theorem dX0_isBeyond_21 : decode cX0_isBeyond 21 = .ok (.iload_n 3, 1) := by decide +kernel
theorem dX0_isBeyond_22 : decode cX0_isBeyond 22 = .ok (.iaload, 1) := by decide +kernel
theorem dX0_isBeyond_23 : decode cX0_isBeyond 23 = .ok (.if_icmp .lt 22, 3) := by decide +kernel
theorem dX0_isBeyond_26 : decode cX0_isBeyond 26 = .ok (.iload_n 2, 1) := by decide +kernel
theorem dX0_isBeyond_27 : decode cX0_isBeyond 27 = .ok (.aload_n 0, 1) := by decide +kernel
theorem dX0_isBeyond_28 : decode cX0_isBeyond 28 = .ok (.getfield 9, 3) := by decide +kernel
theorem dX0_isBeyond_31 : decode cX0_isBeyond 31 = .ok (.iload_n 3, 1) := by decide +kernel
theorem dX0_isBeyond_32 : decode cX0_isBeyond 32 = .ok (.aload_n 0, 1) := by decide +kernel
theorem dX0_isBeyond_33 : decode cX0_isBeyond 33 = .ok (.getfield 18, 3) := by decide +kernel
theorem dX0_isBeyond_36 : decode cX0_isBeyond 36 = .ok (.iload_n 1, 1) := by decide +kernel
theorem dX0_isBeyond_37 : decode cX0_isBeyond 37 = .ok (.iaload, 1) := by decide +kernel
theorem dX0_isBeyond_38 : decode cX0_isBeyond 38 = .ok (.iadd, 1) := by decide +kernel
theorem dX0_isBeyond_39 : decode cX0_isBeyond 39 = .ok (.iconst 1, 1) := by decide +kernel
theorem dX0_isBeyond_40 : decode cX0_isBeyond 40 = .ok (.isub, 1) := by decide +kernel
theorem dX0_isBeyond_41 : decode cX0_isBeyond 41 = .ok (.iaload, 1) := by decide +kernel
theorem dX0_isBeyond_42 : decode cX0_isBeyond 42 = .ok (.if_icmp .le 7, 3) := by decide +kernel
theorem dX0_isBeyond_45 : decode cX0_isBeyond 45 = .ok (.iconst 1, 1) := by decide +kernel
theorem dX0_isBeyond_46 : decode cX0_isBeyond 46 = .ok (.goto 4, 3) := by decide +kernel
theorem dX0_isBeyond_49 : decode cX0_isBeyond 49 = .ok (.iconst 0, 1) := by decide +kernel
theorem dX0_isBeyond_50 : decode cX0_isBeyond 50 = .ok (.ireturn, 1) := by decide +kernel
set_option maxRecDepth 20000 in
theorem ggX1_init_X0_init : GoodIn wsX1_init wsX0_init := goodIn_r _ [15, 16, 2, 3, 8, 17, 18, 19, 20, 21, 22, 23, 24, 25, 26] (by decide +kernel) (by decide +kernel)
set_option maxRecDepth 20000 in
theorem gX1_init_X0_init_n11 : GoodIn wsX1_init (wsX0_init) := ggX1_init_X0_init
theorem dX1_init_0 : decode cX1_init 0 = .ok (.aload_n 0, 1) := by decide +kernel
theorem dX1_init_1 : decode cX1_init 1 = .ok (.invokespecial 3, 3) := by decide +kernel
theorem dX1_init_4 : decode cX1_init 4 = .ok (.aload_n 0, 1) := by decide +kernel
theorem dX1_init_5 : decode cX1_init 5 = .ok (.new 9, 3) := by decide +kernel
theorem dX1_init_8 : decode cX1_init 8 = .ok (.dup, 1) := by decide +kernel
theorem dX1_init_9 : decode cX1_init 9 = .ok (.invokespecial 11, 3) := by decide +kernel
theorem dX1_init_12 : decode cX1_init 12 = .ok (.putfield 12, 3) := by decide +kernel
theorem dX1_init_15 : decode cX1_init 15 = .ok (.aload_n 0, 1) := by decide +kernel
theorem dX1_init_16 : decode cX1_init 16 = .ok (.bipush 41, 2) := by decide +kernel
theorem dX1_init_18 : decode cX1_init 18 = .ok (.newarray .int, 2) := by decide +kernel
theorem dX1_init_20 : decode cX1_init 20 = .ok (.putfield 18, 3) := by decide +kernel
theorem dX1_init_23 : decode cX1_init 23 = .ok (.aload_n 0, 1) := by decide +kernel
theorem dX1_init_24 : decode cX1_init 24 = .ok (.bipush 41, 2) := by decide +kernel
theorem dX1_init_26 : decode cX1_init 26 = .ok (.newarray .int, 2) := by decide +kernel
theorem dX1_init_28 : decode cX1_init 28 = .ok (.putfield 22, 3) := by decide +kernel
theorem dX1_init_31 : decode cX1_init 31 = .ok (.aload_n 0, 1) := by decide +kernel
theorem dX1_init_32 : decode cX1_init 32 = .ok (.bipush 41, 2) := by decide +kernel
theorem dX1_init_34 : decode cX1_init 34 = .ok (.newarray .int, 2) := by decide +kernel
theorem dX1_init_36 : decode cX1_init 36 = .ok (.putfield 25, 3) := by decide +kernel
theorem dX1_init_39 : decode cX1_init 39 = .ok (.aload_n 0, 1) := by decide +kernel
theorem dX1_init_40 : decode cX1_init 40 = .ok (.bipush 41, 2) := by decide +kernel
theorem dX1_init_42 : decode cX1_init 42 = .ok (.newarray .int, 2) := by decide +kernel
theorem dX1_init_44 : decode cX1_init 44 = .ok (.putfield 28, 3) := by decide +kernel
theorem dX1_init_47 : decode cX1_init 47 = .ok (.aload_n 0, 1) := by decide +kernel
theorem dX1_init_48 : decode cX1_init 48 = .ok (.bipush 41, 2) := by decide +kernel
theorem dX1_init_50 : decode cX1_init 50 = .ok (.newarray .int, 2) := by decide +kernel
theorem dX1_init_52 : decode cX1_init 52 = .ok (.putfield 31, 3) := by decide +kernel
theorem dX1_init_55 : decode cX1_init 55 = .ok (.return_, 1) := by decide +kernel
set_option maxRecDepth 20000 in
theorem ggX1_has_X2_within : GoodIn wsX1_has wsX2_within := goodIn_r _ [4] (by decide +kernel) (by decide +kernel)
set_option maxRecDepth 20000 in
theorem gX1_has_X2_within_n38 : GoodIn wsX1_has (wsX2_within) := ggX1_has_X2_within
theorem dX1_has_0 : decode cX1_has 0 = .ok (.iload_n 1, 1) := by decide +kernel
theorem dX1_has_1 : decode cX1_has 1 = .ok (.iconst 0, 1) := by decide +kernel
theorem dX1_has_2 : decode cX1_has 2 = .ok (.aload_n 0, 1) := by decide +kernel
theorem dX1_has_3 : decode cX1_has 3 = .ok (.getfield 34, 3) := by decide +kernel
theorem dX1_has_6 : decode cX1_has 6 = .ok (.iconst 1, 1) := by decide +kernel
theorem dX1_has_7 : decode cX1_has 7 = .ok (.isub, 1) := by decide +kernel
theorem dX1_has_8 : decode cX1_has 8 = .ok (.invokestatic 38, 3) := by decide +kernel
theorem dX1_has_11 : decode cX1_has 11 = .ok (.ireturn, 1) := by decide +kernel
theorem dX1_add_0 : decode cX1_add 0 = .ok (.aload_n 0, 1) := by decide +kernel
theorem dX1_add_1 : decode cX1_add 1 = .ok (.getfield 34, 3) := by decide +kernel
theorem dX1_add_4 : decode cX1_add 4 = .ok (.bipush 41, 2) := by decide +kernel
theorem dX1_add_6 : decode cX1_add 6 = .ok (.if_icmp .lt 4, 3) := by decide +kernel
theorem dX1_add_9 : decode cX1_add 9 = .ok (.return_, 1) := by decide +kernel
theorem dX1_add_10 : decode cX1_add 10 = .ok (.aload_n 0, 1) := by decide +kernel
theorem dX1_add_11 : decode cX1_add 11 = .ok (.getfield 18, 3) := by decide +kernel
theorem dX1_add_14 : decode cX1_add 14 = .ok (.aload_n 0, 1) := by decide +kernel
theorem dX1_add_15 : decode cX1_add 15 = .ok (.getfield 34, 3) := by decide +kernel
theorem dX1_add_18 : decode cX1_add 18 = .ok (.iload_n 1, 1) := by decide +kernel
theorem dX1_add_19 : decode cX1_add 19 = .ok (.iastore, 1) := by decide +kernel
theorem dX1_add_20 : decode cX1_add 20 = .ok (.aload_n 0, 1) := by decide +kernel
theorem dX1_add_21 : decode cX1_add 21 = .ok (.getfield 22, 3) := by decide +kernel
theorem dX1_add_24 : decode cX1_add 24 = .ok (.aload_n 0, 1) := by decide +kernel
theorem dX1_add_25 : decode cX1_add 25 = .ok (.getfield 34, 3) := by decide +kernel
theorem dX1_add_28 : decode cX1_add 28 = .ok (.iload_n 2, 1) := by decide +kernel
theorem dX1_add_29 : decode cX1_add 29 = .ok (.iastore, 1) := by decide +kernel
theorem dX1_add_30 : decode cX1_add 30 = .ok (.aload_n 0, 1) := by decide +kernel
theorem dX1_add_31 : decode cX1_add 31 = .ok (.getfield 25, 3) := by decide +kernel
theorem dX1_add_34 : decode cX1_add 34 = .ok (.aload_n 0, 1) := by decide +kernel
theorem dX1_add_35 : decode cX1_add 35 = .ok (.getfield 34, 3) := by decide +kernel
theorem dX1_add_38 : decode cX1_add 38 = .ok (.iload_n 3, 1) := by decide +kernel
theorem dX1_add_39 : decode cX1_add 39 = .ok (.iastore, 1) := by decide +kernel
theorem dX1_add_40 : decode cX1_add 40 = .ok (.aload_n 0, 1) := by decide +kernel
theorem dX1_add_41 : decode cX1_add 41 = .ok (.getfield 28, 3) := by decide +kernel
theorem dX1_add_44 : decode cX1_add 44 = .ok (.aload_n 0, 1) := by decide +kernel
theorem dX1_add_45 : decode cX1_add 45 = .ok (.getfield 34, 3) := by decide +kernel
theorem dX1_add_48 : decode cX1_add 48 = .ok (.iconst 0, 1) := by decide +kernel
theorem dX1_add_49 : decode cX1_add 49 = .ok (.iastore, 1) := by decide +kernel
theorem dX1_add_50 : decode cX1_add 50 = .ok (.aload_n 0, 1) := by decide +kernel
theorem dX1_add_51 : decode cX1_add 51 = .ok (.getfield 31, 3) := by decide +kernel
theorem dX1_add_54 : decode cX1_add 54 = .ok (.aload_n 0, 1) := by decide +kernel
theorem dX1_add_55 : decode cX1_add 55 = .ok (.getfield 34, 3) := by decide +kernel
theorem dX1_add_58 : decode cX1_add 58 = .ok (.bipush 100, 2) := by decide +kernel
theorem dX1_add_60 : decode cX1_add 60 = .ok (.iastore, 1) := by decide +kernel
theorem dX1_add_61 : decode cX1_add 61 = .ok (.aload_n 0, 1) := by decide +kernel
theorem dX1_add_62 : decode cX1_add 62 = .ok (.dup, 1) := by decide +kernel
theorem dX1_add_63 : decode cX1_add 63 = .ok (.getfield 34, 3) := by decide +kernel
theorem dX1_add_66 : decode cX1_add 66 = .ok (.iconst 1, 1) := by decide +kernel
theorem dX1_add_67 : decode cX1_add 67 = .ok (.iadd, 1) := by decide +kernel
theorem dX1_add_68 : decode cX1_add 68 = .ok (.putfield 34, 3) := by decide +kernel
theorem dX1_add_71 : decode cX1_add 71 = .ok (.return_, 1) := by decide +kernel
theorem dX1_setLastArea_0 : decode cX1_setLastArea 0 = .ok (.aload_n 0, 1) := by decide +kernel
theorem dX1_setLastArea_1 : decode cX1_setLastArea 1 = .ok (.getfield 34, 3) := by decide +kernel
theorem dX1_setLastArea_4 : decode cX1_setLastArea 4 = .ok (.ifCond .le 15, 3) := by decide +kernel
theorem dX1_setLastArea_7 : decode cX1_setLastArea 7 = .ok (.aload_n 0, 1) := by decide +kernel
theorem dX1_setLastArea_8 : decode cX1_setLastArea 8 = .ok (.getfield 18, 3) := by decide +kernel
theorem dX1_setLastArea_11 : decode cX1_setLastArea 11 = .ok (.aload_n 0, 1) := by decide +kernel
theorem dX1_setLastArea_12 : decode cX1_setLastArea 12 = .ok (.getfield 34, 3) := by decide +kernel
theorem dX1_setLastArea_15 : decode cX1_setLastArea 15 = .ok (.iconst 1, 1) := by decide +kernel
theorem dX1_setLastArea_16 : decode cX1_setLastArea 16 = .ok (.isub, 1) := by decide +kernel
theorem dX1_setLastArea_17 : decode cX1_setLastArea 17 = .ok (.iload_n 1, 1) := by decide +kernel
theorem dX1_setLastArea_18 : decode cX1_setLastArea 18 = .ok (.iastore, 1) := by decide +kernel
theorem dX1_setLastArea_19 : decode cX1_setLastArea 19 = .ok (.return_, 1) := by decide +kernel
theorem dX1_dropLast_0 : decode cX1_dropLast 0 = .ok (.aload_n 0, 1) := by decide +kernel
theorem dX1_dropLast_1 : decode cX1_dropLast 1 = .ok (.getfield 34, 3) := by decide +kernel
theorem dX1_dropLast_4 : decode cX1_dropLast 4 = .ok (.ifCond .le 13, 3) := by decide +kernel
theorem dX1_dropLast_7 : decode cX1_dropLast 7 = .ok (.aload_n 0, 1) := by decide +kernel
theorem dX1_dropLast_8 : decode cX1_dropLast 8 = .ok (.dup, 1) := by decide +kernel
theorem dX1_dropLast_9 : decode cX1_dropLast 9 = .ok (.getfield 34, 3) := by decide +kernel
theorem dX1_dropLast_12 : decode cX1_dropLast 12 = .ok (.iconst 1, 1) := by decide +kernel
theorem dX1_dropLast_13 : decode cX1_dropLast 13 = .ok (.isub, 1) := by decide +kernel
theorem dX1_dropLast_14 : decode cX1_dropLast 14 = .ok (.putfield 34, 3) := by decide +kernel
theorem dX1_dropLast_17 : decode cX1_dropLast 17 = .ok (.return_, 1) := by decide +kernel
theorem dX1_allAreas_0 : decode cX1_allAreas 0 = .ok (.iconst 0, 1) := by decide +kernel
theorem dX1_allAreas_1 : decode cX1_allAreas 1 = .ok (.istore_n 1, 1) := by decide +kernel
theorem dX1_allAreas_2 : decode cX1_allAreas 2 = .ok (.iconst 0, 1) := by decide +kernel
theorem dX1_allAreas_3 : decode cX1_allAreas 3 = .ok (.istore_n 2, 1) := by decide +kernel
theorem dX1_allAreas_4 : decode cX1_allAreas 4 = .ok (.iload_n 2, 1) := by decide +kernel
theorem dX1_allAreas_5 : decode cX1_allAreas 5 = .ok (.aload_n 0, 1) := by decide +kernel
theorem dX1_allAreas_6 : decode cX1_allAreas 6 = .ok (.getfield 34, 3) := by decide +kernel
theorem dX1_allAreas_9 : decode cX1_allAreas 9 = .ok (.if_icmp .ge 18, 3) := by decide +kernel
theorem dX1_allAreas_12 : decode cX1_allAreas 12 = .ok (.iload_n 1, 1) := by decide +kernel
theorem dX1_allAreas_13 : decode cX1_allAreas 13 = .ok (.aload_n 0, 1) := by decide +kernel
theorem dX1_allAreas_14 : decode cX1_allAreas 14 = .ok (.getfield 18, 3) := by decide +kernel
theorem dX1_allAreas_17 : decode cX1_allAreas 17 = .ok (.iload_n 2, 1) := by decide +kernel
theorem dX1_allAreas_18 : decode cX1_allAreas 18 = .ok (.iaload, 1) := by decide +kernel
theorem dX1_allAreas_19 : decode cX1_allAreas 19 = .ok (.iadd, 1) := by decide +kernel
theorem dX1_allAreas_20 : decode cX1_allAreas 20 = .ok (.istore_n 1, 1) := by decide +kernel
theorem dX1_allAreas_21 : decode cX1_allAreas 21 = .ok (.iinc 2 1, 3) := by decide +kernel
theorem dX1_allAreas_24 : decode cX1_allAreas 24 = .ok (.goto (-20), 3) := by decide +kernel
theorem dX1_allAreas_27 : decode cX1_allAreas 27 = .ok (.iload_n 1, 1) := by decide +kernel
theorem dX1_allAreas_28 : decode cX1_allAreas 28 = .ok (.ireturn, 1) := by decide +kernel
set_option maxRecDepth 20000 in
theorem ggX1_worksOn_J9_floorDiv_7cf53 : GoodIn wsX1_worksOn wsJ9_floorDiv_7cf53 := goodIn_r _ [9] (by decide +kernel) (by decide +kernel)
set_option maxRecDepth 20000 in
theorem gX1_worksOn_J9_floorDiv_7cf53 : GoodIn wsX1_worksOn (va_wsS RX1 42 yJ9_floorDiv_7cf53 wsJ9_floorDiv_7cf53) := goodIn_app (goodIn_of _ (by decide +kernel)) ggX1_worksOn_J9_floorDiv_7cf53
set_option maxRecDepth 20000 in
theorem ggX1_worksOn_X2_share : GoodIn wsX1_worksOn wsX2_share := goodIn_r _ [12] (by decide +kernel) (by decide +kernel)
set_option maxRecDepth 20000 in
theorem gX1_worksOn_X2_share_n56 : GoodIn wsX1_worksOn (wsX2_share) := ggX1_worksOn_X2_share
theorem dX1_worksOn_0 : decode cX1_worksOn 0 = .ok (.aload_n 0, 1) := by decide +kernel
theorem dX1_worksOn_1 : decode cX1_worksOn 1 = .ok (.getfield 25, 3) := by decide +kernel
theorem dX1_worksOn_4 : decode cX1_worksOn 4 = .ok (.iload_n 1, 1) := by decide +kernel
theorem dX1_worksOn_5 : decode cX1_worksOn 5 = .ok (.iaload, 1) := by decide +kernel
theorem dX1_worksOn_6 : decode cX1_worksOn 6 = .ok (.istore 4, 2) := by decide +kernel
theorem dX1_worksOn_8 : decode cX1_worksOn 8 = .ok (.iload_n 2, 1) := by decide +kernel
theorem dX1_worksOn_9 : decode cX1_worksOn 9 = .ok (.iload_n 3, 1) := by decide +kernel
theorem dX1_worksOn_10 : decode cX1_worksOn 10 = .ok (.aload_n 0, 1) := by decide +kernel
theorem dX1_worksOn_11 : decode cX1_worksOn 11 = .ok (.getfield 22, 3) := by decide +kernel
theorem dX1_worksOn_14 : decode cX1_worksOn 14 = .ok (.iload_n 1, 1) := by decide +kernel
theorem dX1_worksOn_15 : decode cX1_worksOn 15 = .ok (.iaload, 1) := by decide +kernel
theorem dX1_worksOn_16 : decode cX1_worksOn 16 = .ok (.imul, 1) := by decide +kernel
theorem dX1_worksOn_17 : decode cX1_worksOn 17 = .ok (.sipush 1000, 3) := by decide +kernel
theorem dX1_worksOn_20 : decode cX1_worksOn 20 = .ok (.invokestatic 42, 3) := by decide +kernel
theorem dX1_worksOn_23 : decode cX1_worksOn 23 = .ok (.iadd, 1) := by decide +kernel
theorem dX1_worksOn_24 : decode cX1_worksOn 24 = .ok (.istore 5, 2) := by decide +kernel
theorem dX1_worksOn_26 : decode cX1_worksOn 26 = .ok (.iload 5, 2) := by decide +kernel
theorem dX1_worksOn_28 : decode cX1_worksOn 28 = .ok (.aload_n 0, 1) := by decide +kernel
theorem dX1_worksOn_29 : decode cX1_worksOn 29 = .ok (.getfield 28, 3) := by decide +kernel
theorem dX1_worksOn_32 : decode cX1_worksOn 32 = .ok (.iload_n 1, 1) := by decide +kernel
theorem dX1_worksOn_33 : decode cX1_worksOn 33 = .ok (.iaload, 1) := by decide +kernel
theorem dX1_worksOn_34 : decode cX1_worksOn 34 = .ok (.isub, 1) := by decide +kernel
theorem dX1_worksOn_35 : decode cX1_worksOn 35 = .ok (.aload_n 0, 1) := by decide +kernel
theorem dX1_worksOn_36 : decode cX1_worksOn 36 = .ok (.getfield 12, 3) := by decide +kernel
theorem dX1_worksOn_39 : decode cX1_worksOn 39 = .ok (.getfield 48, 3) := by decide +kernel
theorem dX1_worksOn_42 : decode cX1_worksOn 42 = .ok (.iload 4, 2) := by decide +kernel
theorem dX1_worksOn_44 : decode cX1_worksOn 44 = .ok (.iaload, 1) := by decide +kernel
theorem dX1_worksOn_45 : decode cX1_worksOn 45 = .ok (.isub, 1) := by decide +kernel
theorem dX1_worksOn_46 : decode cX1_worksOn 46 = .ok (.i2l, 1) := by decide +kernel
theorem dX1_worksOn_47 : decode cX1_worksOn 47 = .ok (.ldc2_w 51, 3) := by decide +kernel
theorem dX1_worksOn_50 : decode cX1_worksOn 50 = .ok (.bipush 100, 2) := by decide +kernel
theorem dX1_worksOn_52 : decode cX1_worksOn 52 = .ok (.aload_n 0, 1) := by decide +kernel
theorem dX1_worksOn_53 : decode cX1_worksOn 53 = .ok (.getfield 12, 3) := by decide +kernel
theorem dX1_worksOn_56 : decode cX1_worksOn 56 = .ok (.getfield 53, 3) := by decide +kernel
theorem dX1_worksOn_59 : decode cX1_worksOn 59 = .ok (.iload 4, 2) := by decide +kernel
theorem dX1_worksOn_61 : decode cX1_worksOn 61 = .ok (.iaload, 1) := by decide +kernel
theorem dX1_worksOn_62 : decode cX1_worksOn 62 = .ok (.iadd, 1) := by decide +kernel
theorem dX1_worksOn_63 : decode cX1_worksOn 63 = .ok (.i2l, 1) := by decide +kernel
theorem dX1_worksOn_64 : decode cX1_worksOn 64 = .ok (.invokestatic 56, 3) := by decide +kernel
theorem dX1_worksOn_67 : decode cX1_worksOn 67 = .ok (.ireturn, 1) := by decide +kernel
set_option maxRecDepth 20000 in
theorem ggX1_stressOn_X1_worksOn : GoodIn wsX1_stressOn wsX1_worksOn := goodIn_r _ [9, 2, 10, 11, 1, 4, 12, 13, 14, 15, 16, 17, 18, 26, 27, 28, 29, 30, 31, 32, 33, 34, 35, 36, 37] (by decide +kernel) (by decide +kernel)
set_option maxRecDepth 20000 in
theorem gX1_stressOn_X1_worksOn : GoodIn wsX1_stressOn (wsV RX1 60 RX1 yX1_worksOn wsX1_worksOn) := goodIn_app (goodIn_of _ (by decide +kernel)) ggX1_stressOn_X1_worksOn
set_option maxRecDepth 20000 in
theorem ggX1_stressOn_X0_stressAt : GoodIn wsX1_stressOn wsX0_stressAt := goodIn_r _ [22, 23, 24, 25, 16, 17, 18, 33, 34, 35, 36, 37] (by decide +kernel) (by decide +kernel)
set_option maxRecDepth 20000 in
theorem gX1_stressOn_X0_stressAt_n64 : GoodIn wsX1_stressOn (wsX0_stressAt) := ggX1_stressOn_X0_stressAt
set_option maxRecDepth 20000 in
theorem ggX1_stressOn_X2_share : GoodIn wsX1_stressOn wsX2_share := goodIn_r _ [18] (by decide +kernel) (by decide +kernel)
set_option maxRecDepth 20000 in
theorem gX1_stressOn_X2_share_n56 : GoodIn wsX1_stressOn (wsX2_share) := ggX1_stressOn_X2_share
theorem dX1_stressOn_0 : decode cX1_stressOn 0 = .ok (.aload_n 0, 1) := by decide +kernel
theorem dX1_stressOn_1 : decode cX1_stressOn 1 = .ok (.getfield 12, 3) := by decide +kernel
theorem dX1_stressOn_4 : decode cX1_stressOn 4 = .ok (.aload_n 0, 1) := by decide +kernel
theorem dX1_stressOn_5 : decode cX1_stressOn 5 = .ok (.getfield 25, 3) := by decide +kernel
theorem dX1_stressOn_8 : decode cX1_stressOn 8 = .ok (.iload_n 1, 1) := by decide +kernel
theorem dX1_stressOn_9 : decode cX1_stressOn 9 = .ok (.iaload, 1) := by decide +kernel
theorem dX1_stressOn_10 : decode cX1_stressOn 10 = .ok (.aload_n 0, 1) := by decide +kernel
theorem dX1_stressOn_11 : decode cX1_stressOn 11 = .ok (.iload_n 1, 1) := by decide +kernel
theorem dX1_stressOn_12 : decode cX1_stressOn 12 = .ok (.iload_n 2, 1) := by decide +kernel
theorem dX1_stressOn_13 : decode cX1_stressOn 13 = .ok (.iload_n 3, 1) := by decide +kernel
theorem dX1_stressOn_14 : decode cX1_stressOn 14 = .ok (.invokevirtual 60, 3) := by decide +kernel
theorem dX1_stressOn_17 : decode cX1_stressOn 17 = .ok (.invokevirtual 64, 3) := by decide +kernel
theorem dX1_stressOn_20 : decode cX1_stressOn 20 = .ok (.i2l, 1) := by decide +kernel
theorem dX1_stressOn_21 : decode cX1_stressOn 21 = .ok (.aload_n 0, 1) := by decide +kernel
theorem dX1_stressOn_22 : decode cX1_stressOn 22 = .ok (.getfield 31, 3) := by decide +kernel
theorem dX1_stressOn_25 : decode cX1_stressOn 25 = .ok (.iload_n 1, 1) := by decide +kernel
theorem dX1_stressOn_26 : decode cX1_stressOn 26 = .ok (.iaload, 1) := by decide +kernel
theorem dX1_stressOn_27 : decode cX1_stressOn 27 = .ok (.i2l, 1) := by decide +kernel
theorem dX1_stressOn_28 : decode cX1_stressOn 28 = .ok (.ldc2_w 51, 3) := by decide +kernel
theorem dX1_stressOn_31 : decode cX1_stressOn 31 = .ok (.invokestatic 56, 3) := by decide +kernel
theorem dX1_stressOn_34 : decode cX1_stressOn 34 = .ok (.ireturn, 1) := by decide +kernel
set_option maxRecDepth 20000 in
theorem ggX1_sumOf_X1_stressOn : GoodIn wsX1_sumOf wsX1_stressOn := goodIn_r _ [8, 9, 10, 11, 12, 13, 14, 15, 7, 16, 3, 17, 18, 19, 20, 21, 22, 23, 24, 25, 26, 27, 28, 29, 30, 31, 32, 33, 34, 35, 36, 37, 38, 39, 40, 41, 42, 43] (by decide +kernel) (by decide +kernel)
set_option maxRecDepth 20000 in
theorem gX1_sumOf_X1_stressOn : GoodIn wsX1_sumOf (wsV RX1 67 RX1 yX1_stressOn wsX1_stressOn) := goodIn_app (goodIn_of _ (by decide +kernel)) ggX1_sumOf_X1_stressOn
theorem dX1_sumOf_0 : decode cX1_sumOf 0 = .ok (.lconst 0, 1) := by decide +kernel
theorem dX1_sumOf_1 : decode cX1_sumOf 1 = .ok (.lstore 4, 2) := by decide +kernel
theorem dX1_sumOf_3 : decode cX1_sumOf 3 = .ok (.iconst 0, 1) := by decide +kernel
theorem dX1_sumOf_4 : decode cX1_sumOf 4 = .ok (.istore 6, 2) := by decide +kernel
theorem dX1_sumOf_6 : decode cX1_sumOf 6 = .ok (.iload 6, 2) := by decide +kernel
theorem dX1_sumOf_8 : decode cX1_sumOf 8 = .ok (.aload_n 0, 1) := by decide +kernel
theorem dX1_sumOf_9 : decode cX1_sumOf 9 = .ok (.getfield 34, 3) := by decide +kernel
theorem dX1_sumOf_12 : decode cX1_sumOf 12 = .ok (.if_icmp .ge 55, 3) := by decide +kernel
theorem dX1_sumOf_15 : decode cX1_sumOf 15 = .ok (.aload_n 0, 1) := by decide +kernel
theorem dX1_sumOf_16 : decode cX1_sumOf 16 = .ok (.getfield 18, 3) := by decide +kernel
theorem dX1_sumOf_19 : decode cX1_sumOf 19 = .ok (.iload 6, 2) := by decide +kernel
theorem dX1_sumOf_21 : decode cX1_sumOf 21 = .ok (.iaload, 1) := by decide +kernel
theorem dX1_sumOf_22 : decode cX1_sumOf 22 = .ok (.i2l, 1) := by decide +kernel
theorem dX1_sumOf_23 : decode cX1_sumOf 23 = .ok (.aload_n 0, 1) := by decide +kernel
theorem dX1_sumOf_24 : decode cX1_sumOf 24 = .ok (.iload 6, 2) := by decide +kernel
theorem dX1_sumOf_26 : decode cX1_sumOf 26 = .ok (.iload_n 2, 1) := by decide +kernel
theorem dX1_sumOf_27 : decode cX1_sumOf 27 = .ok (.iload_n 3, 1) := by decide +kernel
theorem dX1_sumOf_28 : decode cX1_sumOf 28 = .ok (.invokevirtual 67, 3) := by decide +kernel
theorem dX1_sumOf_31 : decode cX1_sumOf 31 = .ok (.i2l, 1) := by decide +kernel
theorem dX1_sumOf_32 : decode cX1_sumOf 32 = .ok (.lmul, 1) := by decide +kernel
theorem dX1_sumOf_33 : decode cX1_sumOf 33 = .ok (.lstore 7, 2) := by decide +kernel
theorem dX1_sumOf_35 : decode cX1_sumOf 35 = .ok (.lload 4, 2) := by decide +kernel
theorem dX1_sumOf_37 : decode cX1_sumOf 37 = .ok (.iload_n 1, 1) := by decide +kernel
theorem dX1_sumOf_38 : decode cX1_sumOf 38 = .ok (.iconst 1, 1) := by decide +kernel
theorem dX1_sumOf_39 : decode cX1_sumOf 39 = .ok (.if_icmp .ne 17, 3) := by decide +kernel
theorem dX1_sumOf_42 : decode cX1_sumOf 42 = .ok (.lload 7, 2) := by decide +kernel
theorem dX1_sumOf_44 : decode cX1_sumOf 44 = .ok (.aload_n 0, 1) := by decide +kernel
theorem dX1_sumOf_45 : decode cX1_sumOf 45 = .ok (.getfield 22, 3) := by decide +kernel
theorem dX1_sumOf_48 : decode cX1_sumOf 48 = .ok (.iload 6, 2) := by decide +kernel
theorem dX1_sumOf_50 : decode cX1_sumOf 50 = .ok (.iaload, 1) := by decide +kernel
theorem dX1_sumOf_51 : decode cX1_sumOf 51 = .ok (.i2l, 1) := by decide +kernel
theorem dX1_sumOf_52 : decode cX1_sumOf 52 = .ok (.lmul, 1) := by decide +kernel
theorem dX1_sumOf_53 : decode cX1_sumOf 53 = .ok (.goto 5, 3) := by decide +kernel
theorem dX1_sumOf_56 : decode cX1_sumOf 56 = .ok (.lload 7, 2) := by decide +kernel
theorem dX1_sumOf_58 : decode cX1_sumOf 58 = .ok (.ladd, 1) := by decide +kernel
theorem dX1_sumOf_59 : decode cX1_sumOf 59 = .ok (.lstore 4, 2) := by decide +kernel
theorem dX1_sumOf_61 : decode cX1_sumOf 61 = .ok (.iinc 6 1, 3) := by decide +kernel
theorem dX1_sumOf_64 : decode cX1_sumOf 64 = .ok (.goto (-58), 3) := by decide +kernel
theorem dX1_sumOf_67 : decode cX1_sumOf 67 = .ok (.lload 4, 2) := by decide +kernel
theorem dX1_sumOf_69 : decode cX1_sumOf 69 = .ok (.lreturn, 1) := by decide +kernel
set_option maxRecDepth 20000 in
theorem ggX1_firstBeyond_X1_worksOn : GoodIn wsX1_firstBeyond wsX1_worksOn := goodIn_r _ [8, 3, 9, 10, 2, 11, 12, 13, 14, 15, 16, 17, 18, 25, 26, 27, 28, 29, 30, 31, 32, 33, 34, 35, 36] (by decide +kernel) (by decide +kernel)
set_option maxRecDepth 20000 in
theorem gX1_firstBeyond_X1_worksOn : GoodIn wsX1_firstBeyond (wsV RX1 60 RX1 yX1_worksOn wsX1_worksOn) := goodIn_app (goodIn_of _ (by decide +kernel)) ggX1_firstBeyond_X1_worksOn
set_option maxRecDepth 20000 in
theorem ggX1_firstBeyond_X0_isBeyond : GoodIn wsX1_firstBeyond wsX0_isBeyond := goodIn_r _ [22, 23, 24, 32, 33, 34, 35, 36] (by decide +kernel) (by decide +kernel)
set_option maxRecDepth 20000 in
theorem gX1_firstBeyond_X0_isBeyond_n70 : GoodIn wsX1_firstBeyond (wsX0_isBeyond) := ggX1_firstBeyond_X0_isBeyond
theorem dX1_firstBeyond_0 : decode cX1_firstBeyond 0 = .ok (.iconst 0, 1) := by decide +kernel
theorem dX1_firstBeyond_1 : decode cX1_firstBeyond 1 = .ok (.istore_n 3, 1) := by decide +kernel
theorem dX1_firstBeyond_2 : decode cX1_firstBeyond 2 = .ok (.iload_n 3, 1) := by decide +kernel
theorem dX1_firstBeyond_3 : decode cX1_firstBeyond 3 = .ok (.aload_n 0, 1) := by decide +kernel
theorem dX1_firstBeyond_4 : decode cX1_firstBeyond 4 = .ok (.getfield 34, 3) := by decide +kernel
theorem dX1_firstBeyond_7 : decode cX1_firstBeyond 7 = .ok (.if_icmp .ge 34, 3) := by decide +kernel
theorem dX1_firstBeyond_10 : decode cX1_firstBeyond 10 = .ok (.aload_n 0, 1) := by decide +kernel
theorem dX1_firstBeyond_11 : decode cX1_firstBeyond 11 = .ok (.getfield 12, 3) := by decide +kernel
theorem dX1_firstBeyond_14 : decode cX1_firstBeyond 14 = .ok (.aload_n 0, 1) := by decide +kernel
theorem dX1_firstBeyond_15 : decode cX1_firstBeyond 15 = .ok (.getfield 25, 3) := by decide +kernel
theorem dX1_firstBeyond_18 : decode cX1_firstBeyond 18 = .ok (.iload_n 3, 1) := by decide +kernel
theorem dX1_firstBeyond_19 : decode cX1_firstBeyond 19 = .ok (.iaload, 1) := by decide +kernel
theorem dX1_firstBeyond_20 : decode cX1_firstBeyond 20 = .ok (.aload_n 0, 1) := by decide +kernel
theorem dX1_firstBeyond_21 : decode cX1_firstBeyond 21 = .ok (.iload_n 3, 1) := by decide +kernel
theorem dX1_firstBeyond_22 : decode cX1_firstBeyond 22 = .ok (.iload_n 1, 1) := by decide +kernel
theorem dX1_firstBeyond_23 : decode cX1_firstBeyond 23 = .ok (.iload_n 2, 1) := by decide +kernel
theorem dX1_firstBeyond_24 : decode cX1_firstBeyond 24 = .ok (.invokevirtual 60, 3) := by decide +kernel
theorem dX1_firstBeyond_27 : decode cX1_firstBeyond 27 = .ok (.invokevirtual 70, 3) := by decide +kernel
theorem dX1_firstBeyond_30 : decode cX1_firstBeyond 30 = .ok (.ifCond .eq 5, 3) := by decide +kernel
theorem dX1_firstBeyond_33 : decode cX1_firstBeyond 33 = .ok (.iload_n 3, 1) := by decide +kernel
theorem dX1_firstBeyond_34 : decode cX1_firstBeyond 34 = .ok (.ireturn, 1) := by decide +kernel
theorem dX1_firstBeyond_35 : decode cX1_firstBeyond 35 = .ok (.iinc 3 1, 3) := by decide +kernel
theorem dX1_firstBeyond_38 : decode cX1_firstBeyond 38 = .ok (.goto (-36), 3) := by decide +kernel
theorem dX1_firstBeyond_41 : decode cX1_firstBeyond 41 = .ok (.iconst (-1), 1) := by decide +kernel
theorem dX1_firstBeyond_42 : decode cX1_firstBeyond 42 = .ok (.ireturn, 1) := by decide +kernel
set_option maxRecDepth 20000 in
theorem ggX1_balanceOf_X1_sumOf : GoodIn wsX1_balanceOf wsX1_sumOf := goodIn_r _ [6, 7, 8, 9, 10, 11, 12, 5, 13, 14, 15, 16, 17, 18, 19, 20, 21, 22, 23, 24, 25, 26, 27, 28, 29, 30, 31, 32, 33, 34, 35, 36, 37, 38, 39, 40, 41, 42, 43, 44, 45, 46, 47, 48] (by decide +kernel) (by decide +kernel)
set_option maxRecDepth 20000 in
theorem gX1_balanceOf_X1_sumOf : GoodIn wsX1_balanceOf (wsV RX1 74 RX1 yX1_sumOf wsX1_sumOf) := goodIn_app (goodIn_of _ (by decide +kernel)) ggX1_balanceOf_X1_sumOf
set_option maxRecDepth 20000 in
theorem ggX1_balanceOf_J9_floorDiv_7cf53 : GoodIn wsX1_balanceOf wsJ9_floorDiv_7cf53 := goodIn_r _ [26] (by decide +kernel) (by decide +kernel)
set_option maxRecDepth 20000 in
theorem gX1_balanceOf_J9_floorDiv_7cf53 : GoodIn wsX1_balanceOf (va_wsS RX1 42 yJ9_floorDiv_7cf53 wsJ9_floorDiv_7cf53) := goodIn_app (goodIn_of _ (by decide +kernel)) ggX1_balanceOf_J9_floorDiv_7cf53
theorem dX1_balanceOf_0 : decode cX1_balanceOf 0 = .ok (.sipush (-20000), 3) := by decide +kernel
theorem dX1_balanceOf_3 : decode cX1_balanceOf 3 = .ok (.istore 4, 2) := by decide +kernel
theorem dX1_balanceOf_5 : decode cX1_balanceOf 5 = .ok (.sipush 20000, 3) := by decide +kernel
theorem dX1_balanceOf_8 : decode cX1_balanceOf 8 = .ok (.istore 5, 2) := by decide +kernel
theorem dX1_balanceOf_10 : decode cX1_balanceOf 10 = .ok (.aload_n 0, 1) := by decide +kernel
theorem dX1_balanceOf_11 : decode cX1_balanceOf 11 = .ok (.iconst 0, 1) := by decide +kernel
theorem dX1_balanceOf_12 : decode cX1_balanceOf 12 = .ok (.iload 5, 2) := by decide +kernel
theorem dX1_balanceOf_14 : decode cX1_balanceOf 14 = .ok (.iload_n 3, 1) := by decide +kernel
theorem dX1_balanceOf_15 : decode cX1_balanceOf 15 = .ok (.invokevirtual 74, 3) := by decide +kernel
theorem dX1_balanceOf_18 : decode cX1_balanceOf 18 = .ok (.lload_n 1, 1) := by decide +kernel
theorem dX1_balanceOf_19 : decode cX1_balanceOf 19 = .ok (.lcmp, 1) := by decide +kernel
theorem dX1_balanceOf_20 : decode cX1_balanceOf 20 = .ok (.ifCond .ge 6, 3) := by decide +kernel
theorem dX1_balanceOf_23 : decode cX1_balanceOf 23 = .ok (.ldc 78, 2) := by decide +kernel
theorem dX1_balanceOf_25 : decode cX1_balanceOf 25 = .ok (.ireturn, 1) := by decide +kernel
theorem dX1_balanceOf_26 : decode cX1_balanceOf 26 = .ok (.iconst 0, 1) := by decide +kernel
theorem dX1_balanceOf_27 : decode cX1_balanceOf 27 = .ok (.istore 6, 2) := by decide +kernel
theorem dX1_balanceOf_29 : decode cX1_balanceOf 29 = .ok (.iload 6, 2) := by decide +kernel
theorem dX1_balanceOf_31 : decode cX1_balanceOf 31 = .ok (.bipush 32, 2) := by decide +kernel
theorem dX1_balanceOf_33 : decode cX1_balanceOf 33 = .ok (.if_icmp .ge 53, 3) := by decide +kernel
theorem dX1_balanceOf_36 : decode cX1_balanceOf 36 = .ok (.iload 4, 2) := by decide +kernel
theorem dX1_balanceOf_38 : decode cX1_balanceOf 38 = .ok (.iload 5, 2) := by decide +kernel
theorem dX1_balanceOf_40 : decode cX1_balanceOf 40 = .ok (.if_icmp .ge 46, 3) := by decide +kernel
theorem dX1_balanceOf_43 : decode cX1_balanceOf 43 = .ok (.iload 4, 2) := by decide +kernel
theorem dX1_balanceOf_45 : decode cX1_balanceOf 45 = .ok (.iload 5, 2) := by decide +kernel
theorem dX1_balanceOf_47 : decode cX1_balanceOf 47 = .ok (.iadd, 1) := by decide +kernel
theorem dX1_balanceOf_48 : decode cX1_balanceOf 48 = .ok (.iconst 2, 1) := by decide +kernel
theorem dX1_balanceOf_49 : decode cX1_balanceOf 49 = .ok (.invokestatic 42, 3) := by decide +kernel
theorem dX1_balanceOf_52 : decode cX1_balanceOf 52 = .ok (.istore 7, 2) := by decide +kernel
theorem dX1_balanceOf_54 : decode cX1_balanceOf 54 = .ok (.aload_n 0, 1) := by decide +kernel
theorem dX1_balanceOf_55 : decode cX1_balanceOf 55 = .ok (.iconst 0, 1) := by decide +kernel
theorem dX1_balanceOf_56 : decode cX1_balanceOf 56 = .ok (.iload 7, 2) := by decide +kernel
theorem dX1_balanceOf_58 : decode cX1_balanceOf 58 = .ok (.iload_n 3, 1) := by decide +kernel
theorem dX1_balanceOf_59 : decode cX1_balanceOf 59 = .ok (.invokevirtual 74, 3) := by decide +kernel
theorem dX1_balanceOf_62 : decode cX1_balanceOf 62 = .ok (.lload_n 1, 1) := by decide +kernel
theorem dX1_balanceOf_63 : decode cX1_balanceOf 63 = .ok (.lcmp, 1) := by decide +kernel
theorem dX1_balanceOf_64 : decode cX1_balanceOf 64 = .ok (.ifCond .lt 10, 3) := by decide +kernel
theorem dX1_balanceOf_67 : decode cX1_balanceOf 67 = .ok (.iload 7, 2) := by decide +kernel
theorem dX1_balanceOf_69 : decode cX1_balanceOf 69 = .ok (.istore 5, 2) := by decide +kernel
theorem dX1_balanceOf_71 : decode cX1_balanceOf 71 = .ok (.goto 9, 3) := by decide +kernel
theorem dX1_balanceOf_74 : decode cX1_balanceOf 74 = .ok (.iload 7, 2) := by decide +kernel
theorem dX1_balanceOf_76 : decode cX1_balanceOf 76 = .ok (.iconst 1, 1) := by decide +kernel
theorem dX1_balanceOf_77 : decode cX1_balanceOf 77 = .ok (.iadd, 1) := by decide +kernel
theorem dX1_balanceOf_78 : decode cX1_balanceOf 78 = .ok (.istore 4, 2) := by decide +kernel
theorem dX1_balanceOf_80 : decode cX1_balanceOf 80 = .ok (.iinc 6 1, 3) := by decide +kernel
theorem dX1_balanceOf_83 : decode cX1_balanceOf 83 = .ok (.goto (-54), 3) := by decide +kernel
theorem dX1_balanceOf_86 : decode cX1_balanceOf 86 = .ok (.iload 4, 2) := by decide +kernel
theorem dX1_balanceOf_88 : decode cX1_balanceOf 88 = .ok (.ireturn, 1) := by decide +kernel
set_option maxRecDepth 20000 in
theorem ggX1_bendFor_J9_floorDiv_7cf53 : GoodIn wsX1_bendFor wsJ9_floorDiv_7cf53 := goodIn_r _ [7] (by decide +kernel) (by decide +kernel)
set_option maxRecDepth 20000 in
theorem gX1_bendFor_J9_floorDiv_7cf53 : GoodIn wsX1_bendFor (va_wsS RX1 42 yJ9_floorDiv_7cf53 wsJ9_floorDiv_7cf53) := goodIn_app (goodIn_of _ (by decide +kernel)) ggX1_bendFor_J9_floorDiv_7cf53
set_option maxRecDepth 20000 in
theorem ggX1_bendFor_X1_balanceOf : GoodIn wsX1_bendFor wsX1_balanceOf := goodIn_r _ [12, 1, 13, 14, 15, 11, 16, 17, 18, 19, 20, 21, 22, 23, 24, 25, 26, 27, 28, 29, 30, 31, 32, 4, 5, 6, 7, 33, 34, 35, 36, 37, 38, 39, 40, 41, 42, 43, 44, 45, 46, 47, 48, 49, 50, 51, 52, 53, 54] (by decide +kernel) (by decide +kernel)
set_option maxRecDepth 20000 in
theorem gX1_bendFor_X1_balanceOf : GoodIn wsX1_bendFor (wsV RX1 79 RX1 yX1_balanceOf wsX1_balanceOf) := goodIn_app (goodIn_of _ (by decide +kernel)) ggX1_bendFor_X1_balanceOf
set_option maxRecDepth 20000 in
theorem ggX1_bendFor_X1_sumOf : GoodIn wsX1_bendFor wsX1_sumOf := goodIn_r _ [16, 17, 18, 19, 20, 21, 22, 11, 23, 24, 25, 26, 27, 28, 29, 30, 31, 32, 4, 5, 6, 7, 33, 34, 35, 36, 37, 38, 39, 40, 41, 42, 43, 44, 45, 46, 47, 48, 49, 50, 51, 52, 53, 54] (by decide +kernel) (by decide +kernel)
set_option maxRecDepth 20000 in
theorem gX1_bendFor_X1_sumOf : GoodIn wsX1_bendFor (wsV RX1 74 RX1 yX1_sumOf wsX1_sumOf) := goodIn_app (goodIn_of _ (by decide +kernel)) ggX1_bendFor_X1_sumOf
theorem dX1_bendFor_0 : decode cX1_bendFor 0 = .ok (.sipush (-20000), 3) := by decide +kernel
theorem dX1_bendFor_3 : decode cX1_bendFor 3 = .ok (.istore 5, 2) := by decide +kernel
theorem dX1_bendFor_5 : decode cX1_bendFor 5 = .ok (.sipush 20000, 3) := by decide +kernel
theorem dX1_bendFor_8 : decode cX1_bendFor 8 = .ok (.istore 6, 2) := by decide +kernel
theorem dX1_bendFor_10 : decode cX1_bendFor 10 = .ok (.iconst 0, 1) := by decide +kernel
theorem dX1_bendFor_11 : decode cX1_bendFor 11 = .ok (.istore 7, 2) := by decide +kernel
theorem dX1_bendFor_13 : decode cX1_bendFor 13 = .ok (.iload 7, 2) := by decide +kernel
theorem dX1_bendFor_15 : decode cX1_bendFor 15 = .ok (.bipush 32, 2) := by decide +kernel
theorem dX1_bendFor_17 : decode cX1_bendFor 17 = .ok (.if_icmp .ge 73, 3) := by decide +kernel
theorem dX1_bendFor_20 : decode cX1_bendFor 20 = .ok (.iload 5, 2) := by decide +kernel
theorem dX1_bendFor_22 : decode cX1_bendFor 22 = .ok (.iload 6, 2) := by decide +kernel
theorem dX1_bendFor_24 : decode cX1_bendFor 24 = .ok (.if_icmp .ge 66, 3) := by decide +kernel
theorem dX1_bendFor_27 : decode cX1_bendFor 27 = .ok (.iload 5, 2) := by decide +kernel
theorem dX1_bendFor_29 : decode cX1_bendFor 29 = .ok (.iload 6, 2) := by decide +kernel
theorem dX1_bendFor_31 : decode cX1_bendFor 31 = .ok (.iadd, 1) := by decide +kernel
theorem dX1_bendFor_32 : decode cX1_bendFor 32 = .ok (.iconst 2, 1) := by decide +kernel
theorem dX1_bendFor_33 : decode cX1_bendFor 33 = .ok (.invokestatic 42, 3) := by decide +kernel
theorem dX1_bendFor_36 : decode cX1_bendFor 36 = .ok (.istore 8, 2) := by decide +kernel
theorem dX1_bendFor_38 : decode cX1_bendFor 38 = .ok (.aload_n 0, 1) := by decide +kernel
theorem dX1_bendFor_39 : decode cX1_bendFor 39 = .ok (.lload_n 1, 1) := by decide +kernel
theorem dX1_bendFor_40 : decode cX1_bendFor 40 = .ok (.iload 8, 2) := by decide +kernel
theorem dX1_bendFor_42 : decode cX1_bendFor 42 = .ok (.invokevirtual 79, 3) := by decide +kernel
theorem dX1_bendFor_45 : decode cX1_bendFor 45 = .ok (.istore 9, 2) := by decide +kernel
theorem dX1_bendFor_47 : decode cX1_bendFor 47 = .ok (.iload 9, 2) := by decide +kernel
theorem dX1_bendFor_49 : decode cX1_bendFor 49 = .ok (.ldc 78, 2) := by decide +kernel
theorem dX1_bendFor_51 : decode cX1_bendFor 51 = .ok (.if_icmp .ne 6, 3) := by decide +kernel
theorem dX1_bendFor_54 : decode cX1_bendFor 54 = .ok (.ldc 83, 2) := by decide +kernel
theorem dX1_bendFor_56 : decode cX1_bendFor 56 = .ok (.ireturn, 1) := by decide +kernel
theorem dX1_bendFor_57 : decode cX1_bendFor 57 = .ok (.aload_n 0, 1) := by decide +kernel
theorem dX1_bendFor_58 : decode cX1_bendFor 58 = .ok (.iconst 1, 1) := by decide +kernel
theorem dX1_bendFor_59 : decode cX1_bendFor 59 = .ok (.iload 9, 2) := by decide +kernel
theorem dX1_bendFor_61 : decode cX1_bendFor 61 = .ok (.iload 8, 2) := by decide +kernel
theorem dX1_bendFor_63 : decode cX1_bendFor 63 = .ok (.invokevirtual 74, 3) := by decide +kernel
theorem dX1_bendFor_66 : decode cX1_bendFor 66 = .ok (.lload_n 3, 1) := by decide +kernel
theorem dX1_bendFor_67 : decode cX1_bendFor 67 = .ok (.lcmp, 1) := by decide +kernel
theorem dX1_bendFor_68 : decode cX1_bendFor 68 = .ok (.ifCond .lt 10, 3) := by decide +kernel
theorem dX1_bendFor_71 : decode cX1_bendFor 71 = .ok (.iload 8, 2) := by decide +kernel
theorem dX1_bendFor_73 : decode cX1_bendFor 73 = .ok (.istore 6, 2) := by decide +kernel
theorem dX1_bendFor_75 : decode cX1_bendFor 75 = .ok (.goto 9, 3) := by decide +kernel
theorem dX1_bendFor_78 : decode cX1_bendFor 78 = .ok (.iload 8, 2) := by decide +kernel
theorem dX1_bendFor_80 : decode cX1_bendFor 80 = .ok (.iconst 1, 1) := by decide +kernel
theorem dX1_bendFor_81 : decode cX1_bendFor 81 = .ok (.iadd, 1) := by decide +kernel
theorem dX1_bendFor_82 : decode cX1_bendFor 82 = .ok (.istore 5, 2) := by decide +kernel
theorem dX1_bendFor_84 : decode cX1_bendFor 84 = .ok (.iinc 7 1, 3) := by decide +kernel
theorem dX1_bendFor_87 : decode cX1_bendFor 87 = .ok (.goto (-74), 3) := by decide +kernel
theorem dX1_bendFor_90 : decode cX1_bendFor 90 = .ok (.aload_n 0, 1) := by decide +kernel
theorem dX1_bendFor_91 : decode cX1_bendFor 91 = .ok (.lload_n 1, 1) := by decide +kernel
theorem dX1_bendFor_92 : decode cX1_bendFor 92 = .ok (.iload 5, 2) := by decide +kernel
theorem dX1_bendFor_94 : decode cX1_bendFor 94 = .ok (.invokevirtual 79, 3) := by decide +kernel
theorem dX1_bendFor_97 : decode cX1_bendFor 97 = .ok (.istore 7, 2) := by decide +kernel
theorem dX1_bendFor_99 : decode cX1_bendFor 99 = .ok (.iload 7, 2) := by decide +kernel
theorem dX1_bendFor_101 : decode cX1_bendFor 101 = .ok (.ldc 78, 2) := by decide +kernel
theorem dX1_bendFor_103 : decode cX1_bendFor 103 = .ok (.if_icmp .ne 6, 3) := by decide +kernel
theorem dX1_bendFor_106 : decode cX1_bendFor 106 = .ok (.ldc 83, 2) := by decide +kernel
theorem dX1_bendFor_108 : decode cX1_bendFor 108 = .ok (.ireturn, 1) := by decide +kernel
theorem dX1_bendFor_109 : decode cX1_bendFor 109 = .ok (.aload_n 0, 1) := by decide +kernel
theorem dX1_bendFor_110 : decode cX1_bendFor 110 = .ok (.iconst 1, 1) := by decide +kernel
theorem dX1_bendFor_111 : decode cX1_bendFor 111 = .ok (.iload 7, 2) := by decide +kernel
theorem dX1_bendFor_113 : decode cX1_bendFor 113 = .ok (.iload 5, 2) := by decide +kernel
theorem dX1_bendFor_115 : decode cX1_bendFor 115 = .ok (.invokevirtual 74, 3) := by decide +kernel
theorem dX1_bendFor_118 : decode cX1_bendFor 118 = .ok (.lload_n 3, 1) := by decide +kernel
theorem dX1_bendFor_119 : decode cX1_bendFor 119 = .ok (.lcmp, 1) := by decide +kernel
theorem dX1_bendFor_120 : decode cX1_bendFor 120 = .ok (.ifCond .ge 8, 3) := by decide +kernel
theorem dX1_bendFor_123 : decode cX1_bendFor 123 = .ok (.ldc 84, 2) := by decide +kernel
theorem dX1_bendFor_125 : decode cX1_bendFor 125 = .ok (.goto 5, 3) := by decide +kernel
theorem dX1_bendFor_128 : decode cX1_bendFor 128 = .ok (.iload 5, 2) := by decide +kernel
theorem dX1_bendFor_130 : decode cX1_bendFor 130 = .ok (.ireturn, 1) := by decide +kernel
set_option maxRecDepth 20000 in
theorem ggX2_init_X1_init : GoodIn wsX2_init wsX1_init := goodIn_r _ [9, 10, 2, 3, 11, 12, 13, 14, 15, 16, 17, 18, 19, 20, 21, 22, 23, 24, 25, 26, 27, 28, 42, 43, 44, 45, 46, 29, 30, 31, 32, 33, 34, 35] (by decide +kernel) (by decide +kernel)
set_option maxRecDepth 20000 in
theorem gX2_init_X1_init_n9 : GoodIn wsX2_init (wsX1_init) := ggX2_init_X1_init
theorem dX2_init_0 : decode cX2_init 0 = .ok (.aload_n 0, 1) := by decide +kernel
theorem dX2_init_1 : decode cX2_init 1 = .ok (.invokespecial 1, 3) := by decide +kernel
theorem dX2_init_4 : decode cX2_init 4 = .ok (.aload_n 0, 1) := by decide +kernel
theorem dX2_init_5 : decode cX2_init 5 = .ok (.new 7, 3) := by decide +kernel
theorem dX2_init_8 : decode cX2_init 8 = .ok (.dup, 1) := by decide +kernel
theorem dX2_init_9 : decode cX2_init 9 = .ok (.invokespecial 9, 3) := by decide +kernel
theorem dX2_init_12 : decode cX2_init 12 = .ok (.putfield 10, 3) := by decide +kernel
theorem dX2_init_15 : decode cX2_init 15 = .ok (.return_, 1) := by decide +kernel
set_option maxRecDepth 20000 in
theorem ggX2_fibre_X2_within : GoodIn wsX2_fibre wsX2_within := goodIn_r _ [7] (by decide +kernel) (by decide +kernel)
set_option maxRecDepth 20000 in
theorem gX2_fibre_X2_within : GoodIn wsX2_fibre (va_wsS RX2 17 yX2_within wsX2_within) := goodIn_app (goodIn_of _ (by decide +kernel)) ggX2_fibre_X2_within
set_option maxRecDepth 20000 in
theorem ggX2_fibre_X2_isPlace : GoodIn wsX2_fibre wsX2_isPlace := goodIn_r _ [10, 4, 5, 6, 7] (by decide +kernel) (by decide +kernel)
set_option maxRecDepth 20000 in
theorem gX2_fibre_X2_isPlace : GoodIn wsX2_fibre (va_wsS RX2 21 yX2_isPlace wsX2_isPlace) := goodIn_app (goodIn_of _ (by decide +kernel)) ggX2_fibre_X2_isPlace
set_option maxRecDepth 20000 in
theorem ggX2_fibre_X2_isKind : GoodIn wsX2_fibre wsX2_isKind := goodIn_r _ [13, 4, 5, 6, 7] (by decide +kernel) (by decide +kernel)
set_option maxRecDepth 20000 in
theorem gX2_fibre_X2_isKind : GoodIn wsX2_fibre (va_wsS RX2 25 yX2_isKind wsX2_isKind) := goodIn_app (goodIn_of _ (by decide +kernel)) ggX2_fibre_X2_isKind
set_option maxRecDepth 20000 in
theorem ggX2_fibre_X1_add : GoodIn wsX2_fibre wsX1_add := goodIn_r _ [17, 18, 19, 20, 21, 22, 23, 30, 31, 32, 33, 34, 35, 36] (by decide +kernel) (by decide +kernel)
set_option maxRecDepth 20000 in
theorem gX2_fibre_X1_add_n32 : GoodIn wsX2_fibre (wsX1_add) := ggX2_fibre_X1_add
theorem dX2_fibre_0 : decode cX2_fibre 0 = .ok (.iload_n 1, 1) := by decide +kernel
theorem dX2_fibre_1 : decode cX2_fibre 1 = .ok (.iconst 0, 1) := by decide +kernel
theorem dX2_fibre_2 : decode cX2_fibre 2 = .ok (.ldc 16, 2) := by decide +kernel
theorem dX2_fibre_4 : decode cX2_fibre 4 = .ok (.invokestatic 17, 3) := by decide +kernel
theorem dX2_fibre_7 : decode cX2_fibre 7 = .ok (.ifCond .eq 17, 3) := by decide +kernel
theorem dX2_fibre_10 : decode cX2_fibre 10 = .ok (.iload_n 2, 1) := by decide +kernel
theorem dX2_fibre_11 : decode cX2_fibre 11 = .ok (.invokestatic 21, 3) := by decide +kernel
theorem dX2_fibre_14 : decode cX2_fibre 14 = .ok (.ifCond .eq 10, 3) := by decide +kernel
theorem dX2_fibre_17 : decode cX2_fibre 17 = .ok (.iload_n 3, 1) := by decide +kernel
theorem dX2_fibre_18 : decode cX2_fibre 18 = .ok (.invokestatic 25, 3) := by decide +kernel
theorem dX2_fibre_21 : decode cX2_fibre 21 = .ok (.ifCond .ne 5, 3) := by decide +kernel
theorem dX2_fibre_24 : decode cX2_fibre 24 = .ok (.iconst (-1), 1) := by decide +kernel
theorem dX2_fibre_25 : decode cX2_fibre 25 = .ok (.ireturn, 1) := by decide +kernel
theorem dX2_fibre_26 : decode cX2_fibre 26 = .ok (.aload_n 0, 1) := by decide +kernel
theorem dX2_fibre_27 : decode cX2_fibre 27 = .ok (.getfield 10, 3) := by decide +kernel
theorem dX2_fibre_30 : decode cX2_fibre 30 = .ok (.getfield 28, 3) := by decide +kernel
theorem dX2_fibre_33 : decode cX2_fibre 33 = .ok (.bipush 40, 2) := by decide +kernel
theorem dX2_fibre_35 : decode cX2_fibre 35 = .ok (.if_icmp .lt 5, 3) := by decide +kernel
theorem dX2_fibre_38 : decode cX2_fibre 38 = .ok (.iconst (-1), 1) := by decide +kernel
theorem dX2_fibre_39 : decode cX2_fibre 39 = .ok (.ireturn, 1) := by decide +kernel
theorem dX2_fibre_40 : decode cX2_fibre 40 = .ok (.aload_n 0, 1) := by decide +kernel
theorem dX2_fibre_41 : decode cX2_fibre 41 = .ok (.getfield 10, 3) := by decide +kernel
theorem dX2_fibre_44 : decode cX2_fibre 44 = .ok (.iload_n 1, 1) := by decide +kernel
theorem dX2_fibre_45 : decode cX2_fibre 45 = .ok (.iload_n 2, 1) := by decide +kernel
theorem dX2_fibre_46 : decode cX2_fibre 46 = .ok (.iload_n 3, 1) := by decide +kernel
theorem dX2_fibre_47 : decode cX2_fibre 47 = .ok (.invokevirtual 32, 3) := by decide +kernel
theorem dX2_fibre_50 : decode cX2_fibre 50 = .ok (.aload_n 0, 1) := by decide +kernel
theorem dX2_fibre_51 : decode cX2_fibre 51 = .ok (.iconst 0, 1) := by decide +kernel
theorem dX2_fibre_52 : decode cX2_fibre 52 = .ok (.putfield 36, 3) := by decide +kernel
theorem dX2_fibre_55 : decode cX2_fibre 55 = .ok (.aload_n 0, 1) := by decide +kernel
theorem dX2_fibre_56 : decode cX2_fibre 56 = .ok (.getfield 10, 3) := by decide +kernel
theorem dX2_fibre_59 : decode cX2_fibre 59 = .ok (.getfield 28, 3) := by decide +kernel
theorem dX2_fibre_62 : decode cX2_fibre 62 = .ok (.iconst 1, 1) := by decide +kernel
theorem dX2_fibre_63 : decode cX2_fibre 63 = .ok (.isub, 1) := by decide +kernel
theorem dX2_fibre_64 : decode cX2_fibre 64 = .ok (.ireturn, 1) := by decide +kernel
set_option maxRecDepth 20000 in
theorem ggX2_point_X2_isKind : GoodIn wsX2_point wsX2_isKind := goodIn_r _ [8, 9, 10, 7, 11] (by decide +kernel) (by decide +kernel)
set_option maxRecDepth 20000 in
theorem gX2_point_X2_isKind : GoodIn wsX2_point (va_wsS RX2 25 yX2_isKind wsX2_isKind) := goodIn_app (goodIn_of _ (by decide +kernel)) ggX2_point_X2_isKind
set_option maxRecDepth 20000 in
theorem ggX2_point_X2_isToldStrain : GoodIn wsX2_point wsX2_isToldStrain := goodIn_r _ [14, 9, 10, 7, 11] (by decide +kernel) (by decide +kernel)
set_option maxRecDepth 20000 in
theorem gX2_point_X2_isToldStrain : GoodIn wsX2_point (va_wsS RX2 40 yX2_isToldStrain wsX2_isToldStrain) := goodIn_app (goodIn_of _ (by decide +kernel)) ggX2_point_X2_isToldStrain
set_option maxRecDepth 20000 in
theorem ggX2_point_X2_within : GoodIn wsX2_point wsX2_within := goodIn_r _ [11] (by decide +kernel) (by decide +kernel)
set_option maxRecDepth 20000 in
theorem gX2_point_X2_within : GoodIn wsX2_point (va_wsS RX2 17 yX2_within wsX2_within) := goodIn_app (goodIn_of _ (by decide +kernel)) ggX2_point_X2_within
set_option maxRecDepth 20000 in
theorem ggX2_point_X0_addPoint : GoodIn wsX2_point wsX0_addPoint := goodIn_r _ [18, 19, 20, 21, 35, 36, 37, 38, 39] (by decide +kernel) (by decide +kernel)
set_option maxRecDepth 20000 in
theorem gX2_point_X0_addPoint_n49 : GoodIn wsX2_point (wsX0_addPoint) := ggX2_point_X0_addPoint
theorem dX2_point_0 : decode cX2_point 0 = .ok (.iload_n 1, 1) := by decide +kernel
theorem dX2_point_1 : decode cX2_point 1 = .ok (.invokestatic 25, 3) := by decide +kernel
theorem dX2_point_4 : decode cX2_point 4 = .ok (.ifCond .eq 21, 3) := by decide +kernel
theorem dX2_point_7 : decode cX2_point 7 = .ok (.iload_n 2, 1) := by decide +kernel
theorem dX2_point_8 : decode cX2_point 8 = .ok (.invokestatic 40, 3) := by decide +kernel
theorem dX2_point_11 : decode cX2_point 11 = .ok (.ifCond .eq 14, 3) := by decide +kernel
theorem dX2_point_14 : decode cX2_point 14 = .ok (.iload_n 3, 1) := by decide +kernel
theorem dX2_point_15 : decode cX2_point 15 = .ok (.ldc 43, 2) := by decide +kernel
theorem dX2_point_17 : decode cX2_point 17 = .ok (.ldc 44, 2) := by decide +kernel
theorem dX2_point_19 : decode cX2_point 19 = .ok (.invokestatic 17, 3) := by decide +kernel
theorem dX2_point_22 : decode cX2_point 22 = .ok (.ifCond .ne 5, 3) := by decide +kernel
theorem dX2_point_25 : decode cX2_point 25 = .ok (.iconst 0, 1) := by decide +kernel
theorem dX2_point_26 : decode cX2_point 26 = .ok (.ireturn, 1) := by decide +kernel
theorem dX2_point_27 : decode cX2_point 27 = .ok (.aload_n 0, 1) := by decide +kernel
theorem dX2_point_28 : decode cX2_point 28 = .ok (.getfield 10, 3) := by decide +kernel
theorem dX2_point_31 : decode cX2_point 31 = .ok (.getfield 45, 3) := by decide +kernel
theorem dX2_point_34 : decode cX2_point 34 = .ok (.iload_n 1, 1) := by decide +kernel
theorem dX2_point_35 : decode cX2_point 35 = .ok (.iload_n 2, 1) := by decide +kernel
theorem dX2_point_36 : decode cX2_point 36 = .ok (.iload_n 3, 1) := by decide +kernel
theorem dX2_point_37 : decode cX2_point 37 = .ok (.invokevirtual 49, 3) := by decide +kernel
theorem dX2_point_40 : decode cX2_point 40 = .ok (.ifCond .ne 5, 3) := by decide +kernel
theorem dX2_point_43 : decode cX2_point 43 = .ok (.iconst 0, 1) := by decide +kernel
theorem dX2_point_44 : decode cX2_point 44 = .ok (.ireturn, 1) := by decide +kernel
theorem dX2_point_45 : decode cX2_point 45 = .ok (.aload_n 0, 1) := by decide +kernel
theorem dX2_point_46 : decode cX2_point 46 = .ok (.iconst 0, 1) := by decide +kernel
theorem dX2_point_47 : decode cX2_point 47 = .ok (.putfield 36, 3) := by decide +kernel
theorem dX2_point_50 : decode cX2_point 50 = .ok (.iconst 1, 1) := by decide +kernel
theorem dX2_point_51 : decode cX2_point 51 = .ok (.ireturn, 1) := by decide +kernel
set_option maxRecDepth 20000 in
theorem ggX2_born_X1_has : GoodIn wsX2_born wsX1_has := goodIn_r _ [6, 7, 8, 9, 10, 21, 22, 23, 24, 25, 26, 27] (by decide +kernel) (by decide +kernel)
set_option maxRecDepth 20000 in
theorem gX2_born_X1_has_n54 : GoodIn wsX2_born (wsX1_has) := ggX2_born_X1_has
set_option maxRecDepth 20000 in
theorem ggX2_born_X2_isToldStrain : GoodIn wsX2_born wsX2_isToldStrain := goodIn_r _ [13, 14, 8, 9, 10] (by decide +kernel) (by decide +kernel)
set_option maxRecDepth 20000 in
theorem gX2_born_X2_isToldStrain : GoodIn wsX2_born (va_wsS RX2 40 yX2_isToldStrain wsX2_isToldStrain) := goodIn_app (goodIn_of _ (by decide +kernel)) ggX2_born_X2_isToldStrain
theorem dX2_born_0 : decode cX2_born 0 = .ok (.aload_n 0, 1) := by decide +kernel
theorem dX2_born_1 : decode cX2_born 1 = .ok (.getfield 10, 3) := by decide +kernel
theorem dX2_born_4 : decode cX2_born 4 = .ok (.iload_n 1, 1) := by decide +kernel
theorem dX2_born_5 : decode cX2_born 5 = .ok (.invokevirtual 54, 3) := by decide +kernel
theorem dX2_born_8 : decode cX2_born 8 = .ok (.ifCond .eq 10, 3) := by decide +kernel
theorem dX2_born_11 : decode cX2_born 11 = .ok (.iload_n 2, 1) := by decide +kernel
theorem dX2_born_12 : decode cX2_born 12 = .ok (.invokestatic 40, 3) := by decide +kernel
theorem dX2_born_15 : decode cX2_born 15 = .ok (.ifCond .ne 5, 3) := by decide +kernel
theorem dX2_born_18 : decode cX2_born 18 = .ok (.iconst 0, 1) := by decide +kernel
theorem dX2_born_19 : decode cX2_born 19 = .ok (.ireturn, 1) := by decide +kernel
theorem dX2_born_20 : decode cX2_born 20 = .ok (.aload_n 0, 1) := by decide +kernel
theorem dX2_born_21 : decode cX2_born 21 = .ok (.getfield 10, 3) := by decide +kernel
theorem dX2_born_24 : decode cX2_born 24 = .ok (.getfield 57, 3) := by decide +kernel
theorem dX2_born_27 : decode cX2_born 27 = .ok (.iload_n 1, 1) := by decide +kernel
theorem dX2_born_28 : decode cX2_born 28 = .ok (.iload_n 2, 1) := by decide +kernel
theorem dX2_born_29 : decode cX2_born 29 = .ok (.iastore, 1) := by decide +kernel
theorem dX2_born_30 : decode cX2_born 30 = .ok (.aload_n 0, 1) := by decide +kernel
theorem dX2_born_31 : decode cX2_born 31 = .ok (.iconst 0, 1) := by decide +kernel
theorem dX2_born_32 : decode cX2_born 32 = .ok (.putfield 36, 3) := by decide +kernel
theorem dX2_born_35 : decode cX2_born 35 = .ok (.iconst 1, 1) := by decide +kernel
theorem dX2_born_36 : decode cX2_born 36 = .ok (.ireturn, 1) := by decide +kernel
set_option maxRecDepth 20000 in
theorem ggX2_creeps_X2_isKind : GoodIn wsX2_creeps wsX2_isKind := goodIn_r _ [6, 7, 8, 5, 9] (by decide +kernel) (by decide +kernel)
set_option maxRecDepth 20000 in
theorem gX2_creeps_X2_isKind : GoodIn wsX2_creeps (va_wsS RX2 25 yX2_isKind wsX2_isKind) := goodIn_app (goodIn_of _ (by decide +kernel)) ggX2_creeps_X2_isKind
set_option maxRecDepth 20000 in
theorem ggX2_creeps_X2_within : GoodIn wsX2_creeps wsX2_within := goodIn_r _ [9] (by decide +kernel) (by decide +kernel)
set_option maxRecDepth 20000 in
theorem gX2_creeps_X2_within : GoodIn wsX2_creeps (va_wsS RX2 17 yX2_within wsX2_within) := goodIn_app (goodIn_of _ (by decide +kernel)) ggX2_creeps_X2_within
theorem dX2_creeps_0 : decode cX2_creeps 0 = .ok (.iload_n 1, 1) := by decide +kernel
theorem dX2_creeps_1 : decode cX2_creeps 1 = .ok (.invokestatic 25, 3) := by decide +kernel
theorem dX2_creeps_4 : decode cX2_creeps 4 = .ok (.ifCond .eq 14, 3) := by decide +kernel
theorem dX2_creeps_7 : decode cX2_creeps 7 = .ok (.iload_n 2, 1) := by decide +kernel
theorem dX2_creeps_8 : decode cX2_creeps 8 = .ok (.iconst 0, 1) := by decide +kernel
theorem dX2_creeps_9 : decode cX2_creeps 9 = .ok (.sipush 500, 3) := by decide +kernel
theorem dX2_creeps_12 : decode cX2_creeps 12 = .ok (.invokestatic 17, 3) := by decide +kernel
theorem dX2_creeps_15 : decode cX2_creeps 15 = .ok (.ifCond .ne 5, 3) := by decide +kernel
theorem dX2_creeps_18 : decode cX2_creeps 18 = .ok (.iconst 0, 1) := by decide +kernel
theorem dX2_creeps_19 : decode cX2_creeps 19 = .ok (.ireturn, 1) := by decide +kernel
theorem dX2_creeps_20 : decode cX2_creeps 20 = .ok (.aload_n 0, 1) := by decide +kernel
theorem dX2_creeps_21 : decode cX2_creeps 21 = .ok (.getfield 10, 3) := by decide +kernel
theorem dX2_creeps_24 : decode cX2_creeps 24 = .ok (.getfield 45, 3) := by decide +kernel
theorem dX2_creeps_27 : decode cX2_creeps 27 = .ok (.getfield 61, 3) := by decide +kernel
theorem dX2_creeps_30 : decode cX2_creeps 30 = .ok (.iload_n 1, 1) := by decide +kernel
theorem dX2_creeps_31 : decode cX2_creeps 31 = .ok (.iload_n 2, 1) := by decide +kernel
theorem dX2_creeps_32 : decode cX2_creeps 32 = .ok (.iastore, 1) := by decide +kernel
theorem dX2_creeps_33 : decode cX2_creeps 33 = .ok (.aload_n 0, 1) := by decide +kernel
theorem dX2_creeps_34 : decode cX2_creeps 34 = .ok (.iconst 0, 1) := by decide +kernel
theorem dX2_creeps_35 : decode cX2_creeps 35 = .ok (.putfield 36, 3) := by decide +kernel
theorem dX2_creeps_38 : decode cX2_creeps 38 = .ok (.iconst 1, 1) := by decide +kernel
theorem dX2_creeps_39 : decode cX2_creeps 39 = .ok (.ireturn, 1) := by decide +kernel
set_option maxRecDepth 20000 in
theorem ggX2_shrinks_X2_isKind : GoodIn wsX2_shrinks wsX2_isKind := goodIn_r _ [6, 7, 8, 5, 9] (by decide +kernel) (by decide +kernel)
set_option maxRecDepth 20000 in
theorem gX2_shrinks_X2_isKind : GoodIn wsX2_shrinks (va_wsS RX2 25 yX2_isKind wsX2_isKind) := goodIn_app (goodIn_of _ (by decide +kernel)) ggX2_shrinks_X2_isKind
set_option maxRecDepth 20000 in
theorem ggX2_shrinks_X2_within : GoodIn wsX2_shrinks wsX2_within := goodIn_r _ [9] (by decide +kernel) (by decide +kernel)
set_option maxRecDepth 20000 in
theorem gX2_shrinks_X2_within : GoodIn wsX2_shrinks (va_wsS RX2 17 yX2_within wsX2_within) := goodIn_app (goodIn_of _ (by decide +kernel)) ggX2_shrinks_X2_within
theorem dX2_shrinks_0 : decode cX2_shrinks 0 = .ok (.iload_n 1, 1) := by decide +kernel
theorem dX2_shrinks_1 : decode cX2_shrinks 1 = .ok (.invokestatic 25, 3) := by decide +kernel
theorem dX2_shrinks_4 : decode cX2_shrinks 4 = .ok (.ifCond .eq 16, 3) := by decide +kernel
theorem dX2_shrinks_7 : decode cX2_shrinks 7 = .ok (.iload_n 2, 1) := by decide +kernel
theorem dX2_shrinks_8 : decode cX2_shrinks 8 = .ok (.sipush (-5000), 3) := by decide +kernel
theorem dX2_shrinks_11 : decode cX2_shrinks 11 = .ok (.sipush 5000, 3) := by decide +kernel
theorem dX2_shrinks_14 : decode cX2_shrinks 14 = .ok (.invokestatic 17, 3) := by decide +kernel
theorem dX2_shrinks_17 : decode cX2_shrinks 17 = .ok (.ifCond .ne 5, 3) := by decide +kernel
theorem dX2_shrinks_20 : decode cX2_shrinks 20 = .ok (.iconst 0, 1) := by decide +kernel
theorem dX2_shrinks_21 : decode cX2_shrinks 21 = .ok (.ireturn, 1) := by decide +kernel
theorem dX2_shrinks_22 : decode cX2_shrinks 22 = .ok (.aload_n 0, 1) := by decide +kernel
theorem dX2_shrinks_23 : decode cX2_shrinks 23 = .ok (.getfield 10, 3) := by decide +kernel
theorem dX2_shrinks_26 : decode cX2_shrinks 26 = .ok (.getfield 45, 3) := by decide +kernel
theorem dX2_shrinks_29 : decode cX2_shrinks 29 = .ok (.getfield 64, 3) := by decide +kernel
theorem dX2_shrinks_32 : decode cX2_shrinks 32 = .ok (.iload_n 1, 1) := by decide +kernel
theorem dX2_shrinks_33 : decode cX2_shrinks 33 = .ok (.iload_n 2, 1) := by decide +kernel
theorem dX2_shrinks_34 : decode cX2_shrinks 34 = .ok (.iastore, 1) := by decide +kernel
theorem dX2_shrinks_35 : decode cX2_shrinks 35 = .ok (.aload_n 0, 1) := by decide +kernel
theorem dX2_shrinks_36 : decode cX2_shrinks 36 = .ok (.iconst 0, 1) := by decide +kernel
theorem dX2_shrinks_37 : decode cX2_shrinks 37 = .ok (.putfield 36, 3) := by decide +kernel
theorem dX2_shrinks_40 : decode cX2_shrinks 40 = .ok (.iconst 1, 1) := by decide +kernel
theorem dX2_shrinks_41 : decode cX2_shrinks 41 = .ok (.ireturn, 1) := by decide +kernel
set_option maxRecDepth 20000 in
theorem ggX2_keeps_X1_has : GoodIn wsX2_keeps wsX1_has := goodIn_r _ [6, 7, 8, 9, 10, 18, 19, 20, 21, 22, 23, 24] (by decide +kernel) (by decide +kernel)
set_option maxRecDepth 20000 in
theorem gX2_keeps_X1_has_n54 : GoodIn wsX2_keeps (wsX1_has) := ggX2_keeps_X1_has
set_option maxRecDepth 20000 in
theorem ggX2_keeps_X2_within : GoodIn wsX2_keeps wsX2_within := goodIn_r _ [10] (by decide +kernel) (by decide +kernel)
set_option maxRecDepth 20000 in
theorem gX2_keeps_X2_within : GoodIn wsX2_keeps (va_wsS RX2 17 yX2_within wsX2_within) := goodIn_app (goodIn_of _ (by decide +kernel)) ggX2_keeps_X2_within
theorem dX2_keeps_0 : decode cX2_keeps 0 = .ok (.aload_n 0, 1) := by decide +kernel
theorem dX2_keeps_1 : decode cX2_keeps 1 = .ok (.getfield 10, 3) := by decide +kernel
theorem dX2_keeps_4 : decode cX2_keeps 4 = .ok (.iload_n 1, 1) := by decide +kernel
theorem dX2_keeps_5 : decode cX2_keeps 5 = .ok (.invokevirtual 54, 3) := by decide +kernel
theorem dX2_keeps_8 : decode cX2_keeps 8 = .ok (.ifCond .eq 13, 3) := by decide +kernel
theorem dX2_keeps_11 : decode cX2_keeps 11 = .ok (.iload_n 2, 1) := by decide +kernel
theorem dX2_keeps_12 : decode cX2_keeps 12 = .ok (.iconst 0, 1) := by decide +kernel
theorem dX2_keeps_13 : decode cX2_keeps 13 = .ok (.bipush 100, 2) := by decide +kernel
theorem dX2_keeps_15 : decode cX2_keeps 15 = .ok (.invokestatic 17, 3) := by decide +kernel
theorem dX2_keeps_18 : decode cX2_keeps 18 = .ok (.ifCond .ne 5, 3) := by decide +kernel
theorem dX2_keeps_21 : decode cX2_keeps 21 = .ok (.iconst 0, 1) := by decide +kernel
theorem dX2_keeps_22 : decode cX2_keeps 22 = .ok (.ireturn, 1) := by decide +kernel
theorem dX2_keeps_23 : decode cX2_keeps 23 = .ok (.aload_n 0, 1) := by decide +kernel
theorem dX2_keeps_24 : decode cX2_keeps 24 = .ok (.getfield 10, 3) := by decide +kernel
theorem dX2_keeps_27 : decode cX2_keeps 27 = .ok (.getfield 67, 3) := by decide +kernel
theorem dX2_keeps_30 : decode cX2_keeps 30 = .ok (.iload_n 1, 1) := by decide +kernel
theorem dX2_keeps_31 : decode cX2_keeps 31 = .ok (.iload_n 2, 1) := by decide +kernel
theorem dX2_keeps_32 : decode cX2_keeps 32 = .ok (.iastore, 1) := by decide +kernel
theorem dX2_keeps_33 : decode cX2_keeps 33 = .ok (.aload_n 0, 1) := by decide +kernel
theorem dX2_keeps_34 : decode cX2_keeps 34 = .ok (.iconst 0, 1) := by decide +kernel
theorem dX2_keeps_35 : decode cX2_keeps 35 = .ok (.putfield 36, 3) := by decide +kernel
theorem dX2_keeps_38 : decode cX2_keeps 38 = .ok (.iconst 1, 1) := by decide +kernel
theorem dX2_keeps_39 : decode cX2_keeps 39 = .ok (.ireturn, 1) := by decide +kernel
set_option maxRecDepth 20000 in
theorem ggX2_row_X2_isKind : GoodIn wsX2_row wsX2_isKind := goodIn_r _ [8, 9, 10, 7, 11] (by decide +kernel) (by decide +kernel)
set_option maxRecDepth 20000 in
theorem gX2_row_X2_isKind : GoodIn wsX2_row (va_wsS RX2 25 yX2_isKind wsX2_isKind) := goodIn_app (goodIn_of _ (by decide +kernel)) ggX2_row_X2_isKind
set_option maxRecDepth 20000 in
theorem ggX2_row_X0_stressAt : GoodIn wsX2_row wsX0_stressAt := goodIn_r _ [15, 16, 17, 18, 19, 7, 20, 40, 41, 42, 43, 44] (by decide +kernel) (by decide +kernel)
set_option maxRecDepth 20000 in
theorem gX2_row_X0_stressAt_n77 : GoodIn wsX2_row (wsX0_stressAt) := ggX2_row_X0_stressAt
theorem dX2_row_0 : decode cX2_row 0 = .ok (.iload_n 1, 1) := by decide +kernel
theorem dX2_row_1 : decode cX2_row 1 = .ok (.invokestatic 25, 3) := by decide +kernel
theorem dX2_row_4 : decode cX2_row 4 = .ok (.ifCond .ne 13, 3) := by decide +kernel
theorem dX2_row_7 : decode cX2_row 7 = .ok (.new 70, 3) := by decide +kernel
theorem dX2_row_10 : decode cX2_row 10 = .ok (.dup, 1) := by decide +kernel
theorem dX2_row_11 : decode cX2_row 11 = .ok (.ldc 72, 2) := by decide +kernel
theorem dX2_row_13 : decode cX2_row 13 = .ok (.invokespecial 74, 3) := by decide +kernel
theorem dX2_row_16 : decode cX2_row 16 = .ok (.athrow, 1) := by decide +kernel
theorem dX2_row_17 : decode cX2_row 17 = .ok (.aload_n 0, 1) := by decide +kernel
theorem dX2_row_18 : decode cX2_row 18 = .ok (.getfield 10, 3) := by decide +kernel
theorem dX2_row_21 : decode cX2_row 21 = .ok (.getfield 45, 3) := by decide +kernel
theorem dX2_row_24 : decode cX2_row 24 = .ok (.iload_n 1, 1) := by decide +kernel
theorem dX2_row_25 : decode cX2_row 25 = .ok (.iload_n 2, 1) := by decide +kernel
theorem dX2_row_26 : decode cX2_row 26 = .ok (.invokevirtual 77, 3) := by decide +kernel
theorem dX2_row_29 : decode cX2_row 29 = .ok (.ireturn, 1) := by decide +kernel
set_option maxRecDepth 20000 in
theorem ggX2_of_X2_isOfPlane : GoodIn wsX2_of wsX2_isOfPlane := goodIn_r _ [6, 7, 8, 5, 9] (by decide +kernel) (by decide +kernel)
set_option maxRecDepth 20000 in
theorem gX2_of_X2_isOfPlane : GoodIn wsX2_of (va_wsS RX2 81 yX2_isOfPlane wsX2_isOfPlane) := goodIn_app (goodIn_of _ (by decide +kernel)) ggX2_of_X2_isOfPlane
set_option maxRecDepth 20000 in
theorem ggX2_of_X2_isSum : GoodIn wsX2_of wsX2_isSum := goodIn_r _ [12] (by decide +kernel) (by decide +kernel)
set_option maxRecDepth 20000 in
theorem gX2_of_X2_isSum : GoodIn wsX2_of (va_wsS RX2 84 yX2_isSum wsX2_isSum) := goodIn_app (goodIn_of _ (by decide +kernel)) ggX2_of_X2_isSum
set_option maxRecDepth 20000 in
theorem ggX2_of_X1_sumOf : GoodIn wsX2_of wsX1_sumOf := goodIn_r _ [16, 17, 18, 19, 20, 21, 22, 14, 23, 24, 25, 26, 27, 28, 29, 30, 31, 32, 33, 34, 35, 36, 37, 5, 38, 39, 40, 41, 42, 43, 44, 45, 52, 53, 54, 55, 56, 57, 58, 59, 60, 61, 62, 63] (by decide +kernel) (by decide +kernel)
set_option maxRecDepth 20000 in
theorem gX2_of_X1_sumOf_n89 : GoodIn wsX2_of (wsX1_sumOf) := ggX2_of_X1_sumOf
theorem dX2_of_0 : decode cX2_of 0 = .ok (.iload_n 1, 1) := by decide +kernel
theorem dX2_of_1 : decode cX2_of 1 = .ok (.invokestatic 81, 3) := by decide +kernel
theorem dX2_of_4 : decode cX2_of 4 = .ok (.ifCond .eq 17, 3) := by decide +kernel
theorem dX2_of_7 : decode cX2_of 7 = .ok (.iload_n 2, 1) := by decide +kernel
theorem dX2_of_8 : decode cX2_of 8 = .ok (.invokestatic 81, 3) := by decide +kernel
theorem dX2_of_11 : decode cX2_of 11 = .ok (.ifCond .eq 10, 3) := by decide +kernel
theorem dX2_of_14 : decode cX2_of 14 = .ok (.iload_n 3, 1) := by decide +kernel
theorem dX2_of_15 : decode cX2_of 15 = .ok (.invokestatic 84, 3) := by decide +kernel
theorem dX2_of_18 : decode cX2_of 18 = .ok (.ifCond .ne 7, 3) := by decide +kernel
theorem dX2_of_21 : decode cX2_of 21 = .ok (.ldc2_w 87, 3) := by decide +kernel
theorem dX2_of_24 : decode cX2_of 24 = .ok (.lreturn, 1) := by decide +kernel
theorem dX2_of_25 : decode cX2_of 25 = .ok (.aload_n 0, 1) := by decide +kernel
theorem dX2_of_26 : decode cX2_of 26 = .ok (.getfield 10, 3) := by decide +kernel
theorem dX2_of_29 : decode cX2_of 29 = .ok (.iload_n 3, 1) := by decide +kernel
theorem dX2_of_30 : decode cX2_of 30 = .ok (.iload_n 1, 1) := by decide +kernel
theorem dX2_of_31 : decode cX2_of 31 = .ok (.iload_n 2, 1) := by decide +kernel
theorem dX2_of_32 : decode cX2_of 32 = .ok (.invokevirtual 89, 3) := by decide +kernel
theorem dX2_of_35 : decode cX2_of 35 = .ok (.lreturn, 1) := by decide +kernel
set_option maxRecDepth 20000 in
theorem ggX2_balance_X2_isOfPlane : GoodIn wsX2_balance wsX2_isOfPlane := goodIn_r _ [6, 7, 8, 5, 9] (by decide +kernel) (by decide +kernel)
set_option maxRecDepth 20000 in
theorem gX2_balance_X2_isOfPlane : GoodIn wsX2_balance (va_wsS RX2 81 yX2_isOfPlane wsX2_isOfPlane) := goodIn_app (goodIn_of _ (by decide +kernel)) ggX2_balance_X2_isOfPlane
set_option maxRecDepth 20000 in
theorem ggX2_balance_X1_balanceOf : GoodIn wsX2_balance wsX1_balanceOf := goodIn_r _ [13, 14, 15, 16, 17, 11, 18, 19, 20, 21, 22, 23, 24, 25, 26, 27, 28, 29, 30, 31, 32, 33, 34, 35, 36, 37, 38, 39, 5, 40, 41, 42, 43, 44, 45, 46, 47, 54, 55, 56, 57, 58, 59, 60, 61, 62, 63, 64, 65] (by decide +kernel) (by decide +kernel)
set_option maxRecDepth 20000 in
theorem gX2_balance_X1_balanceOf_n93 : GoodIn wsX2_balance (wsX1_balanceOf) := ggX2_balance_X1_balanceOf
theorem dX2_balance_0 : decode cX2_balance 0 = .ok (.iload_n 3, 1) := by decide +kernel
theorem dX2_balance_1 : decode cX2_balance 1 = .ok (.invokestatic 81, 3) := by decide +kernel
theorem dX2_balance_4 : decode cX2_balance 4 = .ok (.ifCond .ne 6, 3) := by decide +kernel
theorem dX2_balance_7 : decode cX2_balance 7 = .ok (.ldc 43, 2) := by decide +kernel
theorem dX2_balance_9 : decode cX2_balance 9 = .ok (.ireturn, 1) := by decide +kernel
theorem dX2_balance_10 : decode cX2_balance 10 = .ok (.aload_n 0, 1) := by decide +kernel
theorem dX2_balance_11 : decode cX2_balance 11 = .ok (.getfield 10, 3) := by decide +kernel
theorem dX2_balance_14 : decode cX2_balance 14 = .ok (.lload_n 1, 1) := by decide +kernel
theorem dX2_balance_15 : decode cX2_balance 15 = .ok (.iload_n 3, 1) := by decide +kernel
theorem dX2_balance_16 : decode cX2_balance 16 = .ok (.invokevirtual 93, 3) := by decide +kernel
theorem dX2_balance_19 : decode cX2_balance 19 = .ok (.ireturn, 1) := by decide +kernel
set_option maxRecDepth 20000 in
theorem ggX2_run_X1_bendFor : GoodIn wsX2_run wsX1_bendFor := goodIn_r _ [12, 13, 14, 15, 16, 17, 18, 19, 20, 21, 22, 10, 23, 24, 25, 26, 27, 28, 29, 30, 31, 32, 33, 34, 35, 36, 37, 38, 39, 40, 41, 42, 43, 44, 45, 46, 47, 48, 49, 50, 51, 52, 53, 60, 61, 62, 63, 64, 65, 66, 67, 68, 69, 70, 71] (by decide +kernel) (by decide +kernel)
set_option maxRecDepth 20000 in
theorem gX2_run_X1_bendFor_n97 : GoodIn wsX2_run (wsX1_bendFor) := ggX2_run_X1_bendFor
set_option maxRecDepth 20000 in
theorem ggX2_run_X1_balanceOf : GoodIn wsX2_run wsX1_balanceOf := goodIn_r _ [23, 13, 24, 25, 26, 10, 27, 28, 29, 30, 31, 32, 33, 34, 35, 36, 37, 38, 39, 40, 41, 42, 43, 16, 17, 18, 19, 44, 45, 46, 47, 48, 49, 50, 51, 52, 53, 60, 61, 62, 63, 64, 65, 66, 67, 68, 69, 70, 71] (by decide +kernel) (by decide +kernel)
set_option maxRecDepth 20000 in
theorem gX2_run_X1_balanceOf_n93 : GoodIn wsX2_run (wsX1_balanceOf) := ggX2_run_X1_balanceOf
theorem dX2_run_0 : decode cX2_run 0 = .ok (.aload_n 0, 1) := by decide +kernel
theorem dX2_run_1 : decode cX2_run 1 = .ok (.getfield 10, 3) := by decide +kernel
theorem dX2_run_4 : decode cX2_run 4 = .ok (.lload_n 1, 1) := by decide +kernel
theorem dX2_run_5 : decode cX2_run 5 = .ok (.lload_n 3, 1) := by decide +kernel
theorem dX2_run_6 : decode cX2_run 6 = .ok (.invokevirtual 97, 3) := by decide +kernel
theorem dX2_run_9 : decode cX2_run 9 = .ok (.istore 5, 2) := by decide +kernel
theorem dX2_run_11 : decode cX2_run 11 = .ok (.iload 5, 2) := by decide +kernel
theorem dX2_run_13 : decode cX2_run 13 = .ok (.ldc 101, 2) := by decide +kernel
theorem dX2_run_15 : decode cX2_run 15 = .ok (.if_icmp .ne 5, 3) := by decide +kernel
theorem dX2_run_18 : decode cX2_run 18 = .ok (.iconst 1, 1) := by decide +kernel
theorem dX2_run_19 : decode cX2_run 19 = .ok (.ireturn, 1) := by decide +kernel
theorem dX2_run_20 : decode cX2_run 20 = .ok (.iload 5, 2) := by decide +kernel
theorem dX2_run_22 : decode cX2_run 22 = .ok (.ldc 102, 2) := by decide +kernel
theorem dX2_run_24 : decode cX2_run 24 = .ok (.if_icmp .ne 5, 3) := by decide +kernel
theorem dX2_run_27 : decode cX2_run 27 = .ok (.iconst 2, 1) := by decide +kernel
theorem dX2_run_28 : decode cX2_run 28 = .ok (.ireturn, 1) := by decide +kernel
theorem dX2_run_29 : decode cX2_run 29 = .ok (.aload_n 0, 1) := by decide +kernel
theorem dX2_run_30 : decode cX2_run 30 = .ok (.iconst 1, 1) := by decide +kernel
theorem dX2_run_31 : decode cX2_run 31 = .ok (.putfield 36, 3) := by decide +kernel
theorem dX2_run_34 : decode cX2_run 34 = .ok (.aload_n 0, 1) := by decide +kernel
theorem dX2_run_35 : decode cX2_run 35 = .ok (.aload_n 0, 1) := by decide +kernel
theorem dX2_run_36 : decode cX2_run 36 = .ok (.getfield 10, 3) := by decide +kernel
theorem dX2_run_39 : decode cX2_run 39 = .ok (.lload_n 1, 1) := by decide +kernel
theorem dX2_run_40 : decode cX2_run 40 = .ok (.iload 5, 2) := by decide +kernel
theorem dX2_run_42 : decode cX2_run 42 = .ok (.invokevirtual 93, 3) := by decide +kernel
theorem dX2_run_45 : decode cX2_run 45 = .ok (.putfield 103, 3) := by decide +kernel
theorem dX2_run_48 : decode cX2_run 48 = .ok (.aload_n 0, 1) := by decide +kernel
theorem dX2_run_49 : decode cX2_run 49 = .ok (.iload 5, 2) := by decide +kernel
theorem dX2_run_51 : decode cX2_run 51 = .ok (.putfield 106, 3) := by decide +kernel
theorem dX2_run_54 : decode cX2_run 54 = .ok (.aload_n 0, 1) := by decide +kernel
theorem dX2_run_55 : decode cX2_run 55 = .ok (.lload_n 1, 1) := by decide +kernel
theorem dX2_run_56 : decode cX2_run 56 = .ok (.putfield 109, 3) := by decide +kernel
theorem dX2_run_59 : decode cX2_run 59 = .ok (.aload_n 0, 1) := by decide +kernel
theorem dX2_run_60 : decode cX2_run 60 = .ok (.lload_n 3, 1) := by decide +kernel
theorem dX2_run_61 : decode cX2_run 61 = .ok (.putfield 113, 3) := by decide +kernel
theorem dX2_run_64 : decode cX2_run 64 = .ok (.iconst 0, 1) := by decide +kernel
theorem dX2_run_65 : decode cX2_run 65 = .ok (.ireturn, 1) := by decide +kernel
set_option maxRecDepth 20000 in
theorem ggX2_told_X1_firstBeyond : GoodIn wsX2_told wsX1_firstBeyond := goodIn_r _ [8, 9, 10, 11, 12, 13, 14, 6, 15, 16, 17, 18, 19, 20, 21, 22, 23, 24, 25, 26, 27, 28, 29, 30, 31, 38, 39, 40, 41, 42, 43, 44, 45, 46, 47, 48, 49] (by decide +kernel) (by decide +kernel)
set_option maxRecDepth 20000 in
theorem gX2_told_X1_firstBeyond_n116 : GoodIn wsX2_told (wsX1_firstBeyond) := ggX2_told_X1_firstBeyond
theorem dX2_told_0 : decode cX2_told 0 = .ok (.aload_n 0, 1) := by decide +kernel
theorem dX2_told_1 : decode cX2_told 1 = .ok (.getfield 36, 3) := by decide +kernel
theorem dX2_told_4 : decode cX2_told 4 = .ok (.ifCond .ne 5, 3) := by decide +kernel
theorem dX2_told_7 : decode cX2_told 7 = .ok (.iconst (-1), 1) := by decide +kernel
theorem dX2_told_8 : decode cX2_told 8 = .ok (.ireturn, 1) := by decide +kernel
theorem dX2_told_9 : decode cX2_told 9 = .ok (.iload_n 1, 1) := by decide +kernel
theorem dX2_told_10 : decode cX2_told 10 = .ok (.tableswitch 52 0 2 #[26, 31, 36], 26) := by decide +kernel
theorem dX2_told_36 : decode cX2_told 36 = .ok (.aload_n 0, 1) := by decide +kernel
theorem dX2_told_37 : decode cX2_told 37 = .ok (.getfield 103, 3) := by decide +kernel
theorem dX2_told_40 : decode cX2_told 40 = .ok (.ireturn, 1) := by decide +kernel
theorem dX2_told_41 : decode cX2_told 41 = .ok (.aload_n 0, 1) := by decide +kernel
theorem dX2_told_42 : decode cX2_told 42 = .ok (.getfield 106, 3) := by decide +kernel
theorem dX2_told_45 : decode cX2_told 45 = .ok (.ireturn, 1) := by decide +kernel
theorem dX2_told_46 : decode cX2_told 46 = .ok (.aload_n 0, 1) := by decide +kernel
theorem dX2_told_47 : decode cX2_told 47 = .ok (.getfield 10, 3) := by decide +kernel
theorem dX2_told_50 : decode cX2_told 50 = .ok (.aload_n 0, 1) := by decide +kernel
theorem dX2_told_51 : decode cX2_told 51 = .ok (.getfield 103, 3) := by decide +kernel
theorem dX2_told_54 : decode cX2_told 54 = .ok (.aload_n 0, 1) := by decide +kernel
theorem dX2_told_55 : decode cX2_told 55 = .ok (.getfield 106, 3) := by decide +kernel
theorem dX2_told_58 : decode cX2_told 58 = .ok (.invokevirtual 116, 3) := by decide +kernel
theorem dX2_told_61 : decode cX2_told 61 = .ok (.ireturn, 1) := by decide +kernel
theorem dX2_told_62 : decode cX2_told 62 = .ok (.iconst (-1), 1) := by decide +kernel
theorem dX2_told_63 : decode cX2_told 63 = .ok (.ireturn, 1) := by decide +kernel
set_option maxRecDepth 20000 in
theorem ggX2_residual_X2_isSum : GoodIn wsX2_residual wsX2_isSum := goodIn_r _ [11] (by decide +kernel) (by decide +kernel)
set_option maxRecDepth 20000 in
theorem gX2_residual_X2_isSum : GoodIn wsX2_residual (va_wsS RX2 84 yX2_isSum wsX2_isSum) := goodIn_app (goodIn_of _ (by decide +kernel)) ggX2_residual_X2_isSum
set_option maxRecDepth 20000 in
theorem ggX2_residual_X1_sumOf : GoodIn wsX2_residual wsX1_sumOf := goodIn_r _ [15, 16, 17, 18, 19, 20, 21, 13, 22, 23, 24, 25, 26, 27, 28, 29, 30, 31, 32, 33, 34, 35, 36, 10, 37, 38, 39, 40, 41, 42, 43, 44, 51, 52, 53, 54, 55, 56, 57, 58, 59, 60, 61, 62] (by decide +kernel) (by decide +kernel)
set_option maxRecDepth 20000 in
theorem gX2_residual_X1_sumOf_n89 : GoodIn wsX2_residual (wsX1_sumOf) := ggX2_residual_X1_sumOf
theorem dX2_residual_0 : decode cX2_residual 0 = .ok (.aload_n 0, 1) := by decide +kernel
theorem dX2_residual_1 : decode cX2_residual 1 = .ok (.getfield 36, 3) := by decide +kernel
theorem dX2_residual_4 : decode cX2_residual 4 = .ok (.ifCond .eq 10, 3) := by decide +kernel
theorem dX2_residual_7 : decode cX2_residual 7 = .ok (.iload_n 1, 1) := by decide +kernel
theorem dX2_residual_8 : decode cX2_residual 8 = .ok (.invokestatic 84, 3) := by decide +kernel
theorem dX2_residual_11 : decode cX2_residual 11 = .ok (.ifCond .ne 7, 3) := by decide +kernel
theorem dX2_residual_14 : decode cX2_residual 14 = .ok (.ldc2_w 87, 3) := by decide +kernel
theorem dX2_residual_17 : decode cX2_residual 17 = .ok (.lreturn, 1) := by decide +kernel
theorem dX2_residual_18 : decode cX2_residual 18 = .ok (.aload_n 0, 1) := by decide +kernel
theorem dX2_residual_19 : decode cX2_residual 19 = .ok (.getfield 10, 3) := by decide +kernel
theorem dX2_residual_22 : decode cX2_residual 22 = .ok (.iload_n 1, 1) := by decide +kernel
theorem dX2_residual_23 : decode cX2_residual 23 = .ok (.aload_n 0, 1) := by decide +kernel
theorem dX2_residual_24 : decode cX2_residual 24 = .ok (.getfield 103, 3) := by decide +kernel
theorem dX2_residual_27 : decode cX2_residual 27 = .ok (.aload_n 0, 1) := by decide +kernel
theorem dX2_residual_28 : decode cX2_residual 28 = .ok (.getfield 106, 3) := by decide +kernel
theorem dX2_residual_31 : decode cX2_residual 31 = .ok (.invokevirtual 89, 3) := by decide +kernel
theorem dX2_residual_34 : decode cX2_residual 34 = .ok (.iload_n 1, 1) := by decide +kernel
theorem dX2_residual_35 : decode cX2_residual 35 = .ok (.ifCond .ne 10, 3) := by decide +kernel
theorem dX2_residual_38 : decode cX2_residual 38 = .ok (.aload_n 0, 1) := by decide +kernel
theorem dX2_residual_39 : decode cX2_residual 39 = .ok (.getfield 109, 3) := by decide +kernel
theorem dX2_residual_42 : decode cX2_residual 42 = .ok (.goto 7, 3) := by decide +kernel
theorem dX2_residual_45 : decode cX2_residual 45 = .ok (.aload_n 0, 1) := by decide +kernel
theorem dX2_residual_46 : decode cX2_residual 46 = .ok (.getfield 113, 3) := by decide +kernel
theorem dX2_residual_49 : decode cX2_residual 49 = .ok (.lsub, 1) := by decide +kernel
theorem dX2_residual_50 : decode cX2_residual 50 = .ok (.lreturn, 1) := by decide +kernel
set_option maxRecDepth 20000 in
theorem ggX2_in_X1_has : GoodIn wsX2_in wsX1_has := goodIn_r _ [12, 13, 14, 15, 16, 55, 56, 57, 58, 59, 60, 61] (by decide +kernel) (by decide +kernel)
set_option maxRecDepth 20000 in
theorem gX2_in_X1_has_n54 : GoodIn wsX2_in (wsX1_has) := ggX2_in_X1_has
set_option maxRecDepth 20000 in
theorem ggX2_in_X1_worksOn : GoodIn wsX2_in wsX1_worksOn := goodIn_r _ [19, 20, 21, 22, 23, 24, 25, 26, 27, 28, 29, 15, 30, 55, 56, 57, 58, 59, 60, 61, 62, 63, 64, 65, 66] (by decide +kernel) (by decide +kernel)
set_option maxRecDepth 20000 in
theorem gX2_in_X1_worksOn_n121 : GoodIn wsX2_in (wsX1_worksOn) := ggX2_in_X1_worksOn
set_option maxRecDepth 20000 in
theorem ggX2_in_X1_stressOn : GoodIn wsX2_in wsX1_stressOn := goodIn_r _ [33, 23, 20, 34, 24, 35, 17, 18, 10, 19, 21, 22, 25, 26, 27, 28, 29, 15, 30, 36, 37, 38, 39, 40, 41, 42, 55, 56, 57, 58, 59, 60, 61, 62, 63, 64, 65, 66] (by decide +kernel) (by decide +kernel)
set_option maxRecDepth 20000 in
theorem gX2_in_X1_stressOn_n125 : GoodIn wsX2_in (wsX1_stressOn) := ggX2_in_X1_stressOn
theorem dX2_in_0 : decode cX2_in 0 = .ok (.aload_n 0, 1) := by decide +kernel
theorem dX2_in_1 : decode cX2_in 1 = .ok (.getfield 10, 3) := by decide +kernel
theorem dX2_in_4 : decode cX2_in 4 = .ok (.iload_n 1, 1) := by decide +kernel
theorem dX2_in_5 : decode cX2_in 5 = .ok (.invokevirtual 54, 3) := by decide +kernel
theorem dX2_in_8 : decode cX2_in 8 = .ok (.ifCond .ne 13, 3) := by decide +kernel
theorem dX2_in_11 : decode cX2_in 11 = .ok (.new 70, 3) := by decide +kernel
theorem dX2_in_14 : decode cX2_in 14 = .ok (.dup, 1) := by decide +kernel
theorem dX2_in_15 : decode cX2_in 15 = .ok (.ldc 119, 2) := by decide +kernel
theorem dX2_in_17 : decode cX2_in 17 = .ok (.invokespecial 74, 3) := by decide +kernel
theorem dX2_in_20 : decode cX2_in 20 = .ok (.athrow, 1) := by decide +kernel
theorem dX2_in_21 : decode cX2_in 21 = .ok (.aload_n 0, 1) := by decide +kernel
theorem dX2_in_22 : decode cX2_in 22 = .ok (.getfield 36, 3) := by decide +kernel
theorem dX2_in_25 : decode cX2_in 25 = .ok (.ifCond .ne 6, 3) := by decide +kernel
theorem dX2_in_28 : decode cX2_in 28 = .ok (.ldc 43, 2) := by decide +kernel
theorem dX2_in_30 : decode cX2_in 30 = .ok (.ireturn, 1) := by decide +kernel
theorem dX2_in_31 : decode cX2_in 31 = .ok (.iload_n 2, 1) := by decide +kernel
theorem dX2_in_32 : decode cX2_in 32 = .ok (.lookupswitch 62 #[(0, 28), (1, 45)], 28) := by decide +kernel
theorem dX2_in_60 : decode cX2_in 60 = .ok (.aload_n 0, 1) := by decide +kernel
theorem dX2_in_61 : decode cX2_in 61 = .ok (.getfield 10, 3) := by decide +kernel
theorem dX2_in_64 : decode cX2_in 64 = .ok (.iload_n 1, 1) := by decide +kernel
theorem dX2_in_65 : decode cX2_in 65 = .ok (.aload_n 0, 1) := by decide +kernel
theorem dX2_in_66 : decode cX2_in 66 = .ok (.getfield 103, 3) := by decide +kernel
theorem dX2_in_69 : decode cX2_in 69 = .ok (.aload_n 0, 1) := by decide +kernel
theorem dX2_in_70 : decode cX2_in 70 = .ok (.getfield 106, 3) := by decide +kernel
theorem dX2_in_73 : decode cX2_in 73 = .ok (.invokevirtual 121, 3) := by decide +kernel
theorem dX2_in_76 : decode cX2_in 76 = .ok (.ireturn, 1) := by decide +kernel
theorem dX2_in_77 : decode cX2_in 77 = .ok (.aload_n 0, 1) := by decide +kernel
theorem dX2_in_78 : decode cX2_in 78 = .ok (.getfield 10, 3) := by decide +kernel
theorem dX2_in_81 : decode cX2_in 81 = .ok (.iload_n 1, 1) := by decide +kernel
theorem dX2_in_82 : decode cX2_in 82 = .ok (.aload_n 0, 1) := by decide +kernel
theorem dX2_in_83 : decode cX2_in 83 = .ok (.getfield 103, 3) := by decide +kernel
theorem dX2_in_86 : decode cX2_in 86 = .ok (.aload_n 0, 1) := by decide +kernel
theorem dX2_in_87 : decode cX2_in 87 = .ok (.getfield 106, 3) := by decide +kernel
theorem dX2_in_90 : decode cX2_in 90 = .ok (.invokevirtual 125, 3) := by decide +kernel
theorem dX2_in_93 : decode cX2_in 93 = .ok (.ireturn, 1) := by decide +kernel
theorem dX2_in_94 : decode cX2_in 94 = .ok (.ldc 43, 2) := by decide +kernel
theorem dX2_in_96 : decode cX2_in 96 = .ok (.ireturn, 1) := by decide +kernel
set_option maxRecDepth 20000 in
theorem ggX2_curve_X2_isBendStep : GoodIn wsX2_curve wsX2_isBendStep := goodIn_r _ [7, 8, 9, 6, 10] (by decide +kernel) (by decide +kernel)
set_option maxRecDepth 20000 in
theorem gX2_curve_X2_isBendStep : GoodIn wsX2_curve (va_wsS RX2 128 yX2_isBendStep wsX2_isBendStep) := goodIn_app (goodIn_of _ (by decide +kernel)) ggX2_curve_X2_isBendStep
set_option maxRecDepth 20000 in
theorem ggX2_curve_X2_within : GoodIn wsX2_curve wsX2_within := goodIn_r _ [10] (by decide +kernel) (by decide +kernel)
set_option maxRecDepth 20000 in
theorem gX2_curve_X2_within : GoodIn wsX2_curve (va_wsS RX2 17 yX2_within wsX2_within) := goodIn_app (goodIn_of _ (by decide +kernel)) ggX2_curve_X2_within
set_option maxRecDepth 20000 in
theorem ggX2_curve_X1_balanceOf : GoodIn wsX2_curve wsX1_balanceOf := goodIn_r _ [14, 15, 16, 17, 18, 12, 19, 20, 21, 22, 23, 24, 25, 26, 27, 28, 29, 30, 31, 32, 33, 34, 35, 36, 37, 38, 39, 40, 6, 41, 42, 43, 44, 45, 46, 47, 48, 55, 56, 57, 58, 59, 60, 61, 62, 63, 64, 65, 66] (by decide +kernel) (by decide +kernel)
set_option maxRecDepth 20000 in
theorem gX2_curve_X1_balanceOf_n93 : GoodIn wsX2_curve (wsX1_balanceOf) := ggX2_curve_X1_balanceOf
set_option maxRecDepth 20000 in
theorem ggX2_curve_X1_sumOf : GoodIn wsX2_curve wsX1_sumOf := goodIn_r _ [19, 20, 21, 22, 23, 24, 25, 12, 26, 27, 28, 29, 30, 31, 32, 33, 34, 35, 36, 37, 38, 39, 40, 6, 41, 42, 43, 44, 45, 46, 47, 48, 55, 56, 57, 58, 59, 60, 61, 62, 63, 64, 65, 66] (by decide +kernel) (by decide +kernel)
set_option maxRecDepth 20000 in
theorem gX2_curve_X1_sumOf_n89 : GoodIn wsX2_curve (wsX1_sumOf) := ggX2_curve_X1_sumOf
theorem dX2_curve_0 : decode cX2_curve 0 = .ok (.iload_n 3, 1) := by decide +kernel
theorem dX2_curve_1 : decode cX2_curve 1 = .ok (.invokestatic 128, 3) := by decide +kernel
theorem dX2_curve_4 : decode cX2_curve 4 = .ok (.ifCond .eq 14, 3) := by decide +kernel
theorem dX2_curve_7 : decode cX2_curve 7 = .ok (.iload 4, 2) := by decide +kernel
theorem dX2_curve_9 : decode cX2_curve 9 = .ok (.iconst 0, 1) := by decide +kernel
theorem dX2_curve_10 : decode cX2_curve 10 = .ok (.bipush 20, 2) := by decide +kernel
theorem dX2_curve_12 : decode cX2_curve 12 = .ok (.invokestatic 17, 3) := by decide +kernel
theorem dX2_curve_15 : decode cX2_curve 15 = .ok (.ifCond .ne 7, 3) := by decide +kernel
theorem dX2_curve_18 : decode cX2_curve 18 = .ok (.ldc2_w 87, 3) := by decide +kernel
theorem dX2_curve_21 : decode cX2_curve 21 = .ok (.lreturn, 1) := by decide +kernel
theorem dX2_curve_22 : decode cX2_curve 22 = .ok (.aload_n 0, 1) := by decide +kernel
theorem dX2_curve_23 : decode cX2_curve 23 = .ok (.getfield 10, 3) := by decide +kernel
theorem dX2_curve_26 : decode cX2_curve 26 = .ok (.lload_n 1, 1) := by decide +kernel
theorem dX2_curve_27 : decode cX2_curve 27 = .ok (.iload 4, 2) := by decide +kernel
theorem dX2_curve_29 : decode cX2_curve 29 = .ok (.iload_n 3, 1) := by decide +kernel
theorem dX2_curve_30 : decode cX2_curve 30 = .ok (.imul, 1) := by decide +kernel
theorem dX2_curve_31 : decode cX2_curve 31 = .ok (.invokevirtual 93, 3) := by decide +kernel
theorem dX2_curve_34 : decode cX2_curve 34 = .ok (.istore 5, 2) := by decide +kernel
theorem dX2_curve_36 : decode cX2_curve 36 = .ok (.iload 5, 2) := by decide +kernel
theorem dX2_curve_38 : decode cX2_curve 38 = .ok (.ldc 43, 2) := by decide +kernel
theorem dX2_curve_40 : decode cX2_curve 40 = .ok (.if_icmp .ne 9, 3) := by decide +kernel
theorem dX2_curve_43 : decode cX2_curve 43 = .ok (.ldc2_w 87, 3) := by decide +kernel
theorem dX2_curve_46 : decode cX2_curve 46 = .ok (.goto 17, 3) := by decide +kernel
theorem dX2_curve_49 : decode cX2_curve 49 = .ok (.aload_n 0, 1) := by decide +kernel
theorem dX2_curve_50 : decode cX2_curve 50 = .ok (.getfield 10, 3) := by decide +kernel
theorem dX2_curve_53 : decode cX2_curve 53 = .ok (.iconst 1, 1) := by decide +kernel
theorem dX2_curve_54 : decode cX2_curve 54 = .ok (.iload 5, 2) := by decide +kernel
theorem dX2_curve_56 : decode cX2_curve 56 = .ok (.iload 4, 2) := by decide +kernel
theorem dX2_curve_58 : decode cX2_curve 58 = .ok (.iload_n 3, 1) := by decide +kernel
theorem dX2_curve_59 : decode cX2_curve 59 = .ok (.imul, 1) := by decide +kernel
theorem dX2_curve_60 : decode cX2_curve 60 = .ok (.invokevirtual 89, 3) := by decide +kernel
theorem dX2_curve_63 : decode cX2_curve 63 = .ok (.lreturn, 1) := by decide +kernel
set_option maxRecDepth 20000 in
theorem ggX2_last_X2_isBendStep : GoodIn wsX2_last wsX2_isBendStep := goodIn_r _ [6, 7, 8, 5, 9] (by decide +kernel) (by decide +kernel)
set_option maxRecDepth 20000 in
theorem gX2_last_X2_isBendStep : GoodIn wsX2_last (va_wsS RX2 128 yX2_isBendStep wsX2_isBendStep) := goodIn_app (goodIn_of _ (by decide +kernel)) ggX2_last_X2_isBendStep
set_option maxRecDepth 20000 in
theorem ggX2_last_X1_balanceOf : GoodIn wsX2_last wsX1_balanceOf := goodIn_r _ [13, 14, 15, 16, 17, 11, 18, 19, 20, 21, 22, 23, 24, 25, 26, 27, 28, 29, 30, 31, 32, 33, 34, 35, 36, 37, 38, 39, 5, 40, 41, 42, 43, 44, 45, 46, 47, 60, 61, 62, 63, 64, 65, 66, 67, 68, 69, 70, 71] (by decide +kernel) (by decide +kernel)
set_option maxRecDepth 20000 in
theorem gX2_last_X1_balanceOf_n93 : GoodIn wsX2_last (wsX1_balanceOf) := ggX2_last_X1_balanceOf
set_option maxRecDepth 20000 in
theorem ggX2_last_X1_firstBeyond : GoodIn wsX2_last wsX1_firstBeyond := goodIn_r _ [50, 19, 26, 27, 30, 31, 32, 11, 33, 21, 34, 29, 35, 36, 37, 38, 39, 5, 40, 51, 42, 52, 53, 45, 46, 60, 61, 62, 63, 64, 65, 66, 67, 68, 69, 70, 71] (by decide +kernel) (by decide +kernel)
set_option maxRecDepth 20000 in
theorem gX2_last_X1_firstBeyond_n116 : GoodIn wsX2_last (wsX1_firstBeyond) := ggX2_last_X1_firstBeyond
theorem dX2_last_0 : decode cX2_last 0 = .ok (.iload_n 3, 1) := by decide +kernel
theorem dX2_last_1 : decode cX2_last 1 = .ok (.invokestatic 128, 3) := by decide +kernel
theorem dX2_last_4 : decode cX2_last 4 = .ok (.ifCond .ne 5, 3) := by decide +kernel
theorem dX2_last_7 : decode cX2_last 7 = .ok (.iconst (-1), 1) := by decide +kernel
theorem dX2_last_8 : decode cX2_last 8 = .ok (.ireturn, 1) := by decide +kernel
theorem dX2_last_9 : decode cX2_last 9 = .ok (.iconst 0, 1) := by decide +kernel
theorem dX2_last_10 : decode cX2_last 10 = .ok (.istore 4, 2) := by decide +kernel
theorem dX2_last_12 : decode cX2_last 12 = .ok (.iload 4, 2) := by decide +kernel
theorem dX2_last_14 : decode cX2_last 14 = .ok (.bipush 20, 2) := by decide +kernel
theorem dX2_last_16 : decode cX2_last 16 = .ok (.if_icmp .gt 52, 3) := by decide +kernel
theorem dX2_last_19 : decode cX2_last 19 = .ok (.aload_n 0, 1) := by decide +kernel
theorem dX2_last_20 : decode cX2_last 20 = .ok (.getfield 10, 3) := by decide +kernel
theorem dX2_last_23 : decode cX2_last 23 = .ok (.lload_n 1, 1) := by decide +kernel
theorem dX2_last_24 : decode cX2_last 24 = .ok (.iload 4, 2) := by decide +kernel
theorem dX2_last_26 : decode cX2_last 26 = .ok (.iload_n 3, 1) := by decide +kernel
theorem dX2_last_27 : decode cX2_last 27 = .ok (.imul, 1) := by decide +kernel
theorem dX2_last_28 : decode cX2_last 28 = .ok (.invokevirtual 93, 3) := by decide +kernel
theorem dX2_last_31 : decode cX2_last 31 = .ok (.istore 5, 2) := by decide +kernel
theorem dX2_last_33 : decode cX2_last 33 = .ok (.iload 5, 2) := by decide +kernel
theorem dX2_last_35 : decode cX2_last 35 = .ok (.ldc 43, 2) := by decide +kernel
theorem dX2_last_37 : decode cX2_last 37 = .ok (.if_icmp .ne 5, 3) := by decide +kernel
theorem dX2_last_40 : decode cX2_last 40 = .ok (.iconst (-1), 1) := by decide +kernel
theorem dX2_last_41 : decode cX2_last 41 = .ok (.ireturn, 1) := by decide +kernel
theorem dX2_last_42 : decode cX2_last 42 = .ok (.aload_n 0, 1) := by decide +kernel
theorem dX2_last_43 : decode cX2_last 43 = .ok (.getfield 10, 3) := by decide +kernel
theorem dX2_last_46 : decode cX2_last 46 = .ok (.iload 5, 2) := by decide +kernel
theorem dX2_last_48 : decode cX2_last 48 = .ok (.iload 4, 2) := by decide +kernel
theorem dX2_last_50 : decode cX2_last 50 = .ok (.iload_n 3, 1) := by decide +kernel
theorem dX2_last_51 : decode cX2_last 51 = .ok (.imul, 1) := by decide +kernel
theorem dX2_last_52 : decode cX2_last 52 = .ok (.invokevirtual 116, 3) := by decide +kernel
theorem dX2_last_55 : decode cX2_last 55 = .ok (.iconst (-1), 1) := by decide +kernel
theorem dX2_last_56 : decode cX2_last 56 = .ok (.if_icmp .eq 6, 3) := by decide +kernel
theorem dX2_last_59 : decode cX2_last 59 = .ok (.iload 4, 2) := by decide +kernel
theorem dX2_last_61 : decode cX2_last 61 = .ok (.ireturn, 1) := by decide +kernel
theorem dX2_last_62 : decode cX2_last 62 = .ok (.iinc 4 1, 3) := by decide +kernel
theorem dX2_last_65 : decode cX2_last 65 = .ok (.goto (-53), 3) := by decide +kernel
theorem dX2_last_68 : decode cX2_last 68 = .ok (.iconst (-1), 1) := by decide +kernel
theorem dX2_last_69 : decode cX2_last 69 = .ok (.ireturn, 1) := by decide +kernel
set_option maxRecDepth 20000 in
theorem ggX2_needed_X2_isPlace : GoodIn wsX2_needed wsX2_isPlace := goodIn_r _ [5, 6, 7, 4, 8] (by decide +kernel) (by decide +kernel)
set_option maxRecDepth 20000 in
theorem gX2_needed_X2_isPlace : GoodIn wsX2_needed (va_wsS RX2 21 yX2_isPlace wsX2_isPlace) := goodIn_app (goodIn_of _ (by decide +kernel)) ggX2_needed_X2_isPlace
set_option maxRecDepth 20000 in
theorem ggX2_needed_X2_isKind : GoodIn wsX2_needed wsX2_isKind := goodIn_r _ [11, 6, 7, 4, 8] (by decide +kernel) (by decide +kernel)
set_option maxRecDepth 20000 in
theorem gX2_needed_X2_isKind : GoodIn wsX2_needed (va_wsS RX2 25 yX2_isKind wsX2_isKind) := goodIn_app (goodIn_of _ (by decide +kernel)) ggX2_needed_X2_isKind
set_option maxRecDepth 20000 in
theorem ggX2_needed_X2_within : GoodIn wsX2_needed wsX2_within := goodIn_r _ [8] (by decide +kernel) (by decide +kernel)
set_option maxRecDepth 20000 in
theorem gX2_needed_X2_within : GoodIn wsX2_needed (va_wsS RX2 17 yX2_within wsX2_within) := goodIn_app (goodIn_of _ (by decide +kernel)) ggX2_needed_X2_within
set_option maxRecDepth 20000 in
theorem ggX2_needed_X1_add : GoodIn wsX2_needed wsX1_add := goodIn_r _ [15, 16, 17, 18, 19, 20, 21, 74, 75, 76, 77, 78, 79, 80] (by decide +kernel) (by decide +kernel)
set_option maxRecDepth 20000 in
theorem gX2_needed_X1_add_n32 : GoodIn wsX2_needed (wsX1_add) := ggX2_needed_X1_add
set_option maxRecDepth 20000 in
theorem ggX2_needed_X1_setLastArea : GoodIn wsX2_needed wsX1_setLastArea := goodIn_r _ [24, 16, 17, 74, 75, 76, 77, 78, 79, 80] (by decide +kernel) (by decide +kernel)
set_option maxRecDepth 20000 in
theorem gX2_needed_X1_setLastArea_n131 : GoodIn wsX2_needed (wsX1_setLastArea) := ggX2_needed_X1_setLastArea
set_option maxRecDepth 20000 in
theorem ggX2_needed_X1_bendFor : GoodIn wsX2_needed wsX1_bendFor := goodIn_r _ [27, 28, 29, 30, 31, 32, 33, 34, 35, 36, 37, 13, 38, 39, 40, 41, 42, 16, 17, 18, 43, 44, 45, 46, 47, 19, 21, 48, 49, 50, 51, 52, 20, 53, 4, 54, 55, 56, 57, 58, 59, 60, 61, 74, 75, 76, 77, 78, 79, 80, 81, 82, 83, 84, 85] (by decide +kernel) (by decide +kernel)
set_option maxRecDepth 20000 in
theorem gX2_needed_X1_bendFor_n97 : GoodIn wsX2_needed (wsX1_bendFor) := ggX2_needed_X1_bendFor
set_option maxRecDepth 20000 in
theorem ggX2_needed_X2_isOfPlane : GoodIn wsX2_needed wsX2_isOfPlane := goodIn_r _ [64, 6, 7, 4, 8] (by decide +kernel) (by decide +kernel)
set_option maxRecDepth 20000 in
theorem gX2_needed_X2_isOfPlane : GoodIn wsX2_needed (va_wsS RX2 81 yX2_isOfPlane wsX2_isOfPlane) := goodIn_app (goodIn_of _ (by decide +kernel)) ggX2_needed_X2_isOfPlane
set_option maxRecDepth 20000 in
theorem ggX2_needed_X1_dropLast : GoodIn wsX2_needed wsX1_dropLast := goodIn_r _ [67, 16, 74, 75, 76, 77, 78, 79, 80] (by decide +kernel) (by decide +kernel)
set_option maxRecDepth 20000 in
theorem gX2_needed_X1_dropLast_n135 : GoodIn wsX2_needed (wsX1_dropLast) := ggX2_needed_X1_dropLast
theorem dX2_needed_0 : decode cX2_needed 0 = .ok (.iload_n 1, 1) := by decide +kernel
theorem dX2_needed_1 : decode cX2_needed 1 = .ok (.invokestatic 21, 3) := by decide +kernel
theorem dX2_needed_4 : decode cX2_needed 4 = .ok (.ifCond .eq 21, 3) := by decide +kernel
theorem dX2_needed_7 : decode cX2_needed 7 = .ok (.iload_n 2, 1) := by decide +kernel
theorem dX2_needed_8 : decode cX2_needed 8 = .ok (.invokestatic 25, 3) := by decide +kernel
theorem dX2_needed_11 : decode cX2_needed 11 = .ok (.ifCond .eq 14, 3) := by decide +kernel
theorem dX2_needed_14 : decode cX2_needed 14 = .ok (.iload_n 3, 1) := by decide +kernel
theorem dX2_needed_15 : decode cX2_needed 15 = .ok (.iconst 1, 1) := by decide +kernel
theorem dX2_needed_16 : decode cX2_needed 16 = .ok (.sipush 5000, 3) := by decide +kernel
theorem dX2_needed_19 : decode cX2_needed 19 = .ok (.invokestatic 17, 3) := by decide +kernel
theorem dX2_needed_22 : decode cX2_needed 22 = .ok (.ifCond .ne 5, 3) := by decide +kernel
theorem dX2_needed_25 : decode cX2_needed 25 = .ok (.iconst (-1), 1) := by decide +kernel
theorem dX2_needed_26 : decode cX2_needed 26 = .ok (.ireturn, 1) := by decide +kernel
theorem dX2_needed_27 : decode cX2_needed 27 = .ok (.iconst (-1), 1) := by decide +kernel
theorem dX2_needed_28 : decode cX2_needed 28 = .ok (.istore 8, 2) := by decide +kernel
theorem dX2_needed_30 : decode cX2_needed 30 = .ok (.aload_n 0, 1) := by decide +kernel
theorem dX2_needed_31 : decode cX2_needed 31 = .ok (.getfield 10, 3) := by decide +kernel
theorem dX2_needed_34 : decode cX2_needed 34 = .ok (.iconst 0, 1) := by decide +kernel
theorem dX2_needed_35 : decode cX2_needed 35 = .ok (.iload_n 1, 1) := by decide +kernel
theorem dX2_needed_36 : decode cX2_needed 36 = .ok (.iload_n 2, 1) := by decide +kernel
theorem dX2_needed_37 : decode cX2_needed 37 = .ok (.invokevirtual 32, 3) := by decide +kernel
theorem dX2_needed_40 : decode cX2_needed 40 = .ok (.iconst 0, 1) := by decide +kernel
theorem dX2_needed_41 : decode cX2_needed 41 = .ok (.istore 9, 2) := by decide +kernel
theorem dX2_needed_43 : decode cX2_needed 43 = .ok (.iload 9, 2) := by decide +kernel
theorem dX2_needed_45 : decode cX2_needed 45 = .ok (.bipush 20, 2) := by decide +kernel
theorem dX2_needed_47 : decode cX2_needed 47 = .ok (.if_icmp .gt 49, 3) := by decide +kernel
theorem dX2_needed_50 : decode cX2_needed 50 = .ok (.iload 8, 2) := by decide +kernel
theorem dX2_needed_52 : decode cX2_needed 52 = .ok (.iconst (-1), 1) := by decide +kernel
theorem dX2_needed_53 : decode cX2_needed 53 = .ok (.if_icmp .ne 43, 3) := by decide +kernel
theorem dX2_needed_56 : decode cX2_needed 56 = .ok (.aload_n 0, 1) := by decide +kernel
theorem dX2_needed_57 : decode cX2_needed 57 = .ok (.getfield 10, 3) := by decide +kernel
theorem dX2_needed_60 : decode cX2_needed 60 = .ok (.iload 9, 2) := by decide +kernel
theorem dX2_needed_62 : decode cX2_needed 62 = .ok (.iload_n 3, 1) := by decide +kernel
theorem dX2_needed_63 : decode cX2_needed 63 = .ok (.imul, 1) := by decide +kernel
theorem dX2_needed_64 : decode cX2_needed 64 = .ok (.invokevirtual 131, 3) := by decide +kernel
theorem dX2_needed_67 : decode cX2_needed 67 = .ok (.aload_n 0, 1) := by decide +kernel
theorem dX2_needed_68 : decode cX2_needed 68 = .ok (.getfield 10, 3) := by decide +kernel
theorem dX2_needed_71 : decode cX2_needed 71 = .ok (.lload 4, 2) := by decide +kernel
theorem dX2_needed_73 : decode cX2_needed 73 = .ok (.lload 6, 2) := by decide +kernel
theorem dX2_needed_75 : decode cX2_needed 75 = .ok (.invokevirtual 97, 3) := by decide +kernel
theorem dX2_needed_78 : decode cX2_needed 78 = .ok (.invokestatic 81, 3) := by decide +kernel
theorem dX2_needed_81 : decode cX2_needed 81 = .ok (.ifCond .eq 9, 3) := by decide +kernel
theorem dX2_needed_84 : decode cX2_needed 84 = .ok (.iload 9, 2) := by decide +kernel
theorem dX2_needed_86 : decode cX2_needed 86 = .ok (.iload_n 3, 1) := by decide +kernel
theorem dX2_needed_87 : decode cX2_needed 87 = .ok (.imul, 1) := by decide +kernel
theorem dX2_needed_88 : decode cX2_needed 88 = .ok (.istore 8, 2) := by decide +kernel
theorem dX2_needed_90 : decode cX2_needed 90 = .ok (.iinc 9 1, 3) := by decide +kernel
theorem dX2_needed_93 : decode cX2_needed 93 = .ok (.goto (-50), 3) := by decide +kernel
theorem dX2_needed_96 : decode cX2_needed 96 = .ok (.aload_n 0, 1) := by decide +kernel
theorem dX2_needed_97 : decode cX2_needed 97 = .ok (.getfield 10, 3) := by decide +kernel
theorem dX2_needed_100 : decode cX2_needed 100 = .ok (.invokevirtual 135, 3) := by decide +kernel
theorem dX2_needed_103 : decode cX2_needed 103 = .ok (.iload 8, 2) := by decide +kernel
theorem dX2_needed_105 : decode cX2_needed 105 = .ok (.ireturn, 1) := by decide +kernel
set_option maxRecDepth 20000 in
theorem ggX2_count_X1_allAreas : GoodIn wsX2_count wsX1_allAreas := goodIn_r _ [5, 6, 7, 18, 19, 20, 21, 22, 23, 24] (by decide +kernel) (by decide +kernel)
set_option maxRecDepth 20000 in
theorem gX2_count_X1_allAreas_n138 : GoodIn wsX2_count (wsX1_allAreas) := ggX2_count_X1_allAreas
set_option maxRecDepth 20000 in
theorem ggX2_count_X2_within : GoodIn wsX2_count wsX2_within := goodIn_r _ [11] (by decide +kernel) (by decide +kernel)
set_option maxRecDepth 20000 in
theorem gX2_count_X2_within : GoodIn wsX2_count (va_wsS RX2 17 yX2_within wsX2_within) := goodIn_app (goodIn_of _ (by decide +kernel)) ggX2_count_X2_within
theorem dX2_count_0 : decode cX2_count 0 = .ok (.iload_n 1, 1) := by decide +kernel
theorem dX2_count_1 : decode cX2_count 1 = .ok (.ifCond .ne 11, 3) := by decide +kernel
theorem dX2_count_4 : decode cX2_count 4 = .ok (.aload_n 0, 1) := by decide +kernel
theorem dX2_count_5 : decode cX2_count 5 = .ok (.getfield 10, 3) := by decide +kernel
theorem dX2_count_8 : decode cX2_count 8 = .ok (.getfield 28, 3) := by decide +kernel
theorem dX2_count_11 : decode cX2_count 11 = .ok (.ireturn, 1) := by decide +kernel
theorem dX2_count_12 : decode cX2_count 12 = .ok (.iload_n 1, 1) := by decide +kernel
theorem dX2_count_13 : decode cX2_count 13 = .ok (.iconst 1, 1) := by decide +kernel
theorem dX2_count_14 : decode cX2_count 14 = .ok (.if_icmp .ne 11, 3) := by decide +kernel
theorem dX2_count_17 : decode cX2_count 17 = .ok (.aload_n 0, 1) := by decide +kernel
theorem dX2_count_18 : decode cX2_count 18 = .ok (.getfield 10, 3) := by decide +kernel
theorem dX2_count_21 : decode cX2_count 21 = .ok (.invokevirtual 138, 3) := by decide +kernel
theorem dX2_count_24 : decode cX2_count 24 = .ok (.ireturn, 1) := by decide +kernel
theorem dX2_count_25 : decode cX2_count 25 = .ok (.iload_n 1, 1) := by decide +kernel
theorem dX2_count_26 : decode cX2_count 26 = .ok (.iconst 2, 1) := by decide +kernel
theorem dX2_count_27 : decode cX2_count 27 = .ok (.iconst 5, 1) := by decide +kernel
theorem dX2_count_28 : decode cX2_count 28 = .ok (.invokestatic 17, 3) := by decide +kernel
theorem dX2_count_31 : decode cX2_count 31 = .ok (.ifCond .eq 20, 3) := by decide +kernel
theorem dX2_count_34 : decode cX2_count 34 = .ok (.aload_n 0, 1) := by decide +kernel
theorem dX2_count_35 : decode cX2_count 35 = .ok (.getfield 10, 3) := by decide +kernel
theorem dX2_count_38 : decode cX2_count 38 = .ok (.getfield 45, 3) := by decide +kernel
theorem dX2_count_41 : decode cX2_count 41 = .ok (.getfield 142, 3) := by decide +kernel
theorem dX2_count_44 : decode cX2_count 44 = .ok (.iload_n 1, 1) := by decide +kernel
theorem dX2_count_45 : decode cX2_count 45 = .ok (.iconst 2, 1) := by decide +kernel
theorem dX2_count_46 : decode cX2_count 46 = .ok (.isub, 1) := by decide +kernel
theorem dX2_count_47 : decode cX2_count 47 = .ok (.iaload, 1) := by decide +kernel
theorem dX2_count_48 : decode cX2_count 48 = .ok (.goto 4, 3) := by decide +kernel
theorem dX2_count_51 : decode cX2_count 51 = .ok (.iconst (-1), 1) := by decide +kernel
theorem dX2_count_52 : decode cX2_count 52 = .ok (.ireturn, 1) := by decide +kernel
theorem dX2_within_0 : decode cX2_within 0 = .ok (.iload_n 0, 1) := by decide +kernel
theorem dX2_within_1 : decode cX2_within 1 = .ok (.iload_n 1, 1) := by decide +kernel
theorem dX2_within_2 : decode cX2_within 2 = .ok (.if_icmp .lt 12, 3) := by decide +kernel
theorem dX2_within_5 : decode cX2_within 5 = .ok (.iload_n 0, 1) := by decide +kernel
theorem dX2_within_6 : decode cX2_within 6 = .ok (.iload_n 2, 1) := by decide +kernel
theorem dX2_within_7 : decode cX2_within 7 = .ok (.if_icmp .gt 7, 3) := by decide +kernel
theorem dX2_within_10 : decode cX2_within 10 = .ok (.iconst 1, 1) := by decide +kernel
theorem dX2_within_11 : decode cX2_within 11 = .ok (.goto 4, 3) := by decide +kernel
theorem dX2_within_14 : decode cX2_within 14 = .ok (.iconst 0, 1) := by decide +kernel
theorem dX2_within_15 : decode cX2_within 15 = .ok (.ireturn, 1) := by decide +kernel
set_option maxRecDepth 20000 in
theorem ggX2_isKind_X2_within : GoodIn wsX2_isKind wsX2_within := goodIn_r _ [4] (by decide +kernel) (by decide +kernel)
set_option maxRecDepth 20000 in
theorem gX2_isKind_X2_within : GoodIn wsX2_isKind (va_wsS RX2 17 yX2_within wsX2_within) := goodIn_app (goodIn_of _ (by decide +kernel)) ggX2_isKind_X2_within
theorem dX2_isKind_0 : decode cX2_isKind 0 = .ok (.iload_n 0, 1) := by decide +kernel
theorem dX2_isKind_1 : decode cX2_isKind 1 = .ok (.iconst 0, 1) := by decide +kernel
theorem dX2_isKind_2 : decode cX2_isKind 2 = .ok (.iconst 3, 1) := by decide +kernel
theorem dX2_isKind_3 : decode cX2_isKind 3 = .ok (.invokestatic 17, 3) := by decide +kernel
theorem dX2_isKind_6 : decode cX2_isKind 6 = .ok (.ireturn, 1) := by decide +kernel
set_option maxRecDepth 20000 in
theorem ggX2_isPlace_X2_within : GoodIn wsX2_isPlace wsX2_within := goodIn_r _ [4] (by decide +kernel) (by decide +kernel)
set_option maxRecDepth 20000 in
theorem gX2_isPlace_X2_within : GoodIn wsX2_isPlace (va_wsS RX2 17 yX2_within wsX2_within) := goodIn_app (goodIn_of _ (by decide +kernel)) ggX2_isPlace_X2_within
theorem dX2_isPlace_0 : decode cX2_isPlace 0 = .ok (.iload_n 0, 1) := by decide +kernel
theorem dX2_isPlace_1 : decode cX2_isPlace 1 = .ok (.sipush (-2000), 3) := by decide +kernel
theorem dX2_isPlace_4 : decode cX2_isPlace 4 = .ok (.sipush 2000, 3) := by decide +kernel
theorem dX2_isPlace_7 : decode cX2_isPlace 7 = .ok (.invokestatic 17, 3) := by decide +kernel
theorem dX2_isPlace_10 : decode cX2_isPlace 10 = .ok (.ireturn, 1) := by decide +kernel
set_option maxRecDepth 20000 in
theorem ggX2_isToldStrain_X2_within : GoodIn wsX2_isToldStrain wsX2_within := goodIn_r _ [4] (by decide +kernel) (by decide +kernel)
set_option maxRecDepth 20000 in
theorem gX2_isToldStrain_X2_within : GoodIn wsX2_isToldStrain (va_wsS RX2 17 yX2_within wsX2_within) := goodIn_app (goodIn_of _ (by decide +kernel)) ggX2_isToldStrain_X2_within
theorem dX2_isToldStrain_0 : decode cX2_isToldStrain 0 = .ok (.iload_n 0, 1) := by decide +kernel
theorem dX2_isToldStrain_1 : decode cX2_isToldStrain 1 = .ok (.sipush (-30000), 3) := by decide +kernel
theorem dX2_isToldStrain_4 : decode cX2_isToldStrain 4 = .ok (.sipush 30000, 3) := by decide +kernel
theorem dX2_isToldStrain_7 : decode cX2_isToldStrain 7 = .ok (.invokestatic 17, 3) := by decide +kernel
theorem dX2_isToldStrain_10 : decode cX2_isToldStrain 10 = .ok (.ireturn, 1) := by decide +kernel
set_option maxRecDepth 20000 in
theorem ggX2_isOfPlane_X2_within : GoodIn wsX2_isOfPlane wsX2_within := goodIn_r _ [4] (by decide +kernel) (by decide +kernel)
set_option maxRecDepth 20000 in
theorem gX2_isOfPlane_X2_within : GoodIn wsX2_isOfPlane (va_wsS RX2 17 yX2_within wsX2_within) := goodIn_app (goodIn_of _ (by decide +kernel)) ggX2_isOfPlane_X2_within
theorem dX2_isOfPlane_0 : decode cX2_isOfPlane 0 = .ok (.iload_n 0, 1) := by decide +kernel
theorem dX2_isOfPlane_1 : decode cX2_isOfPlane 1 = .ok (.sipush (-20000), 3) := by decide +kernel
theorem dX2_isOfPlane_4 : decode cX2_isOfPlane 4 = .ok (.sipush 20000, 3) := by decide +kernel
theorem dX2_isOfPlane_7 : decode cX2_isOfPlane 7 = .ok (.invokestatic 17, 3) := by decide +kernel
theorem dX2_isOfPlane_10 : decode cX2_isOfPlane 10 = .ok (.ireturn, 1) := by decide +kernel
theorem dX2_isSum_0 : decode cX2_isSum 0 = .ok (.iload_n 0, 1) := by decide +kernel
theorem dX2_isSum_1 : decode cX2_isSum 1 = .ok (.ifCond .eq 8, 3) := by decide +kernel
theorem dX2_isSum_4 : decode cX2_isSum 4 = .ok (.iload_n 0, 1) := by decide +kernel
theorem dX2_isSum_5 : decode cX2_isSum 5 = .ok (.iconst 1, 1) := by decide +kernel
theorem dX2_isSum_6 : decode cX2_isSum 6 = .ok (.if_icmp .ne 7, 3) := by decide +kernel
theorem dX2_isSum_9 : decode cX2_isSum 9 = .ok (.iconst 1, 1) := by decide +kernel
theorem dX2_isSum_10 : decode cX2_isSum 10 = .ok (.goto 4, 3) := by decide +kernel
theorem dX2_isSum_13 : decode cX2_isSum 13 = .ok (.iconst 0, 1) := by decide +kernel
theorem dX2_isSum_14 : decode cX2_isSum 14 = .ok (.ireturn, 1) := by decide +kernel
set_option maxRecDepth 20000 in
theorem ggX2_isBendStep_X2_within : GoodIn wsX2_isBendStep wsX2_within := goodIn_r _ [4] (by decide +kernel) (by decide +kernel)
set_option maxRecDepth 20000 in
theorem gX2_isBendStep_X2_within : GoodIn wsX2_isBendStep (va_wsS RX2 17 yX2_within wsX2_within) := goodIn_app (goodIn_of _ (by decide +kernel)) ggX2_isBendStep_X2_within
theorem dX2_isBendStep_0 : decode cX2_isBendStep 0 = .ok (.iload_n 0, 1) := by decide +kernel
theorem dX2_isBendStep_1 : decode cX2_isBendStep 1 = .ok (.iconst 1, 1) := by decide +kernel
theorem dX2_isBendStep_2 : decode cX2_isBendStep 2 = .ok (.sipush 1000, 3) := by decide +kernel
theorem dX2_isBendStep_5 : decode cX2_isBendStep 5 = .ok (.invokestatic 17, 3) := by decide +kernel
theorem dX2_isBendStep_8 : decode cX2_isBendStep 8 = .ok (.ireturn, 1) := by decide +kernel
theorem dX2_share_0 : decode cX2_share 0 = .ok (.lload 4, 2) := by decide +kernel
theorem dX2_share_2 : decode cX2_share 2 = .ok (.lconst 0, 1) := by decide +kernel
theorem dX2_share_3 : decode cX2_share 3 = .ok (.lcmp, 1) := by decide +kernel
theorem dX2_share_4 : decode cX2_share 4 = .ok (.ifCond .ne 7, 3) := by decide +kernel
theorem dX2_share_7 : decode cX2_share 7 = .ok (.iconst 0, 1) := by decide +kernel
theorem dX2_share_8 : decode cX2_share 8 = .ok (.goto 10, 3) := by decide +kernel
theorem dX2_share_11 : decode cX2_share 11 = .ok (.lload_n 0, 1) := by decide +kernel
theorem dX2_share_12 : decode cX2_share 12 = .ok (.lload_n 2, 1) := by decide +kernel
theorem dX2_share_13 : decode cX2_share 13 = .ok (.lmul, 1) := by decide +kernel
theorem dX2_share_14 : decode cX2_share 14 = .ok (.lload 4, 2) := by decide +kernel
theorem dX2_share_16 : decode cX2_share 16 = .ok (.ldiv, 1) := by decide +kernel
theorem dX2_share_17 : decode cX2_share 17 = .ok (.l2i, 1) := by decide +kernel
theorem dX2_share_18 : decode cX2_share 18 = .ok (.ireturn, 1) := by decide +kernel
end
section
theorem dX3_init_0 : decode cX3_init 0 = .ok (.aload_n 0, 1) := by decide +kernel
theorem dX3_init_1 : decode cX3_init 1 = .ok (.invokespecial 1, 3) := by decide +kernel
theorem dX3_init_4 : decode cX3_init 4 = .ok (.aload_n 0, 1) := by decide +kernel
theorem dX3_init_5 : decode cX3_init 5 = .ok (.bipush 41, 2) := by decide +kernel
theorem dX3_init_7 : decode cX3_init 7 = .ok (.newarray .int, 2) := by decide +kernel
theorem dX3_init_9 : decode cX3_init 9 = .ok (.putfield 7, 3) := by decide +kernel
theorem dX3_init_12 : decode cX3_init 12 = .ok (.aload_n 0, 1) := by decide +kernel
theorem dX3_init_13 : decode cX3_init 13 = .ok (.bipush 41, 2) := by decide +kernel
theorem dX3_init_15 : decode cX3_init 15 = .ok (.newarray .int, 2) := by decide +kernel
theorem dX3_init_17 : decode cX3_init 17 = .ok (.putfield 13, 3) := by decide +kernel
theorem dX3_init_20 : decode cX3_init 20 = .ok (.aload_n 0, 1) := by decide +kernel
theorem dX3_init_21 : decode cX3_init 21 = .ok (.bipush 41, 2) := by decide +kernel
theorem dX3_init_23 : decode cX3_init 23 = .ok (.newarray .int, 2) := by decide +kernel
theorem dX3_init_25 : decode cX3_init 25 = .ok (.putfield 16, 3) := by decide +kernel
theorem dX3_init_28 : decode cX3_init 28 = .ok (.aload_n 0, 1) := by decide +kernel
theorem dX3_init_29 : decode cX3_init 29 = .ok (.bipush 41, 2) := by decide +kernel
theorem dX3_init_31 : decode cX3_init 31 = .ok (.newarray .int, 2) := by decide +kernel
theorem dX3_init_33 : decode cX3_init 33 = .ok (.putfield 19, 3) := by decide +kernel
theorem dX3_init_36 : decode cX3_init 36 = .ok (.aload_n 0, 1) := by decide +kernel
theorem dX3_init_37 : decode cX3_init 37 = .ok (.bipush 41, 2) := by decide +kernel
theorem dX3_init_39 : decode cX3_init 39 = .ok (.newarray .int, 2) := by decide +kernel
theorem dX3_init_41 : decode cX3_init 41 = .ok (.putfield 22, 3) := by decide +kernel
theorem dX3_init_44 : decode cX3_init 44 = .ok (.aload_n 0, 1) := by decide +kernel
theorem dX3_init_45 : decode cX3_init 45 = .ok (.iconst 4, 1) := by decide +kernel
theorem dX3_init_46 : decode cX3_init 46 = .ok (.newarray .int, 2) := by decide +kernel
theorem dX3_init_48 : decode cX3_init 48 = .ok (.putfield 25, 3) := by decide +kernel
theorem dX3_init_51 : decode cX3_init 51 = .ok (.aload_n 0, 1) := by decide +kernel
theorem dX3_init_52 : decode cX3_init 52 = .ok (.bipush 32, 2) := by decide +kernel
theorem dX3_init_54 : decode cX3_init 54 = .ok (.newarray .int, 2) := by decide +kernel
theorem dX3_init_56 : decode cX3_init 56 = .ok (.putfield 28, 3) := by decide +kernel
theorem dX3_init_59 : decode cX3_init 59 = .ok (.aload_n 0, 1) := by decide +kernel
theorem dX3_init_60 : decode cX3_init 60 = .ok (.bipush 32, 2) := by decide +kernel
theorem dX3_init_62 : decode cX3_init 62 = .ok (.newarray .int, 2) := by decide +kernel
theorem dX3_init_64 : decode cX3_init 64 = .ok (.putfield 31, 3) := by decide +kernel
theorem dX3_init_67 : decode cX3_init 67 = .ok (.aload_n 0, 1) := by decide +kernel
theorem dX3_init_68 : decode cX3_init 68 = .ok (.iconst 4, 1) := by decide +kernel
theorem dX3_init_69 : decode cX3_init 69 = .ok (.newarray .int, 2) := by decide +kernel
theorem dX3_init_71 : decode cX3_init 71 = .ok (.putfield 34, 3) := by decide +kernel
theorem dX3_init_74 : decode cX3_init 74 = .ok (.aload_n 0, 1) := by decide +kernel
theorem dX3_init_75 : decode cX3_init 75 = .ok (.iconst 4, 1) := by decide +kernel
theorem dX3_init_76 : decode cX3_init 76 = .ok (.newarray .int, 2) := by decide +kernel
theorem dX3_init_78 : decode cX3_init 78 = .ok (.putfield 37, 3) := by decide +kernel
theorem dX3_init_81 : decode cX3_init 81 = .ok (.return_, 1) := by decide +kernel
theorem dX3_thrown_0 : decode cX3_thrown 0 = .ok (.aload_n 0, 1) := by decide +kernel
theorem dX3_thrown_1 : decode cX3_thrown 1 = .ok (.getfield 40, 3) := by decide +kernel
theorem dX3_thrown_4 : decode cX3_thrown 4 = .ok (.ireturn, 1) := by decide +kernel
theorem dX3_within_0 : decode cX3_within 0 = .ok (.iload_n 0, 1) := by decide +kernel
theorem dX3_within_1 : decode cX3_within 1 = .ok (.iload_n 1, 1) := by decide +kernel
theorem dX3_within_2 : decode cX3_within 2 = .ok (.if_icmp .lt 12, 3) := by decide +kernel
theorem dX3_within_5 : decode cX3_within 5 = .ok (.iload_n 0, 1) := by decide +kernel
theorem dX3_within_6 : decode cX3_within 6 = .ok (.iload_n 2, 1) := by decide +kernel
theorem dX3_within_7 : decode cX3_within 7 = .ok (.if_icmp .gt 7, 3) := by decide +kernel
theorem dX3_within_10 : decode cX3_within 10 = .ok (.iconst 1, 1) := by decide +kernel
theorem dX3_within_11 : decode cX3_within 11 = .ok (.goto 4, 3) := by decide +kernel
theorem dX3_within_14 : decode cX3_within 14 = .ok (.iconst 0, 1) := by decide +kernel
theorem dX3_within_15 : decode cX3_within 15 = .ok (.ireturn, 1) := by decide +kernel
theorem dX3_isFibre_0 : decode cX3_isFibre 0 = .ok (.iload_n 1, 1) := by decide +kernel
theorem dX3_isFibre_1 : decode cX3_isFibre 1 = .ok (.ifCond .lt 15, 3) := by decide +kernel
theorem dX3_isFibre_4 : decode cX3_isFibre 4 = .ok (.iload_n 1, 1) := by decide +kernel
theorem dX3_isFibre_5 : decode cX3_isFibre 5 = .ok (.aload_n 0, 1) := by decide +kernel
theorem dX3_isFibre_6 : decode cX3_isFibre 6 = .ok (.getfield 44, 3) := by decide +kernel
theorem dX3_isFibre_9 : decode cX3_isFibre 9 = .ok (.if_icmp .ge 7, 3) := by decide +kernel
theorem dX3_isFibre_12 : decode cX3_isFibre 12 = .ok (.iconst 1, 1) := by decide +kernel
theorem dX3_isFibre_13 : decode cX3_isFibre 13 = .ok (.goto 4, 3) := by decide +kernel
theorem dX3_isFibre_16 : decode cX3_isFibre 16 = .ok (.iconst 0, 1) := by decide +kernel
theorem dX3_isFibre_17 : decode cX3_isFibre 17 = .ok (.ireturn, 1) := by decide +kernel
theorem dX3_isKind_0 : decode cX3_isKind 0 = .ok (.iload_n 0, 1) := by decide +kernel
theorem dX3_isKind_1 : decode cX3_isKind 1 = .ok (.ifCond .lt 12, 3) := by decide +kernel
theorem dX3_isKind_4 : decode cX3_isKind 4 = .ok (.iload_n 0, 1) := by decide +kernel
theorem dX3_isKind_5 : decode cX3_isKind 5 = .ok (.iconst 4, 1) := by decide +kernel
theorem dX3_isKind_6 : decode cX3_isKind 6 = .ok (.if_icmp .ge 7, 3) := by decide +kernel
theorem dX3_isKind_9 : decode cX3_isKind 9 = .ok (.iconst 1, 1) := by decide +kernel
theorem dX3_isKind_10 : decode cX3_isKind 10 = .ok (.goto 4, 3) := by decide +kernel
theorem dX3_isKind_13 : decode cX3_isKind 13 = .ok (.iconst 0, 1) := by decide +kernel
theorem dX3_isKind_14 : decode cX3_isKind 14 = .ok (.ireturn, 1) := by decide +kernel
theorem dX3_lay_0 : decode cX3_lay 0 = .ok (.aload_n 0, 1) := by decide +kernel
theorem dX3_lay_1 : decode cX3_lay 1 = .ok (.getfield 7, 3) := by decide +kernel
theorem dX3_lay_4 : decode cX3_lay 4 = .ok (.iload_n 1, 1) := by decide +kernel
theorem dX3_lay_5 : decode cX3_lay 5 = .ok (.iload_n 2, 1) := by decide +kernel
theorem dX3_lay_6 : decode cX3_lay 6 = .ok (.iastore, 1) := by decide +kernel
theorem dX3_lay_7 : decode cX3_lay 7 = .ok (.aload_n 0, 1) := by decide +kernel
theorem dX3_lay_8 : decode cX3_lay 8 = .ok (.getfield 13, 3) := by decide +kernel
theorem dX3_lay_11 : decode cX3_lay 11 = .ok (.iload_n 1, 1) := by decide +kernel
theorem dX3_lay_12 : decode cX3_lay 12 = .ok (.iload_n 3, 1) := by decide +kernel
theorem dX3_lay_13 : decode cX3_lay 13 = .ok (.iastore, 1) := by decide +kernel
theorem dX3_lay_14 : decode cX3_lay 14 = .ok (.aload_n 0, 1) := by decide +kernel
theorem dX3_lay_15 : decode cX3_lay 15 = .ok (.getfield 16, 3) := by decide +kernel
theorem dX3_lay_18 : decode cX3_lay 18 = .ok (.iload_n 1, 1) := by decide +kernel
theorem dX3_lay_19 : decode cX3_lay 19 = .ok (.iload 4, 2) := by decide +kernel
theorem dX3_lay_21 : decode cX3_lay 21 = .ok (.iastore, 1) := by decide +kernel
theorem dX3_lay_22 : decode cX3_lay 22 = .ok (.aload_n 0, 1) := by decide +kernel
theorem dX3_lay_23 : decode cX3_lay 23 = .ok (.getfield 19, 3) := by decide +kernel
theorem dX3_lay_26 : decode cX3_lay 26 = .ok (.iload_n 1, 1) := by decide +kernel
theorem dX3_lay_27 : decode cX3_lay 27 = .ok (.iconst 0, 1) := by decide +kernel
theorem dX3_lay_28 : decode cX3_lay 28 = .ok (.iastore, 1) := by decide +kernel
theorem dX3_lay_29 : decode cX3_lay 29 = .ok (.aload_n 0, 1) := by decide +kernel
theorem dX3_lay_30 : decode cX3_lay 30 = .ok (.getfield 22, 3) := by decide +kernel
theorem dX3_lay_33 : decode cX3_lay 33 = .ok (.iload_n 1, 1) := by decide +kernel
theorem dX3_lay_34 : decode cX3_lay 34 = .ok (.bipush 100, 2) := by decide +kernel
theorem dX3_lay_36 : decode cX3_lay 36 = .ok (.iastore, 1) := by decide +kernel
theorem dX3_lay_37 : decode cX3_lay 37 = .ok (.return_, 1) := by decide +kernel
set_option maxRecDepth 20000 in
theorem ggX3_fibre_X3_within : GoodIn wsX3_fibre wsX3_within := goodIn_r _ [8] (by decide +kernel) (by decide +kernel)
set_option maxRecDepth 20000 in
theorem gX3_fibre_X3_within : GoodIn wsX3_fibre (va_wsS RX3 48 yX3_within wsX3_within) := goodIn_app (goodIn_of _ (by decide +kernel)) ggX3_fibre_X3_within
set_option maxRecDepth 20000 in
theorem ggX3_fibre_X3_isKind : GoodIn wsX3_fibre wsX3_isKind := goodIn_r _ [11] (by decide +kernel) (by decide +kernel)
set_option maxRecDepth 20000 in
theorem gX3_fibre_X3_isKind : GoodIn wsX3_fibre (va_wsS RX3 52 yX3_isKind wsX3_isKind) := goodIn_app (goodIn_of _ (by decide +kernel)) ggX3_fibre_X3_isKind
set_option maxRecDepth 20000 in
theorem ggX3_fibre_X3_lay : GoodIn wsX3_fibre wsX3_lay := goodIn_r _ [15, 16, 17, 18, 19, 20, 21, 22, 23, 24, 25, 26, 27, 28, 29, 30, 31, 32, 33, 34, 35, 36, 37, 38, 39] (by decide +kernel) (by decide +kernel)
set_option maxRecDepth 20000 in
theorem gX3_fibre_X3_lay : GoodIn wsX3_fibre (wsV RX3 56 RX3 yX3_lay wsX3_lay) := goodIn_app (goodIn_of _ (by decide +kernel)) ggX3_fibre_X3_lay
theorem dX3_fibre_0 : decode cX3_fibre 0 = .ok (.aload_n 0, 1) := by decide +kernel
theorem dX3_fibre_1 : decode cX3_fibre 1 = .ok (.iconst 0, 1) := by decide +kernel
theorem dX3_fibre_2 : decode cX3_fibre 2 = .ok (.putfield 40, 3) := by decide +kernel
theorem dX3_fibre_5 : decode cX3_fibre 5 = .ok (.iload_n 1, 1) := by decide +kernel
theorem dX3_fibre_6 : decode cX3_fibre 6 = .ok (.iconst 0, 1) := by decide +kernel
theorem dX3_fibre_7 : decode cX3_fibre 7 = .ok (.ldc 47, 2) := by decide +kernel
theorem dX3_fibre_9 : decode cX3_fibre 9 = .ok (.invokestatic 48, 3) := by decide +kernel
theorem dX3_fibre_12 : decode cX3_fibre 12 = .ok (.ifCond .eq 32, 3) := by decide +kernel
theorem dX3_fibre_15 : decode cX3_fibre 15 = .ok (.iload_n 2, 1) := by decide +kernel
theorem dX3_fibre_16 : decode cX3_fibre 16 = .ok (.sipush (-2000), 3) := by decide +kernel
theorem dX3_fibre_19 : decode cX3_fibre 19 = .ok (.sipush 2000, 3) := by decide +kernel
theorem dX3_fibre_22 : decode cX3_fibre 22 = .ok (.invokestatic 48, 3) := by decide +kernel
theorem dX3_fibre_25 : decode cX3_fibre 25 = .ok (.ifCond .eq 19, 3) := by decide +kernel
theorem dX3_fibre_28 : decode cX3_fibre 28 = .ok (.iload_n 3, 1) := by decide +kernel
theorem dX3_fibre_29 : decode cX3_fibre 29 = .ok (.invokestatic 52, 3) := by decide +kernel
theorem dX3_fibre_32 : decode cX3_fibre 32 = .ok (.ifCond .eq 12, 3) := by decide +kernel
theorem dX3_fibre_35 : decode cX3_fibre 35 = .ok (.aload_n 0, 1) := by decide +kernel
theorem dX3_fibre_36 : decode cX3_fibre 36 = .ok (.getfield 44, 3) := by decide +kernel
theorem dX3_fibre_39 : decode cX3_fibre 39 = .ok (.bipush 40, 2) := by decide +kernel
theorem dX3_fibre_41 : decode cX3_fibre 41 = .ok (.if_icmp .ne 5, 3) := by decide +kernel
theorem dX3_fibre_44 : decode cX3_fibre 44 = .ok (.iconst (-1), 1) := by decide +kernel
theorem dX3_fibre_45 : decode cX3_fibre 45 = .ok (.ireturn, 1) := by decide +kernel
theorem dX3_fibre_46 : decode cX3_fibre 46 = .ok (.aload_n 0, 1) := by decide +kernel
theorem dX3_fibre_47 : decode cX3_fibre 47 = .ok (.aload_n 0, 1) := by decide +kernel
theorem dX3_fibre_48 : decode cX3_fibre 48 = .ok (.getfield 44, 3) := by decide +kernel
theorem dX3_fibre_51 : decode cX3_fibre 51 = .ok (.iload_n 1, 1) := by decide +kernel
theorem dX3_fibre_52 : decode cX3_fibre 52 = .ok (.iload_n 2, 1) := by decide +kernel
theorem dX3_fibre_53 : decode cX3_fibre 53 = .ok (.iload_n 3, 1) := by decide +kernel
theorem dX3_fibre_54 : decode cX3_fibre 54 = .ok (.invokevirtual 56, 3) := by decide +kernel
theorem dX3_fibre_57 : decode cX3_fibre 57 = .ok (.aload_n 0, 1) := by decide +kernel
theorem dX3_fibre_58 : decode cX3_fibre 58 = .ok (.dup, 1) := by decide +kernel
theorem dX3_fibre_59 : decode cX3_fibre 59 = .ok (.getfield 44, 3) := by decide +kernel
theorem dX3_fibre_62 : decode cX3_fibre 62 = .ok (.iconst 1, 1) := by decide +kernel
theorem dX3_fibre_63 : decode cX3_fibre 63 = .ok (.iadd, 1) := by decide +kernel
theorem dX3_fibre_64 : decode cX3_fibre 64 = .ok (.putfield 44, 3) := by decide +kernel
theorem dX3_fibre_67 : decode cX3_fibre 67 = .ok (.aload_n 0, 1) := by decide +kernel
theorem dX3_fibre_68 : decode cX3_fibre 68 = .ok (.iconst 0, 1) := by decide +kernel
theorem dX3_fibre_69 : decode cX3_fibre 69 = .ok (.putfield 60, 3) := by decide +kernel
theorem dX3_fibre_72 : decode cX3_fibre 72 = .ok (.aload_n 0, 1) := by decide +kernel
theorem dX3_fibre_73 : decode cX3_fibre 73 = .ok (.getfield 44, 3) := by decide +kernel
theorem dX3_fibre_76 : decode cX3_fibre 76 = .ok (.iconst 1, 1) := by decide +kernel
theorem dX3_fibre_77 : decode cX3_fibre 77 = .ok (.isub, 1) := by decide +kernel
theorem dX3_fibre_78 : decode cX3_fibre 78 = .ok (.ireturn, 1) := by decide +kernel
set_option maxRecDepth 20000 in
theorem ggX3_point_X3_isKind : GoodIn wsX3_point wsX3_isKind := goodIn_r _ [11] (by decide +kernel) (by decide +kernel)
set_option maxRecDepth 20000 in
theorem gX3_point_X3_isKind : GoodIn wsX3_point (va_wsS RX3 52 yX3_isKind wsX3_isKind) := goodIn_app (goodIn_of _ (by decide +kernel)) ggX3_point_X3_isKind
set_option maxRecDepth 20000 in
theorem ggX3_point_X3_within : GoodIn wsX3_point wsX3_within := goodIn_r _ [14] (by decide +kernel) (by decide +kernel)
set_option maxRecDepth 20000 in
theorem gX3_point_X3_within : GoodIn wsX3_point (va_wsS RX3 48 yX3_within wsX3_within) := goodIn_app (goodIn_of _ (by decide +kernel)) ggX3_point_X3_within
theorem dX3_point_0 : decode cX3_point 0 = .ok (.aload_n 0, 1) := by decide +kernel
theorem dX3_point_1 : decode cX3_point 1 = .ok (.iconst 0, 1) := by decide +kernel
theorem dX3_point_2 : decode cX3_point 2 = .ok (.putfield 40, 3) := by decide +kernel
theorem dX3_point_5 : decode cX3_point 5 = .ok (.iload_n 1, 1) := by decide +kernel
theorem dX3_point_6 : decode cX3_point 6 = .ok (.invokestatic 52, 3) := by decide +kernel
theorem dX3_point_9 : decode cX3_point 9 = .ok (.ifCond .eq 38, 3) := by decide +kernel
theorem dX3_point_12 : decode cX3_point 12 = .ok (.iload_n 2, 1) := by decide +kernel
theorem dX3_point_13 : decode cX3_point 13 = .ok (.sipush (-30000), 3) := by decide +kernel
theorem dX3_point_16 : decode cX3_point 16 = .ok (.sipush 30000, 3) := by decide +kernel
theorem dX3_point_19 : decode cX3_point 19 = .ok (.invokestatic 48, 3) := by decide +kernel
theorem dX3_point_22 : decode cX3_point 22 = .ok (.ifCond .eq 25, 3) := by decide +kernel
theorem dX3_point_25 : decode cX3_point 25 = .ok (.iload_n 3, 1) := by decide +kernel
theorem dX3_point_26 : decode cX3_point 26 = .ok (.ldc 64, 2) := by decide +kernel
theorem dX3_point_28 : decode cX3_point 28 = .ok (.ldc 65, 2) := by decide +kernel
theorem dX3_point_30 : decode cX3_point 30 = .ok (.invokestatic 48, 3) := by decide +kernel
theorem dX3_point_33 : decode cX3_point 33 = .ok (.ifCond .eq 14, 3) := by decide +kernel
theorem dX3_point_36 : decode cX3_point 36 = .ok (.aload_n 0, 1) := by decide +kernel
theorem dX3_point_37 : decode cX3_point 37 = .ok (.getfield 25, 3) := by decide +kernel
theorem dX3_point_40 : decode cX3_point 40 = .ok (.iload_n 1, 1) := by decide +kernel
theorem dX3_point_41 : decode cX3_point 41 = .ok (.iaload, 1) := by decide +kernel
theorem dX3_point_42 : decode cX3_point 42 = .ok (.bipush 8, 2) := by decide +kernel
theorem dX3_point_44 : decode cX3_point 44 = .ok (.if_icmp .ne 5, 3) := by decide +kernel
theorem dX3_point_47 : decode cX3_point 47 = .ok (.iconst 0, 1) := by decide +kernel
theorem dX3_point_48 : decode cX3_point 48 = .ok (.ireturn, 1) := by decide +kernel
theorem dX3_point_49 : decode cX3_point 49 = .ok (.bipush 8, 2) := by decide +kernel
theorem dX3_point_51 : decode cX3_point 51 = .ok (.iload_n 1, 1) := by decide +kernel
theorem dX3_point_52 : decode cX3_point 52 = .ok (.imul, 1) := by decide +kernel
theorem dX3_point_53 : decode cX3_point 53 = .ok (.aload_n 0, 1) := by decide +kernel
theorem dX3_point_54 : decode cX3_point 54 = .ok (.getfield 25, 3) := by decide +kernel
theorem dX3_point_57 : decode cX3_point 57 = .ok (.iload_n 1, 1) := by decide +kernel
theorem dX3_point_58 : decode cX3_point 58 = .ok (.iaload, 1) := by decide +kernel
theorem dX3_point_59 : decode cX3_point 59 = .ok (.iadd, 1) := by decide +kernel
theorem dX3_point_60 : decode cX3_point 60 = .ok (.istore 4, 2) := by decide +kernel
theorem dX3_point_62 : decode cX3_point 62 = .ok (.aload_n 0, 1) := by decide +kernel
theorem dX3_point_63 : decode cX3_point 63 = .ok (.getfield 25, 3) := by decide +kernel
theorem dX3_point_66 : decode cX3_point 66 = .ok (.iload_n 1, 1) := by decide +kernel
theorem dX3_point_67 : decode cX3_point 67 = .ok (.iaload, 1) := by decide +kernel
theorem dX3_point_68 : decode cX3_point 68 = .ok (.ifCond .le 31, 3) := by decide +kernel
theorem dX3_point_71 : decode cX3_point 71 = .ok (.iload_n 2, 1) := by decide +kernel
theorem dX3_point_72 : decode cX3_point 72 = .ok (.aload_n 0, 1) := by decide +kernel
theorem dX3_point_73 : decode cX3_point 73 = .ok (.getfield 28, 3) := by decide +kernel
theorem dX3_point_76 : decode cX3_point 76 = .ok (.iload 4, 2) := by decide +kernel
theorem dX3_point_78 : decode cX3_point 78 = .ok (.iconst 1, 1) := by decide +kernel
theorem dX3_point_79 : decode cX3_point 79 = .ok (.isub, 1) := by decide +kernel
theorem dX3_point_80 : decode cX3_point 80 = .ok (.iaload, 1) := by decide +kernel
theorem dX3_point_81 : decode cX3_point 81 = .ok (.if_icmp .le 16, 3) := by decide +kernel
theorem dX3_point_84 : decode cX3_point 84 = .ok (.iload_n 3, 1) := by decide +kernel
theorem dX3_point_85 : decode cX3_point 85 = .ok (.aload_n 0, 1) := by decide +kernel
theorem dX3_point_86 : decode cX3_point 86 = .ok (.getfield 31, 3) := by decide +kernel
theorem dX3_point_89 : decode cX3_point 89 = .ok (.iload 4, 2) := by decide +kernel
theorem dX3_point_91 : decode cX3_point 91 = .ok (.iconst 1, 1) := by decide +kernel
theorem dX3_point_92 : decode cX3_point 92 = .ok (.isub, 1) := by decide +kernel
theorem dX3_point_93 : decode cX3_point 93 = .ok (.iaload, 1) := by decide +kernel
theorem dX3_point_94 : decode cX3_point 94 = .ok (.if_icmp .ge 5, 3) := by decide +kernel
theorem dX3_point_97 : decode cX3_point 97 = .ok (.iconst 0, 1) := by decide +kernel
theorem dX3_point_98 : decode cX3_point 98 = .ok (.ireturn, 1) := by decide +kernel
theorem dX3_point_99 : decode cX3_point 99 = .ok (.aload_n 0, 1) := by decide +kernel
theorem dX3_point_100 : decode cX3_point 100 = .ok (.getfield 28, 3) := by decide +kernel
theorem dX3_point_103 : decode cX3_point 103 = .ok (.iload 4, 2) := by decide +kernel
theorem dX3_point_105 : decode cX3_point 105 = .ok (.iload_n 2, 1) := by decide +kernel
theorem dX3_point_106 : decode cX3_point 106 = .ok (.iastore, 1) := by decide +kernel
theorem dX3_point_107 : decode cX3_point 107 = .ok (.aload_n 0, 1) := by decide +kernel
theorem dX3_point_108 : decode cX3_point 108 = .ok (.getfield 31, 3) := by decide +kernel
theorem dX3_point_111 : decode cX3_point 111 = .ok (.iload 4, 2) := by decide +kernel
theorem dX3_point_113 : decode cX3_point 113 = .ok (.iload_n 3, 1) := by decide +kernel
theorem dX3_point_114 : decode cX3_point 114 = .ok (.iastore, 1) := by decide +kernel
theorem dX3_point_115 : decode cX3_point 115 = .ok (.aload_n 0, 1) := by decide +kernel
theorem dX3_point_116 : decode cX3_point 116 = .ok (.getfield 25, 3) := by decide +kernel
theorem dX3_point_119 : decode cX3_point 119 = .ok (.iload_n 1, 1) := by decide +kernel
theorem dX3_point_120 : decode cX3_point 120 = .ok (.dup2, 1) := by decide +kernel
theorem dX3_point_121 : decode cX3_point 121 = .ok (.iaload, 1) := by decide +kernel
theorem dX3_point_122 : decode cX3_point 122 = .ok (.iconst 1, 1) := by decide +kernel
theorem dX3_point_123 : decode cX3_point 123 = .ok (.iadd, 1) := by decide +kernel
theorem dX3_point_124 : decode cX3_point 124 = .ok (.iastore, 1) := by decide +kernel
theorem dX3_point_125 : decode cX3_point 125 = .ok (.aload_n 0, 1) := by decide +kernel
theorem dX3_point_126 : decode cX3_point 126 = .ok (.iconst 0, 1) := by decide +kernel
theorem dX3_point_127 : decode cX3_point 127 = .ok (.putfield 60, 3) := by decide +kernel
theorem dX3_point_130 : decode cX3_point 130 = .ok (.iconst 1, 1) := by decide +kernel
theorem dX3_point_131 : decode cX3_point 131 = .ok (.ireturn, 1) := by decide +kernel
set_option maxRecDepth 20000 in
theorem ggX3_born_X3_isFibre : GoodIn wsX3_born wsX3_isFibre := goodIn_r _ [8, 9, 13, 14, 15, 16, 17, 18, 19, 20, 21, 22, 23, 24, 25, 26, 27, 28, 29, 30, 31] (by decide +kernel) (by decide +kernel)
set_option maxRecDepth 20000 in
theorem gX3_born_X3_isFibre : GoodIn wsX3_born (wsV RX3 66 RX3 yX3_isFibre wsX3_isFibre) := goodIn_app (goodIn_of _ (by decide +kernel)) ggX3_born_X3_isFibre
set_option maxRecDepth 20000 in
theorem ggX3_born_X3_within : GoodIn wsX3_born wsX3_within := goodIn_r _ [12] (by decide +kernel) (by decide +kernel)
set_option maxRecDepth 20000 in
theorem gX3_born_X3_within : GoodIn wsX3_born (va_wsS RX3 48 yX3_within wsX3_within) := goodIn_app (goodIn_of _ (by decide +kernel)) ggX3_born_X3_within
theorem dX3_born_0 : decode cX3_born 0 = .ok (.aload_n 0, 1) := by decide +kernel
theorem dX3_born_1 : decode cX3_born 1 = .ok (.iconst 0, 1) := by decide +kernel
theorem dX3_born_2 : decode cX3_born 2 = .ok (.putfield 40, 3) := by decide +kernel
theorem dX3_born_5 : decode cX3_born 5 = .ok (.aload_n 0, 1) := by decide +kernel
theorem dX3_born_6 : decode cX3_born 6 = .ok (.iload_n 1, 1) := by decide +kernel
theorem dX3_born_7 : decode cX3_born 7 = .ok (.invokevirtual 66, 3) := by decide +kernel
theorem dX3_born_10 : decode cX3_born 10 = .ok (.ifCond .eq 16, 3) := by decide +kernel
theorem dX3_born_13 : decode cX3_born 13 = .ok (.iload_n 2, 1) := by decide +kernel
theorem dX3_born_14 : decode cX3_born 14 = .ok (.sipush (-30000), 3) := by decide +kernel
theorem dX3_born_17 : decode cX3_born 17 = .ok (.sipush 30000, 3) := by decide +kernel
theorem dX3_born_20 : decode cX3_born 20 = .ok (.invokestatic 48, 3) := by decide +kernel
theorem dX3_born_23 : decode cX3_born 23 = .ok (.ifCond .ne 5, 3) := by decide +kernel
theorem dX3_born_26 : decode cX3_born 26 = .ok (.iconst 0, 1) := by decide +kernel
theorem dX3_born_27 : decode cX3_born 27 = .ok (.ireturn, 1) := by decide +kernel
theorem dX3_born_28 : decode cX3_born 28 = .ok (.aload_n 0, 1) := by decide +kernel
theorem dX3_born_29 : decode cX3_born 29 = .ok (.getfield 19, 3) := by decide +kernel
theorem dX3_born_32 : decode cX3_born 32 = .ok (.iload_n 1, 1) := by decide +kernel
theorem dX3_born_33 : decode cX3_born 33 = .ok (.iload_n 2, 1) := by decide +kernel
theorem dX3_born_34 : decode cX3_born 34 = .ok (.iastore, 1) := by decide +kernel
theorem dX3_born_35 : decode cX3_born 35 = .ok (.aload_n 0, 1) := by decide +kernel
theorem dX3_born_36 : decode cX3_born 36 = .ok (.iconst 0, 1) := by decide +kernel
theorem dX3_born_37 : decode cX3_born 37 = .ok (.putfield 60, 3) := by decide +kernel
theorem dX3_born_40 : decode cX3_born 40 = .ok (.iconst 1, 1) := by decide +kernel
theorem dX3_born_41 : decode cX3_born 41 = .ok (.ireturn, 1) := by decide +kernel
set_option maxRecDepth 20000 in
theorem ggX3_creeps_X3_isKind : GoodIn wsX3_creeps wsX3_isKind := goodIn_r _ [7] (by decide +kernel) (by decide +kernel)
set_option maxRecDepth 20000 in
theorem gX3_creeps_X3_isKind : GoodIn wsX3_creeps (va_wsS RX3 52 yX3_isKind wsX3_isKind) := goodIn_app (goodIn_of _ (by decide +kernel)) ggX3_creeps_X3_isKind
set_option maxRecDepth 20000 in
theorem ggX3_creeps_X3_within : GoodIn wsX3_creeps wsX3_within := goodIn_r _ [10] (by decide +kernel) (by decide +kernel)
set_option maxRecDepth 20000 in
theorem gX3_creeps_X3_within : GoodIn wsX3_creeps (va_wsS RX3 48 yX3_within wsX3_within) := goodIn_app (goodIn_of _ (by decide +kernel)) ggX3_creeps_X3_within
theorem dX3_creeps_0 : decode cX3_creeps 0 = .ok (.aload_n 0, 1) := by decide +kernel
theorem dX3_creeps_1 : decode cX3_creeps 1 = .ok (.iconst 0, 1) := by decide +kernel
theorem dX3_creeps_2 : decode cX3_creeps 2 = .ok (.putfield 40, 3) := by decide +kernel
theorem dX3_creeps_5 : decode cX3_creeps 5 = .ok (.iload_n 1, 1) := by decide +kernel
theorem dX3_creeps_6 : decode cX3_creeps 6 = .ok (.invokestatic 52, 3) := by decide +kernel
theorem dX3_creeps_9 : decode cX3_creeps 9 = .ok (.ifCond .eq 14, 3) := by decide +kernel
theorem dX3_creeps_12 : decode cX3_creeps 12 = .ok (.iload_n 2, 1) := by decide +kernel
theorem dX3_creeps_13 : decode cX3_creeps 13 = .ok (.iconst 0, 1) := by decide +kernel
theorem dX3_creeps_14 : decode cX3_creeps 14 = .ok (.sipush 500, 3) := by decide +kernel
theorem dX3_creeps_17 : decode cX3_creeps 17 = .ok (.invokestatic 48, 3) := by decide +kernel
theorem dX3_creeps_20 : decode cX3_creeps 20 = .ok (.ifCond .ne 5, 3) := by decide +kernel
theorem dX3_creeps_23 : decode cX3_creeps 23 = .ok (.iconst 0, 1) := by decide +kernel
theorem dX3_creeps_24 : decode cX3_creeps 24 = .ok (.ireturn, 1) := by decide +kernel
theorem dX3_creeps_25 : decode cX3_creeps 25 = .ok (.aload_n 0, 1) := by decide +kernel
theorem dX3_creeps_26 : decode cX3_creeps 26 = .ok (.getfield 34, 3) := by decide +kernel
theorem dX3_creeps_29 : decode cX3_creeps 29 = .ok (.iload_n 1, 1) := by decide +kernel
theorem dX3_creeps_30 : decode cX3_creeps 30 = .ok (.iload_n 2, 1) := by decide +kernel
theorem dX3_creeps_31 : decode cX3_creeps 31 = .ok (.iastore, 1) := by decide +kernel
theorem dX3_creeps_32 : decode cX3_creeps 32 = .ok (.aload_n 0, 1) := by decide +kernel
theorem dX3_creeps_33 : decode cX3_creeps 33 = .ok (.iconst 0, 1) := by decide +kernel
theorem dX3_creeps_34 : decode cX3_creeps 34 = .ok (.putfield 60, 3) := by decide +kernel
theorem dX3_creeps_37 : decode cX3_creeps 37 = .ok (.iconst 1, 1) := by decide +kernel
theorem dX3_creeps_38 : decode cX3_creeps 38 = .ok (.ireturn, 1) := by decide +kernel
set_option maxRecDepth 20000 in
theorem ggX3_shrinks_X3_isKind : GoodIn wsX3_shrinks wsX3_isKind := goodIn_r _ [7] (by decide +kernel) (by decide +kernel)
set_option maxRecDepth 20000 in
theorem gX3_shrinks_X3_isKind : GoodIn wsX3_shrinks (va_wsS RX3 52 yX3_isKind wsX3_isKind) := goodIn_app (goodIn_of _ (by decide +kernel)) ggX3_shrinks_X3_isKind
set_option maxRecDepth 20000 in
theorem ggX3_shrinks_X3_within : GoodIn wsX3_shrinks wsX3_within := goodIn_r _ [10] (by decide +kernel) (by decide +kernel)
set_option maxRecDepth 20000 in
theorem gX3_shrinks_X3_within : GoodIn wsX3_shrinks (va_wsS RX3 48 yX3_within wsX3_within) := goodIn_app (goodIn_of _ (by decide +kernel)) ggX3_shrinks_X3_within
theorem dX3_shrinks_0 : decode cX3_shrinks 0 = .ok (.aload_n 0, 1) := by decide +kernel
theorem dX3_shrinks_1 : decode cX3_shrinks 1 = .ok (.iconst 0, 1) := by decide +kernel
theorem dX3_shrinks_2 : decode cX3_shrinks 2 = .ok (.putfield 40, 3) := by decide +kernel
theorem dX3_shrinks_5 : decode cX3_shrinks 5 = .ok (.iload_n 1, 1) := by decide +kernel
theorem dX3_shrinks_6 : decode cX3_shrinks 6 = .ok (.invokestatic 52, 3) := by decide +kernel
theorem dX3_shrinks_9 : decode cX3_shrinks 9 = .ok (.ifCond .eq 16, 3) := by decide +kernel
theorem dX3_shrinks_12 : decode cX3_shrinks 12 = .ok (.iload_n 2, 1) := by decide +kernel
theorem dX3_shrinks_13 : decode cX3_shrinks 13 = .ok (.sipush (-5000), 3) := by decide +kernel
theorem dX3_shrinks_16 : decode cX3_shrinks 16 = .ok (.sipush 5000, 3) := by decide +kernel
theorem dX3_shrinks_19 : decode cX3_shrinks 19 = .ok (.invokestatic 48, 3) := by decide +kernel
theorem dX3_shrinks_22 : decode cX3_shrinks 22 = .ok (.ifCond .ne 5, 3) := by decide +kernel
theorem dX3_shrinks_25 : decode cX3_shrinks 25 = .ok (.iconst 0, 1) := by decide +kernel
theorem dX3_shrinks_26 : decode cX3_shrinks 26 = .ok (.ireturn, 1) := by decide +kernel
theorem dX3_shrinks_27 : decode cX3_shrinks 27 = .ok (.aload_n 0, 1) := by decide +kernel
theorem dX3_shrinks_28 : decode cX3_shrinks 28 = .ok (.getfield 37, 3) := by decide +kernel
theorem dX3_shrinks_31 : decode cX3_shrinks 31 = .ok (.iload_n 1, 1) := by decide +kernel
theorem dX3_shrinks_32 : decode cX3_shrinks 32 = .ok (.iload_n 2, 1) := by decide +kernel
theorem dX3_shrinks_33 : decode cX3_shrinks 33 = .ok (.iastore, 1) := by decide +kernel
theorem dX3_shrinks_34 : decode cX3_shrinks 34 = .ok (.aload_n 0, 1) := by decide +kernel
theorem dX3_shrinks_35 : decode cX3_shrinks 35 = .ok (.iconst 0, 1) := by decide +kernel
theorem dX3_shrinks_36 : decode cX3_shrinks 36 = .ok (.putfield 60, 3) := by decide +kernel
theorem dX3_shrinks_39 : decode cX3_shrinks 39 = .ok (.iconst 1, 1) := by decide +kernel
theorem dX3_shrinks_40 : decode cX3_shrinks 40 = .ok (.ireturn, 1) := by decide +kernel
set_option maxRecDepth 20000 in
theorem ggX3_keeps_X3_isFibre : GoodIn wsX3_keeps wsX3_isFibre := goodIn_r _ [8, 9, 13, 14, 15, 16, 17, 18, 19, 20, 21, 22, 23, 24, 25, 26, 27, 28, 29, 30, 31] (by decide +kernel) (by decide +kernel)
set_option maxRecDepth 20000 in
theorem gX3_keeps_X3_isFibre : GoodIn wsX3_keeps (wsV RX3 66 RX3 yX3_isFibre wsX3_isFibre) := goodIn_app (goodIn_of _ (by decide +kernel)) ggX3_keeps_X3_isFibre
set_option maxRecDepth 20000 in
theorem ggX3_keeps_X3_within : GoodIn wsX3_keeps wsX3_within := goodIn_r _ [12] (by decide +kernel) (by decide +kernel)
set_option maxRecDepth 20000 in
theorem gX3_keeps_X3_within : GoodIn wsX3_keeps (va_wsS RX3 48 yX3_within wsX3_within) := goodIn_app (goodIn_of _ (by decide +kernel)) ggX3_keeps_X3_within
theorem dX3_keeps_0 : decode cX3_keeps 0 = .ok (.aload_n 0, 1) := by decide +kernel
theorem dX3_keeps_1 : decode cX3_keeps 1 = .ok (.iconst 0, 1) := by decide +kernel
theorem dX3_keeps_2 : decode cX3_keeps 2 = .ok (.putfield 40, 3) := by decide +kernel
theorem dX3_keeps_5 : decode cX3_keeps 5 = .ok (.aload_n 0, 1) := by decide +kernel
theorem dX3_keeps_6 : decode cX3_keeps 6 = .ok (.iload_n 1, 1) := by decide +kernel
theorem dX3_keeps_7 : decode cX3_keeps 7 = .ok (.invokevirtual 66, 3) := by decide +kernel
theorem dX3_keeps_10 : decode cX3_keeps 10 = .ok (.ifCond .eq 13, 3) := by decide +kernel
theorem dX3_keeps_13 : decode cX3_keeps 13 = .ok (.iload_n 2, 1) := by decide +kernel
theorem dX3_keeps_14 : decode cX3_keeps 14 = .ok (.iconst 0, 1) := by decide +kernel
theorem dX3_keeps_15 : decode cX3_keeps 15 = .ok (.bipush 100, 2) := by decide +kernel
theorem dX3_keeps_17 : decode cX3_keeps 17 = .ok (.invokestatic 48, 3) := by decide +kernel
theorem dX3_keeps_20 : decode cX3_keeps 20 = .ok (.ifCond .ne 5, 3) := by decide +kernel
theorem dX3_keeps_23 : decode cX3_keeps 23 = .ok (.iconst 0, 1) := by decide +kernel
theorem dX3_keeps_24 : decode cX3_keeps 24 = .ok (.ireturn, 1) := by decide +kernel
theorem dX3_keeps_25 : decode cX3_keeps 25 = .ok (.aload_n 0, 1) := by decide +kernel
theorem dX3_keeps_26 : decode cX3_keeps 26 = .ok (.getfield 22, 3) := by decide +kernel
theorem dX3_keeps_29 : decode cX3_keeps 29 = .ok (.iload_n 1, 1) := by decide +kernel
theorem dX3_keeps_30 : decode cX3_keeps 30 = .ok (.iload_n 2, 1) := by decide +kernel
theorem dX3_keeps_31 : decode cX3_keeps 31 = .ok (.iastore, 1) := by decide +kernel
theorem dX3_keeps_32 : decode cX3_keeps 32 = .ok (.aload_n 0, 1) := by decide +kernel
theorem dX3_keeps_33 : decode cX3_keeps 33 = .ok (.iconst 0, 1) := by decide +kernel
theorem dX3_keeps_34 : decode cX3_keeps 34 = .ok (.putfield 60, 3) := by decide +kernel
theorem dX3_keeps_37 : decode cX3_keeps 37 = .ok (.iconst 1, 1) := by decide +kernel
theorem dX3_keeps_38 : decode cX3_keeps 38 = .ok (.ireturn, 1) := by decide +kernel
theorem dX3_stressAt_0 : decode cX3_stressAt 0 = .ok (.bipush 8, 2) := by decide +kernel
theorem dX3_stressAt_2 : decode cX3_stressAt 2 = .ok (.iload_n 1, 1) := by decide +kernel
theorem dX3_stressAt_3 : decode cX3_stressAt 3 = .ok (.imul, 1) := by decide +kernel
theorem dX3_stressAt_4 : decode cX3_stressAt 4 = .ok (.istore_n 3, 1) := by decide +kernel
theorem dX3_stressAt_5 : decode cX3_stressAt 5 = .ok (.aload_n 0, 1) := by decide +kernel
theorem dX3_stressAt_6 : decode cX3_stressAt 6 = .ok (.getfield 25, 3) := by decide +kernel
theorem dX3_stressAt_9 : decode cX3_stressAt 9 = .ok (.iload_n 1, 1) := by decide +kernel
theorem dX3_stressAt_10 : decode cX3_stressAt 10 = .ok (.iaload, 1) := by decide +kernel
theorem dX3_stressAt_11 : decode cX3_stressAt 11 = .ok (.istore 4, 2) := by decide +kernel
theorem dX3_stressAt_13 : decode cX3_stressAt 13 = .ok (.iload 4, 2) := by decide +kernel
theorem dX3_stressAt_15 : decode cX3_stressAt 15 = .ok (.ifCond .ne 5, 3) := by decide +kernel
theorem dX3_stressAt_18 : decode cX3_stressAt 18 = .ok (.iconst 0, 1) := by decide +kernel
theorem dX3_stressAt_19 : decode cX3_stressAt 19 = .ok (.ireturn, 1) := by decide +kernel
theorem dX3_stressAt_20 : decode cX3_stressAt 20 = .ok (.iload_n 2, 1) := by decide +kernel
theorem dX3_stressAt_21 : decode cX3_stressAt 21 = .ok (.aload_n 0, 1) := by decide +kernel
theorem dX3_stressAt_22 : decode cX3_stressAt 22 = .ok (.getfield 28, 3) := by decide +kernel
theorem dX3_stressAt_25 : decode cX3_stressAt 25 = .ok (.iload_n 3, 1) := by decide +kernel
theorem dX3_stressAt_26 : decode cX3_stressAt 26 = .ok (.iaload, 1) := by decide +kernel
theorem dX3_stressAt_27 : decode cX3_stressAt 27 = .ok (.if_icmp .gt 10, 3) := by decide +kernel
theorem dX3_stressAt_30 : decode cX3_stressAt 30 = .ok (.aload_n 0, 1) := by decide +kernel
theorem dX3_stressAt_31 : decode cX3_stressAt 31 = .ok (.getfield 31, 3) := by decide +kernel
theorem dX3_stressAt_34 : decode cX3_stressAt 34 = .ok (.iload_n 3, 1) := by decide +kernel
theorem dX3_stressAt_35 : decode cX3_stressAt 35 = .ok (.iaload, 1) := by decide +kernel
theorem dX3_stressAt_36 : decode cX3_stressAt 36 = .ok (.ireturn, 1) := by decide +kernel
theorem dX3_stressAt_37 : decode cX3_stressAt 37 = .ok (.iload_n 3, 1) := by decide +kernel
theorem dX3_stressAt_38 : decode cX3_stressAt 38 = .ok (.iconst 1, 1) := by decide +kernel
theorem dX3_stressAt_39 : decode cX3_stressAt 39 = .ok (.iadd, 1) := by decide +kernel
theorem dX3_stressAt_40 : decode cX3_stressAt 40 = .ok (.istore 5, 2) := by decide +kernel
theorem dX3_stressAt_42 : decode cX3_stressAt 42 = .ok (.iload 5, 2) := by decide +kernel
theorem dX3_stressAt_44 : decode cX3_stressAt 44 = .ok (.iload_n 3, 1) := by decide +kernel
theorem dX3_stressAt_45 : decode cX3_stressAt 45 = .ok (.iload 4, 2) := by decide +kernel
theorem dX3_stressAt_47 : decode cX3_stressAt 47 = .ok (.iadd, 1) := by decide +kernel
theorem dX3_stressAt_48 : decode cX3_stressAt 48 = .ok (.if_icmp .ge 20, 3) := by decide +kernel
theorem dX3_stressAt_51 : decode cX3_stressAt 51 = .ok (.aload_n 0, 1) := by decide +kernel
theorem dX3_stressAt_52 : decode cX3_stressAt 52 = .ok (.getfield 28, 3) := by decide +kernel
theorem dX3_stressAt_55 : decode cX3_stressAt 55 = .ok (.iload 5, 2) := by decide +kernel
theorem dX3_stressAt_57 : decode cX3_stressAt 57 = .ok (.iaload, 1) := by decide +kernel
theorem dX3_stressAt_58 : decode cX3_stressAt 58 = .ok (.iload_n 2, 1) := by decide +kernel
theorem dX3_stressAt_59 : decode cX3_stressAt 59 = .ok (.if_icmp .ge 9, 3) := by decide +kernel
theorem dX3_stressAt_62 : decode cX3_stressAt 62 = .ok (.iinc 5 1, 3) := by decide +kernel
theorem dX3_stressAt_65 : decode cX3_stressAt 65 = .ok (.goto (-23), 3) := by decide +kernel
theorem dX3_stressAt_68 : decode cX3_stressAt 68 = .ok (.iload 5, 2) := by decide +kernel
theorem dX3_stressAt_70 : decode cX3_stressAt 70 = .ok (.iload_n 3, 1) := by decide +kernel
theorem dX3_stressAt_71 : decode cX3_stressAt 71 = .ok (.iload 4, 2) := by decide +kernel
theorem dX3_stressAt_73 : decode cX3_stressAt 73 = .ok (.iadd, 1) := by decide +kernel
theorem dX3_stressAt_74 : decode cX3_stressAt 74 = .ok (.if_icmp .ne 13, 3) := by decide +kernel
theorem dX3_stressAt_77 : decode cX3_stressAt 77 = .ok (.aload_n 0, 1) := by decide +kernel
theorem dX3_stressAt_78 : decode cX3_stressAt 78 = .ok (.getfield 31, 3) := by decide +kernel
theorem dX3_stressAt_81 : decode cX3_stressAt 81 = .ok (.iload 5, 2) := by decide +kernel
theorem dX3_stressAt_83 : decode cX3_stressAt 83 = .ok (.iconst 1, 1) := by decide +kernel
theorem dX3_stressAt_84 : decode cX3_stressAt 84 = .ok (.isub, 1) := by decide +kernel
theorem dX3_stressAt_85 : decode cX3_stressAt 85 = .ok (.iaload, 1) := by decide +kernel
theorem dX3_stressAt_86 : decode cX3_stressAt 86 = .ok (.ireturn, 1) := by decide +kernel
theorem dX3_stressAt_87 : decode cX3_stressAt 87 = .ok (.aload_n 0, 1) := by decide +kernel
theorem dX3_stressAt_88 : decode cX3_stressAt 88 = .ok (.getfield 31, 3) := by decide +kernel
theorem dX3_stressAt_91 : decode cX3_stressAt 91 = .ok (.iload 5, 2) := by decide +kernel
theorem dX3_stressAt_93 : decode cX3_stressAt 93 = .ok (.iaload, 1) := by decide +kernel
theorem dX3_stressAt_94 : decode cX3_stressAt 94 = .ok (.aload_n 0, 1) := by decide +kernel
theorem dX3_stressAt_95 : decode cX3_stressAt 95 = .ok (.getfield 31, 3) := by decide +kernel
theorem dX3_stressAt_98 : decode cX3_stressAt 98 = .ok (.iload 5, 2) := by decide +kernel
theorem dX3_stressAt_100 : decode cX3_stressAt 100 = .ok (.iconst 1, 1) := by decide +kernel
theorem dX3_stressAt_101 : decode cX3_stressAt 101 = .ok (.isub, 1) := by decide +kernel
theorem dX3_stressAt_102 : decode cX3_stressAt 102 = .ok (.iaload, 1) := by decide +kernel
theorem dX3_stressAt_103 : decode cX3_stressAt 103 = .ok (.isub, 1) := by decide +kernel
theorem dX3_stressAt_104 : decode cX3_stressAt 104 = .ok (.i2l, 1) := by decide +kernel
theorem dX3_stressAt_105 : decode cX3_stressAt 105 = .ok (.iload_n 2, 1) := by decide +kernel
theorem dX3_stressAt_106 : decode cX3_stressAt 106 = .ok (.aload_n 0, 1) := by decide +kernel
theorem dX3_stressAt_107 : decode cX3_stressAt 107 = .ok (.getfield 28, 3) := by decide +kernel
theorem dX3_stressAt_110 : decode cX3_stressAt 110 = .ok (.iload 5, 2) := by decide +kernel
theorem dX3_stressAt_112 : decode cX3_stressAt 112 = .ok (.iconst 1, 1) := by decide +kernel
theorem dX3_stressAt_113 : decode cX3_stressAt 113 = .ok (.isub, 1) := by decide +kernel
theorem dX3_stressAt_114 : decode cX3_stressAt 114 = .ok (.iaload, 1) := by decide +kernel
theorem dX3_stressAt_115 : decode cX3_stressAt 115 = .ok (.isub, 1) := by decide +kernel
theorem dX3_stressAt_116 : decode cX3_stressAt 116 = .ok (.i2l, 1) := by decide +kernel
theorem dX3_stressAt_117 : decode cX3_stressAt 117 = .ok (.lmul, 1) := by decide +kernel
theorem dX3_stressAt_118 : decode cX3_stressAt 118 = .ok (.aload_n 0, 1) := by decide +kernel
theorem dX3_stressAt_119 : decode cX3_stressAt 119 = .ok (.getfield 28, 3) := by decide +kernel
theorem dX3_stressAt_122 : decode cX3_stressAt 122 = .ok (.iload 5, 2) := by decide +kernel
theorem dX3_stressAt_124 : decode cX3_stressAt 124 = .ok (.iaload, 1) := by decide +kernel
theorem dX3_stressAt_125 : decode cX3_stressAt 125 = .ok (.aload_n 0, 1) := by decide +kernel
theorem dX3_stressAt_126 : decode cX3_stressAt 126 = .ok (.getfield 28, 3) := by decide +kernel
theorem dX3_stressAt_129 : decode cX3_stressAt 129 = .ok (.iload 5, 2) := by decide +kernel
theorem dX3_stressAt_131 : decode cX3_stressAt 131 = .ok (.iconst 1, 1) := by decide +kernel
theorem dX3_stressAt_132 : decode cX3_stressAt 132 = .ok (.isub, 1) := by decide +kernel
theorem dX3_stressAt_133 : decode cX3_stressAt 133 = .ok (.iaload, 1) := by decide +kernel
theorem dX3_stressAt_134 : decode cX3_stressAt 134 = .ok (.isub, 1) := by decide +kernel
theorem dX3_stressAt_135 : decode cX3_stressAt 135 = .ok (.i2l, 1) := by decide +kernel
theorem dX3_stressAt_136 : decode cX3_stressAt 136 = .ok (.ldiv, 1) := by decide +kernel
theorem dX3_stressAt_137 : decode cX3_stressAt 137 = .ok (.lstore 6, 2) := by decide +kernel
theorem dX3_stressAt_139 : decode cX3_stressAt 139 = .ok (.aload_n 0, 1) := by decide +kernel
theorem dX3_stressAt_140 : decode cX3_stressAt 140 = .ok (.getfield 31, 3) := by decide +kernel
theorem dX3_stressAt_143 : decode cX3_stressAt 143 = .ok (.iload 5, 2) := by decide +kernel
theorem dX3_stressAt_145 : decode cX3_stressAt 145 = .ok (.iconst 1, 1) := by decide +kernel
theorem dX3_stressAt_146 : decode cX3_stressAt 146 = .ok (.isub, 1) := by decide +kernel
theorem dX3_stressAt_147 : decode cX3_stressAt 147 = .ok (.iaload, 1) := by decide +kernel
theorem dX3_stressAt_148 : decode cX3_stressAt 148 = .ok (.lload 6, 2) := by decide +kernel
theorem dX3_stressAt_150 : decode cX3_stressAt 150 = .ok (.l2i, 1) := by decide +kernel
theorem dX3_stressAt_151 : decode cX3_stressAt 151 = .ok (.iadd, 1) := by decide +kernel
theorem dX3_stressAt_152 : decode cX3_stressAt 152 = .ok (.ireturn, 1) := by decide +kernel
set_option maxRecDepth 20000 in
theorem ggX3_row_X3_isKind : GoodIn wsX3_row wsX3_isKind := goodIn_r _ [5] (by decide +kernel) (by decide +kernel)
set_option maxRecDepth 20000 in
theorem gX3_row_X3_isKind : GoodIn wsX3_row (va_wsS RX3 52 yX3_isKind wsX3_isKind) := goodIn_app (goodIn_of _ (by decide +kernel)) ggX3_row_X3_isKind
set_option maxRecDepth 20000 in
theorem ggX3_row_X3_stressAt : GoodIn wsX3_row wsX3_stressAt := goodIn_r _ [9, 10, 11, 12, 13, 14, 15, 16, 17, 18, 19, 20, 21, 22, 23, 24, 25, 26, 27, 28, 29, 30, 31] (by decide +kernel) (by decide +kernel)
set_option maxRecDepth 20000 in
theorem gX3_row_X3_stressAt : GoodIn wsX3_row (wsV RX3 69 RX3 yX3_stressAt wsX3_stressAt) := goodIn_app (goodIn_of _ (by decide +kernel)) ggX3_row_X3_stressAt
theorem dX3_row_0 : decode cX3_row 0 = .ok (.aload_n 0, 1) := by decide +kernel
theorem dX3_row_1 : decode cX3_row 1 = .ok (.iload_n 1, 1) := by decide +kernel
theorem dX3_row_2 : decode cX3_row 2 = .ok (.invokestatic 52, 3) := by decide +kernel
theorem dX3_row_5 : decode cX3_row 5 = .ok (.ifCond .eq 7, 3) := by decide +kernel
theorem dX3_row_8 : decode cX3_row 8 = .ok (.iconst 0, 1) := by decide +kernel
theorem dX3_row_9 : decode cX3_row 9 = .ok (.goto 4, 3) := by decide +kernel
theorem dX3_row_12 : decode cX3_row 12 = .ok (.iconst 1, 1) := by decide +kernel
theorem dX3_row_13 : decode cX3_row 13 = .ok (.putfield 40, 3) := by decide +kernel
theorem dX3_row_16 : decode cX3_row 16 = .ok (.aload_n 0, 1) := by decide +kernel
theorem dX3_row_17 : decode cX3_row 17 = .ok (.getfield 40, 3) := by decide +kernel
theorem dX3_row_20 : decode cX3_row 20 = .ok (.ifCond .le 7, 3) := by decide +kernel
theorem dX3_row_23 : decode cX3_row 23 = .ok (.iconst 0, 1) := by decide +kernel
theorem dX3_row_24 : decode cX3_row 24 = .ok (.goto 9, 3) := by decide +kernel
theorem dX3_row_27 : decode cX3_row 27 = .ok (.aload_n 0, 1) := by decide +kernel
theorem dX3_row_28 : decode cX3_row 28 = .ok (.iload_n 1, 1) := by decide +kernel
theorem dX3_row_29 : decode cX3_row 29 = .ok (.iload_n 2, 1) := by decide +kernel
theorem dX3_row_30 : decode cX3_row 30 = .ok (.invokevirtual 69, 3) := by decide +kernel
theorem dX3_row_33 : decode cX3_row 33 = .ok (.ireturn, 1) := by decide +kernel
theorem dX3_works_0 : decode cX3_works 0 = .ok (.iload_n 3, 1) := by decide +kernel
theorem dX3_works_1 : decode cX3_works 1 = .ok (.aload_n 0, 1) := by decide +kernel
theorem dX3_works_2 : decode cX3_works 2 = .ok (.getfield 13, 3) := by decide +kernel
theorem dX3_works_5 : decode cX3_works 5 = .ok (.iload_n 1, 1) := by decide +kernel
theorem dX3_works_6 : decode cX3_works 6 = .ok (.iaload, 1) := by decide +kernel
theorem dX3_works_7 : decode cX3_works 7 = .ok (.imul, 1) := by decide +kernel
theorem dX3_works_8 : decode cX3_works 8 = .ok (.istore 4, 2) := by decide +kernel
theorem dX3_works_10 : decode cX3_works 10 = .ok (.iload 4, 2) := by decide +kernel
theorem dX3_works_12 : decode cX3_works 12 = .ok (.ifCond .lt 12, 3) := by decide +kernel
theorem dX3_works_15 : decode cX3_works 15 = .ok (.iload 4, 2) := by decide +kernel
theorem dX3_works_17 : decode cX3_works 17 = .ok (.sipush 1000, 3) := by decide +kernel
theorem dX3_works_20 : decode cX3_works 20 = .ok (.idiv, 1) := by decide +kernel
theorem dX3_works_21 : decode cX3_works 21 = .ok (.goto 14, 3) := by decide +kernel
theorem dX3_works_24 : decode cX3_works 24 = .ok (.sipush 999, 3) := by decide +kernel
theorem dX3_works_27 : decode cX3_works 27 = .ok (.iload 4, 2) := by decide +kernel
theorem dX3_works_29 : decode cX3_works 29 = .ok (.isub, 1) := by decide +kernel
theorem dX3_works_30 : decode cX3_works 30 = .ok (.sipush 1000, 3) := by decide +kernel
theorem dX3_works_33 : decode cX3_works 33 = .ok (.idiv, 1) := by decide +kernel
theorem dX3_works_34 : decode cX3_works 34 = .ok (.ineg, 1) := by decide +kernel
theorem dX3_works_35 : decode cX3_works 35 = .ok (.istore 5, 2) := by decide +kernel
theorem dX3_works_37 : decode cX3_works 37 = .ok (.iload_n 2, 1) := by decide +kernel
theorem dX3_works_38 : decode cX3_works 38 = .ok (.iload 5, 2) := by decide +kernel
theorem dX3_works_40 : decode cX3_works 40 = .ok (.iadd, 1) := by decide +kernel
theorem dX3_works_41 : decode cX3_works 41 = .ok (.aload_n 0, 1) := by decide +kernel
theorem dX3_works_42 : decode cX3_works 42 = .ok (.getfield 19, 3) := by decide +kernel
theorem dX3_works_45 : decode cX3_works 45 = .ok (.iload_n 1, 1) := by decide +kernel
theorem dX3_works_46 : decode cX3_works 46 = .ok (.iaload, 1) := by decide +kernel
theorem dX3_works_47 : decode cX3_works 47 = .ok (.isub, 1) := by decide +kernel
theorem dX3_works_48 : decode cX3_works 48 = .ok (.aload_n 0, 1) := by decide +kernel
theorem dX3_works_49 : decode cX3_works 49 = .ok (.getfield 37, 3) := by decide +kernel
theorem dX3_works_52 : decode cX3_works 52 = .ok (.aload_n 0, 1) := by decide +kernel
theorem dX3_works_53 : decode cX3_works 53 = .ok (.getfield 16, 3) := by decide +kernel
theorem dX3_works_56 : decode cX3_works 56 = .ok (.iload_n 1, 1) := by decide +kernel
theorem dX3_works_57 : decode cX3_works 57 = .ok (.iaload, 1) := by decide +kernel
theorem dX3_works_58 : decode cX3_works 58 = .ok (.iaload, 1) := by decide +kernel
theorem dX3_works_59 : decode cX3_works 59 = .ok (.isub, 1) := by decide +kernel
theorem dX3_works_60 : decode cX3_works 60 = .ok (.istore 6, 2) := by decide +kernel
theorem dX3_works_62 : decode cX3_works 62 = .ok (.iload 6, 2) := by decide +kernel
theorem dX3_works_64 : decode cX3_works 64 = .ok (.bipush 100, 2) := by decide +kernel
theorem dX3_works_66 : decode cX3_works 66 = .ok (.imul, 1) := by decide +kernel
theorem dX3_works_67 : decode cX3_works 67 = .ok (.bipush 100, 2) := by decide +kernel
theorem dX3_works_69 : decode cX3_works 69 = .ok (.aload_n 0, 1) := by decide +kernel
theorem dX3_works_70 : decode cX3_works 70 = .ok (.getfield 34, 3) := by decide +kernel
theorem dX3_works_73 : decode cX3_works 73 = .ok (.aload_n 0, 1) := by decide +kernel
theorem dX3_works_74 : decode cX3_works 74 = .ok (.getfield 16, 3) := by decide +kernel
theorem dX3_works_77 : decode cX3_works 77 = .ok (.iload_n 1, 1) := by decide +kernel
theorem dX3_works_78 : decode cX3_works 78 = .ok (.iaload, 1) := by decide +kernel
theorem dX3_works_79 : decode cX3_works 79 = .ok (.iaload, 1) := by decide +kernel
theorem dX3_works_80 : decode cX3_works 80 = .ok (.iadd, 1) := by decide +kernel
theorem dX3_works_81 : decode cX3_works 81 = .ok (.idiv, 1) := by decide +kernel
theorem dX3_works_82 : decode cX3_works 82 = .ok (.ireturn, 1) := by decide +kernel
set_option maxRecDepth 20000 in
theorem ggX3_stressOf_X3_works : GoodIn wsX3_stressOf wsX3_works := goodIn_r _ [8, 9, 10, 11, 1, 12, 20, 21, 22, 23, 24, 25, 26, 27, 28, 29, 30, 31, 32, 33, 34, 35, 36, 37, 38] (by decide +kernel) (by decide +kernel)
set_option maxRecDepth 20000 in
theorem gX3_stressOf_X3_works : GoodIn wsX3_stressOf (wsV RX3 73 RX3 yX3_works wsX3_works) := goodIn_app (goodIn_of _ (by decide +kernel)) ggX3_stressOf_X3_works
set_option maxRecDepth 20000 in
theorem ggX3_stressOf_X3_stressAt : GoodIn wsX3_stressOf wsX3_stressAt := goodIn_r _ [16, 17, 18, 19, 20, 21, 22, 23, 24, 25, 26, 27, 28, 29, 30, 31, 32, 33, 34, 35, 36, 37, 38] (by decide +kernel) (by decide +kernel)
set_option maxRecDepth 20000 in
theorem gX3_stressOf_X3_stressAt : GoodIn wsX3_stressOf (wsV RX3 69 RX3 yX3_stressAt wsX3_stressAt) := goodIn_app (goodIn_of _ (by decide +kernel)) ggX3_stressOf_X3_stressAt
theorem dX3_stressOf_0 : decode cX3_stressOf 0 = .ok (.aload_n 0, 1) := by decide +kernel
theorem dX3_stressOf_1 : decode cX3_stressOf 1 = .ok (.aload_n 0, 1) := by decide +kernel
theorem dX3_stressOf_2 : decode cX3_stressOf 2 = .ok (.getfield 16, 3) := by decide +kernel
theorem dX3_stressOf_5 : decode cX3_stressOf 5 = .ok (.iload_n 1, 1) := by decide +kernel
theorem dX3_stressOf_6 : decode cX3_stressOf 6 = .ok (.iaload, 1) := by decide +kernel
theorem dX3_stressOf_7 : decode cX3_stressOf 7 = .ok (.aload_n 0, 1) := by decide +kernel
theorem dX3_stressOf_8 : decode cX3_stressOf 8 = .ok (.iload_n 1, 1) := by decide +kernel
theorem dX3_stressOf_9 : decode cX3_stressOf 9 = .ok (.iload_n 2, 1) := by decide +kernel
theorem dX3_stressOf_10 : decode cX3_stressOf 10 = .ok (.iload_n 3, 1) := by decide +kernel
theorem dX3_stressOf_11 : decode cX3_stressOf 11 = .ok (.invokevirtual 73, 3) := by decide +kernel
theorem dX3_stressOf_14 : decode cX3_stressOf 14 = .ok (.invokevirtual 69, 3) := by decide +kernel
theorem dX3_stressOf_17 : decode cX3_stressOf 17 = .ok (.i2l, 1) := by decide +kernel
theorem dX3_stressOf_18 : decode cX3_stressOf 18 = .ok (.aload_n 0, 1) := by decide +kernel
theorem dX3_stressOf_19 : decode cX3_stressOf 19 = .ok (.getfield 22, 3) := by decide +kernel
theorem dX3_stressOf_22 : decode cX3_stressOf 22 = .ok (.iload_n 1, 1) := by decide +kernel
theorem dX3_stressOf_23 : decode cX3_stressOf 23 = .ok (.iaload, 1) := by decide +kernel
theorem dX3_stressOf_24 : decode cX3_stressOf 24 = .ok (.i2l, 1) := by decide +kernel
theorem dX3_stressOf_25 : decode cX3_stressOf 25 = .ok (.lmul, 1) := by decide +kernel
theorem dX3_stressOf_26 : decode cX3_stressOf 26 = .ok (.ldc2_w 77, 3) := by decide +kernel
theorem dX3_stressOf_29 : decode cX3_stressOf 29 = .ok (.ldiv, 1) := by decide +kernel
theorem dX3_stressOf_30 : decode cX3_stressOf 30 = .ok (.l2i, 1) := by decide +kernel
theorem dX3_stressOf_31 : decode cX3_stressOf 31 = .ok (.ireturn, 1) := by decide +kernel
set_option maxRecDepth 20000 in
theorem ggX3_isBeyond_X3_works : GoodIn wsX3_isBeyond wsX3_works := goodIn_r _ [8, 9, 10, 11, 1, 12, 13, 14, 15, 16, 17, 18, 19, 20, 21, 22, 23, 24, 25, 26, 27, 28, 29, 30, 31] (by decide +kernel) (by decide +kernel)
set_option maxRecDepth 20000 in
theorem gX3_isBeyond_X3_works : GoodIn wsX3_isBeyond (wsV RX3 73 RX3 yX3_works wsX3_works) := goodIn_app (goodIn_of _ (by decide +kernel)) ggX3_isBeyond_X3_works
theorem dX3_isBeyond_0 : decode cX3_isBeyond 0 = .ok (.aload_n 0, 1) := by decide +kernel
theorem dX3_isBeyond_1 : decode cX3_isBeyond 1 = .ok (.iload_n 1, 1) := by decide +kernel
theorem dX3_isBeyond_2 : decode cX3_isBeyond 2 = .ok (.iload_n 2, 1) := by decide +kernel
theorem dX3_isBeyond_3 : decode cX3_isBeyond 3 = .ok (.iload_n 3, 1) := by decide +kernel
theorem dX3_isBeyond_4 : decode cX3_isBeyond 4 = .ok (.invokevirtual 73, 3) := by decide +kernel
theorem dX3_isBeyond_7 : decode cX3_isBeyond 7 = .ok (.istore 4, 2) := by decide +kernel
theorem dX3_isBeyond_9 : decode cX3_isBeyond 9 = .ok (.bipush 8, 2) := by decide +kernel
theorem dX3_isBeyond_11 : decode cX3_isBeyond 11 = .ok (.aload_n 0, 1) := by decide +kernel
theorem dX3_isBeyond_12 : decode cX3_isBeyond 12 = .ok (.getfield 16, 3) := by decide +kernel
theorem dX3_isBeyond_15 : decode cX3_isBeyond 15 = .ok (.iload_n 1, 1) := by decide +kernel
theorem dX3_isBeyond_16 : decode cX3_isBeyond 16 = .ok (.iaload, 1) := by decide +kernel
theorem dX3_isBeyond_17 : decode cX3_isBeyond 17 = .ok (.imul, 1) := by decide +kernel
theorem dX3_isBeyond_18 : decode cX3_isBeyond 18 = .ok (.istore 5, 2) := by decide +kernel
theorem dX3_isBeyond_20 : decode cX3_isBeyond 20 = .ok (.aload_n 0, 1) := by decide +kernel
theorem dX3_isBeyond_21 : decode cX3_isBeyond 21 = .ok (.getfield 25, 3) := by decide +kernel
theorem dX3_isBeyond_24 : decode cX3_isBeyond 24 = .ok (.aload_n 0, 1) := by decide +kernel
theorem dX3_isBeyond_25 : decode cX3_isBeyond 25 = .ok (.getfield 16, 3) := by decide +kernel
theorem dX3_isBeyond_28 : decode cX3_isBeyond 28 = .ok (.iload_n 1, 1) := by decide +kernel
theorem dX3_isBeyond_29 : decode cX3_isBeyond 29 = .ok (.iaload, 1) := by decide +kernel
theorem dX3_isBeyond_30 : decode cX3_isBeyond 30 = .ok (.iaload, 1) := by decide +kernel
theorem dX3_isBeyond_31 : decode cX3_isBeyond 31 = .ok (.istore 6, 2) := by decide +kernel
theorem dX3_isBeyond_33 : decode cX3_isBeyond 33 = .ok (.iload 6, 2) := by decide +kernel
theorem dX3_isBeyond_35 : decode cX3_isBeyond 35 = .ok (.ifCond .le 36, 3) := by decide +kernel
theorem dX3_isBeyond_38 : decode cX3_isBeyond 38 = .ok (.iload 4, 2) := by decide +kernel
theorem dX3_isBeyond_40 : decode cX3_isBeyond 40 = .ok (.aload_n 0, 1) := by decide +kernel
theorem dX3_isBeyond_41 : decode cX3_isBeyond 41 = .ok (.getfield 28, 3) := by decide +kernel
theorem dX3_isBeyond_44 : decode cX3_isBeyond 44 = .ok (.iload 5, 2) := by decide +kernel
theorem dX3_isBeyond_46 : decode cX3_isBeyond 46 = .ok (.iaload, 1) := by decide +kernel
theorem dX3_isBeyond_47 : decode cX3_isBeyond 47 = .ok (.if_icmp .lt 20, 3) := by decide +kernel
theorem dX3_isBeyond_50 : decode cX3_isBeyond 50 = .ok (.iload 4, 2) := by decide +kernel
theorem dX3_isBeyond_52 : decode cX3_isBeyond 52 = .ok (.aload_n 0, 1) := by decide +kernel
theorem dX3_isBeyond_53 : decode cX3_isBeyond 53 = .ok (.getfield 28, 3) := by decide +kernel
theorem dX3_isBeyond_56 : decode cX3_isBeyond 56 = .ok (.iload 5, 2) := by decide +kernel
theorem dX3_isBeyond_58 : decode cX3_isBeyond 58 = .ok (.iload 6, 2) := by decide +kernel
theorem dX3_isBeyond_60 : decode cX3_isBeyond 60 = .ok (.iadd, 1) := by decide +kernel
theorem dX3_isBeyond_61 : decode cX3_isBeyond 61 = .ok (.iconst 1, 1) := by decide +kernel
theorem dX3_isBeyond_62 : decode cX3_isBeyond 62 = .ok (.isub, 1) := by decide +kernel
theorem dX3_isBeyond_63 : decode cX3_isBeyond 63 = .ok (.iaload, 1) := by decide +kernel
theorem dX3_isBeyond_64 : decode cX3_isBeyond 64 = .ok (.if_icmp .le 7, 3) := by decide +kernel
theorem dX3_isBeyond_67 : decode cX3_isBeyond 67 = .ok (.iconst 1, 1) := by decide +kernel
theorem dX3_isBeyond_68 : decode cX3_isBeyond 68 = .ok (.goto 4, 3) := by decide +kernel
theorem dX3_isBeyond_71 : decode cX3_isBeyond 71 = .ok (.iconst 0, 1) := by decide +kernel
theorem dX3_isBeyond_72 : decode cX3_isBeyond 72 = .ok (.ireturn, 1) := by decide +kernel
set_option maxRecDepth 20000 in
theorem ggX3_firstBeyond_X3_isBeyond : GoodIn wsX3_firstBeyond wsX3_isBeyond := goodIn_r _ [6, 7, 8, 9, 10, 11, 12, 5, 13, 14, 15, 16, 17, 18, 19, 20, 21, 22, 23, 24, 25, 26, 27, 28, 29, 30, 31, 32, 33, 34, 35, 36] (by decide +kernel) (by decide +kernel)
set_option maxRecDepth 20000 in
theorem gX3_firstBeyond_X3_isBeyond : GoodIn wsX3_firstBeyond (wsV RX3 79 RX3 yX3_isBeyond wsX3_isBeyond) := goodIn_app (goodIn_of _ (by decide +kernel)) ggX3_firstBeyond_X3_isBeyond
theorem dX3_firstBeyond_0 : decode cX3_firstBeyond 0 = .ok (.iconst 0, 1) := by decide +kernel
theorem dX3_firstBeyond_1 : decode cX3_firstBeyond 1 = .ok (.istore_n 3, 1) := by decide +kernel
theorem dX3_firstBeyond_2 : decode cX3_firstBeyond 2 = .ok (.iload_n 3, 1) := by decide +kernel
theorem dX3_firstBeyond_3 : decode cX3_firstBeyond 3 = .ok (.aload_n 0, 1) := by decide +kernel
theorem dX3_firstBeyond_4 : decode cX3_firstBeyond 4 = .ok (.getfield 44, 3) := by decide +kernel
theorem dX3_firstBeyond_7 : decode cX3_firstBeyond 7 = .ok (.if_icmp .ge 21, 3) := by decide +kernel
theorem dX3_firstBeyond_10 : decode cX3_firstBeyond 10 = .ok (.aload_n 0, 1) := by decide +kernel
theorem dX3_firstBeyond_11 : decode cX3_firstBeyond 11 = .ok (.iload_n 3, 1) := by decide +kernel
theorem dX3_firstBeyond_12 : decode cX3_firstBeyond 12 = .ok (.iload_n 1, 1) := by decide +kernel
theorem dX3_firstBeyond_13 : decode cX3_firstBeyond 13 = .ok (.iload_n 2, 1) := by decide +kernel
theorem dX3_firstBeyond_14 : decode cX3_firstBeyond 14 = .ok (.invokevirtual 79, 3) := by decide +kernel
theorem dX3_firstBeyond_17 : decode cX3_firstBeyond 17 = .ok (.ifCond .eq 5, 3) := by decide +kernel
theorem dX3_firstBeyond_20 : decode cX3_firstBeyond 20 = .ok (.iload_n 3, 1) := by decide +kernel
theorem dX3_firstBeyond_21 : decode cX3_firstBeyond 21 = .ok (.ireturn, 1) := by decide +kernel
theorem dX3_firstBeyond_22 : decode cX3_firstBeyond 22 = .ok (.iinc 3 1, 3) := by decide +kernel
theorem dX3_firstBeyond_25 : decode cX3_firstBeyond 25 = .ok (.goto (-23), 3) := by decide +kernel
theorem dX3_firstBeyond_28 : decode cX3_firstBeyond 28 = .ok (.iconst (-1), 1) := by decide +kernel
theorem dX3_firstBeyond_29 : decode cX3_firstBeyond 29 = .ok (.ireturn, 1) := by decide +kernel
set_option maxRecDepth 20000 in
theorem ggX3_sum_X3_stressOf : GoodIn wsX3_sum wsX3_stressOf := goodIn_r _ [8, 9, 10, 11, 12, 13, 14, 7, 15, 3, 16, 17, 18, 19, 20, 21, 22, 23, 24, 25, 26, 27, 28, 29, 30, 31, 32, 33, 34, 35, 36, 37, 38, 39, 40, 41, 42, 43, 44] (by decide +kernel) (by decide +kernel)
set_option maxRecDepth 20000 in
theorem gX3_sum_X3_stressOf : GoodIn wsX3_sum (wsV RX3 82 RX3 yX3_stressOf wsX3_stressOf) := goodIn_app (goodIn_of _ (by decide +kernel)) ggX3_sum_X3_stressOf
theorem dX3_sum_0 : decode cX3_sum 0 = .ok (.lconst 0, 1) := by decide +kernel
theorem dX3_sum_1 : decode cX3_sum 1 = .ok (.lstore 4, 2) := by decide +kernel
theorem dX3_sum_3 : decode cX3_sum 3 = .ok (.iconst 0, 1) := by decide +kernel
theorem dX3_sum_4 : decode cX3_sum 4 = .ok (.istore 6, 2) := by decide +kernel
theorem dX3_sum_6 : decode cX3_sum 6 = .ok (.iload 6, 2) := by decide +kernel
theorem dX3_sum_8 : decode cX3_sum 8 = .ok (.aload_n 0, 1) := by decide +kernel
theorem dX3_sum_9 : decode cX3_sum 9 = .ok (.getfield 44, 3) := by decide +kernel
theorem dX3_sum_12 : decode cX3_sum 12 = .ok (.if_icmp .ge 49, 3) := by decide +kernel
theorem dX3_sum_15 : decode cX3_sum 15 = .ok (.lload 4, 2) := by decide +kernel
theorem dX3_sum_17 : decode cX3_sum 17 = .ok (.aload_n 0, 1) := by decide +kernel
theorem dX3_sum_18 : decode cX3_sum 18 = .ok (.getfield 7, 3) := by decide +kernel
theorem dX3_sum_21 : decode cX3_sum 21 = .ok (.iload 6, 2) := by decide +kernel
theorem dX3_sum_23 : decode cX3_sum 23 = .ok (.iaload, 1) := by decide +kernel
theorem dX3_sum_24 : decode cX3_sum 24 = .ok (.i2l, 1) := by decide +kernel
theorem dX3_sum_25 : decode cX3_sum 25 = .ok (.aload_n 0, 1) := by decide +kernel
theorem dX3_sum_26 : decode cX3_sum 26 = .ok (.iload 6, 2) := by decide +kernel
theorem dX3_sum_28 : decode cX3_sum 28 = .ok (.iload_n 1, 1) := by decide +kernel
theorem dX3_sum_29 : decode cX3_sum 29 = .ok (.iload_n 2, 1) := by decide +kernel
theorem dX3_sum_30 : decode cX3_sum 30 = .ok (.invokevirtual 82, 3) := by decide +kernel
theorem dX3_sum_33 : decode cX3_sum 33 = .ok (.i2l, 1) := by decide +kernel
theorem dX3_sum_34 : decode cX3_sum 34 = .ok (.lmul, 1) := by decide +kernel
theorem dX3_sum_35 : decode cX3_sum 35 = .ok (.iload_n 3, 1) := by decide +kernel
theorem dX3_sum_36 : decode cX3_sum 36 = .ok (.ifCond .eq 13, 3) := by decide +kernel
theorem dX3_sum_39 : decode cX3_sum 39 = .ok (.aload_n 0, 1) := by decide +kernel
theorem dX3_sum_40 : decode cX3_sum 40 = .ok (.getfield 13, 3) := by decide +kernel
theorem dX3_sum_43 : decode cX3_sum 43 = .ok (.iload 6, 2) := by decide +kernel
theorem dX3_sum_45 : decode cX3_sum 45 = .ok (.iaload, 1) := by decide +kernel
theorem dX3_sum_46 : decode cX3_sum 46 = .ok (.goto 4, 3) := by decide +kernel
theorem dX3_sum_49 : decode cX3_sum 49 = .ok (.iconst 1, 1) := by decide +kernel
theorem dX3_sum_50 : decode cX3_sum 50 = .ok (.i2l, 1) := by decide +kernel
theorem dX3_sum_51 : decode cX3_sum 51 = .ok (.lmul, 1) := by decide +kernel
theorem dX3_sum_52 : decode cX3_sum 52 = .ok (.ladd, 1) := by decide +kernel
theorem dX3_sum_53 : decode cX3_sum 53 = .ok (.lstore 4, 2) := by decide +kernel
theorem dX3_sum_55 : decode cX3_sum 55 = .ok (.iinc 6 1, 3) := by decide +kernel
theorem dX3_sum_58 : decode cX3_sum 58 = .ok (.goto (-52), 3) := by decide +kernel
theorem dX3_sum_61 : decode cX3_sum 61 = .ok (.lload 4, 2) := by decide +kernel
theorem dX3_sum_63 : decode cX3_sum 63 = .ok (.lreturn, 1) := by decide +kernel
set_option maxRecDepth 20000 in
theorem ggX3_of_X3_within : GoodIn wsX3_of wsX3_within := goodIn_r _ [6] (by decide +kernel) (by decide +kernel)
set_option maxRecDepth 20000 in
theorem gX3_of_X3_within : GoodIn wsX3_of (va_wsS RX3 48 yX3_within wsX3_within) := goodIn_app (goodIn_of _ (by decide +kernel)) ggX3_of_X3_within
set_option maxRecDepth 20000 in
theorem ggX3_of_X3_sum : GoodIn wsX3_of wsX3_sum := goodIn_r _ [10, 11, 12, 13, 14, 15, 16, 5, 17, 18, 19, 20, 21, 22, 23, 24, 25, 26, 27, 28, 29, 30, 31, 32, 33, 34, 35, 36, 37, 38, 39, 40, 41, 42, 43, 44, 45, 46, 47, 48, 49, 50, 51, 52, 53] (by decide +kernel) (by decide +kernel)
set_option maxRecDepth 20000 in
theorem gX3_of_X3_sum : GoodIn wsX3_of (wsV RX3 85 RX3 yX3_sum wsX3_sum) := goodIn_app (goodIn_of _ (by decide +kernel)) ggX3_of_X3_sum
theorem dX3_of_0 : decode cX3_of 0 = .ok (.aload_n 0, 1) := by decide +kernel
theorem dX3_of_1 : decode cX3_of 1 = .ok (.iconst 0, 1) := by decide +kernel
theorem dX3_of_2 : decode cX3_of 2 = .ok (.putfield 40, 3) := by decide +kernel
theorem dX3_of_5 : decode cX3_of 5 = .ok (.iload_n 1, 1) := by decide +kernel
theorem dX3_of_6 : decode cX3_of 6 = .ok (.sipush (-20000), 3) := by decide +kernel
theorem dX3_of_9 : decode cX3_of 9 = .ok (.sipush 20000, 3) := by decide +kernel
theorem dX3_of_12 : decode cX3_of 12 = .ok (.invokestatic 48, 3) := by decide +kernel
theorem dX3_of_15 : decode cX3_of 15 = .ok (.ifCond .eq 29, 3) := by decide +kernel
theorem dX3_of_18 : decode cX3_of 18 = .ok (.iload_n 2, 1) := by decide +kernel
theorem dX3_of_19 : decode cX3_of 19 = .ok (.sipush (-20000), 3) := by decide +kernel
theorem dX3_of_22 : decode cX3_of 22 = .ok (.sipush 20000, 3) := by decide +kernel
theorem dX3_of_25 : decode cX3_of 25 = .ok (.invokestatic 48, 3) := by decide +kernel
theorem dX3_of_28 : decode cX3_of 28 = .ok (.ifCond .eq 16, 3) := by decide +kernel
theorem dX3_of_31 : decode cX3_of 31 = .ok (.iload_n 3, 1) := by decide +kernel
theorem dX3_of_32 : decode cX3_of 32 = .ok (.iconst 0, 1) := by decide +kernel
theorem dX3_of_33 : decode cX3_of 33 = .ok (.iconst 1, 1) := by decide +kernel
theorem dX3_of_34 : decode cX3_of 34 = .ok (.invokestatic 48, 3) := by decide +kernel
theorem dX3_of_37 : decode cX3_of 37 = .ok (.ifCond .eq 7, 3) := by decide +kernel
theorem dX3_of_40 : decode cX3_of 40 = .ok (.iconst 1, 1) := by decide +kernel
theorem dX3_of_41 : decode cX3_of 41 = .ok (.goto 4, 3) := by decide +kernel
theorem dX3_of_44 : decode cX3_of 44 = .ok (.iconst 0, 1) := by decide +kernel
theorem dX3_of_45 : decode cX3_of 45 = .ok (.istore 4, 2) := by decide +kernel
theorem dX3_of_47 : decode cX3_of 47 = .ok (.iload 4, 2) := by decide +kernel
theorem dX3_of_49 : decode cX3_of 49 = .ok (.ifCond .eq 22, 3) := by decide +kernel
theorem dX3_of_52 : decode cX3_of 52 = .ok (.aload_n 0, 1) := by decide +kernel
theorem dX3_of_53 : decode cX3_of 53 = .ok (.iload_n 1, 1) := by decide +kernel
theorem dX3_of_54 : decode cX3_of 54 = .ok (.iload_n 2, 1) := by decide +kernel
theorem dX3_of_55 : decode cX3_of 55 = .ok (.iload_n 3, 1) := by decide +kernel
theorem dX3_of_56 : decode cX3_of 56 = .ok (.iconst 1, 1) := by decide +kernel
theorem dX3_of_57 : decode cX3_of 57 = .ok (.if_icmp .ne 7, 3) := by decide +kernel
theorem dX3_of_60 : decode cX3_of 60 = .ok (.iconst 1, 1) := by decide +kernel
theorem dX3_of_61 : decode cX3_of 61 = .ok (.goto 4, 3) := by decide +kernel
theorem dX3_of_64 : decode cX3_of 64 = .ok (.iconst 0, 1) := by decide +kernel
theorem dX3_of_65 : decode cX3_of 65 = .ok (.invokevirtual 85, 3) := by decide +kernel
theorem dX3_of_68 : decode cX3_of 68 = .ok (.goto 6, 3) := by decide +kernel
theorem dX3_of_71 : decode cX3_of 71 = .ok (.ldc2_w 89, 3) := by decide +kernel
theorem dX3_of_74 : decode cX3_of 74 = .ok (.lreturn, 1) := by decide +kernel
set_option maxRecDepth 20000 in
theorem ggX3_balanceOf_X3_sum : GoodIn wsX3_balanceOf wsX3_sum := goodIn_r _ [6, 7, 8, 9, 10, 11, 12, 5, 13, 14, 15, 16, 17, 18, 19, 20, 21, 22, 23, 24, 25, 26, 27, 28, 29, 30, 31, 32, 33, 34, 35, 36, 37, 38, 39, 40, 41, 42, 43, 44, 45, 46, 47, 48, 49] (by decide +kernel) (by decide +kernel)
set_option maxRecDepth 20000 in
theorem gX3_balanceOf_X3_sum : GoodIn wsX3_balanceOf (wsV RX3 85 RX3 yX3_sum wsX3_sum) := goodIn_app (goodIn_of _ (by decide +kernel)) ggX3_balanceOf_X3_sum
theorem dX3_balanceOf_0 : decode cX3_balanceOf 0 = .ok (.aload_n 0, 1) := by decide +kernel
theorem dX3_balanceOf_1 : decode cX3_balanceOf 1 = .ok (.sipush 20000, 3) := by decide +kernel
theorem dX3_balanceOf_4 : decode cX3_balanceOf 4 = .ok (.iload_n 3, 1) := by decide +kernel
theorem dX3_balanceOf_5 : decode cX3_balanceOf 5 = .ok (.iconst 0, 1) := by decide +kernel
theorem dX3_balanceOf_6 : decode cX3_balanceOf 6 = .ok (.invokevirtual 85, 3) := by decide +kernel
theorem dX3_balanceOf_9 : decode cX3_balanceOf 9 = .ok (.lload_n 1, 1) := by decide +kernel
theorem dX3_balanceOf_10 : decode cX3_balanceOf 10 = .ok (.lcmp, 1) := by decide +kernel
theorem dX3_balanceOf_11 : decode cX3_balanceOf 11 = .ok (.ifCond .ge 6, 3) := by decide +kernel
theorem dX3_balanceOf_14 : decode cX3_balanceOf 14 = .ok (.ldc 64, 2) := by decide +kernel
theorem dX3_balanceOf_16 : decode cX3_balanceOf 16 = .ok (.ireturn, 1) := by decide +kernel
theorem dX3_balanceOf_17 : decode cX3_balanceOf 17 = .ok (.sipush (-20000), 3) := by decide +kernel
theorem dX3_balanceOf_20 : decode cX3_balanceOf 20 = .ok (.istore 4, 2) := by decide +kernel
theorem dX3_balanceOf_22 : decode cX3_balanceOf 22 = .ok (.sipush 20000, 3) := by decide +kernel
theorem dX3_balanceOf_25 : decode cX3_balanceOf 25 = .ok (.istore 5, 2) := by decide +kernel
theorem dX3_balanceOf_27 : decode cX3_balanceOf 27 = .ok (.iload 4, 2) := by decide +kernel
theorem dX3_balanceOf_29 : decode cX3_balanceOf 29 = .ok (.iload 5, 2) := by decide +kernel
theorem dX3_balanceOf_31 : decode cX3_balanceOf 31 = .ok (.if_icmp .ge 44, 3) := by decide +kernel
theorem dX3_balanceOf_34 : decode cX3_balanceOf 34 = .ok (.iload 4, 2) := by decide +kernel
theorem dX3_balanceOf_36 : decode cX3_balanceOf 36 = .ok (.iload 5, 2) := by decide +kernel
theorem dX3_balanceOf_38 : decode cX3_balanceOf 38 = .ok (.iload 4, 2) := by decide +kernel
theorem dX3_balanceOf_40 : decode cX3_balanceOf 40 = .ok (.isub, 1) := by decide +kernel
theorem dX3_balanceOf_41 : decode cX3_balanceOf 41 = .ok (.iconst 2, 1) := by decide +kernel
theorem dX3_balanceOf_42 : decode cX3_balanceOf 42 = .ok (.idiv, 1) := by decide +kernel
theorem dX3_balanceOf_43 : decode cX3_balanceOf 43 = .ok (.iadd, 1) := by decide +kernel
theorem dX3_balanceOf_44 : decode cX3_balanceOf 44 = .ok (.istore 6, 2) := by decide +kernel
theorem dX3_balanceOf_46 : decode cX3_balanceOf 46 = .ok (.aload_n 0, 1) := by decide +kernel
theorem dX3_balanceOf_47 : decode cX3_balanceOf 47 = .ok (.iload 6, 2) := by decide +kernel
theorem dX3_balanceOf_49 : decode cX3_balanceOf 49 = .ok (.iload_n 3, 1) := by decide +kernel
theorem dX3_balanceOf_50 : decode cX3_balanceOf 50 = .ok (.iconst 0, 1) := by decide +kernel
theorem dX3_balanceOf_51 : decode cX3_balanceOf 51 = .ok (.invokevirtual 85, 3) := by decide +kernel
theorem dX3_balanceOf_54 : decode cX3_balanceOf 54 = .ok (.lload_n 1, 1) := by decide +kernel
theorem dX3_balanceOf_55 : decode cX3_balanceOf 55 = .ok (.lcmp, 1) := by decide +kernel
theorem dX3_balanceOf_56 : decode cX3_balanceOf 56 = .ok (.ifCond .lt 10, 3) := by decide +kernel
theorem dX3_balanceOf_59 : decode cX3_balanceOf 59 = .ok (.iload 6, 2) := by decide +kernel
theorem dX3_balanceOf_61 : decode cX3_balanceOf 61 = .ok (.istore 5, 2) := by decide +kernel
theorem dX3_balanceOf_63 : decode cX3_balanceOf 63 = .ok (.goto 9, 3) := by decide +kernel
theorem dX3_balanceOf_66 : decode cX3_balanceOf 66 = .ok (.iload 6, 2) := by decide +kernel
theorem dX3_balanceOf_68 : decode cX3_balanceOf 68 = .ok (.iconst 1, 1) := by decide +kernel
theorem dX3_balanceOf_69 : decode cX3_balanceOf 69 = .ok (.iadd, 1) := by decide +kernel
theorem dX3_balanceOf_70 : decode cX3_balanceOf 70 = .ok (.istore 4, 2) := by decide +kernel
theorem dX3_balanceOf_72 : decode cX3_balanceOf 72 = .ok (.goto (-45), 3) := by decide +kernel
theorem dX3_balanceOf_75 : decode cX3_balanceOf 75 = .ok (.iload 4, 2) := by decide +kernel
theorem dX3_balanceOf_77 : decode cX3_balanceOf 77 = .ok (.ireturn, 1) := by decide +kernel
set_option maxRecDepth 20000 in
theorem ggX3_balance_X3_within : GoodIn wsX3_balance wsX3_within := goodIn_r _ [6] (by decide +kernel) (by decide +kernel)
set_option maxRecDepth 20000 in
theorem gX3_balance_X3_within : GoodIn wsX3_balance (va_wsS RX3 48 yX3_within wsX3_within) := goodIn_app (goodIn_of _ (by decide +kernel)) ggX3_balance_X3_within
set_option maxRecDepth 20000 in
theorem ggX3_balance_X3_balanceOf : GoodIn wsX3_balance wsX3_balanceOf := goodIn_r _ [10, 2, 11, 12, 13, 5, 14, 15, 16, 17, 18, 19, 20, 21, 22, 23, 24, 25, 26, 27, 28, 29, 30, 31, 32, 33, 34, 35, 36, 37, 38, 39, 40, 41, 42, 43, 44, 45, 46, 47, 48, 49, 50, 51, 52, 53, 54, 55, 56, 57] (by decide +kernel) (by decide +kernel)
set_option maxRecDepth 20000 in
theorem gX3_balance_X3_balanceOf : GoodIn wsX3_balance (wsV RX3 91 RX3 yX3_balanceOf wsX3_balanceOf) := goodIn_app (goodIn_of _ (by decide +kernel)) ggX3_balance_X3_balanceOf
theorem dX3_balance_0 : decode cX3_balance 0 = .ok (.aload_n 0, 1) := by decide +kernel
theorem dX3_balance_1 : decode cX3_balance 1 = .ok (.iconst 0, 1) := by decide +kernel
theorem dX3_balance_2 : decode cX3_balance 2 = .ok (.putfield 40, 3) := by decide +kernel
theorem dX3_balance_5 : decode cX3_balance 5 = .ok (.iload_n 3, 1) := by decide +kernel
theorem dX3_balance_6 : decode cX3_balance 6 = .ok (.sipush (-20000), 3) := by decide +kernel
theorem dX3_balance_9 : decode cX3_balance 9 = .ok (.sipush 20000, 3) := by decide +kernel
theorem dX3_balance_12 : decode cX3_balance 12 = .ok (.invokestatic 48, 3) := by decide +kernel
theorem dX3_balance_15 : decode cX3_balance 15 = .ok (.ifCond .eq 12, 3) := by decide +kernel
theorem dX3_balance_18 : decode cX3_balance 18 = .ok (.aload_n 0, 1) := by decide +kernel
theorem dX3_balance_19 : decode cX3_balance 19 = .ok (.lload_n 1, 1) := by decide +kernel
theorem dX3_balance_20 : decode cX3_balance 20 = .ok (.iload_n 3, 1) := by decide +kernel
theorem dX3_balance_21 : decode cX3_balance 21 = .ok (.invokevirtual 91, 3) := by decide +kernel
theorem dX3_balance_24 : decode cX3_balance 24 = .ok (.goto 5, 3) := by decide +kernel
theorem dX3_balance_27 : decode cX3_balance 27 = .ok (.ldc 64, 2) := by decide +kernel
theorem dX3_balance_29 : decode cX3_balance 29 = .ok (.ireturn, 1) := by decide +kernel
set_option maxRecDepth 20000 in
theorem ggX3_solve_X3_balanceOf : GoodIn wsX3_solve wsX3_balanceOf := goodIn_r _ [8, 1, 9, 10, 11, 7, 12, 13, 14, 15, 16, 17, 18, 19, 20, 21, 22, 23, 24, 25, 26, 27, 28, 29, 30, 31, 32, 33, 34, 35, 36, 37, 38, 39, 40, 41, 42, 43, 44, 45, 46, 47, 48, 49, 50, 51, 52, 53, 54, 55] (by decide +kernel) (by decide +kernel)
set_option maxRecDepth 20000 in
theorem gX3_solve_X3_balanceOf : GoodIn wsX3_solve (wsV RX3 91 RX3 yX3_balanceOf wsX3_balanceOf) := goodIn_app (goodIn_of _ (by decide +kernel)) ggX3_solve_X3_balanceOf
set_option maxRecDepth 20000 in
theorem ggX3_solve_X3_sum : GoodIn wsX3_solve wsX3_sum := goodIn_r _ [12, 13, 14, 15, 16, 17, 18, 7, 19, 20, 21, 22, 23, 24, 25, 26, 27, 28, 29, 30, 31, 32, 33, 34, 35, 36, 37, 38, 39, 40, 41, 42, 43, 44, 45, 46, 47, 48, 49, 50, 51, 52, 53, 54, 55] (by decide +kernel) (by decide +kernel)
set_option maxRecDepth 20000 in
theorem gX3_solve_X3_sum : GoodIn wsX3_solve (wsV RX3 85 RX3 yX3_sum wsX3_sum) := goodIn_app (goodIn_of _ (by decide +kernel)) ggX3_solve_X3_sum
theorem dX3_solve_0 : decode cX3_solve 0 = .ok (.sipush (-20000), 3) := by decide +kernel
theorem dX3_solve_3 : decode cX3_solve 3 = .ok (.istore 5, 2) := by decide +kernel
theorem dX3_solve_5 : decode cX3_solve 5 = .ok (.sipush 20000, 3) := by decide +kernel
theorem dX3_solve_8 : decode cX3_solve 8 = .ok (.istore 6, 2) := by decide +kernel
theorem dX3_solve_10 : decode cX3_solve 10 = .ok (.iload 5, 2) := by decide +kernel
theorem dX3_solve_12 : decode cX3_solve 12 = .ok (.iload 6, 2) := by decide +kernel
theorem dX3_solve_14 : decode cX3_solve 14 = .ok (.if_icmp .ge 63, 3) := by decide +kernel
theorem dX3_solve_17 : decode cX3_solve 17 = .ok (.iload 5, 2) := by decide +kernel
theorem dX3_solve_19 : decode cX3_solve 19 = .ok (.iload 6, 2) := by decide +kernel
theorem dX3_solve_21 : decode cX3_solve 21 = .ok (.iload 5, 2) := by decide +kernel
theorem dX3_solve_23 : decode cX3_solve 23 = .ok (.isub, 1) := by decide +kernel
theorem dX3_solve_24 : decode cX3_solve 24 = .ok (.iconst 2, 1) := by decide +kernel
theorem dX3_solve_25 : decode cX3_solve 25 = .ok (.idiv, 1) := by decide +kernel
theorem dX3_solve_26 : decode cX3_solve 26 = .ok (.iadd, 1) := by decide +kernel
theorem dX3_solve_27 : decode cX3_solve 27 = .ok (.istore 7, 2) := by decide +kernel
theorem dX3_solve_29 : decode cX3_solve 29 = .ok (.aload_n 0, 1) := by decide +kernel
theorem dX3_solve_30 : decode cX3_solve 30 = .ok (.lload_n 1, 1) := by decide +kernel
theorem dX3_solve_31 : decode cX3_solve 31 = .ok (.iload 7, 2) := by decide +kernel
theorem dX3_solve_33 : decode cX3_solve 33 = .ok (.invokevirtual 91, 3) := by decide +kernel
theorem dX3_solve_36 : decode cX3_solve 36 = .ok (.istore 8, 2) := by decide +kernel
theorem dX3_solve_38 : decode cX3_solve 38 = .ok (.iload 8, 2) := by decide +kernel
theorem dX3_solve_40 : decode cX3_solve 40 = .ok (.ldc 64, 2) := by decide +kernel
theorem dX3_solve_42 : decode cX3_solve 42 = .ok (.if_icmp .ne 5, 3) := by decide +kernel
theorem dX3_solve_45 : decode cX3_solve 45 = .ok (.iconst 1, 1) := by decide +kernel
theorem dX3_solve_46 : decode cX3_solve 46 = .ok (.ireturn, 1) := by decide +kernel
theorem dX3_solve_47 : decode cX3_solve 47 = .ok (.aload_n 0, 1) := by decide +kernel
theorem dX3_solve_48 : decode cX3_solve 48 = .ok (.iload 8, 2) := by decide +kernel
theorem dX3_solve_50 : decode cX3_solve 50 = .ok (.iload 7, 2) := by decide +kernel
theorem dX3_solve_52 : decode cX3_solve 52 = .ok (.iconst 1, 1) := by decide +kernel
theorem dX3_solve_53 : decode cX3_solve 53 = .ok (.invokevirtual 85, 3) := by decide +kernel
theorem dX3_solve_56 : decode cX3_solve 56 = .ok (.lload_n 3, 1) := by decide +kernel
theorem dX3_solve_57 : decode cX3_solve 57 = .ok (.lcmp, 1) := by decide +kernel
theorem dX3_solve_58 : decode cX3_solve 58 = .ok (.ifCond .lt 10, 3) := by decide +kernel
theorem dX3_solve_61 : decode cX3_solve 61 = .ok (.iload 7, 2) := by decide +kernel
theorem dX3_solve_63 : decode cX3_solve 63 = .ok (.istore 6, 2) := by decide +kernel
theorem dX3_solve_65 : decode cX3_solve 65 = .ok (.goto 9, 3) := by decide +kernel
theorem dX3_solve_68 : decode cX3_solve 68 = .ok (.iload 7, 2) := by decide +kernel
theorem dX3_solve_70 : decode cX3_solve 70 = .ok (.iconst 1, 1) := by decide +kernel
theorem dX3_solve_71 : decode cX3_solve 71 = .ok (.iadd, 1) := by decide +kernel
theorem dX3_solve_72 : decode cX3_solve 72 = .ok (.istore 5, 2) := by decide +kernel
theorem dX3_solve_74 : decode cX3_solve 74 = .ok (.goto (-64), 3) := by decide +kernel
theorem dX3_solve_77 : decode cX3_solve 77 = .ok (.aload_n 0, 1) := by decide +kernel
theorem dX3_solve_78 : decode cX3_solve 78 = .ok (.iload 5, 2) := by decide +kernel
theorem dX3_solve_80 : decode cX3_solve 80 = .ok (.putfield 95, 3) := by decide +kernel
theorem dX3_solve_83 : decode cX3_solve 83 = .ok (.aload_n 0, 1) := by decide +kernel
theorem dX3_solve_84 : decode cX3_solve 84 = .ok (.aload_n 0, 1) := by decide +kernel
theorem dX3_solve_85 : decode cX3_solve 85 = .ok (.lload_n 1, 1) := by decide +kernel
theorem dX3_solve_86 : decode cX3_solve 86 = .ok (.iload 5, 2) := by decide +kernel
theorem dX3_solve_88 : decode cX3_solve 88 = .ok (.invokevirtual 91, 3) := by decide +kernel
theorem dX3_solve_91 : decode cX3_solve 91 = .ok (.putfield 98, 3) := by decide +kernel
theorem dX3_solve_94 : decode cX3_solve 94 = .ok (.aload_n 0, 1) := by decide +kernel
theorem dX3_solve_95 : decode cX3_solve 95 = .ok (.getfield 98, 3) := by decide +kernel
theorem dX3_solve_98 : decode cX3_solve 98 = .ok (.ldc 64, 2) := by decide +kernel
theorem dX3_solve_100 : decode cX3_solve 100 = .ok (.if_icmp .ne 7, 3) := by decide +kernel
theorem dX3_solve_103 : decode cX3_solve 103 = .ok (.iconst 1, 1) := by decide +kernel
theorem dX3_solve_104 : decode cX3_solve 104 = .ok (.goto 26, 3) := by decide +kernel
theorem dX3_solve_107 : decode cX3_solve 107 = .ok (.aload_n 0, 1) := by decide +kernel
theorem dX3_solve_108 : decode cX3_solve 108 = .ok (.aload_n 0, 1) := by decide +kernel
theorem dX3_solve_109 : decode cX3_solve 109 = .ok (.getfield 98, 3) := by decide +kernel
theorem dX3_solve_112 : decode cX3_solve 112 = .ok (.aload_n 0, 1) := by decide +kernel
theorem dX3_solve_113 : decode cX3_solve 113 = .ok (.getfield 95, 3) := by decide +kernel
theorem dX3_solve_116 : decode cX3_solve 116 = .ok (.iconst 1, 1) := by decide +kernel
theorem dX3_solve_117 : decode cX3_solve 117 = .ok (.invokevirtual 85, 3) := by decide +kernel
theorem dX3_solve_120 : decode cX3_solve 120 = .ok (.lload_n 3, 1) := by decide +kernel
theorem dX3_solve_121 : decode cX3_solve 121 = .ok (.lcmp, 1) := by decide +kernel
theorem dX3_solve_122 : decode cX3_solve 122 = .ok (.ifCond .ge 7, 3) := by decide +kernel
theorem dX3_solve_125 : decode cX3_solve 125 = .ok (.iconst 2, 1) := by decide +kernel
theorem dX3_solve_126 : decode cX3_solve 126 = .ok (.goto 4, 3) := by decide +kernel
theorem dX3_solve_129 : decode cX3_solve 129 = .ok (.iconst 0, 1) := by decide +kernel
theorem dX3_solve_130 : decode cX3_solve 130 = .ok (.ireturn, 1) := by decide +kernel
set_option maxRecDepth 20000 in
theorem ggX3_run_X3_solve : GoodIn wsX3_run wsX3_solve := goodIn_r _ [13, 14, 5, 3, 15, 16, 17, 12, 18, 19, 20, 21, 22, 23, 24, 25, 26, 27, 28, 29, 30, 31, 32, 33, 34, 35, 36, 37, 38, 39, 40, 41, 42, 43, 44, 45, 46, 47, 48, 49, 50, 51, 52, 53, 54, 55, 56, 57, 58, 59, 60, 61, 62, 63, 64, 65] (by decide +kernel) (by decide +kernel)
set_option maxRecDepth 20000 in
theorem gX3_run_X3_solve : GoodIn wsX3_run (wsV RX3 101 RX3 yX3_solve wsX3_solve) := goodIn_app (goodIn_of _ (by decide +kernel)) ggX3_run_X3_solve
theorem dX3_run_0 : decode cX3_run 0 = .ok (.aload_n 0, 1) := by decide +kernel
theorem dX3_run_1 : decode cX3_run 1 = .ok (.iconst 0, 1) := by decide +kernel
theorem dX3_run_2 : decode cX3_run 2 = .ok (.putfield 40, 3) := by decide +kernel
theorem dX3_run_5 : decode cX3_run 5 = .ok (.aload_n 0, 1) := by decide +kernel
theorem dX3_run_6 : decode cX3_run 6 = .ok (.lload_n 1, 1) := by decide +kernel
theorem dX3_run_7 : decode cX3_run 7 = .ok (.lload_n 3, 1) := by decide +kernel
theorem dX3_run_8 : decode cX3_run 8 = .ok (.invokevirtual 101, 3) := by decide +kernel
theorem dX3_run_11 : decode cX3_run 11 = .ok (.istore 5, 2) := by decide +kernel
theorem dX3_run_13 : decode cX3_run 13 = .ok (.iload 5, 2) := by decide +kernel
theorem dX3_run_15 : decode cX3_run 15 = .ok (.ifCond .ne 34, 3) := by decide +kernel
theorem dX3_run_18 : decode cX3_run 18 = .ok (.aload_n 0, 1) := by decide +kernel
theorem dX3_run_19 : decode cX3_run 19 = .ok (.iconst 1, 1) := by decide +kernel
theorem dX3_run_20 : decode cX3_run 20 = .ok (.putfield 60, 3) := by decide +kernel
theorem dX3_run_23 : decode cX3_run 23 = .ok (.aload_n 0, 1) := by decide +kernel
theorem dX3_run_24 : decode cX3_run 24 = .ok (.aload_n 0, 1) := by decide +kernel
theorem dX3_run_25 : decode cX3_run 25 = .ok (.getfield 98, 3) := by decide +kernel
theorem dX3_run_28 : decode cX3_run 28 = .ok (.putfield 105, 3) := by decide +kernel
theorem dX3_run_31 : decode cX3_run 31 = .ok (.aload_n 0, 1) := by decide +kernel
theorem dX3_run_32 : decode cX3_run 32 = .ok (.aload_n 0, 1) := by decide +kernel
theorem dX3_run_33 : decode cX3_run 33 = .ok (.getfield 95, 3) := by decide +kernel
theorem dX3_run_36 : decode cX3_run 36 = .ok (.putfield 108, 3) := by decide +kernel
theorem dX3_run_39 : decode cX3_run 39 = .ok (.aload_n 0, 1) := by decide +kernel
theorem dX3_run_40 : decode cX3_run 40 = .ok (.lload_n 1, 1) := by decide +kernel
theorem dX3_run_41 : decode cX3_run 41 = .ok (.putfield 111, 3) := by decide +kernel
theorem dX3_run_44 : decode cX3_run 44 = .ok (.aload_n 0, 1) := by decide +kernel
theorem dX3_run_45 : decode cX3_run 45 = .ok (.lload_n 3, 1) := by decide +kernel
theorem dX3_run_46 : decode cX3_run 46 = .ok (.putfield 115, 3) := by decide +kernel
theorem dX3_run_49 : decode cX3_run 49 = .ok (.iload 5, 2) := by decide +kernel
theorem dX3_run_51 : decode cX3_run 51 = .ok (.ireturn, 1) := by decide +kernel
set_option maxRecDepth 20000 in
theorem ggX3_told_X3_within : GoodIn wsX3_told wsX3_within := goodIn_r _ [8] (by decide +kernel) (by decide +kernel)
set_option maxRecDepth 20000 in
theorem gX3_told_X3_within : GoodIn wsX3_told (va_wsS RX3 48 yX3_within wsX3_within) := goodIn_app (goodIn_of _ (by decide +kernel)) ggX3_told_X3_within
set_option maxRecDepth 20000 in
theorem ggX3_told_X3_firstBeyond : GoodIn wsX3_told wsX3_firstBeyond := goodIn_r _ [12, 13, 14, 15, 16, 7, 17, 18, 19, 20, 21, 22, 23, 24, 25, 26, 27, 28, 29, 30, 31, 32, 33, 34, 35, 36, 37, 38, 39, 40, 41, 42, 43, 44, 45, 46, 47] (by decide +kernel) (by decide +kernel)
set_option maxRecDepth 20000 in
theorem gX3_told_X3_firstBeyond : GoodIn wsX3_told (wsV RX3 118 RX3 yX3_firstBeyond wsX3_firstBeyond) := goodIn_app (goodIn_of _ (by decide +kernel)) ggX3_told_X3_firstBeyond
theorem dX3_told_0 : decode cX3_told 0 = .ok (.aload_n 0, 1) := by decide +kernel
theorem dX3_told_1 : decode cX3_told 1 = .ok (.iconst 0, 1) := by decide +kernel
theorem dX3_told_2 : decode cX3_told 2 = .ok (.putfield 40, 3) := by decide +kernel
theorem dX3_told_5 : decode cX3_told 5 = .ok (.aload_n 0, 1) := by decide +kernel
theorem dX3_told_6 : decode cX3_told 6 = .ok (.getfield 60, 3) := by decide +kernel
theorem dX3_told_9 : decode cX3_told 9 = .ok (.ifCond .eq 12, 3) := by decide +kernel
theorem dX3_told_12 : decode cX3_told 12 = .ok (.iload_n 1, 1) := by decide +kernel
theorem dX3_told_13 : decode cX3_told 13 = .ok (.iconst 0, 1) := by decide +kernel
theorem dX3_told_14 : decode cX3_told 14 = .ok (.iconst 2, 1) := by decide +kernel
theorem dX3_told_15 : decode cX3_told 15 = .ok (.invokestatic 48, 3) := by decide +kernel
theorem dX3_told_18 : decode cX3_told 18 = .ok (.ifCond .ne 5, 3) := by decide +kernel
theorem dX3_told_21 : decode cX3_told 21 = .ok (.iconst (-1), 1) := by decide +kernel
theorem dX3_told_22 : decode cX3_told 22 = .ok (.ireturn, 1) := by decide +kernel
theorem dX3_told_23 : decode cX3_told 23 = .ok (.iload_n 1, 1) := by decide +kernel
theorem dX3_told_24 : decode cX3_told 24 = .ok (.ifCond .ne 10, 3) := by decide +kernel
theorem dX3_told_27 : decode cX3_told 27 = .ok (.aload_n 0, 1) := by decide +kernel
theorem dX3_told_28 : decode cX3_told 28 = .ok (.getfield 105, 3) := by decide +kernel
theorem dX3_told_31 : decode cX3_told 31 = .ok (.goto 27, 3) := by decide +kernel
theorem dX3_told_34 : decode cX3_told 34 = .ok (.iload_n 1, 1) := by decide +kernel
theorem dX3_told_35 : decode cX3_told 35 = .ok (.iconst 1, 1) := by decide +kernel
theorem dX3_told_36 : decode cX3_told 36 = .ok (.if_icmp .ne 10, 3) := by decide +kernel
theorem dX3_told_39 : decode cX3_told 39 = .ok (.aload_n 0, 1) := by decide +kernel
theorem dX3_told_40 : decode cX3_told 40 = .ok (.getfield 108, 3) := by decide +kernel
theorem dX3_told_43 : decode cX3_told 43 = .ok (.goto 15, 3) := by decide +kernel
theorem dX3_told_46 : decode cX3_told 46 = .ok (.aload_n 0, 1) := by decide +kernel
theorem dX3_told_47 : decode cX3_told 47 = .ok (.aload_n 0, 1) := by decide +kernel
theorem dX3_told_48 : decode cX3_told 48 = .ok (.getfield 105, 3) := by decide +kernel
theorem dX3_told_51 : decode cX3_told 51 = .ok (.aload_n 0, 1) := by decide +kernel
theorem dX3_told_52 : decode cX3_told 52 = .ok (.getfield 108, 3) := by decide +kernel
theorem dX3_told_55 : decode cX3_told 55 = .ok (.invokevirtual 118, 3) := by decide +kernel
theorem dX3_told_58 : decode cX3_told 58 = .ok (.ireturn, 1) := by decide +kernel
set_option maxRecDepth 20000 in
theorem ggX3_residual_X3_within : GoodIn wsX3_residual wsX3_within := goodIn_r _ [11] (by decide +kernel) (by decide +kernel)
set_option maxRecDepth 20000 in
theorem gX3_residual_X3_within : GoodIn wsX3_residual (va_wsS RX3 48 yX3_within wsX3_within) := goodIn_app (goodIn_of _ (by decide +kernel)) ggX3_residual_X3_within
set_option maxRecDepth 20000 in
theorem ggX3_residual_X3_sum : GoodIn wsX3_residual wsX3_sum := goodIn_r _ [15, 16, 17, 18, 19, 20, 21, 10, 22, 23, 24, 25, 26, 27, 28, 29, 30, 31, 32, 33, 34, 35, 36, 37, 38, 39, 40, 41, 42, 43, 44, 45, 46, 47, 48, 49, 50, 51, 52, 53, 54, 55, 56, 57, 58] (by decide +kernel) (by decide +kernel)
set_option maxRecDepth 20000 in
theorem gX3_residual_X3_sum : GoodIn wsX3_residual (wsV RX3 85 RX3 yX3_sum wsX3_sum) := goodIn_app (goodIn_of _ (by decide +kernel)) ggX3_residual_X3_sum
theorem dX3_residual_0 : decode cX3_residual 0 = .ok (.aload_n 0, 1) := by decide +kernel
theorem dX3_residual_1 : decode cX3_residual 1 = .ok (.iconst 0, 1) := by decide +kernel
theorem dX3_residual_2 : decode cX3_residual 2 = .ok (.putfield 40, 3) := by decide +kernel
theorem dX3_residual_5 : decode cX3_residual 5 = .ok (.aload_n 0, 1) := by decide +kernel
theorem dX3_residual_6 : decode cX3_residual 6 = .ok (.getfield 60, 3) := by decide +kernel
theorem dX3_residual_9 : decode cX3_residual 9 = .ok (.ifCond .eq 12, 3) := by decide +kernel
theorem dX3_residual_12 : decode cX3_residual 12 = .ok (.iload_n 1, 1) := by decide +kernel
theorem dX3_residual_13 : decode cX3_residual 13 = .ok (.iconst 0, 1) := by decide +kernel
theorem dX3_residual_14 : decode cX3_residual 14 = .ok (.iconst 1, 1) := by decide +kernel
theorem dX3_residual_15 : decode cX3_residual 15 = .ok (.invokestatic 48, 3) := by decide +kernel
theorem dX3_residual_18 : decode cX3_residual 18 = .ok (.ifCond .ne 7, 3) := by decide +kernel
theorem dX3_residual_21 : decode cX3_residual 21 = .ok (.ldc2_w 89, 3) := by decide +kernel
theorem dX3_residual_24 : decode cX3_residual 24 = .ok (.lreturn, 1) := by decide +kernel
theorem dX3_residual_25 : decode cX3_residual 25 = .ok (.iload_n 1, 1) := by decide +kernel
theorem dX3_residual_26 : decode cX3_residual 26 = .ok (.ifCond .ne 24, 3) := by decide +kernel
theorem dX3_residual_29 : decode cX3_residual 29 = .ok (.aload_n 0, 1) := by decide +kernel
theorem dX3_residual_30 : decode cX3_residual 30 = .ok (.aload_n 0, 1) := by decide +kernel
theorem dX3_residual_31 : decode cX3_residual 31 = .ok (.getfield 105, 3) := by decide +kernel
theorem dX3_residual_34 : decode cX3_residual 34 = .ok (.aload_n 0, 1) := by decide +kernel
theorem dX3_residual_35 : decode cX3_residual 35 = .ok (.getfield 108, 3) := by decide +kernel
theorem dX3_residual_38 : decode cX3_residual 38 = .ok (.iconst 0, 1) := by decide +kernel
theorem dX3_residual_39 : decode cX3_residual 39 = .ok (.invokevirtual 85, 3) := by decide +kernel
theorem dX3_residual_42 : decode cX3_residual 42 = .ok (.aload_n 0, 1) := by decide +kernel
theorem dX3_residual_43 : decode cX3_residual 43 = .ok (.getfield 111, 3) := by decide +kernel
theorem dX3_residual_46 : decode cX3_residual 46 = .ok (.lsub, 1) := by decide +kernel
theorem dX3_residual_47 : decode cX3_residual 47 = .ok (.goto 21, 3) := by decide +kernel
theorem dX3_residual_50 : decode cX3_residual 50 = .ok (.aload_n 0, 1) := by decide +kernel
theorem dX3_residual_51 : decode cX3_residual 51 = .ok (.aload_n 0, 1) := by decide +kernel
theorem dX3_residual_52 : decode cX3_residual 52 = .ok (.getfield 105, 3) := by decide +kernel
theorem dX3_residual_55 : decode cX3_residual 55 = .ok (.aload_n 0, 1) := by decide +kernel
theorem dX3_residual_56 : decode cX3_residual 56 = .ok (.getfield 108, 3) := by decide +kernel
theorem dX3_residual_59 : decode cX3_residual 59 = .ok (.iconst 1, 1) := by decide +kernel
theorem dX3_residual_60 : decode cX3_residual 60 = .ok (.invokevirtual 85, 3) := by decide +kernel
theorem dX3_residual_63 : decode cX3_residual 63 = .ok (.aload_n 0, 1) := by decide +kernel
theorem dX3_residual_64 : decode cX3_residual 64 = .ok (.getfield 115, 3) := by decide +kernel
theorem dX3_residual_67 : decode cX3_residual 67 = .ok (.lsub, 1) := by decide +kernel
theorem dX3_residual_68 : decode cX3_residual 68 = .ok (.lreturn, 1) := by decide +kernel
set_option maxRecDepth 20000 in
theorem ggX3_in_X3_isFibre : GoodIn wsX3_in wsX3_isFibre := goodIn_r _ [10, 11, 37, 38, 39, 40, 41, 42, 43, 44, 45, 46, 47, 48, 49, 50, 51, 52, 53, 54, 55] (by decide +kernel) (by decide +kernel)
set_option maxRecDepth 20000 in
theorem gX3_in_X3_isFibre : GoodIn wsX3_in (wsV RX3 66 RX3 yX3_isFibre wsX3_isFibre) := goodIn_app (goodIn_of _ (by decide +kernel)) ggX3_in_X3_isFibre
set_option maxRecDepth 20000 in
theorem ggX3_in_X3_within : GoodIn wsX3_in wsX3_within := goodIn_r _ [14] (by decide +kernel) (by decide +kernel)
set_option maxRecDepth 20000 in
theorem gX3_in_X3_within : GoodIn wsX3_in (va_wsS RX3 48 yX3_within wsX3_within) := goodIn_app (goodIn_of _ (by decide +kernel)) ggX3_in_X3_within
set_option maxRecDepth 20000 in
theorem ggX3_in_X3_works : GoodIn wsX3_in wsX3_works := goodIn_r _ [18, 19, 20, 21, 22, 23, 37, 38, 39, 40, 41, 42, 43, 44, 45, 46, 47, 48, 49, 50, 51, 52, 53, 54, 55] (by decide +kernel) (by decide +kernel)
set_option maxRecDepth 20000 in
theorem gX3_in_X3_works : GoodIn wsX3_in (wsV RX3 73 RX3 yX3_works wsX3_works) := goodIn_app (goodIn_of _ (by decide +kernel)) ggX3_in_X3_works
set_option maxRecDepth 20000 in
theorem ggX3_in_X3_stressOf : GoodIn wsX3_in wsX3_stressOf := goodIn_r _ [27, 22, 28, 29, 15, 16, 17, 9, 18, 19, 20, 21, 23, 30, 31, 32, 33, 34, 35, 36, 37, 38, 39, 40, 41, 42, 43, 44, 45, 46, 47, 48, 49, 50, 51, 52, 53, 54, 55] (by decide +kernel) (by decide +kernel)
set_option maxRecDepth 20000 in
theorem gX3_in_X3_stressOf : GoodIn wsX3_in (wsV RX3 82 RX3 yX3_stressOf wsX3_stressOf) := goodIn_app (goodIn_of _ (by decide +kernel)) ggX3_in_X3_stressOf
theorem dX3_in_0 : decode cX3_in 0 = .ok (.aload_n 0, 1) := by decide +kernel
theorem dX3_in_1 : decode cX3_in 1 = .ok (.aload_n 0, 1) := by decide +kernel
theorem dX3_in_2 : decode cX3_in 2 = .ok (.iload_n 1, 1) := by decide +kernel
theorem dX3_in_3 : decode cX3_in 3 = .ok (.invokevirtual 66, 3) := by decide +kernel
theorem dX3_in_6 : decode cX3_in 6 = .ok (.ifCond .eq 7, 3) := by decide +kernel
theorem dX3_in_9 : decode cX3_in 9 = .ok (.iconst 0, 1) := by decide +kernel
theorem dX3_in_10 : decode cX3_in 10 = .ok (.goto 4, 3) := by decide +kernel
theorem dX3_in_13 : decode cX3_in 13 = .ok (.iconst 1, 1) := by decide +kernel
theorem dX3_in_14 : decode cX3_in 14 = .ok (.putfield 40, 3) := by decide +kernel
theorem dX3_in_17 : decode cX3_in 17 = .ok (.aload_n 0, 1) := by decide +kernel
theorem dX3_in_18 : decode cX3_in 18 = .ok (.getfield 40, 3) := by decide +kernel
theorem dX3_in_21 : decode cX3_in 21 = .ok (.ifCond .le 5, 3) := by decide +kernel
theorem dX3_in_24 : decode cX3_in 24 = .ok (.iconst 0, 1) := by decide +kernel
theorem dX3_in_25 : decode cX3_in 25 = .ok (.ireturn, 1) := by decide +kernel
theorem dX3_in_26 : decode cX3_in 26 = .ok (.aload_n 0, 1) := by decide +kernel
theorem dX3_in_27 : decode cX3_in 27 = .ok (.getfield 60, 3) := by decide +kernel
theorem dX3_in_30 : decode cX3_in 30 = .ok (.ifCond .eq 12, 3) := by decide +kernel
theorem dX3_in_33 : decode cX3_in 33 = .ok (.iload_n 2, 1) := by decide +kernel
theorem dX3_in_34 : decode cX3_in 34 = .ok (.iconst 0, 1) := by decide +kernel
theorem dX3_in_35 : decode cX3_in 35 = .ok (.iconst 1, 1) := by decide +kernel
theorem dX3_in_36 : decode cX3_in 36 = .ok (.invokestatic 48, 3) := by decide +kernel
theorem dX3_in_39 : decode cX3_in 39 = .ok (.ifCond .ne 6, 3) := by decide +kernel
theorem dX3_in_42 : decode cX3_in 42 = .ok (.ldc 64, 2) := by decide +kernel
theorem dX3_in_44 : decode cX3_in 44 = .ok (.ireturn, 1) := by decide +kernel
theorem dX3_in_45 : decode cX3_in 45 = .ok (.iload_n 2, 1) := by decide +kernel
theorem dX3_in_46 : decode cX3_in 46 = .ok (.ifCond .ne 19, 3) := by decide +kernel
theorem dX3_in_49 : decode cX3_in 49 = .ok (.aload_n 0, 1) := by decide +kernel
theorem dX3_in_50 : decode cX3_in 50 = .ok (.iload_n 1, 1) := by decide +kernel
theorem dX3_in_51 : decode cX3_in 51 = .ok (.aload_n 0, 1) := by decide +kernel
theorem dX3_in_52 : decode cX3_in 52 = .ok (.getfield 105, 3) := by decide +kernel
theorem dX3_in_55 : decode cX3_in 55 = .ok (.aload_n 0, 1) := by decide +kernel
theorem dX3_in_56 : decode cX3_in 56 = .ok (.getfield 108, 3) := by decide +kernel
theorem dX3_in_59 : decode cX3_in 59 = .ok (.invokevirtual 73, 3) := by decide +kernel
theorem dX3_in_62 : decode cX3_in 62 = .ok (.goto 16, 3) := by decide +kernel
theorem dX3_in_65 : decode cX3_in 65 = .ok (.aload_n 0, 1) := by decide +kernel
theorem dX3_in_66 : decode cX3_in 66 = .ok (.iload_n 1, 1) := by decide +kernel
theorem dX3_in_67 : decode cX3_in 67 = .ok (.aload_n 0, 1) := by decide +kernel
theorem dX3_in_68 : decode cX3_in 68 = .ok (.getfield 105, 3) := by decide +kernel
theorem dX3_in_71 : decode cX3_in 71 = .ok (.aload_n 0, 1) := by decide +kernel
theorem dX3_in_72 : decode cX3_in 72 = .ok (.getfield 108, 3) := by decide +kernel
theorem dX3_in_75 : decode cX3_in 75 = .ok (.invokevirtual 82, 3) := by decide +kernel
theorem dX3_in_78 : decode cX3_in 78 = .ok (.ireturn, 1) := by decide +kernel
set_option maxRecDepth 20000 in
theorem ggX3_curve_X3_within : GoodIn wsX3_curve wsX3_within := goodIn_r _ [7] (by decide +kernel) (by decide +kernel)
set_option maxRecDepth 20000 in
theorem gX3_curve_X3_within : GoodIn wsX3_curve (va_wsS RX3 48 yX3_within wsX3_within) := goodIn_app (goodIn_of _ (by decide +kernel)) ggX3_curve_X3_within
set_option maxRecDepth 20000 in
theorem ggX3_curve_X3_balanceOf : GoodIn wsX3_curve wsX3_balanceOf := goodIn_r _ [11, 3, 12, 13, 14, 6, 15, 16, 17, 18, 19, 20, 21, 22, 23, 24, 25, 26, 27, 28, 29, 30, 31, 32, 33, 34, 35, 36, 37, 38, 39, 40, 41, 42, 43, 44, 45, 46, 47, 48, 49, 50, 51, 52, 53, 54, 55, 56, 57, 58] (by decide +kernel) (by decide +kernel)
set_option maxRecDepth 20000 in
theorem gX3_curve_X3_balanceOf : GoodIn wsX3_curve (wsV RX3 91 RX3 yX3_balanceOf wsX3_balanceOf) := goodIn_app (goodIn_of _ (by decide +kernel)) ggX3_curve_X3_balanceOf
set_option maxRecDepth 20000 in
theorem ggX3_curve_X3_sum : GoodIn wsX3_curve wsX3_sum := goodIn_r _ [15, 16, 17, 18, 19, 20, 21, 6, 22, 23, 24, 25, 26, 27, 28, 29, 30, 31, 32, 33, 34, 35, 36, 37, 38, 39, 40, 41, 42, 43, 44, 45, 46, 47, 48, 49, 50, 51, 52, 53, 54, 55, 56, 57, 58] (by decide +kernel) (by decide +kernel)
set_option maxRecDepth 20000 in
theorem gX3_curve_X3_sum : GoodIn wsX3_curve (wsV RX3 85 RX3 yX3_sum wsX3_sum) := goodIn_app (goodIn_of _ (by decide +kernel)) ggX3_curve_X3_sum
theorem dX3_curve_0 : decode cX3_curve 0 = .ok (.aload_n 0, 1) := by decide +kernel
theorem dX3_curve_1 : decode cX3_curve 1 = .ok (.iconst 0, 1) := by decide +kernel
theorem dX3_curve_2 : decode cX3_curve 2 = .ok (.putfield 40, 3) := by decide +kernel
theorem dX3_curve_5 : decode cX3_curve 5 = .ok (.iload_n 3, 1) := by decide +kernel
theorem dX3_curve_6 : decode cX3_curve 6 = .ok (.iconst 1, 1) := by decide +kernel
theorem dX3_curve_7 : decode cX3_curve 7 = .ok (.sipush 1000, 3) := by decide +kernel
theorem dX3_curve_10 : decode cX3_curve 10 = .ok (.invokestatic 48, 3) := by decide +kernel
theorem dX3_curve_13 : decode cX3_curve 13 = .ok (.ifCond .eq 14, 3) := by decide +kernel
theorem dX3_curve_16 : decode cX3_curve 16 = .ok (.iload 4, 2) := by decide +kernel
theorem dX3_curve_18 : decode cX3_curve 18 = .ok (.iconst 0, 1) := by decide +kernel
theorem dX3_curve_19 : decode cX3_curve 19 = .ok (.bipush 20, 2) := by decide +kernel
theorem dX3_curve_21 : decode cX3_curve 21 = .ok (.invokestatic 48, 3) := by decide +kernel
theorem dX3_curve_24 : decode cX3_curve 24 = .ok (.ifCond .ne 7, 3) := by decide +kernel
theorem dX3_curve_27 : decode cX3_curve 27 = .ok (.ldc2_w 89, 3) := by decide +kernel
theorem dX3_curve_30 : decode cX3_curve 30 = .ok (.lreturn, 1) := by decide +kernel
theorem dX3_curve_31 : decode cX3_curve 31 = .ok (.aload_n 0, 1) := by decide +kernel
theorem dX3_curve_32 : decode cX3_curve 32 = .ok (.lload_n 1, 1) := by decide +kernel
theorem dX3_curve_33 : decode cX3_curve 33 = .ok (.iload 4, 2) := by decide +kernel
theorem dX3_curve_35 : decode cX3_curve 35 = .ok (.iload_n 3, 1) := by decide +kernel
theorem dX3_curve_36 : decode cX3_curve 36 = .ok (.imul, 1) := by decide +kernel
theorem dX3_curve_37 : decode cX3_curve 37 = .ok (.invokevirtual 91, 3) := by decide +kernel
theorem dX3_curve_40 : decode cX3_curve 40 = .ok (.istore 5, 2) := by decide +kernel
theorem dX3_curve_42 : decode cX3_curve 42 = .ok (.iload 5, 2) := by decide +kernel
theorem dX3_curve_44 : decode cX3_curve 44 = .ok (.ldc 64, 2) := by decide +kernel
theorem dX3_curve_46 : decode cX3_curve 46 = .ok (.if_icmp .ne 9, 3) := by decide +kernel
theorem dX3_curve_49 : decode cX3_curve 49 = .ok (.ldc2_w 89, 3) := by decide +kernel
theorem dX3_curve_52 : decode cX3_curve 52 = .ok (.goto 14, 3) := by decide +kernel
theorem dX3_curve_55 : decode cX3_curve 55 = .ok (.aload_n 0, 1) := by decide +kernel
theorem dX3_curve_56 : decode cX3_curve 56 = .ok (.iload 5, 2) := by decide +kernel
theorem dX3_curve_58 : decode cX3_curve 58 = .ok (.iload 4, 2) := by decide +kernel
theorem dX3_curve_60 : decode cX3_curve 60 = .ok (.iload_n 3, 1) := by decide +kernel
theorem dX3_curve_61 : decode cX3_curve 61 = .ok (.imul, 1) := by decide +kernel
theorem dX3_curve_62 : decode cX3_curve 62 = .ok (.iconst 1, 1) := by decide +kernel
theorem dX3_curve_63 : decode cX3_curve 63 = .ok (.invokevirtual 85, 3) := by decide +kernel
theorem dX3_curve_66 : decode cX3_curve 66 = .ok (.lreturn, 1) := by decide +kernel
set_option maxRecDepth 20000 in
theorem ggX3_last_X3_within : GoodIn wsX3_last wsX3_within := goodIn_r _ [6] (by decide +kernel) (by decide +kernel)
set_option maxRecDepth 20000 in
theorem gX3_last_X3_within : GoodIn wsX3_last (va_wsS RX3 48 yX3_within wsX3_within) := goodIn_app (goodIn_of _ (by decide +kernel)) ggX3_last_X3_within
set_option maxRecDepth 20000 in
theorem ggX3_last_X3_balanceOf : GoodIn wsX3_last wsX3_balanceOf := goodIn_r _ [10, 2, 11, 12, 13, 5, 14, 15, 16, 17, 18, 19, 20, 21, 22, 23, 24, 25, 26, 27, 28, 29, 30, 31, 32, 33, 34, 35, 36, 37, 38, 47, 48, 49, 50, 51, 52, 53, 54, 55, 56, 57, 58, 59, 60, 61, 62, 63, 64, 65] (by decide +kernel) (by decide +kernel)
set_option maxRecDepth 20000 in
theorem gX3_last_X3_balanceOf : GoodIn wsX3_last (wsV RX3 91 RX3 yX3_balanceOf wsX3_balanceOf) := goodIn_app (goodIn_of _ (by decide +kernel)) ggX3_last_X3_balanceOf
set_option maxRecDepth 20000 in
theorem ggX3_last_X3_firstBeyond : GoodIn wsX3_last wsX3_firstBeyond := goodIn_r _ [42, 15, 43, 44, 45, 5, 46, 22, 36, 37, 25, 26, 27, 28, 17, 29, 30, 31, 47, 48, 49, 50, 51, 52, 53, 54, 55, 56, 57, 58, 59, 60, 61, 62, 63, 64, 65] (by decide +kernel) (by decide +kernel)
set_option maxRecDepth 20000 in
theorem gX3_last_X3_firstBeyond : GoodIn wsX3_last (wsV RX3 118 RX3 yX3_firstBeyond wsX3_firstBeyond) := goodIn_app (goodIn_of _ (by decide +kernel)) ggX3_last_X3_firstBeyond
theorem dX3_last_0 : decode cX3_last 0 = .ok (.aload_n 0, 1) := by decide +kernel
theorem dX3_last_1 : decode cX3_last 1 = .ok (.iconst 0, 1) := by decide +kernel
theorem dX3_last_2 : decode cX3_last 2 = .ok (.putfield 40, 3) := by decide +kernel
theorem dX3_last_5 : decode cX3_last 5 = .ok (.iconst 0, 1) := by decide +kernel
theorem dX3_last_6 : decode cX3_last 6 = .ok (.istore 4, 2) := by decide +kernel
theorem dX3_last_8 : decode cX3_last 8 = .ok (.iload 4, 2) := by decide +kernel
theorem dX3_last_10 : decode cX3_last 10 = .ok (.bipush 21, 2) := by decide +kernel
theorem dX3_last_12 : decode cX3_last 12 = .ok (.if_icmp .ge 56, 3) := by decide +kernel
theorem dX3_last_15 : decode cX3_last 15 = .ok (.iload_n 3, 1) := by decide +kernel
theorem dX3_last_16 : decode cX3_last 16 = .ok (.iconst 1, 1) := by decide +kernel
theorem dX3_last_17 : decode cX3_last 17 = .ok (.sipush 1000, 3) := by decide +kernel
theorem dX3_last_20 : decode cX3_last 20 = .ok (.invokestatic 48, 3) := by decide +kernel
theorem dX3_last_23 : decode cX3_last 23 = .ok (.ifCond .eq 45, 3) := by decide +kernel
theorem dX3_last_26 : decode cX3_last 26 = .ok (.aload_n 0, 1) := by decide +kernel
theorem dX3_last_27 : decode cX3_last 27 = .ok (.lload_n 1, 1) := by decide +kernel
theorem dX3_last_28 : decode cX3_last 28 = .ok (.iload 4, 2) := by decide +kernel
theorem dX3_last_30 : decode cX3_last 30 = .ok (.iload_n 3, 1) := by decide +kernel
theorem dX3_last_31 : decode cX3_last 31 = .ok (.imul, 1) := by decide +kernel
theorem dX3_last_32 : decode cX3_last 32 = .ok (.invokevirtual 91, 3) := by decide +kernel
theorem dX3_last_35 : decode cX3_last 35 = .ok (.istore 5, 2) := by decide +kernel
theorem dX3_last_37 : decode cX3_last 37 = .ok (.iload 5, 2) := by decide +kernel
theorem dX3_last_39 : decode cX3_last 39 = .ok (.ldc 64, 2) := by decide +kernel
theorem dX3_last_41 : decode cX3_last 41 = .ok (.if_icmp .ne 5, 3) := by decide +kernel
theorem dX3_last_44 : decode cX3_last 44 = .ok (.iconst (-1), 1) := by decide +kernel
theorem dX3_last_45 : decode cX3_last 45 = .ok (.ireturn, 1) := by decide +kernel
theorem dX3_last_46 : decode cX3_last 46 = .ok (.aload_n 0, 1) := by decide +kernel
theorem dX3_last_47 : decode cX3_last 47 = .ok (.iload 5, 2) := by decide +kernel
theorem dX3_last_49 : decode cX3_last 49 = .ok (.iload 4, 2) := by decide +kernel
theorem dX3_last_51 : decode cX3_last 51 = .ok (.iload_n 3, 1) := by decide +kernel
theorem dX3_last_52 : decode cX3_last 52 = .ok (.imul, 1) := by decide +kernel
theorem dX3_last_53 : decode cX3_last 53 = .ok (.invokevirtual 118, 3) := by decide +kernel
theorem dX3_last_56 : decode cX3_last 56 = .ok (.ifCond .lt 6, 3) := by decide +kernel
theorem dX3_last_59 : decode cX3_last 59 = .ok (.iload 4, 2) := by decide +kernel
theorem dX3_last_61 : decode cX3_last 61 = .ok (.ireturn, 1) := by decide +kernel
theorem dX3_last_62 : decode cX3_last 62 = .ok (.iinc 4 1, 3) := by decide +kernel
theorem dX3_last_65 : decode cX3_last 65 = .ok (.goto (-57), 3) := by decide +kernel
theorem dX3_last_68 : decode cX3_last 68 = .ok (.iconst (-1), 1) := by decide +kernel
theorem dX3_last_69 : decode cX3_last 69 = .ok (.ireturn, 1) := by decide +kernel
set_option maxRecDepth 20000 in
theorem ggX3_needed_X3_within : GoodIn wsX3_needed wsX3_within := goodIn_r _ [6] (by decide +kernel) (by decide +kernel)
set_option maxRecDepth 20000 in
theorem gX3_needed_X3_within : GoodIn wsX3_needed (va_wsS RX3 48 yX3_within wsX3_within) := goodIn_app (goodIn_of _ (by decide +kernel)) ggX3_needed_X3_within
set_option maxRecDepth 20000 in
theorem ggX3_needed_X3_isKind : GoodIn wsX3_needed wsX3_isKind := goodIn_r _ [9] (by decide +kernel) (by decide +kernel)
set_option maxRecDepth 20000 in
theorem gX3_needed_X3_isKind : GoodIn wsX3_needed (va_wsS RX3 52 yX3_isKind wsX3_isKind) := goodIn_app (goodIn_of _ (by decide +kernel)) ggX3_needed_X3_isKind
set_option maxRecDepth 20000 in
theorem ggX3_needed_X3_lay : GoodIn wsX3_needed wsX3_lay := goodIn_r _ [13, 14, 15, 16, 17, 18, 52, 53, 54, 55, 56, 57, 58, 59, 60, 61, 62, 63, 64, 65, 66, 67, 68, 69, 70] (by decide +kernel) (by decide +kernel)
set_option maxRecDepth 20000 in
theorem gX3_needed_X3_lay : GoodIn wsX3_needed (wsV RX3 56 RX3 yX3_lay wsX3_lay) := goodIn_app (goodIn_of _ (by decide +kernel)) ggX3_needed_X3_lay
set_option maxRecDepth 20000 in
theorem ggX3_needed_X3_solve : GoodIn wsX3_needed wsX3_solve := goodIn_r _ [22, 23, 24, 25, 26, 27, 28, 5, 29, 30, 31, 32, 33, 2, 14, 15, 34, 35, 36, 37, 16, 18, 38, 39, 40, 41, 42, 17, 43, 44, 45, 46, 47, 48, 49, 50, 51, 52, 53, 54, 55, 56, 57, 58, 59, 60, 61, 62, 63, 64, 65, 66, 67, 68, 69, 70] (by decide +kernel) (by decide +kernel)
set_option maxRecDepth 20000 in
theorem gX3_needed_X3_solve : GoodIn wsX3_needed (wsV RX3 101 RX3 yX3_solve wsX3_solve) := goodIn_app (goodIn_of _ (by decide +kernel)) ggX3_needed_X3_solve
theorem dX3_needed_0 : decode cX3_needed 0 = .ok (.aload_n 0, 1) := by decide +kernel
theorem dX3_needed_1 : decode cX3_needed 1 = .ok (.iconst 0, 1) := by decide +kernel
theorem dX3_needed_2 : decode cX3_needed 2 = .ok (.putfield 40, 3) := by decide +kernel
theorem dX3_needed_5 : decode cX3_needed 5 = .ok (.iload_n 1, 1) := by decide +kernel
theorem dX3_needed_6 : decode cX3_needed 6 = .ok (.sipush (-2000), 3) := by decide +kernel
theorem dX3_needed_9 : decode cX3_needed 9 = .ok (.sipush 2000, 3) := by decide +kernel
theorem dX3_needed_12 : decode cX3_needed 12 = .ok (.invokestatic 48, 3) := by decide +kernel
theorem dX3_needed_15 : decode cX3_needed 15 = .ok (.ifCond .eq 21, 3) := by decide +kernel
theorem dX3_needed_18 : decode cX3_needed 18 = .ok (.iload_n 2, 1) := by decide +kernel
theorem dX3_needed_19 : decode cX3_needed 19 = .ok (.invokestatic 52, 3) := by decide +kernel
theorem dX3_needed_22 : decode cX3_needed 22 = .ok (.ifCond .eq 14, 3) := by decide +kernel
theorem dX3_needed_25 : decode cX3_needed 25 = .ok (.iload_n 3, 1) := by decide +kernel
theorem dX3_needed_26 : decode cX3_needed 26 = .ok (.iconst 1, 1) := by decide +kernel
theorem dX3_needed_27 : decode cX3_needed 27 = .ok (.sipush 5000, 3) := by decide +kernel
theorem dX3_needed_30 : decode cX3_needed 30 = .ok (.invokestatic 48, 3) := by decide +kernel
theorem dX3_needed_33 : decode cX3_needed 33 = .ok (.ifCond .ne 5, 3) := by decide +kernel
theorem dX3_needed_36 : decode cX3_needed 36 = .ok (.iconst (-1), 1) := by decide +kernel
theorem dX3_needed_37 : decode cX3_needed 37 = .ok (.ireturn, 1) := by decide +kernel
theorem dX3_needed_38 : decode cX3_needed 38 = .ok (.iconst (-1), 1) := by decide +kernel
theorem dX3_needed_39 : decode cX3_needed 39 = .ok (.istore 8, 2) := by decide +kernel
theorem dX3_needed_41 : decode cX3_needed 41 = .ok (.aload_n 0, 1) := by decide +kernel
theorem dX3_needed_42 : decode cX3_needed 42 = .ok (.dup, 1) := by decide +kernel
theorem dX3_needed_43 : decode cX3_needed 43 = .ok (.getfield 44, 3) := by decide +kernel
theorem dX3_needed_46 : decode cX3_needed 46 = .ok (.iconst 1, 1) := by decide +kernel
theorem dX3_needed_47 : decode cX3_needed 47 = .ok (.iadd, 1) := by decide +kernel
theorem dX3_needed_48 : decode cX3_needed 48 = .ok (.putfield 44, 3) := by decide +kernel
theorem dX3_needed_51 : decode cX3_needed 51 = .ok (.iconst 0, 1) := by decide +kernel
theorem dX3_needed_52 : decode cX3_needed 52 = .ok (.istore 9, 2) := by decide +kernel
theorem dX3_needed_54 : decode cX3_needed 54 = .ok (.iload 9, 2) := by decide +kernel
theorem dX3_needed_56 : decode cX3_needed 56 = .ok (.bipush 21, 2) := by decide +kernel
theorem dX3_needed_58 : decode cX3_needed 58 = .ok (.if_icmp .ge 51, 3) := by decide +kernel
theorem dX3_needed_61 : decode cX3_needed 61 = .ok (.iload 8, 2) := by decide +kernel
theorem dX3_needed_63 : decode cX3_needed 63 = .ok (.ifCond .ge 46, 3) := by decide +kernel
theorem dX3_needed_66 : decode cX3_needed 66 = .ok (.aload_n 0, 1) := by decide +kernel
theorem dX3_needed_67 : decode cX3_needed 67 = .ok (.aload_n 0, 1) := by decide +kernel
theorem dX3_needed_68 : decode cX3_needed 68 = .ok (.getfield 44, 3) := by decide +kernel
theorem dX3_needed_71 : decode cX3_needed 71 = .ok (.iconst 1, 1) := by decide +kernel
theorem dX3_needed_72 : decode cX3_needed 72 = .ok (.isub, 1) := by decide +kernel
theorem dX3_needed_73 : decode cX3_needed 73 = .ok (.iload 9, 2) := by decide +kernel
theorem dX3_needed_75 : decode cX3_needed 75 = .ok (.iload_n 3, 1) := by decide +kernel
theorem dX3_needed_76 : decode cX3_needed 76 = .ok (.imul, 1) := by decide +kernel
theorem dX3_needed_77 : decode cX3_needed 77 = .ok (.iload_n 1, 1) := by decide +kernel
theorem dX3_needed_78 : decode cX3_needed 78 = .ok (.iload_n 2, 1) := by decide +kernel
theorem dX3_needed_79 : decode cX3_needed 79 = .ok (.invokevirtual 56, 3) := by decide +kernel
theorem dX3_needed_82 : decode cX3_needed 82 = .ok (.aload_n 0, 1) := by decide +kernel
theorem dX3_needed_83 : decode cX3_needed 83 = .ok (.lload 4, 2) := by decide +kernel
theorem dX3_needed_85 : decode cX3_needed 85 = .ok (.lload 6, 2) := by decide +kernel
theorem dX3_needed_87 : decode cX3_needed 87 = .ok (.invokevirtual 101, 3) := by decide +kernel
theorem dX3_needed_90 : decode cX3_needed 90 = .ok (.ifCond .ne 10, 3) := by decide +kernel
theorem dX3_needed_93 : decode cX3_needed 93 = .ok (.iload 9, 2) := by decide +kernel
theorem dX3_needed_95 : decode cX3_needed 95 = .ok (.iload_n 3, 1) := by decide +kernel
theorem dX3_needed_96 : decode cX3_needed 96 = .ok (.imul, 1) := by decide +kernel
theorem dX3_needed_97 : decode cX3_needed 97 = .ok (.goto 4, 3) := by decide +kernel
theorem dX3_needed_100 : decode cX3_needed 100 = .ok (.iconst (-1), 1) := by decide +kernel
theorem dX3_needed_101 : decode cX3_needed 101 = .ok (.istore 8, 2) := by decide +kernel
theorem dX3_needed_103 : decode cX3_needed 103 = .ok (.iinc 9 1, 3) := by decide +kernel
theorem dX3_needed_106 : decode cX3_needed 106 = .ok (.goto (-52), 3) := by decide +kernel
theorem dX3_needed_109 : decode cX3_needed 109 = .ok (.aload_n 0, 1) := by decide +kernel
theorem dX3_needed_110 : decode cX3_needed 110 = .ok (.dup, 1) := by decide +kernel
theorem dX3_needed_111 : decode cX3_needed 111 = .ok (.getfield 44, 3) := by decide +kernel
theorem dX3_needed_114 : decode cX3_needed 114 = .ok (.iconst 1, 1) := by decide +kernel
theorem dX3_needed_115 : decode cX3_needed 115 = .ok (.isub, 1) := by decide +kernel
theorem dX3_needed_116 : decode cX3_needed 116 = .ok (.putfield 44, 3) := by decide +kernel
theorem dX3_needed_119 : decode cX3_needed 119 = .ok (.iload 8, 2) := by decide +kernel
theorem dX3_needed_121 : decode cX3_needed 121 = .ok (.ireturn, 1) := by decide +kernel
set_option maxRecDepth 20000 in
theorem ggX3_count_X3_within : GoodIn wsX3_count wsX3_within := goodIn_r _ [8] (by decide +kernel) (by decide +kernel)
set_option maxRecDepth 20000 in
theorem gX3_count_X3_within : GoodIn wsX3_count (va_wsS RX3 48 yX3_within wsX3_within) := goodIn_app (goodIn_of _ (by decide +kernel)) ggX3_count_X3_within
theorem dX3_count_0 : decode cX3_count 0 = .ok (.aload_n 0, 1) := by decide +kernel
theorem dX3_count_1 : decode cX3_count 1 = .ok (.iconst 0, 1) := by decide +kernel
theorem dX3_count_2 : decode cX3_count 2 = .ok (.putfield 40, 3) := by decide +kernel
theorem dX3_count_5 : decode cX3_count 5 = .ok (.iload_n 1, 1) := by decide +kernel
theorem dX3_count_6 : decode cX3_count 6 = .ok (.iconst 0, 1) := by decide +kernel
theorem dX3_count_7 : decode cX3_count 7 = .ok (.iconst 5, 1) := by decide +kernel
theorem dX3_count_8 : decode cX3_count 8 = .ok (.invokestatic 48, 3) := by decide +kernel
theorem dX3_count_11 : decode cX3_count 11 = .ok (.ifCond .ne 5, 3) := by decide +kernel
theorem dX3_count_14 : decode cX3_count 14 = .ok (.iconst (-1), 1) := by decide +kernel
theorem dX3_count_15 : decode cX3_count 15 = .ok (.ireturn, 1) := by decide +kernel
theorem dX3_count_16 : decode cX3_count 16 = .ok (.iconst 0, 1) := by decide +kernel
theorem dX3_count_17 : decode cX3_count 17 = .ok (.istore_n 2, 1) := by decide +kernel
theorem dX3_count_18 : decode cX3_count 18 = .ok (.iconst 0, 1) := by decide +kernel
theorem dX3_count_19 : decode cX3_count 19 = .ok (.istore_n 3, 1) := by decide +kernel
theorem dX3_count_20 : decode cX3_count 20 = .ok (.iload_n 3, 1) := by decide +kernel
theorem dX3_count_21 : decode cX3_count 21 = .ok (.aload_n 0, 1) := by decide +kernel
theorem dX3_count_22 : decode cX3_count 22 = .ok (.getfield 44, 3) := by decide +kernel
theorem dX3_count_25 : decode cX3_count 25 = .ok (.if_icmp .ge 18, 3) := by decide +kernel
theorem dX3_count_28 : decode cX3_count 28 = .ok (.iload_n 2, 1) := by decide +kernel
theorem dX3_count_29 : decode cX3_count 29 = .ok (.aload_n 0, 1) := by decide +kernel
theorem dX3_count_30 : decode cX3_count 30 = .ok (.getfield 7, 3) := by decide +kernel
theorem dX3_count_33 : decode cX3_count 33 = .ok (.iload_n 3, 1) := by decide +kernel
theorem dX3_count_34 : decode cX3_count 34 = .ok (.iaload, 1) := by decide +kernel
theorem dX3_count_35 : decode cX3_count 35 = .ok (.iadd, 1) := by decide +kernel
theorem dX3_count_36 : decode cX3_count 36 = .ok (.istore_n 2, 1) := by decide +kernel
theorem dX3_count_37 : decode cX3_count 37 = .ok (.iinc 3 1, 3) := by decide +kernel
theorem dX3_count_40 : decode cX3_count 40 = .ok (.goto (-20), 3) := by decide +kernel
theorem dX3_count_43 : decode cX3_count 43 = .ok (.iload_n 1, 1) := by decide +kernel
theorem dX3_count_44 : decode cX3_count 44 = .ok (.ifCond .ne 10, 3) := by decide +kernel
theorem dX3_count_47 : decode cX3_count 47 = .ok (.aload_n 0, 1) := by decide +kernel
theorem dX3_count_48 : decode cX3_count 48 = .ok (.getfield 44, 3) := by decide +kernel
theorem dX3_count_51 : decode cX3_count 51 = .ok (.goto 20, 3) := by decide +kernel
theorem dX3_count_54 : decode cX3_count 54 = .ok (.iload_n 1, 1) := by decide +kernel
theorem dX3_count_55 : decode cX3_count 55 = .ok (.iconst 1, 1) := by decide +kernel
theorem dX3_count_56 : decode cX3_count 56 = .ok (.if_icmp .ne 7, 3) := by decide +kernel
theorem dX3_count_59 : decode cX3_count 59 = .ok (.iload_n 2, 1) := by decide +kernel
theorem dX3_count_60 : decode cX3_count 60 = .ok (.goto 11, 3) := by decide +kernel
theorem dX3_count_63 : decode cX3_count 63 = .ok (.aload_n 0, 1) := by decide +kernel
theorem dX3_count_64 : decode cX3_count 64 = .ok (.getfield 25, 3) := by decide +kernel
theorem dX3_count_67 : decode cX3_count 67 = .ok (.iload_n 1, 1) := by decide +kernel
theorem dX3_count_68 : decode cX3_count 68 = .ok (.iconst 2, 1) := by decide +kernel
theorem dX3_count_69 : decode cX3_count 69 = .ok (.isub, 1) := by decide +kernel
theorem dX3_count_70 : decode cX3_count 70 = .ok (.iaload, 1) := by decide +kernel
theorem dX3_count_71 : decode cX3_count 71 = .ok (.ireturn, 1) := by decide +kernel
theorem dJx00060_init_a7421_0 : decode cJx00060_init_a7421 0 = .ok (.aload_n 0, 1) := by decide +kernel
theorem dJx00060_init_a7421_1 : decode cJx00060_init_a7421 1 = .ok (.aload_n 1, 1) := by decide +kernel
theorem dJx00060_init_a7421_2 : decode cJx00060_init_a7421 2 = .ok (.invokespecial 7, 3) := by decide +kernel
theorem dJx00060_init_a7421_5 : decode cJx00060_init_a7421 5 = .ok (.return_, 1) := by decide +kernel
theorem dJ9_floorDiv_7cf53_0 : decode cJ9_floorDiv_7cf53 0 = .ok (.iload_n 0, 1) := by decide +kernel
theorem dJ9_floorDiv_7cf53_1 : decode cJ9_floorDiv_7cf53 1 = .ok (.iload_n 1, 1) := by decide +kernel
theorem dJ9_floorDiv_7cf53_2 : decode cJ9_floorDiv_7cf53 2 = .ok (.idiv, 1) := by decide +kernel
theorem dJ9_floorDiv_7cf53_3 : decode cJ9_floorDiv_7cf53 3 = .ok (.istore_n 2, 1) := by decide +kernel
theorem dJ9_floorDiv_7cf53_4 : decode cJ9_floorDiv_7cf53 4 = .ok (.iload_n 0, 1) := by decide +kernel
theorem dJ9_floorDiv_7cf53_5 : decode cJ9_floorDiv_7cf53 5 = .ok (.iload_n 1, 1) := by decide +kernel
theorem dJ9_floorDiv_7cf53_6 : decode cJ9_floorDiv_7cf53 6 = .ok (.ixor, 1) := by decide +kernel
theorem dJ9_floorDiv_7cf53_7 : decode cJ9_floorDiv_7cf53 7 = .ok (.ifCond .ge 14, 3) := by decide +kernel
theorem dJ9_floorDiv_7cf53_10 : decode cJ9_floorDiv_7cf53 10 = .ok (.iload_n 2, 1) := by decide +kernel
theorem dJ9_floorDiv_7cf53_11 : decode cJ9_floorDiv_7cf53 11 = .ok (.iload_n 1, 1) := by decide +kernel
theorem dJ9_floorDiv_7cf53_12 : decode cJ9_floorDiv_7cf53 12 = .ok (.imul, 1) := by decide +kernel
theorem dJ9_floorDiv_7cf53_13 : decode cJ9_floorDiv_7cf53 13 = .ok (.iload_n 0, 1) := by decide +kernel
theorem dJ9_floorDiv_7cf53_14 : decode cJ9_floorDiv_7cf53 14 = .ok (.if_icmp .eq 7, 3) := by decide +kernel
theorem dJ9_floorDiv_7cf53_17 : decode cJ9_floorDiv_7cf53 17 = .ok (.iload_n 2, 1) := by decide +kernel
theorem dJ9_floorDiv_7cf53_18 : decode cJ9_floorDiv_7cf53 18 = .ok (.iconst 1, 1) := by decide +kernel
theorem dJ9_floorDiv_7cf53_19 : decode cJ9_floorDiv_7cf53 19 = .ok (.isub, 1) := by decide +kernel
theorem dJ9_floorDiv_7cf53_20 : decode cJ9_floorDiv_7cf53 20 = .ok (.ireturn, 1) := by decide +kernel
theorem dJ9_floorDiv_7cf53_21 : decode cJ9_floorDiv_7cf53 21 = .ok (.iload_n 2, 1) := by decide +kernel
theorem dJ9_floorDiv_7cf53_22 : decode cJ9_floorDiv_7cf53 22 = .ok (.ireturn, 1) := by decide +kernel
set_option maxRecDepth 20000 in
theorem ggL_row_X2_row : GoodIn wsL_row wsX2_row := goodIn_r _ [5, 6, 7, 8, 9, 10, 11, 4, 12, 13, 14, 15, 16, 17, 18, 19, 20, 21, 22, 23, 24, 25, 26, 27, 28, 29, 30, 31, 32, 33, 34, 35, 36, 37, 38, 39, 40, 41, 42, 43, 44, 45, 46, 47, 48] (by decide +kernel) (by decide +kernel)
set_option maxRecDepth 20000 in
theorem gL_row_X2_row : GoodIn wsL_row (wsV RL 7 RX2 yX2_row wsX2_row) := goodIn_app (goodIn_of _ (by decide +kernel)) ggL_row_X2_row
theorem dL_row_0 : decode cL_row 0 = .ok (.aload_n 3, 1) := by decide +kernel
theorem dL_row_1 : decode cL_row 1 = .ok (.iconst 0, 1) := by decide +kernel
theorem dL_row_2 : decode cL_row 2 = .ok (.aload_n 0, 1) := by decide +kernel
theorem dL_row_3 : decode cL_row 3 = .ok (.iload_n 1, 1) := by decide +kernel
theorem dL_row_4 : decode cL_row 4 = .ok (.iload_n 2, 1) := by decide +kernel
theorem dL_row_5 : decode cL_row 5 = .ok (.invokevirtual 7, 3) := by decide +kernel
theorem dL_row_8 : decode cL_row 8 = .ok (.i2l, 1) := by decide +kernel
theorem dL_row_9 : decode cL_row 9 = .ok (.lastore, 1) := by decide +kernel
theorem dL_row_10 : decode cL_row 10 = .ok (.goto 7, 3) := by decide +kernel
theorem dL_row_13 : decode cL_row 13 = .ok (.astore 4, 2) := by decide +kernel
theorem dL_row_15 : decode cL_row 15 = .ok (.iconst 1, 1) := by decide +kernel
theorem dL_row_16 : decode cL_row 16 = .ok (.ireturn, 1) := by decide +kernel
theorem dL_row_17 : decode cL_row 17 = .ok (.iconst 0, 1) := by decide +kernel
theorem dL_row_18 : decode cL_row 18 = .ok (.ireturn, 1) := by decide +kernel
set_option maxRecDepth 20000 in
theorem ggL_in_X2_in : GoodIn wsL_in wsX2_in := goodIn_r _ [5, 6, 7, 8, 9, 10, 11, 12, 13, 14, 15, 16, 17, 18, 19, 4, 20, 21, 22, 23, 24, 25, 26, 27, 28, 29, 30, 31, 32, 33, 34, 35, 36, 37, 38, 39, 40, 41, 42, 43, 44, 45, 46, 47, 48, 49, 50, 51, 52, 53, 54, 55, 56, 57, 58, 59, 60, 61, 62, 63, 64, 65, 66, 67, 68, 69, 70] (by decide +kernel) (by decide +kernel)
set_option maxRecDepth 20000 in
theorem gL_in_X2_in : GoodIn wsL_in (wsV RL 15 RX2 yX2_in wsX2_in) := goodIn_app (goodIn_of _ (by decide +kernel)) ggL_in_X2_in
theorem dL_in_0 : decode cL_in 0 = .ok (.aload_n 3, 1) := by decide +kernel
theorem dL_in_1 : decode cL_in 1 = .ok (.iconst 0, 1) := by decide +kernel
theorem dL_in_2 : decode cL_in 2 = .ok (.aload_n 0, 1) := by decide +kernel
theorem dL_in_3 : decode cL_in 3 = .ok (.iload_n 1, 1) := by decide +kernel
theorem dL_in_4 : decode cL_in 4 = .ok (.iload_n 2, 1) := by decide +kernel
theorem dL_in_5 : decode cL_in 5 = .ok (.invokevirtual 15, 3) := by decide +kernel
theorem dL_in_8 : decode cL_in 8 = .ok (.i2l, 1) := by decide +kernel
theorem dL_in_9 : decode cL_in 9 = .ok (.lastore, 1) := by decide +kernel
theorem dL_in_10 : decode cL_in 10 = .ok (.goto 7, 3) := by decide +kernel
theorem dL_in_13 : decode cL_in 13 = .ok (.astore 4, 2) := by decide +kernel
theorem dL_in_15 : decode cL_in 15 = .ok (.iconst 1, 1) := by decide +kernel
theorem dL_in_16 : decode cL_in 16 = .ok (.ireturn, 1) := by decide +kernel
theorem dL_in_17 : decode cL_in 17 = .ok (.iconst 0, 1) := by decide +kernel
theorem dL_in_18 : decode cL_in 18 = .ok (.ireturn, 1) := by decide +kernel
end
section
/-! WRAPPERS: rows of the kit in the forms that the walks take -/
/-- the links between nest mates -/
def nestW : List Cond := [.methodLinkNest RX2 9 yX1_init "SectionFibres", .methodLinkNest RX1 11 yX0_init "SectionFibres", .methodLinkNest RX2 32 yX1_add "SectionFibres", .methodLinkNest RX2 49 yX0_addPoint "SectionFibres", .methodLinkNest RX2 54 yX1_has "SectionFibres", .methodLinkNest RX1 38 yX2_within "SectionFibres", .methodLinkNest RX2 89 yX1_sumOf "SectionFibres", .methodLinkNest RX1 56 yX2_share "SectionFibres", .methodLinkNest RX1 64 yX0_stressAt "SectionFibres", .methodLinkNest RX0 27 yX2_share "SectionFibres", .methodLinkNest RX2 93 yX1_balanceOf "SectionFibres", .methodLinkNest RX2 97 yX1_bendFor "SectionFibres", .methodLinkNest RX2 116 yX1_firstBeyond "SectionFibres", .methodLinkNest RX1 70 yX0_isBeyond "SectionFibres", .methodLinkNest RX2 131 yX1_setLastArea "SectionFibres", .methodLinkNest RX2 135 yX1_dropLast "SectionFibres", .methodLinkNest RX2 138 yX1_allAreas "SectionFibres", .methodLinkNest RX2 77 yX0_stressAt "SectionFibres", .methodLinkNest RX2 121 yX1_worksOn "SectionFibres", .methodLinkNest RX2 125 yX1_stressOn "SectionFibres", .fieldLinkNest RX2 142 "SectionFibres$Kinds" "points" "[I" "SectionFibres", .fieldLinkNest RX2 61 "SectionFibres$Kinds" "creep" "[I" "SectionFibres", .fieldLinkNest RX1 53 "SectionFibres$Kinds" "creep" "[I" "SectionFibres", .fieldLinkNest RX2 64 "SectionFibres$Kinds" "shrunk" "[I" "SectionFibres", .fieldLinkNest RX1 48 "SectionFibres$Kinds" "shrunk" "[I" "SectionFibres", .fieldLinkNest RX2 45 "SectionFibres$Section" "kinds" "LSectionFibres$Kinds;" "SectionFibres", .fieldLinkNest RX2 57 "SectionFibres$Section" "births" "[I" "SectionFibres", .fieldLinkNest RX2 67 "SectionFibres$Section" "kept" "[I" "SectionFibres", .fieldLinkNest RX2 28 "SectionFibres$Section" "size" "I" "SectionFibres"]
def isNest : Cond → Bool
  | .fieldLinkNest .. => true
  | .methodLinkNest .. => true
  | _ => false
theorem nest_is : ∀ w ∈ nestW, isNest w = true := by decide +kernel
theorem nest_in : ∀ w ∈ nestW, w ∈ tables_1 := by decide +kernel
def nsU (U : State) : Prop := ∀ w ∈ nestW, va_Nw w U
theorem nest_warm {w : Cond} {s U : State} (hn : isNest w = true) (hW : s.WarmedH U.vm) (h : va_Nw w s) : va_Nw w U :=
  match w, hn, h with
  | .fieldLinkNest .., _, h => va_Nw.warmF hW h
  | .methodLinkNest .., _, h => va_Nw.warmM hW h
theorem nest_same {w : Cond} {s U : State} (hn : isNest w = true) (hv : s.vm = U.vm) (h : va_Nw w s) : va_Nw w U :=
  match w, hn, h with
  | .fieldLinkNest .., _, h => va_Nw.same rfl hv h
  | .methodLinkNest .., _, h => va_Nw.same rfl hv h
theorem nest_of {w : Cond} {args : Array Value} {s : State} (hn : isNest w = true) (h : w.before args s = true) : va_Nw w s :=
  match w, hn, h with
  | .fieldLinkNest .., _, h => va_Nw.of rfl h
  | .methodLinkNest .., _, h => va_Nw.of rfl h
theorem nsU_warm {s U : State} (hW : s.WarmedH U.vm) (h : nsU s) : nsU U := fun w hw => nest_warm (nest_is w hw) hW (h w hw)
theorem nsU_same {s U : State} (hv : s.vm = U.vm) (h : nsU s) : nsU U := fun w hw => nest_same (nest_is w hw) hv (h w hw)
theorem nsU_of {args : Array Value} {s : State} (h : ∀ w ∈ tables_1, w.before args s = true) : nsU s := fun w hw => nest_of (nest_is w hw) (h w (nest_in w hw))
section BSW
variable {p : Program} {l : Launch} {e : Env} {R : Room} {s : State} {m : MethodId} {args : Array Value} {below : List Frame} {meth : Method} {c : Code} {H : Heap} {locs : List Loc} {cells slots : Nat} {Q : State → Prop}
variable {pc : Nat} {ls : Array Slot} {rest st0 : List Value} {cc : ByteArray} {D : va_G} {cl : List vw_C} {tys : List (ClassId × FieldType)} {ws : va_W} {A0 A : Nat → Prop} {H0 : Heap} {a : Nat}
theorem tp_i {x v : Int32} (h : x = v) (k : W p l e R s m args below meth c H locs cells slots Q (F0 m pc ls (.int v :: rest))) : W p l e R s m args below meth c H locs cells slots Q (F0 m pc ls (.int x :: rest)) := by subst h; exact k
theorem tp_l {x v : Int64} (h : x = v) (k : W p l e R s m args below meth c H locs cells slots Q (F0 m pc ls (.long v :: rest))) : W p l e R s m args below meth c H locs cells slots Q (F0 m pc ls (.long x :: rest)) := by subst h; exact k
theorem ialn (hexec : p.tables.exec = Jvm.exec) (hb : c.code = cc) (hK : va_K D cl tys s) (hP : va_P D cl ws H) (q0 t0 : Nat) {cA : ClassId} {n : Nat} {f : Nat → Int32} (ha : ws[q0]? = some (a, .inl (cA, n, .inl f))) (ht : tys[t0]? = some (cA, .int)) {i : Int32} (j : Nat) (hi : i = nI j) (hj : j < n) (hn : n < 2 ^ 31) (hdg : decode cc pc = .ok (.iaload, 1))
    (kk : W p l e R s m args below meth c H locs cells slots Q (F0 m (pc + 1) ls (.int (f j) :: rest))) : W p l e R s m args below meth c H locs cells slots Q (F0 m pc ls (.int i :: .ref a :: rest)) := by
  subst hi
  refine va_iald hexec hb hK hP q0 t0 ha ht (vp_in_nI hj hn) hdg ?_
  rw [nI_clamp (by omega)]
  exact kk
theorem iasn (hexec : p.tables.exec = Jvm.exec) (hb : c.code = cc) (hK : va_K D cl tys s) (hP : va_P D cl ws H) (hD : va_D A ws) (hS : va_S A H0 H locs) (q0 t0 : Nat) {cA : ClassId} {n : Nat} {f : Nat → Int32} (ha : ws[q0]? = some (a, .inl (cA, n, .inl f))) (ht : tys[t0]? = some (cA, .int)) {i x : Int32} (j : Nat) (hi : i = nI j) (hj : j < n) (hn : n < 2 ^ 31) (hdg : decode cc pc = .ok (.iastore, 1))
    (kk : ∀ (H1 : Heap) (locs1 : List Loc), va_P D cl (ws.set q0 (a, .inl (cA, n, .inl (upd f j x)))) H1 → va_D A (ws.set q0 (a, .inl (cA, n, .inl (upd f j x)))) → va_S A H0 H1 locs1 → W p l e R s m args below meth c H1 locs1 cells slots Q (F0 m (pc + 1) ls rest)) : W p l e R s m args below meth c H locs cells slots Q (F0 m pc ls (.int x :: .int i :: .ref a :: rest)) := by
  subst hi
  refine va_iast hexec hb hK hP hD hS q0 t0 ha ht (vp_in_nI hj hn) hdg ?_
  rw [nI_clamp (by omega)]
  exact kk
/-- the start of a method that reads: the heap, the tables -/
abbrev rd_P (av : List Value) (H : Heap) (D : va_G) (cl : List vw_C) (tys : List (ClassId × FieldType)) : Array Value → State → Prop := va_Pc av (fun U => U.heap = H ∧ va_K D cl tys U ∧ nsU U)
/-- its end: an answer, the heap as it was -/
abbrev rd_Qi (H : Heap) (post : Int32 → Prop) : Array Value → State → Outcome → State → Prop := va_Qi (fun r (_ : Unit) => post r) (fun _ t => t.heap = H) (fun _ => False)
abbrev rd_Ql (H : Heap) (post : Int64 → Prop) : Array Value → State → Outcome → State → Prop := va_Ql (fun r (_ : Unit) => post r) (fun _ t => t.heap = H) (fun _ => False)
abbrev nF : Nat → Prop := fun _ => False
theorem rd_bl {av : List Value} : FrameBlind (rd_P av H D cl tys) := fun a U g mk q => by
  obtain ⟨q0, q1, q2, q3⟩ := q
  exact ⟨q0, q1, va_K.moved (u := U) (U := U.calling g mk a) (Vm.Alike.refl U.vm) q2, nsU_same (s := U) (U := U.calling g mk a) rfl q3⟩
theorem rd_pre {av : List Value} (hK : va_K D cl tys s) (hN : nsU s) : ∀ U : State, U.heap = H → s.WarmedH U.vm → rd_P av H D cl tys av.toArray U := fun U hU hW => ⟨rfl, hU, va_K.moved hW.alike hK, nsU_warm hW hN⟩
theorem rd_i {post : Int32 → Prop} {av : Array Value} (hr : va_Run p l e R s m args below meth c H locs cells slots 0 0 (F0 m pc ls st0) rest (rd_Qi H post av) nF) (hS : va_S A0 H0 H locs)
    (kk : ∀ (r : Int32) (locs1 : List Loc), post r → va_S A0 H0 H locs1 → W p l e R s m args below meth c H locs1 cells slots Q (F0 m (pc + 3) ls (.int r :: rest))) : W p l e R s m args below meth c H locs cells slots Q (F0 m pc ls st0) :=
  va_calli hr hS (fun _ _ h => h.elim) (fun _ h => h.elim) (fun r u t H1 locs1 ht hvm hw hB hz hk hS1 => by
    have e1 : H1 = H := ht.symm.trans hB
    rw [e1] at hS1 ⊢
    exact kk r locs1 hw hS1)
theorem rd_l {post : Int64 → Prop} {av : Array Value} (hr : va_Run p l e R s m args below meth c H locs cells slots 0 0 (F0 m pc ls st0) rest (rd_Ql H post av) nF) (hS : va_S A0 H0 H locs)
    (kk : ∀ (r : Int64) (locs1 : List Loc), post r → va_S A0 H0 H locs1 → W p l e R s m args below meth c H locs1 cells slots Q (F0 m (pc + 3) ls (.long r :: rest))) : W p l e R s m args below meth c H locs cells slots Q (F0 m pc ls st0) :=
  va_calll hr hS (fun _ _ h => h.elim) (fun _ h => h.elim) (fun r u t H1 locs1 ht hvm hw hB hz hk hS1 => by
    have e1 : H1 = H := ht.symm.trans hB
    rw [e1] at hS1 ⊢
    exact kk r locs1 hw hS1)
/-- a call of a method that writes into its world and makes nothing -/
theorem mu_i {S : Type} {post : Int32 → S → Prop} {B : S → Heap → Prop} {A1 : Nat → Prop} {av : Array Value} (hr : va_Run p l e R s m args below meth c H locs cells slots 0 0 (F0 m pc ls st0) rest (va_Qi post (fun u t => B u t.heap) A1 av) A1) (hS : va_S A0 H0 H locs) (hF : ∀ q, A1 q → A0 q)
    (kk : ∀ (r : Int32) (u : S) (H1 : Heap) (locs1 : List Loc), post r u → B u H1 → (∀ q : Nat, q < H.size → ¬ A1 q → H1[q]? = H[q]?) → H.size ≤ H1.size → va_S A0 H0 H1 locs1 → W p l e R s m args below meth c H1 locs1 cells slots Q (F0 m (pc + 3) ls (.int r :: rest))) : W p l e R s m args below meth c H locs cells slots Q (F0 m pc ls st0) :=
  va_calli hr hS (fun q _ h => hF q h) hF (fun r u t H1 locs1 ht hvm hw hB hz hk hS1 => kk r u H1 locs1 hw (ht ▸ hB) hk hz hS1)
theorem mu_l {S : Type} {post : Int64 → S → Prop} {B : S → Heap → Prop} {A1 : Nat → Prop} {av : Array Value} (hr : va_Run p l e R s m args below meth c H locs cells slots 0 0 (F0 m pc ls st0) rest (va_Ql post (fun u t => B u t.heap) A1 av) A1) (hS : va_S A0 H0 H locs) (hF : ∀ q, A1 q → A0 q)
    (kk : ∀ (r : Int64) (u : S) (H1 : Heap) (locs1 : List Loc), post r u → B u H1 → (∀ q : Nat, q < H.size → ¬ A1 q → H1[q]? = H[q]?) → H.size ≤ H1.size → va_S A0 H0 H1 locs1 → W p l e R s m args below meth c H1 locs1 cells slots Q (F0 m (pc + 3) ls (.long r :: rest))) : W p l e R s m args below meth c H locs cells slots Q (F0 m pc ls st0) :=
  va_calll hr hS (fun q _ h => hF q h) hF (fun r u t H1 locs1 ht hvm hw hB hz hk hS1 => kk r u H1 locs1 hw (ht ▸ hB) hk hz hS1)
theorem mu_v {S : Type} {post : S → Prop} {B : S → Heap → Prop} {A1 : Nat → Prop} {av : Array Value} (hr : va_Run p l e R s m args below meth c H locs cells slots 0 0 (F0 m pc ls st0) rest (va_Qv post (fun u t => B u t.heap) A1 av) A1) (hS : va_S A0 H0 H locs) (hF : ∀ q, A1 q → A0 q)
    (kk : ∀ (u : S) (H1 : Heap) (locs1 : List Loc), post u → B u H1 → (∀ q : Nat, q < H.size → ¬ A1 q → H1[q]? = H[q]?) → H.size ≤ H1.size → va_S A0 H0 H1 locs1 → W p l e R s m args below meth c H1 locs1 cells slots Q (F0 m (pc + 3) ls rest)) : W p l e R s m args below meth c H locs cells slots Q (F0 m pc ls st0) :=
  va_callv hr hS (fun q _ h => hF q h) hF (fun u t H1 locs1 ht hvm hw hB hz hk hS1 => kk u H1 locs1 hw (ht ▸ hB) hk hz hS1)
/-- which cells a world has says its addresses alone -/
theorem va_Dsame {w1 w2 : va_W} (he : w1.map Prod.fst = w2.map Prod.fst) (h : va_D A w1) : va_D A w2 := by
  have hk : ∀ (k : Nat) (q : Nat × va_E), w2[k]? = some q → ∃ q' : Nat × va_E, w1[k]? = some q' ∧ q'.1 = q.1 := by
    intro k q hq
    have h1 : (w2.map Prod.fst)[k]? = some q.1 := by rw [List.getElem?_map, hq]; rfl
    rw [← he, List.getElem?_map] at h1
    cases hw : w1[k]? with
    | none => rw [hw] at h1; cases h1
    | some q' => rw [hw] at h1; exact ⟨q', rfl, Option.some.inj h1⟩
  refine ⟨fun i j x y hx hy hxy => ?_, fun k q hq => ?_⟩
  · obtain ⟨x', hx', ex⟩ := hk i x hx
    obtain ⟨y', hy', ey⟩ := hk j y hy
    exact h.1 i j x' y' hx' hy' (by rw [ex, ey]; exact hxy)
  · obtain ⟨q', hq', eq⟩ := hk k q hq
    have := h.2 k q' hq'
    rw [eq] at this
    exact this
end BSW
end
section
/-! THE COMMON VALUES: what class and reference both compute, as functions of the ten rows g (0 areas, 1 places, 2 kinds, 3 births, 4 kept, 5 strains, 6 stresses, 7 points, 8 creep, 9 shrunk) and the number n of fibres. -/
abbrev Gg : Type := Nat → Nat → Int32
def iI (a : Int) : Int32 := Int32.ofInt a
def sh (a b c : Int64) : Int32 := if c = 0 then 0 else (a * b / c).toInt32
def fdv (x y : Int32) : Int32 := if (x ^^^ y) < 0 ∧ ¬ (x / y) * y = x then x / y - 1 else x / y
/-- the row's stress behind its first point: n segments left, at point i -/
def rwL (x y : Nat → Int32) (t : Int32) : Nat → Nat → Int32
  | 0, i => y i
  | n + 1, i => if t < x (i + 1) then y i + sh (y (i + 1) - y i).toInt64 (t - x i).toInt64 (x (i + 1) - x i).toInt64 else rwL x y t n (i + 1)
def rwF (g : Gg) (kd t : Int32) : Int32 :=
  if g 7 kd.toNatClampNeg = 0 then 0
  else if t ≤ g 5 (8 * kd.toNatClampNeg) then g 6 (8 * kd.toNatClampNeg)
  else rwL (g 5) (g 6) t ((g 7 kd.toNatClampNeg).toNatClampNeg - 1) (8 * kd.toNatClampNeg)
def wkF (g : Gg) (f : Nat) (e k : Int32) : Int32 :=
  sh (e + fdv (k * g 1 f) 1000 - g 3 f - g 9 (g 2 f).toNatClampNeg).toInt64 100 (100 + g 8 (g 2 f).toNatClampNeg).toInt64
def stF (g : Gg) (f : Nat) (e k : Int32) : Int32 := sh (rwF g (g 2 f) (wkF g f e k)).toInt64 (g 4 f).toInt64 100
def tmF (g : Gg) (w : Bool) (f : Nat) (e k : Int32) : Int64 :=
  if w then (g 0 f).toInt64 * (stF g f e k).toInt64 * (g 1 f).toInt64 else (g 0 f).toInt64 * (stF g f e k).toInt64
def smF (g : Gg) (w : Bool) (e k : Int32) : Nat → Int64
  | 0 => 0
  | i + 1 => smF g w e k i + tmF g w i e k
def byF (g : Gg) (kd t : Int32) : Prop :=
  ¬ g 7 kd.toNatClampNeg = 0 ∧ (t < g 5 (8 * kd.toNatClampNeg) ∨ g 5 (8 * kd.toNatClampNeg + (g 7 kd.toNatClampNeg).toNatClampNeg - 1) < t)
noncomputable def fbF (g : Gg) (e k : Int32) : Nat → Nat → Int32
  | 0, _ => -1
  | m + 1, i => @ite _ (byF g (g 2 i) (wkF g i e k)) (Classical.propDecidable _) (nI i) (fbF g e k m (i + 1))
def arF (g : Gg) : Nat → Int32
  | 0 => 0
  | i + 1 => arF g i + g 0 i
/-- halving -/
noncomputable def bsF (P : Int → Prop) : Nat → Int → Int → Int
  | 0, lo, _ => lo
  | n + 1, lo, hi => if lo < hi then @ite _ (P ((lo + hi) / 2)) (Classical.propDecidable _) (bsF P n lo ((lo + hi) / 2)) (bsF P n ((lo + hi) / 2 + 1) hi) else lo
noncomputable def blF (g : Gg) (n : Nat) (fo : Int64) (k : Int32) : Int32 :=
  if smF g false (iI 20000) k n < fo then -1000000 else iI (bsF (fun m => fo ≤ smF g false (iI m) k n) 32 (-20000) 20000)
/-- solving: 0 and the bend, 1 no balance, 2 the moment can't be -/
noncomputable def soE (g : Gg) (n : Nat) (fo mo : Int64) (lo : Int) : Int32 × Int :=
  if blF g n fo (iI lo) = -1000000 then (1, 0) else if smF g true (blF g n fo (iI lo)) (iI lo) n < mo then (2, 0) else (0, lo)
noncomputable def soF (g : Gg) (n : Nat) (fo mo : Int64) : Nat → Int → Int → Int32 × Int
  | 0, lo, _ => soE g n fo mo lo
  | m + 1, lo, hi => if lo < hi then
      (if blF g n fo (iI ((lo + hi) / 2)) = -1000000 then (1, 0)
       else if mo ≤ smF g true (blF g n fo (iI ((lo + hi) / 2))) (iI ((lo + hi) / 2)) n then soF g n fo mo m lo ((lo + hi) / 2)
       else soF g n fo mo m ((lo + hi) / 2 + 1) hi)
    else soE g n fo mo lo
noncomputable def slF (g : Gg) (n : Nat) (fo mo : Int64) : Int32 × Int := soF g n fo mo 32 (-20000) 20000
noncomputable def cvF (g : Gg) (n : Nat) (fo : Int64) (b : Int32) : Int64 :=
  if blF g n fo b = -1000000 then -4611686018427387904 else smF g true (blF g n fo b) b n
noncomputable def laF (g : Gg) (n : Nat) (fo : Int64) (st : Int32) : Nat → Nat → Int32
  | 0, _ => -1
  | m + 1, i => if blF g n fo (nI i * st) = -1000000 then -1
      else if fbF g (blF g n fo (nI i * st)) (nI i * st) n 0 = -1 then laF g n fo st m (i + 1) else nI i
def setG (g : Gg) (i k : Nat) (x : Int32) : Gg := fun j => if j = i then upd (g i) k x else g j
def layG (g : Gg) (n : Nat) (a at_ kd : Int32) : Gg := setG (setG (setG (setG (setG g 0 n a) 1 n at_) 2 n kd) 3 n 0) 4 n 100
/-- the answer, and the last area that was tried -/
noncomputable def neF (g : Gg) (n : Nat) (at_ kd st : Int32) (fo mo : Int64) : Nat → Nat → Int32 → Int32 × Int32
  | 0, _, a => (-1, a)
  | m + 1, i, _ => if (slF (layG g n (nI i * st) at_ kd) (n + 1) fo mo).1 = 0 then (nI i * st, nI i * st) else neF g n at_ kd st fo mo m (i + 1) (nI i * st)
/-- what always holds of the rows -/
def InvG (g : Gg) : Prop :=
  (∀ i, i < 41 → vp_in (g 2 i) 4) ∧ (∀ i, i < 41 → -2000 ≤ (g 1 i).toInt ∧ (g 1 i).toInt ≤ 2000) ∧ (∀ i, i < 41 → -30000 ≤ (g 3 i).toInt ∧ (g 3 i).toInt ≤ 30000) ∧
  (∀ k, k < 4 → 0 ≤ (g 8 k).toInt ∧ (g 8 k).toInt ≤ 500) ∧ (∀ k, k < 4 → -5000 ≤ (g 9 k).toInt ∧ (g 9 k).toInt ≤ 5000) ∧ (∀ k, k < 4 → vp_in (g 7 k) 9) ∧
  (∀ j, j < 32 → -30000 ≤ (g 5 j).toInt ∧ (g 5 j).toInt ≤ 30000) ∧
  (∀ k i, k < 4 → i + 1 < (g 7 k).toNatClampNeg → (g 5 (8 * k + i)).toInt < (g 5 (8 * k + i + 1)).toInt)
/-- the state: rows, number of fibres, plane at hand (0, 1), E, K, force, moment -/
abbrev St : Type := Gg × Nat × Int32 × Int32 × Int32 × Int64 × Int64
abbrev rg (v : Int32) (a b : Int) : Prop := a ≤ v.toInt ∧ v.toInt ≤ b
def fibF (st : St) (a at_ kd : Int32) : Int32 × St :=
  if rg a 0 100000 ∧ rg at_ (-2000) 2000 ∧ rg kd 0 3 ∧ st.2.1 < 40 then (nI st.2.1, (layG st.1 st.2.1 a at_ kd, st.2.1 + 1, 0, st.2.2.2)) else (-1, st)
def poC (g : Gg) (kd x y : Int32) : Prop := rg kd 0 3 ∧ rg x (-30000) 30000 ∧ rg y (-1000000) 1000000 ∧ (g 7 kd.toNatClampNeg).toNatClampNeg < 8 ∧
  ¬ (0 < (g 7 kd.toNatClampNeg).toNatClampNeg ∧ (x ≤ g 5 (8 * kd.toNatClampNeg + (g 7 kd.toNatClampNeg).toNatClampNeg - 1) ∨ y < g 6 (8 * kd.toNatClampNeg + (g 7 kd.toNatClampNeg).toNatClampNeg - 1)))
def ptG (g : Gg) (k p : Nat) (x y : Int32) : Gg := setG (setG (setG g 5 (8 * k + p) x) 6 (8 * k + p) y) 7 k (nI (p + 1))
noncomputable def poiF (st : St) (kd x y : Int32) : Int32 × St :=
  @ite _ (poC st.1 kd x y) (Classical.propDecidable _) (1, (ptG st.1 kd.toNatClampNeg (st.1 7 kd.toNatClampNeg).toNatClampNeg x y, st.2.1, 0, st.2.2.2)) (0, st)
def borF (st : St) (f x : Int32) : Int32 × St := if rg f 0 (st.2.1 - 1) ∧ rg x (-30000) 30000 then (1, (setG st.1 3 f.toNatClampNeg x, st.2.1, 0, st.2.2.2)) else (0, st)
def creF (st : St) (kd x : Int32) : Int32 × St := if rg kd 0 3 ∧ rg x 0 500 then (1, (setG st.1 8 kd.toNatClampNeg x, st.2.1, 0, st.2.2.2)) else (0, st)
def shrF (st : St) (kd x : Int32) : Int32 × St := if rg kd 0 3 ∧ rg x (-5000) 5000 then (1, (setG st.1 9 kd.toNatClampNeg x, st.2.1, 0, st.2.2.2)) else (0, st)
def keeF (st : St) (f x : Int32) : Int32 × St := if rg f 0 (st.2.1 - 1) ∧ rg x 0 100 then (1, (setG st.1 4 f.toNatClampNeg x, st.2.1, 0, st.2.2.2)) else (0, st)
def ofF (g : Gg) (n : Nat) (e k w : Int32) : Int64 := if rg e (-20000) 20000 ∧ rg k (-20000) 20000 ∧ (w = 0 ∨ w = 1) then smF g (decide (w = 1)) e k n else -4611686018427387904
noncomputable def balF (g : Gg) (n : Nat) (fo : Int64) (k : Int32) : Int32 := if rg k (-20000) 20000 then blF g n fo k else -1000000
noncomputable def runF (st : St) (fo mo : Int64) : Int32 × St :=
  if (slF st.1 st.2.1 fo mo).1 = 0 then (0, (st.1, st.2.1, 1, blF st.1 st.2.1 fo (iI (slF st.1 st.2.1 fo mo).2), iI (slF st.1 st.2.1 fo mo).2, fo, mo)) else ((slF st.1 st.2.1 fo mo).1, st)
noncomputable def tolF (g : Gg) (n : Nat) (hs pe pk w : Int32) : Int32 := if hs = 0 then -1 else if w = 0 then pe else if w = 1 then pk else if w = 2 then fbF g pe pk n 0 else -1
def resF (g : Gg) (n : Nat) (hs pe pk : Int32) (fo mo : Int64) (w : Int32) : Int64 :=
  if hs = 0 then -4611686018427387904 else if w = 0 then smF g false pe pk n - fo else if w = 1 then smF g true pe pk n - mo else -4611686018427387904
def inF (g : Gg) (hs pe pk f w : Int32) : Int32 := if hs = 0 then -1000000 else if w = 0 then wkF g f.toNatClampNeg pe pk else if w = 1 then stF g f.toNatClampNeg pe pk else -1000000
noncomputable def curF (g : Gg) (n : Nat) (fo : Int64) (st k : Int32) : Int64 := if rg st 1 1000 ∧ rg k 0 20 then cvF g n fo (k * st) else -4611686018427387904
noncomputable def lasF (g : Gg) (n : Nat) (fo : Int64) (st : Int32) : Int32 := if rg st 1 1000 then laF g n fo st 21 0 else -1
noncomputable def nedF (s : St) (at_ kd st : Int32) (fo mo : Int64) : Int32 × St :=
  if rg at_ (-2000) 2000 ∧ rg kd 0 3 ∧ rg st 1 5000 then ((neF s.1 s.2.1 at_ kd st fo mo 21 0 0).1, (layG s.1 s.2.1 (neF s.1 s.2.1 at_ kd st fo mo 21 0 0).2 at_ kd, s.2)) else (-1, s)
def couF (g : Gg) (n : Nat) (w : Int32) : Int32 := if w = 0 then nI n else if w = 1 then arF g n else if rg w 2 5 then g 7 (w.toNatClampNeg - 2) else -1
def InvS (st : St) : Prop := InvG st.1 ∧ st.2.1 ≤ 40 ∧ (st.2.2.1 = 0 ∨ (st.2.2.1 = 1 ∧ rg st.2.2.2.1 (-20000) 20000 ∧ rg st.2.2.2.2.1 (-20000) 20000))
end
section
theorem iI_t {a : Int} (h1 : -2147483648 ≤ a) (h2 : a < 2147483648) : (iI a).toInt = a := Int32.toInt_ofInt_of_le h1 h2
theorem iI_of (x : Int32) : iI x.toInt = x := Int32.ofInt_toInt x
theorem iI_ad (a b : Int) : iI a + iI b = iI (a + b) := (Int32.ofInt_add a b).symm
theorem iI_sb (a b : Int) : iI a - iI b = iI (a - b) := (Int32.ofInt_sub a b).symm
theorem iI_lt {a b : Int} (ha : -2147483648 ≤ a) (ha2 : a < 2147483648) (hb : -2147483648 ≤ b) (hb2 : b < 2147483648) : iI a < iI b ↔ a < b := by
  rw [Int32.lt_iff_toInt_lt, iI_t ha ha2, iI_t hb hb2]
theorem iI_le {a b : Int} (ha : -2147483648 ≤ a) (ha2 : a < 2147483648) (hb : -2147483648 ≤ b) (hb2 : b < 2147483648) : iI a ≤ iI b ↔ a ≤ b := by
  rw [Int32.le_iff_toInt_le, iI_t ha ha2, iI_t hb hb2]
theorem bm32 {x : Int} (h1 : -2147483648 ≤ x) (h2 : x < 2147483648) : x.bmod (2 ^ 32) = x := Int.bmod_eq_of_le h1 h2
theorem bm64 {x : Int} (h1 : -9223372036854775808 ≤ x) (h2 : x < 9223372036854775808) : x.bmod (2 ^ 64) = x := Int.bmod_eq_of_le h1 h2
theorem mb_ {a d A D : Int} (h1 : -A ≤ a) (h2 : a ≤ A) (h3 : -D ≤ d) (h4 : d ≤ D) : -(A * D) ≤ a * d ∧ a * d ≤ A * D := by
  have p1 := Int.mul_nonneg (show 0 ≤ A - a by omega) (show 0 ≤ D + d by omega)
  have p2 := Int.mul_nonneg (show 0 ≤ A + a by omega) (show 0 ≤ D - d by omega)
  have p3 := Int.mul_nonneg (show 0 ≤ A - a by omega) (show 0 ≤ D - d by omega)
  have p4 := Int.mul_nonneg (show 0 ≤ A + a by omega) (show 0 ≤ D + d by omega)
  simp only [Int.sub_mul, Int.mul_sub, Int.add_mul, Int.mul_add] at p1 p2 p3 p4
  constructor <;> omega
theorem ad32 {x y : Int32} (h1 : -2147483648 ≤ x.toInt + y.toInt) (h2 : x.toInt + y.toInt < 2147483648) : (x + y).toInt = x.toInt + y.toInt := by rw [Int32.toInt_add]; exact bm32 h1 h2
theorem sb32 {x y : Int32} (h1 : -2147483648 ≤ x.toInt - y.toInt) (h2 : x.toInt - y.toInt < 2147483648) : (x - y).toInt = x.toInt - y.toInt := by rw [Int32.toInt_sub]; exact bm32 h1 h2
theorem ml32 {x y : Int32} (h1 : -2147483648 ≤ x.toInt * y.toInt) (h2 : x.toInt * y.toInt < 2147483648) : (x * y).toInt = x.toInt * y.toInt := by rw [Int32.toInt_mul]; exact bm32 h1 h2
theorem xneg (x : Int32) {y : Int32} (hy : 0 ≤ y.toInt) : (x ^^^ y) < 0 ↔ x.toInt < 0 := by
  have h1 : (x.toBitVec ^^^ y.toBitVec).msb = (x.toBitVec.msb ^^ y.toBitVec.msb) := BitVec.msb_xor
  rw [BitVec.msb_eq_toInt, BitVec.msb_eq_toInt, BitVec.msb_eq_toInt] at h1
  have h2 : ¬ y.toBitVec.toInt < 0 := by rw [Int32.toInt_toBitVec]; omega
  rw [decide_eq_false h2, Bool.xor_false] at h1
  have h3 := decide_eq_decide.mp h1
  rw [Int32.lt_iff_toInt_lt]
  exact h3
theorem tdn {a b : Int} (h : ¬ 0 ≤ a) : a.tdiv b = -((-a) / b) := by
  have h1 : (-a).tdiv b = (-a) / b := Int.tdiv_eq_ediv_of_nonneg (by omega)
  rw [← h1, Int.neg_tdiv, Int.neg_neg]
theorem fdv1000 {x : Int32} (h1 : -100000000 ≤ x.toInt) (h2 : x.toInt ≤ 100000000) : fdv x 1000 = iI (x.toInt / 1000) := by
  have k1 : (1000 : Int32).toInt = 1000 := by decide
  have k2 : (1 : Int32).toInt = 1 := by decide
  have hq : (x / 1000).toInt = x.toInt.tdiv 1000 := by rw [Int32.toInt_div_of_ne_right x 1000 (by decide), k1]
  have hx := xneg x (y := 1000) (by decide)
  have hb : -100000000 ≤ x.toInt.tdiv 1000 * 1000 ∧ x.toInt.tdiv 1000 * 1000 ≤ 100000000 := by
    by_cases hn : 0 ≤ x.toInt
    · rw [Int.tdiv_eq_ediv_of_nonneg hn]; omega
    · rw [tdn hn]; omega
  have hr : ((x / 1000) * 1000).toInt = x.toInt.tdiv 1000 * 1000 := by
    rw [ml32 (by rw [hq, k1]; omega) (by rw [hq, k1]; omega), hq, k1]
  have he : (x / 1000) * 1000 = x ↔ x.toInt.tdiv 1000 * 1000 = x.toInt := by rw [← Int32.toInt_inj, hr]
  apply Int32.toInt_inj.1
  rw [iI_t (by omega) (by omega)]
  unfold fdv
  by_cases hn : 0 ≤ x.toInt
  · have ht : x.toInt.tdiv 1000 = x.toInt / 1000 := Int.tdiv_eq_ediv_of_nonneg hn
    rw [if_neg (fun h => absurd (hx.mp h.1) (by omega)), hq, ht]
  · have ht : x.toInt.tdiv 1000 = -((-x.toInt) / 1000) := tdn hn
    by_cases hd : (x / 1000) * 1000 = x
    · rw [if_neg (fun h => h.2 hd), hq]
      have := he.mp hd
      rw [ht] at this ⊢
      omega
    · rw [if_pos ⟨hx.mpr (by omega), hd⟩, sb32 (by rw [hq, k2]; omega) (by rw [hq, k2]; omega), hq, k2]
      have := mt he.mpr hd
      rw [ht] at this ⊢
      omega
theorem fdv2 {x : Int32} (h1 : -100000000 ≤ x.toInt) (h2 : x.toInt ≤ 100000000) : fdv x 2 = iI (x.toInt / 2) := by
  have k1 : (2 : Int32).toInt = 2 := by decide
  have k2 : (1 : Int32).toInt = 1 := by decide
  have hq : (x / 2).toInt = x.toInt.tdiv 2 := by rw [Int32.toInt_div_of_ne_right x 2 (by decide), k1]
  have hx := xneg x (y := 2) (by decide)
  have hb : -100000000 ≤ x.toInt.tdiv 2 * 2 ∧ x.toInt.tdiv 2 * 2 ≤ 100000000 := by
    by_cases hn : 0 ≤ x.toInt
    · rw [Int.tdiv_eq_ediv_of_nonneg hn]; omega
    · rw [tdn hn]; omega
  have hr : ((x / 2) * 2).toInt = x.toInt.tdiv 2 * 2 := by
    rw [ml32 (by rw [hq, k1]; omega) (by rw [hq, k1]; omega), hq, k1]
  have he : (x / 2) * 2 = x ↔ x.toInt.tdiv 2 * 2 = x.toInt := by rw [← Int32.toInt_inj, hr]
  apply Int32.toInt_inj.1
  rw [iI_t (by omega) (by omega)]
  unfold fdv
  by_cases hn : 0 ≤ x.toInt
  · have ht : x.toInt.tdiv 2 = x.toInt / 2 := Int.tdiv_eq_ediv_of_nonneg hn
    rw [if_neg (fun h => absurd (hx.mp h.1) (by omega)), hq, ht]
  · have ht : x.toInt.tdiv 2 = -((-x.toInt) / 2) := tdn hn
    by_cases hd : (x / 2) * 2 = x
    · rw [if_neg (fun h => h.2 hd), hq]
      have := he.mp hd
      rw [ht] at this ⊢
      omega
    · rw [if_pos ⟨hx.mpr (by omega), hd⟩, sb32 (by rw [hq, k2]; omega) (by rw [hq, k2]; omega), hq, k2]
      have := mt he.mpr hd
      rw [ht] at this ⊢
      omega
/-- the middle, as the class has it -/
theorem midC {a b : Int} (h1 : -20000 ≤ a) (h2 : a ≤ 20000) (h3 : -20000 ≤ b) (h4 : b ≤ 20000) : fdv (iI a + iI b) 2 = iI ((a + b) / 2) := by
  have h : (iI (a + b)).toInt = a + b := iI_t (by omega) (by omega)
  rw [iI_ad, fdv2 (by omega) (by omega), h]
/-- the middle, as the reference has it -/
theorem midR {a b : Int} (h1 : -20000 ≤ a) (h2 : a ≤ 20000) (h3 : -20000 ≤ b) (h4 : b ≤ 20000) (h : a < b) : iI a + (iI b - iI a) / 2 = iI ((a + b) / 2) := by
  have hd : (iI (b - a)).toInt = b - a := iI_t (by omega) (by omega)
  have k1 : (2 : Int32).toInt = 2 := by decide
  have hq : (iI (b - a) / 2).toInt = (b - a) / 2 := by
    rw [Int32.toInt_div_of_ne_right _ 2 (by decide), hd, k1]; exact Int.tdiv_eq_ediv_of_nonneg (by omega)
  apply Int32.toInt_inj.1
  rw [iI_sb, ad32 (by rw [hq, iI_t (by omega) (by omega)]; omega) (by rw [hq, iI_t (by omega) (by omega)]; omega), hq, iI_t (by omega) (by omega), iI_t (by omega) (by omega)]
  omega
theorem rdnP {x : Int32} (h1 : -100000000 ≤ x.toInt) (h2 : x.toInt ≤ 100000000) (h : ¬ x < 0) : x / 1000 = iI (x.toInt / 1000) := by
  have k1 : (1000 : Int32).toInt = 1000 := by decide
  have h0 : 0 ≤ x.toInt := by
    rw [Int32.lt_iff_toInt_lt] at h
    have k0 : (0 : Int32).toInt = 0 := by decide
    omega
  apply Int32.toInt_inj.1
  rw [iI_t (by omega) (by omega), Int32.toInt_div_of_ne_right x 1000 (by decide), k1]
  exact Int.tdiv_eq_ediv_of_nonneg h0
theorem rdnN {x : Int32} (h1 : -100000000 ≤ x.toInt) (h2 : x.toInt ≤ 100000000) (h : x < 0) : -((999 - x) / 1000) = iI (x.toInt / 1000) := by
  have k1 : (1000 : Int32).toInt = 1000 := by decide
  have k9 : (999 : Int32).toInt = 999 := by decide
  have h0 : x.toInt < 0 := by
    rw [Int32.lt_iff_toInt_lt] at h
    have k0 : (0 : Int32).toInt = 0 := by decide
    omega
  have hs : (999 - x).toInt = 999 - x.toInt := by rw [sb32 (by rw [k9]; omega) (by rw [k9]; omega), k9]
  have hq : ((999 - x) / 1000).toInt = (999 - x.toInt) / 1000 := by
    rw [Int32.toInt_div_of_ne_right _ 1000 (by decide), hs, k1]; exact Int.tdiv_eq_ediv_of_nonneg (by omega)
  apply Int32.toInt_inj.1
  rw [iI_t (by omega) (by omega), Int32.toInt_neg, hq, bm32 (by omega) (by omega)]
  omega
theorem wk_eq {L c : Int32} (h1 : -10000000 ≤ L.toInt) (h2 : L.toInt ≤ 10000000) (h3 : 0 ≤ c.toInt) (h4 : c.toInt ≤ 500) : L * 100 / (100 + c) = sh L.toInt64 100 (100 + c).toInt64 := by
  have k1 : (100 : Int32).toInt = 100 := by decide
  have k2 : (100 : Int64).toInt = 100 := by decide
  have hc : (100 + c).toInt = 100 + c.toInt := by rw [ad32 (by rw [k1]; omega) (by rw [k1]; omega), k1]
  have hL : (L * 100).toInt = L.toInt * 100 := by rw [ml32 (by rw [k1]; omega) (by rw [k1]; omega), k1]
  have n32 : (100 + c) ≠ -1 := by
    intro h
    have := congrArg Int32.toInt h
    rw [hc, show (-1 : Int32).toInt = -1 by decide] at this
    omega
  have t64 : (100 + c).toInt64.toInt = 100 + c.toInt := by rw [Int32.toInt_toInt64, hc]
  have n64 : (100 + c).toInt64 ≠ -1 := by
    intro h
    have := congrArg Int64.toInt h
    rw [t64, show (-1 : Int64).toInt = -1 by decide] at this
    omega
  have z64 : ¬ (100 + c).toInt64 = 0 := by
    intro h
    have := congrArg Int64.toInt h
    rw [t64, show (0 : Int64).toInt = 0 by decide] at this
    omega
  have h32 : (L * 100 / (100 + c)).toInt = (L.toInt * 100).tdiv (100 + c.toInt) := by rw [Int32.toInt_div_of_ne_right _ _ n32, hL, hc]
  have h64 : (L.toInt64 * 100 / (100 + c).toInt64).toInt = (L.toInt * 100).tdiv (100 + c.toInt) := by
    rw [Int64.toInt_div_of_ne_right _ _ n64, Int64.toInt_mul, Int32.toInt_toInt64, t64, k2, bm64 (by omega) (by omega)]
  unfold sh
  rw [if_neg z64]
  apply Int32.toInt_inj.1
  rw [Int64.toInt_toInt32, h64, ← h32]
  exact (bm32 (Int32.le_toInt _) (Int32.toInt_lt _)).symm
theorem kp_b {k q : Int32} (h1 : -20000 ≤ k.toInt) (h2 : k.toInt ≤ 20000) (h3 : -2000 ≤ q.toInt) (h4 : q.toInt ≤ 2000) : -40000000 ≤ (k * q).toInt ∧ (k * q).toInt ≤ 40000000 := by
  have h := mb_ h1 h2 h3 h4
  rw [ml32 (by omega) (by omega)]
  omega
theorem vp_n {x : Int32} {n : Nat} (h : vp_in x n) : x.toNatClampNeg < n ∧ 0 ≤ x.toInt ∧ x.toInt = x.toNatClampNeg := by
  have h1 := vp_in_iff.mp h
  have h2 : x.toInt.toNat = x.toNatClampNeg := rfl
  omega
/-- the reference's works is the class's -/
theorem rwk_eq {g : Gg} (hg : InvG g) {f : Nat} (hf : f < 41) {e k d : Int32} (he1 : -20000 ≤ e.toInt) (he2 : e.toInt ≤ 20000) (hk1 : -20000 ≤ k.toInt) (hk2 : k.toInt ≤ 20000) (hd : d = iI ((k * g 1 f).toInt / 1000)) :
    (e + d - g 3 f - g 9 (g 2 f).toNatClampNeg) * 100 / (100 + g 8 (g 2 f).toNatClampNeg) = wkF g f e k := by
  obtain ⟨i2, i1, i3, i8, i9, -, -, -⟩ := hg
  have hkd := (vp_n (i2 f hf)).1
  have h1 := i1 f hf
  have h3 := i3 f hf
  have h8 := i8 _ hkd
  have h9 := i9 _ hkd
  have hb := kp_b hk1 hk2 h1.1 h1.2
  have hdt : d.toInt = (k * g 1 f).toInt / 1000 := by rw [hd]; exact iI_t (by omega) (by omega)
  have s1 : (e + d).toInt = e.toInt + d.toInt := ad32 (by omega) (by omega)
  have s2 : (e + d - g 3 f).toInt = e.toInt + d.toInt - (g 3 f).toInt := by rw [sb32 (by omega) (by omega), s1]
  have s3 : (e + d - g 3 f - g 9 (g 2 f).toNatClampNeg).toInt = e.toInt + d.toInt - (g 3 f).toInt - (g 9 (g 2 f).toNatClampNeg).toInt := by rw [sb32 (by omega) (by omega), s2]
  rw [wk_eq (by omega) (by omega) h8.1 h8.2]
  unfold wkF
  rw [fdv1000 (by omega) (by omega), ← hd]
/-- a row at one of its points -/
theorem rwL_at {x y : Nat → Int32} {t : Int32} : ∀ (n j : Nat), (∀ i, j ≤ i → i < j + n → (x i).toInt < (x (i + 1)).toInt) → t = x j → rwL x y t n j = y j := by
  intro n j h ht
  cases n with
  | zero => rfl
  | succ n =>
    have h1 := h j (Nat.le_refl _) (by omega)
    unfold rwL
    have hz : (t - x j) = 0 := by rw [ht]; exact Int32.sub_self _
    rw [if_pos (by rw [Int32.lt_iff_toInt_lt, ht]; exact h1), hz]
    have : sh (y (j + 1) - y j).toInt64 (0 : Int32).toInt64 (x (j + 1) - x j).toInt64 = 0 := by
      unfold sh
      split
      · rfl
      · have e0 : (0 : Int32).toInt64 = 0 := by decide
        rw [e0, Int64.mul_zero, Int64.zero_div]
        decide
    rw [this, Int32.add_zero]
theorem md_self {a d : Int32} (h1 : 0 < d.toInt) (h2 : d.toInt ≤ 60000) : (a.toInt64 * d.toInt64 / d.toInt64).toInt32 = a := by
  have hb := mb_ (a := a.toInt) (d := d.toInt) (A := 2147483648) (D := 60000) (by have := Int32.le_toInt a; omega) (by have := Int32.toInt_lt a; omega) (by omega) h2
  have n64 : d.toInt64 ≠ -1 := by
    intro h
    have := congrArg Int64.toInt h
    rw [Int32.toInt_toInt64, show (-1 : Int64).toInt = -1 by decide] at this
    omega
  apply Int32.toInt_inj.1
  rw [Int64.toInt_toInt32, Int64.toInt_div_of_ne_right _ _ n64, Int64.toInt_mul, Int32.toInt_toInt64, Int32.toInt_toInt64, bm64 (by omega) (by omega), Int.mul_tdiv_cancel _ (by omega)]
  exact bm32 (Int32.le_toInt _) (Int32.toInt_lt _)
/-- the reference's row: it stops at the first point that isn't below -/
def rvL (x y : Nat → Int32) (t : Int32) : Nat → Nat → Int32
  | 0, j => y j
  | n + 1, j => if x (j + 1) < t then rvL x y t n (j + 1) else y j + ((y (j + 1) - y j).toInt64 * (t - x j).toInt64 / (x (j + 1) - x j).toInt64).toInt32
theorem rvL_eq {x y : Nat → Int32} {t : Int32} : ∀ (n j : Nat), (∀ i, j ≤ i → i < j + n → (x i).toInt < (x (i + 1)).toInt) → (∀ i, j ≤ i → i ≤ j + n → -30000 ≤ (x i).toInt ∧ (x i).toInt ≤ 30000) → rvL x y t n j = rwL x y t n j := by
  intro n
  induction n with
  | zero => intro j _ _; rfl
  | succ n ih =>
    intro j hr hb
    have r0 := hr j (Nat.le_refl _) (by omega)
    have b0 := hb j (Nat.le_refl _) (by omega)
    have b1 := hb (j + 1) (by omega) (by omega)
    have hdt : (x (j + 1) - x j).toInt = (x (j + 1)).toInt - (x j).toInt := sb32 (by omega) (by omega)
    have hnz : ¬ (x (j + 1) - x j).toInt64 = 0 := by
      intro h
      have := congrArg Int64.toInt h
      rw [Int32.toInt_toInt64, hdt, show (0 : Int64).toInt = 0 by decide] at this
      omega
    unfold rvL rwL
    by_cases c1 : x (j + 1) < t
    · rw [if_pos c1, if_neg (by rw [Int32.lt_iff_toInt_lt] at c1 ⊢; omega)]
      exact ih (j + 1) (fun i h1 h2 => hr i (by omega) (by omega)) (fun i h1 h2 => hb i (by omega) (by omega))
    · rw [if_neg c1]
      by_cases c2 : t < x (j + 1)
      · rw [if_pos c2]
        unfold sh
        rw [if_neg hnz]
      · have ht : t = x (j + 1) := by
          apply Int32.toInt_inj.1
          rw [Int32.lt_iff_toInt_lt] at c1 c2
          omega
        rw [if_neg c2, rwL_at n (j + 1) (fun i h1 h2 => hr i (by omega) (by omega)) ht, ht, md_self (by omega) (by omega)]
        rw [Int32.add_comm, Int32.sub_add_cancel]
/-- halving: where it ends -/
theorem bs_rng {P : Int → Prop} : ∀ (n : Nat) (lo hi : Int), lo ≤ hi → lo ≤ bsF P n lo hi ∧ bsF P n lo hi ≤ hi := by
  intro n
  induction n with
  | zero => intro lo hi h; unfold bsF; omega
  | succ n ih =>
    intro lo hi h
    unfold bsF
    split
    · split
      · have := ih lo ((lo + hi) / 2) (by omega); omega
      · have := ih ((lo + hi) / 2 + 1) hi (by omega); omega
    · omega
theorem bl_rng {g : Gg} {n : Nat} {fo : Int64} {k : Int32} (h : ¬ blF g n fo k = -1000000) : -20000 ≤ (blF g n fo k).toInt ∧ (blF g n fo k).toInt ≤ 20000 := by
  unfold blF at h ⊢
  split at h
  · exact absurd rfl h
  · rename_i hc
    rw [if_neg hc]
    have := bs_rng (P := fun m => fo ≤ smF g false (iI m) k n) 32 (-20000) 20000 (by omega)
    rw [iI_t (by omega) (by omega)]
    exact this
theorem so_rng {g : Gg} {n : Nat} {fo mo : Int64} : ∀ (m : Nat) (lo hi : Int), lo ≤ hi → (soF g n fo mo m lo hi).1 = 0 → lo ≤ (soF g n fo mo m lo hi).2 ∧ (soF g n fo mo m lo hi).2 ≤ hi := by
  have hE : ∀ lo : Int, (soE g n fo mo lo).1 = 0 → (soE g n fo mo lo).2 = lo := by
    intro lo h
    unfold soE at h ⊢
    split at h
    · exact absurd h (by decide)
    · split at h
      · exact absurd h (by decide)
      · rename_i c1 c2; rw [if_neg c1, if_neg c2]
  intro m
  induction m with
  | zero => intro lo hi h h0; unfold soF at h0 ⊢; have := hE lo h0; omega
  | succ m ih =>
    intro lo hi h h0
    unfold soF at h0 ⊢
    by_cases c0 : lo < hi
    · rw [if_pos c0] at h0 ⊢
      by_cases c1 : blF g n fo (iI ((lo + hi) / 2)) = -1000000
      · rw [if_pos c1] at h0; exact absurd h0 (by decide)
      · rw [if_neg c1] at h0 ⊢
        by_cases c2 : mo ≤ smF g true (blF g n fo (iI ((lo + hi) / 2))) (iI ((lo + hi) / 2)) n
        · rw [if_pos c2] at h0 ⊢; have := ih lo ((lo + hi) / 2) (by omega) h0; omega
        · rw [if_neg c2] at h0 ⊢; have := ih ((lo + hi) / 2 + 1) hi (by omega) h0; omega
    · rw [if_neg c0] at h0 ⊢; have := hE lo h0; omega
theorem sl_rng {g : Gg} {n : Nat} {fo mo : Int64} (h : (slF g n fo mo).1 = 0) : -20000 ≤ (slF g n fo mo).2 ∧ (slF g n fo mo).2 ≤ 20000 := so_rng 32 (-20000) 20000 (by omega) h
theorem so_val {g : Gg} {n : Nat} {fo mo : Int64} : ∀ (m : Nat) (lo hi : Int), (soF g n fo mo m lo hi).1 = 0 → ¬ blF g n fo (iI (soF g n fo mo m lo hi).2) = -1000000 := by
  have hE : ∀ lo : Int, (soE g n fo mo lo).1 = 0 → ¬ blF g n fo (iI (soE g n fo mo lo).2) = -1000000 := by
    intro lo h
    unfold soE at h ⊢
    split at h
    · exact absurd h (by decide)
    · split at h
      · exact absurd h (by decide)
      · rename_i c1 c2; rw [if_neg c1, if_neg c2]; exact c1
  intro m
  induction m with
  | zero => intro lo hi h0; unfold soF at h0 ⊢; exact hE lo h0
  | succ m ih =>
    intro lo hi h0
    unfold soF at h0 ⊢
    by_cases c0 : lo < hi
    · rw [if_pos c0] at h0 ⊢
      by_cases c1 : blF g n fo (iI ((lo + hi) / 2)) = -1000000
      · rw [if_pos c1] at h0; exact absurd h0 (by decide)
      · rw [if_neg c1] at h0 ⊢
        by_cases c2 : mo ≤ smF g true (blF g n fo (iI ((lo + hi) / 2))) (iI ((lo + hi) / 2)) n
        · rw [if_pos c2] at h0 ⊢; exact ih lo ((lo + hi) / 2) h0
        · rw [if_neg c2] at h0 ⊢; exact ih ((lo + hi) / 2 + 1) hi h0
    · rw [if_neg c0] at h0 ⊢; exact hE lo h0
theorem up_s {f : Nat → Int32} {k : Nat} {x : Int32} {P : Int32 → Prop} {N : Nat} (hx : P x) (h : ∀ i, i < N → P (f i)) : ∀ i, i < N → P (upd f k x i) := by
  intro i hi
  unfold upd
  split
  · exact hx
  · exact h i hi
theorem lay_inv {g : Gg} (hg : InvG g) {n : Nat} {a at_ kd : Int32} (h1 : -2000 ≤ at_.toInt) (h2 : at_.toInt ≤ 2000) (hk : vp_in kd 4) : InvG (layG g n a at_ kd) := by
  obtain ⟨i2, i1, i3, i8, i9, i7, i5, ir⟩ := hg
  exact ⟨up_s (P := fun v => vp_in v 4) hk i2, up_s (P := fun v => -2000 ≤ v.toInt ∧ v.toInt ≤ 2000) ⟨h1, h2⟩ i1, up_s (P := fun v => -30000 ≤ v.toInt ∧ v.toInt ≤ 30000) (by decide) i3, i8, i9, i7, i5, ir⟩
theorem set3_inv {g : Gg} (hg : InvG g) {k : Nat} {x : Int32} (h1 : -30000 ≤ x.toInt) (h2 : x.toInt ≤ 30000) : InvG (setG g 3 k x) := by
  obtain ⟨i2, i1, i3, i8, i9, i7, i5, ir⟩ := hg
  exact ⟨i2, i1, up_s (P := fun v => -30000 ≤ v.toInt ∧ v.toInt ≤ 30000) ⟨h1, h2⟩ i3, i8, i9, i7, i5, ir⟩
theorem set4_inv {g : Gg} (hg : InvG g) {k : Nat} {x : Int32} : InvG (setG g 4 k x) := hg
theorem set8_inv {g : Gg} (hg : InvG g) {k : Nat} {x : Int32} (h1 : 0 ≤ x.toInt) (h2 : x.toInt ≤ 500) : InvG (setG g 8 k x) := by
  obtain ⟨i2, i1, i3, i8, i9, i7, i5, ir⟩ := hg
  exact ⟨i2, i1, i3, up_s (P := fun v => 0 ≤ v.toInt ∧ v.toInt ≤ 500) ⟨h1, h2⟩ i8, i9, i7, i5, ir⟩
theorem set9_inv {g : Gg} (hg : InvG g) {k : Nat} {x : Int32} (h1 : -5000 ≤ x.toInt) (h2 : x.toInt ≤ 5000) : InvG (setG g 9 k x) := by
  obtain ⟨i2, i1, i3, i8, i9, i7, i5, ir⟩ := hg
  exact ⟨i2, i1, i3, i8, up_s (P := fun v => -5000 ≤ v.toInt ∧ v.toInt ≤ 5000) ⟨h1, h2⟩ i9, i7, i5, ir⟩
/-- one more point of the row of kind k, which has p -/
theorem pt_inv {g : Gg} (hg : InvG g) {k p : Nat} {x y : Int32} (hk : k < 4) (hp : p < 8) (he : g 7 k = nI p) (h1 : -30000 ≤ x.toInt) (h2 : x.toInt ≤ 30000) (hr : 0 < p → (g 5 (8 * k + p - 1)).toInt < x.toInt) : InvG (ptG g k p x y) := by
  obtain ⟨i2, i1, i3, i8, i9, i7, i5, ir⟩ := hg
  refine ⟨i2, i1, i3, i8, i9, up_s (P := fun v => vp_in v 9) (vp_in_nI (by omega) (by omega)) i7, up_s (P := fun v => -30000 ≤ v.toInt ∧ v.toInt ≤ 30000) ⟨h1, h2⟩ i5, ?_⟩
  intro k2 i hk2 hi
  have e7 : ptG g k p x y 7 k2 = upd (g 7) k (nI (p + 1)) k2 := rfl
  have e5 : ∀ j, ptG g k p x y 5 j = upd (g 5) (8 * k + p) x j := fun _ => rfl
  rw [e7] at hi
  rw [e5, e5]
  unfold upd at hi ⊢
  have c7 := vp_n (i7 k2 hk2)
  by_cases hkk : k2 = k
  · subst hkk
    rw [if_pos rfl, nI_clamp (by omega)] at hi
    rw [if_neg (by omega)]
    by_cases hl : i + 1 = p
    · rw [if_pos (by omega)]
      have := hr (by omega)
      rw [show 8 * k2 + p - 1 = 8 * k2 + i by omega] at this
      exact this
    · rw [if_neg (by omega)]
      exact ir k2 i hk2 (by rw [he, nI_clamp (by omega)]; omega)
  · rw [if_neg hkk] at hi
    rw [if_neg (by omega), if_neg (by omega)]
    exact ir k2 i hk2 hi
def g0 : Gg := fun _ _ => 0
theorem g0_inv : InvG g0 :=
  ⟨fun _ _ => vp_in_iff.mpr (show 0 ≤ (0 : Int32).toInt ∧ (0 : Int32).toInt < (4 : Nat) by decide), fun _ _ => (show -2000 ≤ (0 : Int32).toInt ∧ (0 : Int32).toInt ≤ 2000 by decide), fun _ _ => (show -30000 ≤ (0 : Int32).toInt ∧ (0 : Int32).toInt ≤ 30000 by decide),
   fun _ _ => (show 0 ≤ (0 : Int32).toInt ∧ (0 : Int32).toInt ≤ 500 by decide), fun _ _ => (show -5000 ≤ (0 : Int32).toInt ∧ (0 : Int32).toInt ≤ 5000 by decide), fun _ _ => vp_in_iff.mpr (show 0 ≤ (0 : Int32).toInt ∧ (0 : Int32).toInt < (9 : Nat) by decide),
   fun _ _ => (show -30000 ≤ (0 : Int32).toInt ∧ (0 : Int32).toInt ≤ 30000 by decide), fun _ i _ hi => absurd (show i + 1 < (0 : Int32).toNatClampNeg from hi) (by rw [show (0 : Int32).toNatClampNeg = 0 by decide]; omega)⟩
theorem le_nlt {a b : Int32} (h : a ≤ b) : ¬ b < a := by rw [Int32.le_iff_toInt_le] at h; rw [Int32.lt_iff_toInt_lt]; omega
theorem nlt_le {a b : Int32} (h : ¬ a < b) : b ≤ a := by rw [Int32.lt_iff_toInt_lt] at h; rw [Int32.le_iff_toInt_le]; omega
theorem nle_lt {a b : Int32} (h : ¬ a ≤ b) : b < a := by rw [Int32.le_iff_toInt_le] at h; rw [Int32.lt_iff_toInt_lt]; omega
theorem lt_nle {a b : Int32} (h : a < b) : ¬ b ≤ a := by rw [Int32.lt_iff_toInt_lt] at h; rw [Int32.le_iff_toInt_le]; omega
theorem le_nlt64 {a b : Int64} (h : a ≤ b) : ¬ b < a := by rw [Int64.le_iff_toInt_le] at h; rw [Int64.lt_iff_toInt_lt]; omega
theorem nle_lt64 {a b : Int64} (h : ¬ a ≤ b) : b < a := by rw [Int64.le_iff_toInt_le] at h; rw [Int64.lt_iff_toInt_lt]; omega
theorem nlt_le64 {a b : Int64} (h : ¬ a < b) : b ≤ a := by rw [Int64.lt_iff_toInt_lt] at h; rw [Int64.le_iff_toInt_le]; omega
theorem lt_nle64 {a b : Int64} (h : a < b) : ¬ b ≤ a := by rw [Int64.lt_iff_toInt_lt] at h; rw [Int64.le_iff_toInt_le]; omega
theorem rwF_k {g : Gg} {k : Nat} (hk : k < 4) {t : Int32} : rwF g (nI k) t = if g 7 k = 0 then 0 else if t ≤ g 5 (8 * k) then g 6 (8 * k) else rwL (g 5) (g 6) t ((g 7 k).toNatClampNeg - 1) (8 * k) := by
  unfold rwF
  rw [nI_clamp (n := k) (by omega)]
theorem byF_k {g : Gg} {k : Nat} (hk : k < 4) {t : Int32} : byF g (nI k) t ↔ ¬ g 7 k = 0 ∧ (t < g 5 (8 * k) ∨ g 5 (8 * k + (g 7 k).toNatClampNeg - 1) < t) := by
  unfold byF
  rw [nI_clamp (n := k) (by omega)]
theorem rwL_0 {x y : Nat → Int32} {t : Int32} {i : Nat} : rwL x y t 0 i = y i := rfl
theorem rwL_s {x y : Nat → Int32} {t : Int32} {n i : Nat} : rwL x y t (n + 1) i = if t < x (i + 1) then y i + sh (y (i + 1) - y i).toInt64 (t - x i).toInt64 (x (i + 1) - x i).toInt64 else rwL x y t n (i + 1) := rfl
theorem rvL_0 {x y : Nat → Int32} {t : Int32} {i : Nat} : rvL x y t 0 i = y i := rfl
theorem rvL_s {x y : Nat → Int32} {t : Int32} {n j : Nat} : rvL x y t (n + 1) j = if x (j + 1) < t then rvL x y t n (j + 1) else y j + ((y (j + 1) - y j).toInt64 * (t - x j).toInt64 / (x (j + 1) - x j).toInt64).toInt32 := rfl
theorem fbF_t {g : Gg} {e k : Int32} {m i : Nat} (h : byF g (g 2 i) (wkF g i e k)) : fbF g e k (m + 1) i = nI i := by unfold fbF; rw [if_pos h]
theorem fbF_f {g : Gg} {e k : Int32} {m i : Nat} (h : ¬ byF g (g 2 i) (wkF g i e k)) : fbF g e k (m + 1) i = fbF g e k m (i + 1) := by rw [fbF]; rw [if_neg h]
theorem bs_end {P : Int → Prop} {m : Nat} {a b : Int} (h : ¬ a < b) : bsF P m a b = a := by
  cases m with
  | zero => rfl
  | succ m => rw [bsF]; rw [if_neg h]
theorem bs_t {P : Int → Prop} {m : Nat} {a b : Int} (h : a < b) (hP : P ((a + b) / 2)) : bsF P (m + 1) a b = bsF P m a ((a + b) / 2) := by rw [bsF, if_pos h, if_pos hP]
theorem bs_f {P : Int → Prop} {m : Nat} {a b : Int} (h : a < b) (hP : ¬ P ((a + b) / 2)) : bsF P (m + 1) a b = bsF P m ((a + b) / 2 + 1) b := by rw [bsF, if_pos h, if_neg hP]
theorem so_end {g : Gg} {n : Nat} {fo mo : Int64} {m : Nat} {a b : Int} (h : ¬ a < b) : soF g n fo mo m a b = soE g n fo mo a := by
  cases m with
  | zero => rfl
  | succ m => rw [soF]; rw [if_neg h]
theorem so_0 {g : Gg} {n : Nat} {fo mo : Int64} {m : Nat} {a b : Int} (h : a < b) (h1 : blF g n fo (iI ((a + b) / 2)) = -1000000) : soF g n fo mo (m + 1) a b = (1, 0) := by rw [soF, if_pos h, if_pos h1]
theorem so_t {g : Gg} {n : Nat} {fo mo : Int64} {m : Nat} {a b : Int} (h : a < b) (h1 : ¬ blF g n fo (iI ((a + b) / 2)) = -1000000) (h2 : mo ≤ smF g true (blF g n fo (iI ((a + b) / 2))) (iI ((a + b) / 2)) n) : soF g n fo mo (m + 1) a b = soF g n fo mo m a ((a + b) / 2) := by rw [soF, if_pos h, if_neg h1, if_pos h2]
theorem so_f {g : Gg} {n : Nat} {fo mo : Int64} {m : Nat} {a b : Int} (h : a < b) (h1 : ¬ blF g n fo (iI ((a + b) / 2)) = -1000000) (h2 : ¬ mo ≤ smF g true (blF g n fo (iI ((a + b) / 2))) (iI ((a + b) / 2)) n) : soF g n fo mo (m + 1) a b = soF g n fo mo m ((a + b) / 2 + 1) b := by rw [soF, if_pos h, if_neg h1, if_neg h2]
/-- the class's answer of a solving -/
def enF (q : Int32 × Int) : Int32 := if q.1 = 1 then 1000001 else if q.1 = 2 then 1000002 else iI q.2
theorem dvne {a b : Int32} (h1 : -30000 ≤ a.toInt) (h2 : a.toInt < b.toInt) (h3 : b.toInt ≤ 30000) : ¬ (b - a).toInt64 = 0 := by
  have hdt : (b - a).toInt = b.toInt - a.toInt := sb32 (by omega) (by omega)
  intro h
  have h9 := congrArg Int64.toInt h
  rw [Int32.toInt_toInt64, hdt, show (0 : Int64).toInt = 0 by decide] at h9
  omega
theorem crne {c : Int32} (h1 : 0 ≤ c.toInt) (h2 : c.toInt ≤ 500) : ¬ 100 + c = 0 := by
  intro h
  have h9 := congrArg Int32.toInt h
  rw [ad32 (by rw [show (100 : Int32).toInt = 100 by decide]; omega) (by rw [show (100 : Int32).toInt = 100 by decide]; omega), show (100 : Int32).toInt = 100 by decide, show (0 : Int32).toInt = 0 by decide] at h9
  omega
theorem rgI {v : Int} (h1 : -20000 ≤ v) (h2 : v ≤ 20000) : rg (iI v) (-20000) 20000 := by
  have h : (iI v).toInt = v := iI_t (by omega) (by omega)
  exact ⟨by omega, by omega⟩
/-- the class's row is the reference's -/
theorem rw_rv {g : Gg} (hg : InvG g) {k q : Nat} (hk : k < 4) (hq : q < 9) (hqe : g 7 k = nI q) (h0 : 0 < q) {t : Int32} : rwL (g 5) (g 6) t (q - 1) (8 * k) = rvL (g 5) (g 6) t (q - 1) (8 * k) := by
  obtain ⟨-, -, -, -, -, -, i5, ir⟩ := hg
  refine (rvL_eq (q - 1) (8 * k) (fun i h1 h2 => ?_) (fun i h1 h2 => i5 i (by omega))).symm
  have h9 := ir k (i - 8 * k) hk (by rw [hqe, nI_clamp (n := q) (by omega)]; omega)
  rw [show 8 * k + (i - 8 * k) = i by omega] at h9
  exact h9
theorem ri_5 {g : Gg} (hg : InvG g) {k q j : Nat} (hk : k < 4) (hq : q < 9) (hqe : g 7 k = nI q) (h1 : 8 * k ≤ j) (h2 : j + 1 < 8 * k + q) : ¬ (g 5 (j + 1) - g 5 j).toInt64 = 0 := by
  obtain ⟨-, -, -, -, -, -, i5, ir⟩ := hg
  have h9 := ir k (j - 8 * k) hk (by rw [hqe, nI_clamp (n := q) (by omega)]; omega)
  rw [show 8 * k + (j - 8 * k) = j by omega] at h9
  exact dvne (i5 j (by omega)).1 h9 (i5 (j + 1) (by omega)).2
end
section
/-! the public steps, case by case -/
theorem rg_nI {v : Int32} {b : Int} (h : rg v 0 b) : v = nI v.toNatClampNeg := by
  have h1 := h.1
  obtain ⟨j, hj, e⟩ := nI_of (x := v) (by rw [Int32.lt_iff_toInt_lt, show (0 : Int32).toInt = 0 by decide]; omega)
  rw [e, nI_clamp hj]
theorem rg_lt {v : Int32} {b : Int} (h : rg v 0 b) : (v.toNatClampNeg : Int) ≤ b := by
  have h1 := h.1
  have h2 := h.2
  have h3 : v.toInt.toNat = v.toNatClampNeg := rfl
  omega
theorem rg_in {v : Int32} {b : Nat} (h : rg v 0 b) : vp_in v (b + 1) := by
  have h1 := h.1
  have h2 := h.2
  exact vp_in_iff.mpr ⟨h1, by omega⟩
section STP
variable {g : Gg} {n : Nat} {hs pe pk : Int32} {fo mo : Int64}
theorem fib_t {a b d : Int32} (h : rg a 0 100000 ∧ rg b (-2000) 2000 ∧ rg d 0 3 ∧ n < 40) : fibF (g, n, hs, pe, pk, fo, mo) a b d = (nI n, (layG g n a b d, n + 1, 0, pe, pk, fo, mo)) := if_pos h
theorem fib_f {a b d : Int32} (h : ¬ (rg a 0 100000 ∧ rg b (-2000) 2000 ∧ rg d 0 3 ∧ n < 40)) : fibF (g, n, hs, pe, pk, fo, mo) a b d = (-1, (g, n, hs, pe, pk, fo, mo)) := if_neg h
theorem poi_t {a b d : Int32} (h : poC g a b d) : poiF (g, n, hs, pe, pk, fo, mo) a b d = (1, (ptG g a.toNatClampNeg (g 7 a.toNatClampNeg).toNatClampNeg b d, n, 0, pe, pk, fo, mo)) := if_pos h
theorem poi_f {a b d : Int32} (h : ¬ poC g a b d) : poiF (g, n, hs, pe, pk, fo, mo) a b d = (0, (g, n, hs, pe, pk, fo, mo)) := if_neg h
theorem bor_t {a b : Int32} (h : rg a 0 (n - 1) ∧ rg b (-30000) 30000) : borF (g, n, hs, pe, pk, fo, mo) a b = (1, (setG g 3 a.toNatClampNeg b, n, 0, pe, pk, fo, mo)) := if_pos h
theorem bor_f {a b : Int32} (h : ¬ (rg a 0 (n - 1) ∧ rg b (-30000) 30000)) : borF (g, n, hs, pe, pk, fo, mo) a b = (0, (g, n, hs, pe, pk, fo, mo)) := if_neg h
theorem kee_t {a b : Int32} (h : rg a 0 (n - 1) ∧ rg b 0 100) : keeF (g, n, hs, pe, pk, fo, mo) a b = (1, (setG g 4 a.toNatClampNeg b, n, 0, pe, pk, fo, mo)) := if_pos h
theorem kee_f {a b : Int32} (h : ¬ (rg a 0 (n - 1) ∧ rg b 0 100)) : keeF (g, n, hs, pe, pk, fo, mo) a b = (0, (g, n, hs, pe, pk, fo, mo)) := if_neg h
theorem cre_t {a b : Int32} (h : rg a 0 3 ∧ rg b 0 500) : creF (g, n, hs, pe, pk, fo, mo) a b = (1, (setG g 8 a.toNatClampNeg b, n, 0, pe, pk, fo, mo)) := if_pos h
theorem cre_f {a b : Int32} (h : ¬ (rg a 0 3 ∧ rg b 0 500)) : creF (g, n, hs, pe, pk, fo, mo) a b = (0, (g, n, hs, pe, pk, fo, mo)) := if_neg h
theorem shr_t {a b : Int32} (h : rg a 0 3 ∧ rg b (-5000) 5000) : shrF (g, n, hs, pe, pk, fo, mo) a b = (1, (setG g 9 a.toNatClampNeg b, n, 0, pe, pk, fo, mo)) := if_pos h
theorem shr_f {a b : Int32} (h : ¬ (rg a 0 3 ∧ rg b (-5000) 5000)) : shrF (g, n, hs, pe, pk, fo, mo) a b = (0, (g, n, hs, pe, pk, fo, mo)) := if_neg h
theorem run_t {a b : Int64} (h : (slF g n a b).1 = 0) : runF (g, n, hs, pe, pk, fo, mo) a b = (0, (g, n, 1, blF g n a (iI (slF g n a b).2), iI (slF g n a b).2, a, b)) := if_pos h
theorem run_f {a b : Int64} (h : ¬ (slF g n a b).1 = 0) : runF (g, n, hs, pe, pk, fo, mo) a b = ((slF g n a b).1, (g, n, hs, pe, pk, fo, mo)) := if_neg h
theorem ned_t {a b d : Int32} {x y : Int64} (h : rg a (-2000) 2000 ∧ rg b 0 3 ∧ rg d 1 5000) : nedF (g, n, hs, pe, pk, fo, mo) a b d x y = ((neF g n a b d x y 21 0 0).1, (layG g n (neF g n a b d x y 21 0 0).2 a b, n, hs, pe, pk, fo, mo)) := if_pos h
theorem ned_f {a b d : Int32} {x y : Int64} (h : ¬ (rg a (-2000) 2000 ∧ rg b 0 3 ∧ rg d 1 5000)) : nedF (g, n, hs, pe, pk, fo, mo) a b d x y = (-1, (g, n, hs, pe, pk, fo, mo)) := if_neg h
end STP
theorem so_code {g : Gg} {n : Nat} {fo mo : Int64} : ∀ (m : Nat) (lo hi : Int), (soF g n fo mo m lo hi).1 = 0 ∨ (soF g n fo mo m lo hi).1 = 1 ∨ (soF g n fo mo m lo hi).1 = 2 := by
  have hE : ∀ lo : Int, (soE g n fo mo lo).1 = 0 ∨ (soE g n fo mo lo).1 = 1 ∨ (soE g n fo mo lo).1 = 2 := by
    intro lo
    unfold soE
    split
    · exact Or.inr (Or.inl rfl)
    · split
      · exact Or.inr (Or.inr rfl)
      · exact Or.inl rfl
  intro m
  induction m with
  | zero => intro lo hi; exact hE lo
  | succ m ih =>
    intro lo hi
    unfold soF
    split
    · split
      · exact Or.inr (Or.inl rfl)
      · split
        · exact ih _ _
        · exact ih _ _
    · exact hE lo
theorem sl_cases {g : Gg} {n : Nat} {fo mo : Int64} : ((slF g n fo mo).1 = 1 ∧ enF (slF g n fo mo) = 1000001) ∨ ((slF g n fo mo).1 = 2 ∧ enF (slF g n fo mo) = 1000002) ∨
    ((slF g n fo mo).1 = 0 ∧ enF (slF g n fo mo) = iI (slF g n fo mo).2 ∧ rg (iI (slF g n fo mo).2) (-20000) 20000) := by
  rcases so_code (g := g) (n := n) (fo := fo) (mo := mo) 32 (-20000) 20000 with h | h | h
  · have hr := sl_rng (g := g) (n := n) (fo := fo) (mo := mo) h
    refine Or.inr (Or.inr ⟨h, ?_, rgI hr.1 hr.2⟩)
    have h' : (slF g n fo mo).1 = 0 := h
    unfold enF
    rw [h']
    rfl
  · have h' : (slF g n fo mo).1 = 1 := h
    exact Or.inl ⟨h', by unfold enF; rw [h']; rfl⟩
  · have h' : (slF g n fo mo).1 = 2 := h
    exact Or.inr (Or.inl ⟨h', by unfold enF; rw [h']; rfl⟩)
theorem rg_big {v : Int32} (h : rg v (-20000) 20000) : ¬ v = 1000001 ∧ ¬ v = 1000002 := by
  have h1 := h.1
  have h2 := h.2
  refine ⟨fun e => ?_, fun e => ?_⟩
  · rw [e, show (1000001 : Int32).toInt = 1000001 by decide] at h2; omega
  · rw [e, show (1000002 : Int32).toInt = 1000002 by decide] at h2; omega
theorem en_rg {g : Gg} {n : Nat} {fo mo : Int64} : rg (enF (slF g n fo mo)) (-20000) 20000 ↔ (slF g n fo mo).1 = 0 := by
  rcases sl_cases (g := g) (n := n) (fo := fo) (mo := mo) with ⟨h1, h2⟩ | ⟨h1, h2⟩ | ⟨h1, h2, h3⟩
  · rw [h1]; exact ⟨fun h => absurd h2 (rg_big h).1, fun h => absurd h (by decide)⟩
  · rw [h1]; exact ⟨fun h => absurd h2 (rg_big h).2, fun h => absurd h (by decide)⟩
  · rw [h2]; exact ⟨fun _ => h1, fun _ => h3⟩
theorem upd2 (f : Nat → Int32) (k : Nat) (x y : Int32) : upd (upd f k x) k y = upd f k y := by
  funext j
  unfold upd
  split <;> rfl
theorem lay_set (g : Gg) (n : Nat) (a a2 b d : Int32) : setG (layG g n a b d) 0 n a2 = layG g n a2 b d := by
  funext j
  by_cases h : j = 0
  · subst h; exact upd2 (g 0) n a a2
  · unfold layG setG
    simp [h]
theorem lay_lay (g : Gg) (n : Nat) (a a2 b d : Int32) : layG (layG g n a b d) n a2 b d = layG g n a2 b d := by
  funext j
  match j with
  | 0 => exact upd2 (g 0) n a a2
  | 1 => exact upd2 (g 1) n b b
  | 2 => exact upd2 (g 2) n d d
  | 3 => exact upd2 (g 3) n 0 0
  | 4 => exact upd2 (g 4) n 100 100
  | k + 5 => unfold layG setG; simp
theorem ne_t {g : Gg} {n : Nat} {a b d : Int32} {x y : Int64} {m i : Nat} {ar : Int32} (h : (slF (layG g n (nI i * d) a b) (n + 1) x y).1 = 0) : neF g n a b d x y (m + 1) i ar = (nI i * d, nI i * d) := by rw [neF, if_pos h]
theorem ne_f {g : Gg} {n : Nat} {a b d : Int32} {x y : Int64} {m i : Nat} {ar : Int32} (h : ¬ (slF (layG g n (nI i * d) a b) (n + 1) x y).1 = 0) : neF g n a b d x y (m + 1) i ar = neF g n a b d x y m (i + 1) (nI i * d) := by rw [neF, if_neg h]
theorem nis {i : Nat} {d : Int32} {A B : Int} (hi : i ≤ 20) (h1 : 1 ≤ d.toInt) (h2 : d.toInt ≤ A) (hA : 20 * A = B) (hB : B ≤ 100000) : 0 ≤ (nI i * d).toInt ∧ (nI i * d).toInt ≤ B := by
  have ht : (nI i).toInt = (i : Int) := nI_toInt (by omega)
  have p1 := Int.mul_nonneg (show (0 : Int) ≤ (i : Int) by omega) (show 0 ≤ d.toInt by omega)
  have p2 := Int.mul_nonneg (show (0 : Int) ≤ 20 - (i : Int) by omega) (show 0 ≤ d.toInt by omega)
  rw [Int.sub_mul] at p2
  rw [ml32 (by rw [ht]; omega) (by rw [ht]; omega), ht]
  omega
theorem nis_1 {i : Nat} {d : Int32} (hi : i ≤ 20) (h : rg d 1 5000) : ¬ nI i * d = -1 := by
  have h9 := nis (A := 5000) (B := 100000) hi h.1 h.2 (by omega) (by omega)
  intro e
  rw [e, show (-1 : Int32).toInt = -1 by decide] at h9
  omega
theorem nis_k {i : Nat} {d : Int32} (hi : i ≤ 20) (h : rg d 1 1000) : rg (nI i * d) (-20000) 20000 := by
  have h9 := nis (A := 1000) (B := 20000) hi h.1 h.2 (by omega) (by omega)
  exact ⟨by omega, by omega⟩
theorem ks_k {k d : Int32} (hk : rg k 0 20) (h : rg d 1 1000) : rg (k * d) (-20000) 20000 := by
  have h1 := rg_lt hk
  rw [rg_nI hk]
  exact nis_k (by omega) h
theorem la_0 {g : Gg} {n : Nat} {fo : Int64} {st : Int32} {m i : Nat} (h : blF g n fo (nI i * st) = -1000000) : laF g n fo st (m + 1) i = -1 := by rw [laF, if_pos h]
theorem la_f {g : Gg} {n : Nat} {fo : Int64} {st : Int32} {m i : Nat} (h : ¬ blF g n fo (nI i * st) = -1000000) (h2 : fbF g (blF g n fo (nI i * st)) (nI i * st) n 0 = -1) : laF g n fo st (m + 1) i = laF g n fo st m (i + 1) := by rw [laF, if_neg h, if_pos h2]
theorem la_t {g : Gg} {n : Nat} {fo : Int64} {st : Int32} {m i : Nat} (h : ¬ blF g n fo (nI i * st) = -1000000) (h2 : ¬ fbF g (blF g n fo (nI i * st)) (nI i * st) n 0 = -1) : laF g n fo st (m + 1) i = nI i := by rw [laF, if_neg h, if_neg h2]
theorem fb_val {g : Gg} {e k : Int32} : ∀ (m i : Nat), i + m ≤ 41 → fbF g e k m i = -1 ∨ 0 ≤ (fbF g e k m i).toInt := by
  intro m
  induction m with
  | zero => intro i _; exact Or.inl rfl
  | succ m ih =>
    intro i h
    by_cases c : byF g (g 2 i) (wkF g i e k)
    · rw [fbF_t c, nI_toInt (by omega)]; exact Or.inr (by omega)
    · rw [fbF_f c]; exact ih (i + 1) (by omega)
def apC (g : Gg) (kd x y : Int32) : Prop := (g 7 kd.toNatClampNeg).toNatClampNeg < 8 ∧
  ¬ (0 < (g 7 kd.toNatClampNeg).toNatClampNeg ∧ (x ≤ g 5 (8 * kd.toNatClampNeg + (g 7 kd.toNatClampNeg).toNatClampNeg - 1) ∨ y < g 6 (8 * kd.toNatClampNeg + (g 7 kd.toNatClampNeg).toNatClampNeg - 1)))
theorem apC_k {g : Gg} {k q : Nat} (hk : k < 4) (hq : q < 9) (hqe : g 7 k = nI q) {x y : Int32} : apC g (nI k) x y ↔ q < 8 ∧ ¬ (0 < q ∧ (x ≤ g 5 (8 * k + q - 1) ∨ y < g 6 (8 * k + q - 1))) := by
  unfold apC
  rw [nI_clamp (n := k) (by omega), hqe, nI_clamp (n := q) (by omega)]
end
section
/-- the class's cells -/
abbrev wC (cA : ClassId) (A : Nat → Nat) (g : Gg) (n : Nat) (hs pe pk : Int32) (fo mo : Int64) : va_W :=
  [(A 0, .inr (3, [.ref (A 1), .int hs, .int pe, .int pk, .long fo, .long mo])), (A 1, .inr (2, [.ref (A 2), .ref (A 3), .ref (A 4), .ref (A 5), .ref (A 6), .ref (A 7), .int (nI n)])), (A 2, .inr (1, [.ref (A 8), .ref (A 9), .ref (A 10), .ref (A 11), .ref (A 12)])),
   (A 3, .inl (cA, 41, .inl (g 0))), (A 4, .inl (cA, 41, .inl (g 1))), (A 5, .inl (cA, 41, .inl (g 2))), (A 6, .inl (cA, 41, .inl (g 3))), (A 7, .inl (cA, 41, .inl (g 4))),
   (A 8, .inl (cA, 32, .inl (g 5))), (A 9, .inl (cA, 32, .inl (g 6))), (A 10, .inl (cA, 4, .inl (g 7))), (A 11, .inl (cA, 4, .inl (g 8))), (A 12, .inl (cA, 4, .inl (g 9)))]

set_option maxHeartbeats 4000000 in
set_option maxRecDepth 100000 in
theorem c_X2_within (l : Launch) (dC : Nat → ClassId) (dI : Nat → Nat → Nat) (cA : ClassId) (H : Heap) (v lo hi : Int32) (a b : Int) (ha : lo.toInt = a) (hb9 : hi.toInt = b) : Met l yX2_within wsX2_within ({ frames := 0, cells := 0, slots := 0, locals := 0 }) (rd_P [.int v, .int lo, .int hi] H (dC, dI) vwCl [(cA, .int)]) (rd_Qi H (fun r => (rg v a b ∧ r = 1) ∨ (¬ (rg v a b) ∧ r = 0))) 0 0 nF := by
  refine Met.ofW (cc := cX2_within) (maxL := 3) (ret := (some .boolean)) (by decide) rfl ?_
  intro p e s m args below meth c s₁ B hml hv
  obtain ⟨rfl, hH, hK, hN⟩ := hv
  subst hH
  have hx := B.exec
  have hb := B.bytes
  have hr := B.returns
  have hts := atoms_spec (ws := wsX2_within) B.pre
  have hown : s.vm.findClass RX2 = some m.cls := findClass_of_methodNamed B.named
  have hlocks := B.notSynchronized
  have hS : va_S nF s.heap s.heap [] := va_S.rf
  have hl := lv_entry ([.int v, .int lo, .int hi]) (n := 3) (Nat.le_of_ble_eq_true rfl)
  rw [lg_entry_eq]
  generalize (lg_sl ([.int v, .int lo, .int hi]) ++ List.replicate (3 - (lg_sl ([.int v, .int lo, .int hi])).length) Slot.unset).toArray = ls at hl ⊢
  have hl : lv_has ls 3 [(0, .int v), (1, .int lo), (2, .int hi)] := hl
  refine lv_iload_n hx hb dX2_within_0 rfl (lv_at hl 0 rfl) ?_
  refine lv_iload_n hx hb dX2_within_1 rfl (lv_at hl 1 rfl) ?_
  refine lv_icmp_lt (tgt := 14) hx hb dX2_within_2 (by decide) (fun c1 => ?_) (fun c1 => ?_)
  · refine lv_iconst (v := 0) hx hb dX2_within_14 (by decide) ?_
    exact W.zret (ty := .boolean) (v := 0) hx hb hr (by decide) (fun t9 ht9 hW9 => ⟨⟨_, (), rfl, (Or.inr ⟨fun h9 => by rw [Int32.lt_iff_toInt_lt] at c1; have h8 := h9.1; have h7 := h9.2; omega, rfl⟩), ht9⟩, hS.F ht9⟩) hS.2.2 dX2_within_15
  · refine lv_iload_n hx hb dX2_within_5 rfl (lv_at hl 0 rfl) ?_
    refine lv_iload_n hx hb dX2_within_6 rfl (lv_at hl 2 rfl) ?_
    refine lv_icmp_gt (tgt := 14) hx hb dX2_within_7 (by decide) (fun c2 => ?_) (fun c2 => ?_)
    · refine lv_iconst (v := 0) hx hb dX2_within_14 (by decide) ?_
      exact W.zret (ty := .boolean) (v := 0) hx hb hr (by decide) (fun t9 ht9 hW9 => ⟨⟨_, (), rfl, (Or.inr ⟨fun h9 => by rw [Int32.lt_iff_toInt_lt] at c2; have h8 := h9.1; have h7 := h9.2; omega, rfl⟩), ht9⟩, hS.F ht9⟩) hS.2.2 dX2_within_15
    · refine lv_iconst (v := 1) hx hb dX2_within_10 (by decide) ?_
      refine lv_goto (tgt := 15) hx hb dX2_within_11 (by decide) ?_
      exact W.zret (ty := .boolean) (v := 1) hx hb hr (by decide) (fun t9 ht9 hW9 => ⟨⟨_, (), rfl, (Or.inl ⟨by rw [Int32.lt_iff_toInt_lt] at c1 c2; exact ⟨by omega, by omega⟩, rfl⟩), ht9⟩, hS.F ht9⟩) hS.2.2 dX2_within_15

set_option maxHeartbeats 4000000 in
set_option maxRecDepth 100000 in
theorem c_X2_share (l : Launch) (dC : Nat → ClassId) (dI : Nat → Nat → Nat) (cA : ClassId) (H : Heap) (a b d : Int64) : Met l yX2_share wsX2_share ({ frames := 0, cells := 0, slots := 0, locals := 0 }) (rd_P [.long a, .long b, .long d] H (dC, dI) vwCl [(cA, .int)]) (rd_Qi H (fun r => r = sh a b d)) 0 0 nF := by
  refine Met.ofW (cc := cX2_share) (maxL := 6) (ret := (some .int)) (by decide) rfl ?_
  intro p e s m args below meth c s₁ B hml hv
  obtain ⟨rfl, hH, hK, hN⟩ := hv
  subst hH
  have hx := B.exec
  have hb := B.bytes
  have hr := B.returns
  have hts := atoms_spec (ws := wsX2_share) B.pre
  have hown : s.vm.findClass RX2 = some m.cls := findClass_of_methodNamed B.named
  have hlocks := B.notSynchronized
  have hS : va_S nF s.heap s.heap [] := va_S.rf
  have hl := lv_entry ([.long a, .long b, .long d]) (n := 6) (Nat.le_of_ble_eq_true rfl)
  rw [lg_entry_eq]
  generalize (lg_sl ([.long a, .long b, .long d]) ++ List.replicate (6 - (lg_sl ([.long a, .long b, .long d])).length) Slot.unset).toArray = ls at hl ⊢
  have hl : lv_has ls 6 [(0, .long a), (2, .long b), (4, .long d)] := hl
  refine lv_lload hx hb dX2_share_0 (lv_at hl 2 rfl) ?_
  refine lv_lconst (v := 0) hx hb dX2_share_2 (by decide) ?_
  refine W.lcmp hx hb dX2_share_3 ?_
  refine lv_if_ne (tgt := 11) hx hb dX2_share_4 (by decide) (fun c1 => ?_) (fun c1 => ?_)
  · have c1 := mt (lg_cmp_eq _ _).mpr c1
    refine lv_lload_n hx hb dX2_share_11 rfl (lv_at hl 0 rfl) ?_
    refine lv_lload_n hx hb dX2_share_12 rfl (lv_at hl 1 rfl) ?_
    refine lv_lmul hx hb dX2_share_13 ?_
    refine lv_lload hx hb dX2_share_14 (lv_at hl 2 rfl) ?_
    refine lv_ldiv hx hb dX2_share_16 (c1) ?_
    refine lv_l2i hx hb dX2_share_17 rfl ?_
    exact W.iret (v := (((a * b) / d).toInt32)) hx hb hr (fun t9 ht9 hW9 => ⟨⟨_, (), rfl, (by unfold sh; rw [if_neg c1]), ht9⟩, hS.F ht9⟩) hS.2.2 dX2_share_18
  · have c1 := (lg_cmp_eq _ _).mp c1
    refine lv_iconst (v := 0) hx hb dX2_share_7 (by decide) ?_
    refine lv_goto (tgt := 18) hx hb dX2_share_8 (by decide) ?_
    exact W.iret (v := 0) hx hb hr (fun t9 ht9 hW9 => ⟨⟨_, (), rfl, (by unfold sh; rw [if_pos c1]), ht9⟩, hS.F ht9⟩) hS.2.2 dX2_share_18

set_option maxHeartbeats 4000000 in
set_option maxRecDepth 100000 in
theorem c_J9_floorDiv_7cf53 (l : Launch) (dC : Nat → ClassId) (dI : Nat → Nat → Nat) (cA : ClassId) (H : Heap) (x y : Int32) (hy : ¬ y = 0) : Met l yJ9_floorDiv_7cf53 wsJ9_floorDiv_7cf53 ({ frames := 0, cells := 0, slots := 0, locals := 0 }) (rd_P [.int x, .int y] H (dC, dI) vwCl [(cA, .int)]) (rd_Qi H (fun r => r = fdv x y)) 0 0 nF := by
  refine va_MetF (cc := cJ9_floorDiv_7cf53) (maxL := 3) (ret := (some .int)) (by decide +kernel) rfl ?_
  intro p e s m args below meth c s₁ B hml hv
  obtain ⟨rfl, hH, hK, hN⟩ := hv
  subst hH
  have hx := B.exec
  have hb := B.bytes
  have hr := B.returns
  have hts := atoms_spec (ws := wsJ9_floorDiv_7cf53) B.pre
  have hown : s.vm.findClass RJ9 = some m.cls := findClass_of_methodNamed B.named
  have hlocks := B.notSynchronized
  have hS : va_S nF s.heap s.heap [] := va_S.rf
  have hl := lv_entry ([.int x, .int y]) (n := 3) (Nat.le_of_ble_eq_true rfl)
  rw [lg_entry_eq]
  generalize (lg_sl ([.int x, .int y]) ++ List.replicate (3 - (lg_sl ([.int x, .int y])).length) Slot.unset).toArray = ls at hl ⊢
  have hl : lv_has ls 3 [(0, .int x), (1, .int y)] := hl
  refine lv_iload_n hx hb dJ9_floorDiv_7cf53_0 rfl (lv_at hl 0 rfl) ?_
  refine lv_iload_n hx hb dJ9_floorDiv_7cf53_1 rfl (lv_at hl 1 rfl) ?_
  refine lv_idiv hx hb dJ9_floorDiv_7cf53_2 (hy) ?_
  refine lv_istore_n (lv' := [(2, .int (x / y)), (0, .int x), (1, .int y)]) hx hb dJ9_floorDiv_7cf53_3 rfl hl (by decide) rfl (fun ls hl => ?_)
  refine lv_iload_n hx hb dJ9_floorDiv_7cf53_4 rfl (lv_at hl 1 rfl) ?_
  refine lv_iload_n hx hb dJ9_floorDiv_7cf53_5 rfl (lv_at hl 2 rfl) ?_
  refine lv_ixor hx hb dJ9_floorDiv_7cf53_6 ?_
  refine lv_if_ge (tgt := 21) hx hb dJ9_floorDiv_7cf53_7 (by decide) (fun c1 => ?_) (fun c1 => ?_)
  · refine lv_iload_n hx hb dJ9_floorDiv_7cf53_21 rfl (lv_at hl 0 rfl) ?_
    exact W.iret (v := (x / y)) hx hb hr (fun t9 ht9 hW9 => ⟨⟨_, (), rfl, (by unfold fdv; rw [if_neg (fun h9 => by have h8 := h9.1; rw [Int32.lt_iff_toInt_lt] at h8; rw [Int32.le_iff_toInt_le] at c1; omega)]), ht9⟩, hS.F ht9⟩) hS.2.2 dJ9_floorDiv_7cf53_22
  · refine lv_iload_n hx hb dJ9_floorDiv_7cf53_10 rfl (lv_at hl 0 rfl) ?_
    refine lv_iload_n hx hb dJ9_floorDiv_7cf53_11 rfl (lv_at hl 2 rfl) ?_
    refine lv_imul hx hb dJ9_floorDiv_7cf53_12 ?_
    refine lv_iload_n hx hb dJ9_floorDiv_7cf53_13 rfl (lv_at hl 1 rfl) ?_
    refine lv_icmp_eq (tgt := 21) hx hb dJ9_floorDiv_7cf53_14 (by decide) (fun c2 => ?_) (fun c2 => ?_)
    · refine lv_iload_n hx hb dJ9_floorDiv_7cf53_21 rfl (lv_at hl 0 rfl) ?_
      exact W.iret (v := (x / y)) hx hb hr (fun t9 ht9 hW9 => ⟨⟨_, (), rfl, (by unfold fdv; rw [if_neg (fun h9 => h9.2 c2)]), ht9⟩, hS.F ht9⟩) hS.2.2 dJ9_floorDiv_7cf53_22
    · refine lv_iload_n hx hb dJ9_floorDiv_7cf53_17 rfl (lv_at hl 0 rfl) ?_
      refine lv_iconst (v := 1) hx hb dJ9_floorDiv_7cf53_18 (by decide) ?_
      refine lv_isub hx hb dJ9_floorDiv_7cf53_19 ?_
      exact W.iret (v := ((x / y) - 1)) hx hb hr (fun t9 ht9 hW9 => ⟨⟨_, (), rfl, (by unfold fdv; rw [if_pos ⟨by rw [Int32.le_iff_toInt_le] at c1; rw [Int32.lt_iff_toInt_lt]; omega, c2⟩]), ht9⟩, hS.F ht9⟩) hS.2.2 dJ9_floorDiv_7cf53_20

set_option maxHeartbeats 4000000 in
set_option maxRecDepth 100000 in
theorem c_X2_isKind (l : Launch) (dC : Nat → ClassId) (dI : Nat → Nat → Nat) (cA : ClassId) (H : Heap) (v : Int32) : Met l yX2_isKind wsX2_isKind ({ frames := 1, cells := 0, slots := 0, locals := 22 }) (rd_P [.int v] H (dC, dI) vwCl [(cA, .int)]) (rd_Qi H (fun r => (rg v 0 3 ∧ r = 1) ∨ (¬ (rg v 0 3) ∧ r = 0))) 0 0 nF := by
  refine Met.ofW (cc := cX2_isKind) (maxL := 1) (ret := (some .boolean)) (by decide) rfl ?_
  intro p e s m args below meth c s₁ B hml hv
  obtain ⟨rfl, hH, hK, hN⟩ := hv
  subst hH
  have hx := B.exec
  have hb := B.bytes
  have hr := B.returns
  have hts := atoms_spec (ws := wsX2_isKind) B.pre
  have hown : s.vm.findClass RX2 = some m.cls := findClass_of_methodNamed B.named
  have hlocks := B.notSynchronized
  have hS : va_S nF s.heap s.heap [] := va_S.rf
  have hl := lv_entry ([.int v]) (n := 1) (Nat.le_of_ble_eq_true rfl)
  rw [lg_entry_eq]
  generalize (lg_sl ([.int v]) ++ List.replicate (1 - (lg_sl ([.int v])).length) Slot.unset).toArray = ls at hl ⊢
  have hl : lv_has ls 1 [(0, .int v)] := hl
  refine lv_iload_n hx hb dX2_isKind_0 rfl (lv_at hl 0 rfl) ?_
  refine lv_iconst (v := 0) hx hb dX2_isKind_1 (by decide) ?_
  refine lv_iconst (v := 3) hx hb dX2_isKind_2 (by decide) ?_
  refine rd_i (va_runS (As := [.int v, .int 0, .int 3]) (rest := []) ⟨hx, hb, hml, hown, hts⟩ (c_X2_within l dC dI cA s.heap v 0 3 0 3 (by decide) (by decide)) (va_cwS 3 hts gX2_isKind_X2_within rfl rfl rfl (by decide +kernel) ⟨Nat.le_of_ble_eq_true rfl, Nat.le_of_ble_eq_true rfl⟩) ⟨rd_bl, rd_pre hK hN⟩ rfl rfl hl.1 rfl (lv_room (Nat.le_of_ble_eq_true rfl)) dX2_isKind_3 ⟨Nat.zero_le _, Nat.zero_le _⟩) hS (fun r1 locs hq2 hS => ?_)
  rcases hq2 with ⟨hq2, rfl⟩ | ⟨hq2, rfl⟩
  · have hq9 : rg v 0 3 := hq2
    exact W.zret (ty := .boolean) (v := 1) hx hb hr (by decide) (fun t9 ht9 hW9 => ⟨⟨_, (), rfl, (Or.inl ⟨hq9, rfl⟩), ht9⟩, hS.F ht9⟩) hS.2.2 dX2_isKind_6
  · have hq9 : ¬ (rg v 0 3) := hq2
    exact W.zret (ty := .boolean) (v := 0) hx hb hr (by decide) (fun t9 ht9 hW9 => ⟨⟨_, (), rfl, (Or.inr ⟨hq9, rfl⟩), ht9⟩, hS.F ht9⟩) hS.2.2 dX2_isKind_6

set_option maxHeartbeats 4000000 in
set_option maxRecDepth 100000 in
theorem c_X2_isPlace (l : Launch) (dC : Nat → ClassId) (dI : Nat → Nat → Nat) (cA : ClassId) (H : Heap) (v : Int32) : Met l yX2_isPlace wsX2_isPlace ({ frames := 1, cells := 0, slots := 0, locals := 22 }) (rd_P [.int v] H (dC, dI) vwCl [(cA, .int)]) (rd_Qi H (fun r => (rg v (-2000) 2000 ∧ r = 1) ∨ (¬ (rg v (-2000) 2000) ∧ r = 0))) 0 0 nF := by
  refine Met.ofW (cc := cX2_isPlace) (maxL := 1) (ret := (some .boolean)) (by decide) rfl ?_
  intro p e s m args below meth c s₁ B hml hv
  obtain ⟨rfl, hH, hK, hN⟩ := hv
  subst hH
  have hx := B.exec
  have hb := B.bytes
  have hr := B.returns
  have hts := atoms_spec (ws := wsX2_isPlace) B.pre
  have hown : s.vm.findClass RX2 = some m.cls := findClass_of_methodNamed B.named
  have hlocks := B.notSynchronized
  have hS : va_S nF s.heap s.heap [] := va_S.rf
  have hl := lv_entry ([.int v]) (n := 1) (Nat.le_of_ble_eq_true rfl)
  rw [lg_entry_eq]
  generalize (lg_sl ([.int v]) ++ List.replicate (1 - (lg_sl ([.int v])).length) Slot.unset).toArray = ls at hl ⊢
  have hl : lv_has ls 1 [(0, .int v)] := hl
  refine lv_iload_n hx hb dX2_isPlace_0 rfl (lv_at hl 0 rfl) ?_
  refine lv_sipush (v := (-2000)) hx hb dX2_isPlace_1 (by decide) ?_
  refine lv_sipush (v := 2000) hx hb dX2_isPlace_4 (by decide) ?_
  refine rd_i (va_runS (As := [.int v, .int (-2000), .int 2000]) (rest := []) ⟨hx, hb, hml, hown, hts⟩ (c_X2_within l dC dI cA s.heap v (-2000) 2000 (-2000) 2000 (by decide) (by decide)) (va_cwS 3 hts gX2_isPlace_X2_within rfl rfl rfl (by decide +kernel) ⟨Nat.le_of_ble_eq_true rfl, Nat.le_of_ble_eq_true rfl⟩) ⟨rd_bl, rd_pre hK hN⟩ rfl rfl hl.1 rfl (lv_room (Nat.le_of_ble_eq_true rfl)) dX2_isPlace_7 ⟨Nat.zero_le _, Nat.zero_le _⟩) hS (fun r1 locs hq2 hS => ?_)
  rcases hq2 with ⟨hq2, rfl⟩ | ⟨hq2, rfl⟩
  · have hq9 : rg v (-2000) 2000 := hq2
    exact W.zret (ty := .boolean) (v := 1) hx hb hr (by decide) (fun t9 ht9 hW9 => ⟨⟨_, (), rfl, (Or.inl ⟨hq9, rfl⟩), ht9⟩, hS.F ht9⟩) hS.2.2 dX2_isPlace_10
  · have hq9 : ¬ (rg v (-2000) 2000) := hq2
    exact W.zret (ty := .boolean) (v := 0) hx hb hr (by decide) (fun t9 ht9 hW9 => ⟨⟨_, (), rfl, (Or.inr ⟨hq9, rfl⟩), ht9⟩, hS.F ht9⟩) hS.2.2 dX2_isPlace_10

set_option maxHeartbeats 4000000 in
set_option maxRecDepth 100000 in
theorem c_X2_isToldStrain (l : Launch) (dC : Nat → ClassId) (dI : Nat → Nat → Nat) (cA : ClassId) (H : Heap) (v : Int32) : Met l yX2_isToldStrain wsX2_isToldStrain ({ frames := 1, cells := 0, slots := 0, locals := 22 }) (rd_P [.int v] H (dC, dI) vwCl [(cA, .int)]) (rd_Qi H (fun r => (rg v (-30000) 30000 ∧ r = 1) ∨ (¬ (rg v (-30000) 30000) ∧ r = 0))) 0 0 nF := by
  refine Met.ofW (cc := cX2_isToldStrain) (maxL := 1) (ret := (some .boolean)) (by decide) rfl ?_
  intro p e s m args below meth c s₁ B hml hv
  obtain ⟨rfl, hH, hK, hN⟩ := hv
  subst hH
  have hx := B.exec
  have hb := B.bytes
  have hr := B.returns
  have hts := atoms_spec (ws := wsX2_isToldStrain) B.pre
  have hown : s.vm.findClass RX2 = some m.cls := findClass_of_methodNamed B.named
  have hlocks := B.notSynchronized
  have hS : va_S nF s.heap s.heap [] := va_S.rf
  have hl := lv_entry ([.int v]) (n := 1) (Nat.le_of_ble_eq_true rfl)
  rw [lg_entry_eq]
  generalize (lg_sl ([.int v]) ++ List.replicate (1 - (lg_sl ([.int v])).length) Slot.unset).toArray = ls at hl ⊢
  have hl : lv_has ls 1 [(0, .int v)] := hl
  refine lv_iload_n hx hb dX2_isToldStrain_0 rfl (lv_at hl 0 rfl) ?_
  refine lv_sipush (v := (-30000)) hx hb dX2_isToldStrain_1 (by decide) ?_
  refine lv_sipush (v := 30000) hx hb dX2_isToldStrain_4 (by decide) ?_
  refine rd_i (va_runS (As := [.int v, .int (-30000), .int 30000]) (rest := []) ⟨hx, hb, hml, hown, hts⟩ (c_X2_within l dC dI cA s.heap v (-30000) 30000 (-30000) 30000 (by decide) (by decide)) (va_cwS 3 hts gX2_isToldStrain_X2_within rfl rfl rfl (by decide +kernel) ⟨Nat.le_of_ble_eq_true rfl, Nat.le_of_ble_eq_true rfl⟩) ⟨rd_bl, rd_pre hK hN⟩ rfl rfl hl.1 rfl (lv_room (Nat.le_of_ble_eq_true rfl)) dX2_isToldStrain_7 ⟨Nat.zero_le _, Nat.zero_le _⟩) hS (fun r1 locs hq2 hS => ?_)
  rcases hq2 with ⟨hq2, rfl⟩ | ⟨hq2, rfl⟩
  · have hq9 : rg v (-30000) 30000 := hq2
    exact W.zret (ty := .boolean) (v := 1) hx hb hr (by decide) (fun t9 ht9 hW9 => ⟨⟨_, (), rfl, (Or.inl ⟨hq9, rfl⟩), ht9⟩, hS.F ht9⟩) hS.2.2 dX2_isToldStrain_10
  · have hq9 : ¬ (rg v (-30000) 30000) := hq2
    exact W.zret (ty := .boolean) (v := 0) hx hb hr (by decide) (fun t9 ht9 hW9 => ⟨⟨_, (), rfl, (Or.inr ⟨hq9, rfl⟩), ht9⟩, hS.F ht9⟩) hS.2.2 dX2_isToldStrain_10

set_option maxHeartbeats 4000000 in
set_option maxRecDepth 100000 in
theorem c_X2_isOfPlane (l : Launch) (dC : Nat → ClassId) (dI : Nat → Nat → Nat) (cA : ClassId) (H : Heap) (v : Int32) : Met l yX2_isOfPlane wsX2_isOfPlane ({ frames := 1, cells := 0, slots := 0, locals := 22 }) (rd_P [.int v] H (dC, dI) vwCl [(cA, .int)]) (rd_Qi H (fun r => (rg v (-20000) 20000 ∧ r = 1) ∨ (¬ (rg v (-20000) 20000) ∧ r = 0))) 0 0 nF := by
  refine Met.ofW (cc := cX2_isOfPlane) (maxL := 1) (ret := (some .boolean)) (by decide) rfl ?_
  intro p e s m args below meth c s₁ B hml hv
  obtain ⟨rfl, hH, hK, hN⟩ := hv
  subst hH
  have hx := B.exec
  have hb := B.bytes
  have hr := B.returns
  have hts := atoms_spec (ws := wsX2_isOfPlane) B.pre
  have hown : s.vm.findClass RX2 = some m.cls := findClass_of_methodNamed B.named
  have hlocks := B.notSynchronized
  have hS : va_S nF s.heap s.heap [] := va_S.rf
  have hl := lv_entry ([.int v]) (n := 1) (Nat.le_of_ble_eq_true rfl)
  rw [lg_entry_eq]
  generalize (lg_sl ([.int v]) ++ List.replicate (1 - (lg_sl ([.int v])).length) Slot.unset).toArray = ls at hl ⊢
  have hl : lv_has ls 1 [(0, .int v)] := hl
  refine lv_iload_n hx hb dX2_isOfPlane_0 rfl (lv_at hl 0 rfl) ?_
  refine lv_sipush (v := (-20000)) hx hb dX2_isOfPlane_1 (by decide) ?_
  refine lv_sipush (v := 20000) hx hb dX2_isOfPlane_4 (by decide) ?_
  refine rd_i (va_runS (As := [.int v, .int (-20000), .int 20000]) (rest := []) ⟨hx, hb, hml, hown, hts⟩ (c_X2_within l dC dI cA s.heap v (-20000) 20000 (-20000) 20000 (by decide) (by decide)) (va_cwS 3 hts gX2_isOfPlane_X2_within rfl rfl rfl (by decide +kernel) ⟨Nat.le_of_ble_eq_true rfl, Nat.le_of_ble_eq_true rfl⟩) ⟨rd_bl, rd_pre hK hN⟩ rfl rfl hl.1 rfl (lv_room (Nat.le_of_ble_eq_true rfl)) dX2_isOfPlane_7 ⟨Nat.zero_le _, Nat.zero_le _⟩) hS (fun r1 locs hq2 hS => ?_)
  rcases hq2 with ⟨hq2, rfl⟩ | ⟨hq2, rfl⟩
  · have hq9 : rg v (-20000) 20000 := hq2
    exact W.zret (ty := .boolean) (v := 1) hx hb hr (by decide) (fun t9 ht9 hW9 => ⟨⟨_, (), rfl, (Or.inl ⟨hq9, rfl⟩), ht9⟩, hS.F ht9⟩) hS.2.2 dX2_isOfPlane_10
  · have hq9 : ¬ (rg v (-20000) 20000) := hq2
    exact W.zret (ty := .boolean) (v := 0) hx hb hr (by decide) (fun t9 ht9 hW9 => ⟨⟨_, (), rfl, (Or.inr ⟨hq9, rfl⟩), ht9⟩, hS.F ht9⟩) hS.2.2 dX2_isOfPlane_10

set_option maxHeartbeats 4000000 in
set_option maxRecDepth 100000 in
theorem c_X2_isBendStep (l : Launch) (dC : Nat → ClassId) (dI : Nat → Nat → Nat) (cA : ClassId) (H : Heap) (v : Int32) : Met l yX2_isBendStep wsX2_isBendStep ({ frames := 1, cells := 0, slots := 0, locals := 22 }) (rd_P [.int v] H (dC, dI) vwCl [(cA, .int)]) (rd_Qi H (fun r => (rg v 1 1000 ∧ r = 1) ∨ (¬ (rg v 1 1000) ∧ r = 0))) 0 0 nF := by
  refine Met.ofW (cc := cX2_isBendStep) (maxL := 1) (ret := (some .boolean)) (by decide) rfl ?_
  intro p e s m args below meth c s₁ B hml hv
  obtain ⟨rfl, hH, hK, hN⟩ := hv
  subst hH
  have hx := B.exec
  have hb := B.bytes
  have hr := B.returns
  have hts := atoms_spec (ws := wsX2_isBendStep) B.pre
  have hown : s.vm.findClass RX2 = some m.cls := findClass_of_methodNamed B.named
  have hlocks := B.notSynchronized
  have hS : va_S nF s.heap s.heap [] := va_S.rf
  have hl := lv_entry ([.int v]) (n := 1) (Nat.le_of_ble_eq_true rfl)
  rw [lg_entry_eq]
  generalize (lg_sl ([.int v]) ++ List.replicate (1 - (lg_sl ([.int v])).length) Slot.unset).toArray = ls at hl ⊢
  have hl : lv_has ls 1 [(0, .int v)] := hl
  refine lv_iload_n hx hb dX2_isBendStep_0 rfl (lv_at hl 0 rfl) ?_
  refine lv_iconst (v := 1) hx hb dX2_isBendStep_1 (by decide) ?_
  refine lv_sipush (v := 1000) hx hb dX2_isBendStep_2 (by decide) ?_
  refine rd_i (va_runS (As := [.int v, .int 1, .int 1000]) (rest := []) ⟨hx, hb, hml, hown, hts⟩ (c_X2_within l dC dI cA s.heap v 1 1000 1 1000 (by decide) (by decide)) (va_cwS 3 hts gX2_isBendStep_X2_within rfl rfl rfl (by decide +kernel) ⟨Nat.le_of_ble_eq_true rfl, Nat.le_of_ble_eq_true rfl⟩) ⟨rd_bl, rd_pre hK hN⟩ rfl rfl hl.1 rfl (lv_room (Nat.le_of_ble_eq_true rfl)) dX2_isBendStep_5 ⟨Nat.zero_le _, Nat.zero_le _⟩) hS (fun r1 locs hq2 hS => ?_)
  rcases hq2 with ⟨hq2, rfl⟩ | ⟨hq2, rfl⟩
  · have hq9 : rg v 1 1000 := hq2
    exact W.zret (ty := .boolean) (v := 1) hx hb hr (by decide) (fun t9 ht9 hW9 => ⟨⟨_, (), rfl, (Or.inl ⟨hq9, rfl⟩), ht9⟩, hS.F ht9⟩) hS.2.2 dX2_isBendStep_8
  · have hq9 : ¬ (rg v 1 1000) := hq2
    exact W.zret (ty := .boolean) (v := 0) hx hb hr (by decide) (fun t9 ht9 hW9 => ⟨⟨_, (), rfl, (Or.inr ⟨hq9, rfl⟩), ht9⟩, hS.F ht9⟩) hS.2.2 dX2_isBendStep_8

set_option maxHeartbeats 4000000 in
set_option maxRecDepth 100000 in
theorem c_X2_isSum (l : Launch) (dC : Nat → ClassId) (dI : Nat → Nat → Nat) (cA : ClassId) (H : Heap) (v : Int32) : Met l yX2_isSum wsX2_isSum ({ frames := 0, cells := 0, slots := 0, locals := 0 }) (rd_P [.int v] H (dC, dI) vwCl [(cA, .int)]) (rd_Qi H (fun r => ((v = 0 ∨ v = 1) ∧ r = 1) ∨ (¬ (v = 0 ∨ v = 1) ∧ r = 0))) 0 0 nF := by
  refine Met.ofW (cc := cX2_isSum) (maxL := 1) (ret := (some .boolean)) (by decide) rfl ?_
  intro p e s m args below meth c s₁ B hml hv
  obtain ⟨rfl, hH, hK, hN⟩ := hv
  subst hH
  have hx := B.exec
  have hb := B.bytes
  have hr := B.returns
  have hts := atoms_spec (ws := wsX2_isSum) B.pre
  have hown : s.vm.findClass RX2 = some m.cls := findClass_of_methodNamed B.named
  have hlocks := B.notSynchronized
  have hS : va_S nF s.heap s.heap [] := va_S.rf
  have hl := lv_entry ([.int v]) (n := 1) (Nat.le_of_ble_eq_true rfl)
  rw [lg_entry_eq]
  generalize (lg_sl ([.int v]) ++ List.replicate (1 - (lg_sl ([.int v])).length) Slot.unset).toArray = ls at hl ⊢
  have hl : lv_has ls 1 [(0, .int v)] := hl
  refine lv_iload_n hx hb dX2_isSum_0 rfl (lv_at hl 0 rfl) ?_
  refine lv_if_eq (tgt := 9) hx hb dX2_isSum_1 (by decide) (fun c1 => ?_) (fun c1 => ?_)
  · refine lv_iconst (v := 1) hx hb dX2_isSum_9 (by decide) ?_
    refine lv_goto (tgt := 14) hx hb dX2_isSum_10 (by decide) ?_
    exact W.zret (ty := .boolean) (v := 1) hx hb hr (by decide) (fun t9 ht9 hW9 => ⟨⟨_, (), rfl, (Or.inl ⟨Or.inl c1, rfl⟩), ht9⟩, hS.F ht9⟩) hS.2.2 dX2_isSum_14
  · refine lv_iload_n hx hb dX2_isSum_4 rfl (lv_at hl 0 rfl) ?_
    refine lv_iconst (v := 1) hx hb dX2_isSum_5 (by decide) ?_
    refine lv_icmp_ne (tgt := 13) hx hb dX2_isSum_6 (by decide) (fun c2 => ?_) (fun c2 => ?_)
    · refine lv_iconst (v := 0) hx hb dX2_isSum_13 (by decide) ?_
      exact W.zret (ty := .boolean) (v := 0) hx hb hr (by decide) (fun t9 ht9 hW9 => ⟨⟨_, (), rfl, (Or.inr ⟨fun h9 => h9.elim c1 c2, rfl⟩), ht9⟩, hS.F ht9⟩) hS.2.2 dX2_isSum_14
    · refine lv_iconst (v := 1) hx hb dX2_isSum_9 (by decide) ?_
      refine lv_goto (tgt := 14) hx hb dX2_isSum_10 (by decide) ?_
      exact W.zret (ty := .boolean) (v := 1) hx hb hr (by decide) (fun t9 ht9 hW9 => ⟨⟨_, (), rfl, (Or.inl ⟨Or.inr c2, rfl⟩), ht9⟩, hS.F ht9⟩) hS.2.2 dX2_isSum_14
end
section
set_option maxRecDepth 20000 in
theorem miX0_stressAt_X0 : ∀ w ∈ u_ws RX0 TX0 5, w ∈ wsX0_stressAt := by decide +kernel
set_option maxRecDepth 20000 in
theorem mbX0_stressAt_1 : (.fieldLink RX0 18 "SectionFibres$Kinds" "points" "[I" : Cond) ∈ wsX0_stressAt := by decide +kernel
set_option maxRecDepth 20000 in
theorem mbX0_stressAt_2 : (.fieldLink RX0 9 "SectionFibres$Kinds" "strains" "[I" : Cond) ∈ wsX0_stressAt := by decide +kernel
set_option maxRecDepth 20000 in
theorem mbX0_stressAt_3 : (.fieldLink RX0 15 "SectionFibres$Kinds" "stresses" "[I" : Cond) ∈ wsX0_stressAt := by decide +kernel
set_option maxRecDepth 20000 in
theorem mbX0_stressAt_4 : (.initialized RX2 : Cond) ∈ wsX0_stressAt := by decide +kernel
set_option maxRecDepth 20000 in
theorem mbX0_stressAt_5 : (.static yX2_share : Cond) ∈ wsX0_stressAt := by decide +kernel
set_option maxHeartbeats 4000000 in
set_option maxRecDepth 100000 in
theorem c_X0_stressAt (l : Launch) (dC : Nat → ClassId) (dI : Nat → Nat → Nat) (cA : ClassId) (H : Heap) (A : Nat → Nat) (g : Gg) (n : Nat) (hs pe pk : Int32) (fo mo : Int64) (hP : va_P (dC, dI) vwCl (wC cA A g n hs pe pk fo mo) H) (hg : InvG g) (kd t : Int32) (hkd : vp_in kd 4) : Met l yX0_stressAt wsX0_stressAt ({ frames := 1, cells := 0, slots := 0, locals := 25 }) (rd_P [.ref (A 2), .int kd, .int t] H (dC, dI) vwCl [(cA, .int)]) (rd_Qi H (fun r => r = rwF g kd t)) 0 0 nF := by
  obtain ⟨k, hk, rfl⟩ := vp_in_of hkd (by decide)
  obtain ⟨q, hq, hqe⟩ := vp_in_of (hg.2.2.2.2.2.1 k hk) (by decide)
  refine Met.ofW (cc := cX0_stressAt) (maxL := 7) (ret := (some .int)) (by decide) rfl ?_
  intro p e s m args below meth c s₁ B hml hv
  obtain ⟨rfl, hH, hK, hN⟩ := hv
  subst hH
  have hx := B.exec
  have hb := B.bytes
  have hr := B.returns
  have hts := atoms_spec (ws := wsX0_stressAt) B.pre
  have hown : s.vm.findClass RX0 = some m.cls := findClass_of_methodNamed B.named
  have hlocks := B.notSynchronized
  have hS : va_S nF s.heap s.heap [] := va_S.rf
  have hl := lv_entry ([.ref (A 2), .int (nI k), .int t]) (n := 7) (Nat.le_of_ble_eq_true rfl)
  rw [lg_entry_eq]
  generalize (lg_sl ([.ref (A 2), .int (nI k), .int t]) ++ List.replicate (7 - (lg_sl ([.ref (A 2), .int (nI k), .int t])).length) Slot.unset).toArray = ls at hl ⊢
  have hl : lv_has ls 7 [(0, .ref (A 2)), (1, .int (nI k)), (2, .int t)] := hl
  refine lv_aload_n hx hb dX0_stressAt_0 rfl (lv_at hl 0 rfl) ?_
  refine va_get (D := (dC, dI)) (ci := 1) (v := .ref (A 10)) (C := RX0) (T := TX0) (N := 5) hx hb hts miX0_stressAt_X0 hown hK hP 2 rfl rfl 2 (by decide) (hts (.fieldLink RX0 18 "SectionFibres$Kinds" "points" "[I") mbX0_stressAt_1) (fun _ h9 => h9) rfl dX0_stressAt_1 ?_
  refine lv_iload_n hx hb dX0_stressAt_4 rfl (lv_at hl 1 rfl) ?_
  refine ialn hx hb hK hP 10 0 rfl rfl k (rfl) (by omega) (by decide) dX0_stressAt_5 ?_
  refine tp_i (v := nI q) (hqe) ?_
  refine lv_if_ne (tgt := 11) hx hb dX0_stressAt_6 (by decide) (fun c1 => ?_) (fun c1 => ?_)
  · have hq0 : 0 < q := Nat.pos_of_ne_zero (fun h9 => c1 (by rw [h9]; rfl))
    refine lv_iload_n hx hb dX0_stressAt_11 rfl (lv_at hl 1 rfl) ?_
    refine lv_bipush (v := 8) hx hb dX0_stressAt_12 (by decide) ?_
    refine lv_imul hx hb dX0_stressAt_14 ?_
    refine tp_i (v := nI (8 * k)) ((pk_mul k 8).trans (by rw [Nat.mul_comm k 8])) ?_
    refine lv_istore_n (lv' := [(3, .int (nI (8 * k))), (0, .ref (A 2)), (1, .int (nI k)), (2, .int t)]) hx hb dX0_stressAt_15 rfl hl (by decide) rfl (fun ls hl => ?_)
    refine lv_iload_n hx hb dX0_stressAt_16 rfl (lv_at hl 0 rfl) ?_
    refine lv_aload_n hx hb dX0_stressAt_17 rfl (lv_at hl 1 rfl) ?_
    refine va_get (D := (dC, dI)) (ci := 1) (v := .ref (A 10)) (C := RX0) (T := TX0) (N := 5) hx hb hts miX0_stressAt_X0 hown hK hP 2 rfl rfl 2 (by decide) (hts (.fieldLink RX0 18 "SectionFibres$Kinds" "points" "[I") mbX0_stressAt_1) (fun _ h9 => h9) rfl dX0_stressAt_18 ?_
    refine lv_iload_n hx hb dX0_stressAt_21 rfl (lv_at hl 2 rfl) ?_
    refine ialn hx hb hK hP 10 0 rfl rfl k (rfl) (by omega) (by decide) dX0_stressAt_22 ?_
    refine tp_i (v := nI q) (hqe) ?_
    refine lv_iadd hx hb dX0_stressAt_23 ?_
    refine tp_i (v := nI (8 * k + q)) (nI_add _ _) ?_
    refine lv_iconst (v := 1) hx hb dX0_stressAt_24 (by decide) ?_
    refine lv_isub hx hb dX0_stressAt_25 ?_
    refine tp_i (v := nI (8 * k + q - 1)) (by have h9 := nI_pred (8 * k + q - 1); rwa [show 8 * k + q - 1 + 1 = 8 * k + q by omega] at h9) ?_
    refine lv_istore (lv' := [(4, .int (nI (8 * k + q - 1))), (3, .int (nI (8 * k))), (0, .ref (A 2)), (1, .int (nI k)), (2, .int t)]) hx hb dX0_stressAt_26 hl (by decide) rfl (fun ls hl => ?_)
    refine lv_iload_n hx hb dX0_stressAt_28 rfl (lv_at hl 4 rfl) ?_
    refine lv_aload_n hx hb dX0_stressAt_29 rfl (lv_at hl 2 rfl) ?_
    refine va_get (D := (dC, dI)) (ci := 1) (v := .ref (A 8)) (C := RX0) (T := TX0) (N := 5) hx hb hts miX0_stressAt_X0 hown hK hP 2 rfl rfl 0 (by decide) (hts (.fieldLink RX0 9 "SectionFibres$Kinds" "strains" "[I") mbX0_stressAt_2) (fun _ h9 => h9) rfl dX0_stressAt_30 ?_
    refine lv_iload_n hx hb dX0_stressAt_33 rfl (lv_at hl 1 rfl) ?_
    refine ialn hx hb hK hP 8 0 rfl rfl (8 * k) (rfl) (by omega) (by decide) dX0_stressAt_34 ?_
    refine lv_icmp_gt (tgt := 45) hx hb dX0_stressAt_35 (by decide) (fun c2 => ?_) (fun c2 => ?_)
    · refine lv_iload_n hx hb dX0_stressAt_45 rfl (lv_at hl 1 rfl) ?_
      refine lv_istore (lv' := [(5, .int (nI (8 * k))), (4, .int (nI (8 * k + q - 1))), (3, .int (nI (8 * k))), (0, .ref (A 2)), (1, .int (nI k)), (2, .int t)]) hx hb dX0_stressAt_46 hl (by decide) rfl (fun ls hl => ?_)
      have lp : ∀ (z : Nat) (i : Nat) (locs : List Loc) (ls : Array Slot), 8 * k ≤ i → i + 1 ≤ 8 * k + q → 8 * k + q ≤ i + z → rwF g (nI k) t = rwL (g 5) (g 6) t (8 * k + q - 1 - i) i → va_S nF s.heap s.heap locs → lv_has ls 7 [(0, .ref (A 2)), (1, .int (nI k)), (2, .int t), (3, .int (nI (8 * k))), (4, .int (nI (8 * k + q - 1))), (5, .int (nI i))] → W p l e (headSpec wsX0_stressAt ({ frames := 1, cells := 0, slots := 0, locals := 25 })).room s m ([.ref (A 2), .int (nI k), .int t]).toArray below meth c s.heap locs 0 0 (MQ below (rd_Qi s.heap (fun r => r = rwF g (nI k) t)) ([.ref (A 2), .int (nI k), .int t]).toArray s 0 0 nF) (F0 m 48 ls []) := by
        intro z
        induction z with
        | zero =>
          intro i locs ls h1 h2 h3 hv hS hl
          exact absurd h3 (by omega)
        | succ z ih =>
          intro i locs ls h1 h2 h3 hv hS hl
          refine lv_iload hx hb dX0_stressAt_48 (lv_at hl 5 rfl) ?_
          refine lv_iload hx hb dX0_stressAt_50 (lv_at hl 4 rfl) ?_
          refine lv_icmp_ge (tgt := 136) hx hb dX0_stressAt_52 (by decide) (fun c3 => ?_) (fun c3 => ?_)
          · have hi : i = 8 * k + q - 1 := by have h9 := (nI_leI (by omega) (by omega)).mp c3; omega
            refine lv_aload_n hx hb dX0_stressAt_136 rfl (lv_at hl 0 rfl) ?_
            refine va_get (D := (dC, dI)) (ci := 1) (v := .ref (A 9)) (C := RX0) (T := TX0) (N := 5) hx hb hts miX0_stressAt_X0 hown hK hP 2 rfl rfl 1 (by decide) (hts (.fieldLink RX0 15 "SectionFibres$Kinds" "stresses" "[I") mbX0_stressAt_3) (fun _ h9 => h9) rfl dX0_stressAt_137 ?_
            refine lv_iload hx hb dX0_stressAt_140 (lv_at hl 4 rfl) ?_
            refine ialn hx hb hK hP 9 0 rfl rfl (8 * k + q - 1) (rfl) (by omega) (by decide) dX0_stressAt_142 ?_
            exact W.iret (v := (g 6 (8 * k + q - 1))) hx hb hr (fun t9 ht9 hW9 => ⟨⟨_, (), rfl, (by rw [hv, hi, show 8 * k + q - 1 - (8 * k + q - 1) = 0 by omega, rwL_0]), ht9⟩, hS.F ht9⟩) hS.2.2 dX0_stressAt_143
          · have hi : i < 8 * k + q - 1 := by rcases Nat.lt_or_ge i (8 * k + q - 1) with h9 | h9; exact h9; exact absurd (nI_le h9 (by omega)) c3
            refine lv_iload_n hx hb dX0_stressAt_55 rfl (lv_at hl 2 rfl) ?_
            refine lv_aload_n hx hb dX0_stressAt_56 rfl (lv_at hl 0 rfl) ?_
            refine va_get (D := (dC, dI)) (ci := 1) (v := .ref (A 8)) (C := RX0) (T := TX0) (N := 5) hx hb hts miX0_stressAt_X0 hown hK hP 2 rfl rfl 0 (by decide) (hts (.fieldLink RX0 9 "SectionFibres$Kinds" "strains" "[I") mbX0_stressAt_2) (fun _ h9 => h9) rfl dX0_stressAt_57 ?_
            refine lv_iload hx hb dX0_stressAt_60 (lv_at hl 5 rfl) ?_
            refine lv_iconst (v := 1) hx hb dX0_stressAt_62 (by decide) ?_
            refine lv_iadd hx hb dX0_stressAt_63 ?_
            refine tp_i (v := nI (i + 1)) (nI_1 i) ?_
            refine ialn hx hb hK hP 8 0 rfl rfl (i + 1) (rfl) (by omega) (by decide) dX0_stressAt_64 ?_
            refine lv_icmp_ge (tgt := 130) hx hb dX0_stressAt_65 (by decide) (fun c4 => ?_) (fun c4 => ?_)
            · refine lv_iinc (v := nI (i + 1)) (lv' := [(5, .int (nI (i + 1))), (0, .ref (A 2)), (1, .int (nI k)), (2, .int t), (3, .int (nI (8 * k))), (4, .int (nI (8 * k + q - 1)))]) hx hb dX0_stressAt_130 hl (k := 5) rfl (nI_1 i) (by decide) rfl (fun ls hl => ?_)
              refine lv_goto (tgt := 48) hx hb dX0_stressAt_133 (by decide) ?_
              exact ih (i + 1) _ _ (by omega) (by omega) (by omega) (by rw [hv, show 8 * k + q - 1 - i = (8 * k + q - 1 - (i + 1)) + 1 by omega, rwL_s, if_neg (le_nlt c4)]) hS (lv_sub hl [1, 2, 3, 4, 5, 0] rfl)
            · refine lv_aload_n hx hb dX0_stressAt_68 rfl (lv_at hl 0 rfl) ?_
              refine va_get (D := (dC, dI)) (ci := 1) (v := .ref (A 9)) (C := RX0) (T := TX0) (N := 5) hx hb hts miX0_stressAt_X0 hown hK hP 2 rfl rfl 1 (by decide) (hts (.fieldLink RX0 15 "SectionFibres$Kinds" "stresses" "[I") mbX0_stressAt_3) (fun _ h9 => h9) rfl dX0_stressAt_69 ?_
              refine lv_iload hx hb dX0_stressAt_72 (lv_at hl 5 rfl) ?_
              refine lv_iconst (v := 1) hx hb dX0_stressAt_74 (by decide) ?_
              refine lv_iadd hx hb dX0_stressAt_75 ?_
              refine tp_i (v := nI (i + 1)) (nI_1 i) ?_
              refine ialn hx hb hK hP 9 0 rfl rfl (i + 1) (rfl) (by omega) (by decide) dX0_stressAt_76 ?_
              refine lv_aload_n hx hb dX0_stressAt_77 rfl (lv_at hl 0 rfl) ?_
              refine va_get (D := (dC, dI)) (ci := 1) (v := .ref (A 9)) (C := RX0) (T := TX0) (N := 5) hx hb hts miX0_stressAt_X0 hown hK hP 2 rfl rfl 1 (by decide) (hts (.fieldLink RX0 15 "SectionFibres$Kinds" "stresses" "[I") mbX0_stressAt_3) (fun _ h9 => h9) rfl dX0_stressAt_78 ?_
              refine lv_iload hx hb dX0_stressAt_81 (lv_at hl 5 rfl) ?_
              refine ialn hx hb hK hP 9 0 rfl rfl i (rfl) (by omega) (by decide) dX0_stressAt_83 ?_
              refine lv_isub hx hb dX0_stressAt_84 ?_
              refine lv_istore (lv' := [(6, .int ((g 6 (i + 1)) - (g 6 i))), (0, .ref (A 2)), (1, .int (nI k)), (2, .int t), (3, .int (nI (8 * k))), (4, .int (nI (8 * k + q - 1))), (5, .int (nI i))]) hx hb dX0_stressAt_85 hl (by decide) rfl (fun ls hl => ?_)
              refine lv_aload_n hx hb dX0_stressAt_87 rfl (lv_at hl 1 rfl) ?_
              refine va_get (D := (dC, dI)) (ci := 1) (v := .ref (A 9)) (C := RX0) (T := TX0) (N := 5) hx hb hts miX0_stressAt_X0 hown hK hP 2 rfl rfl 1 (by decide) (hts (.fieldLink RX0 15 "SectionFibres$Kinds" "stresses" "[I") mbX0_stressAt_3) (fun _ h9 => h9) rfl dX0_stressAt_88 ?_
              refine lv_iload hx hb dX0_stressAt_91 (lv_at hl 6 rfl) ?_
              refine ialn hx hb hK hP 9 0 rfl rfl i (rfl) (by omega) (by decide) dX0_stressAt_93 ?_
              refine lv_iload hx hb dX0_stressAt_94 (lv_at hl 0 rfl) ?_
              refine lv_i2l hx hb dX0_stressAt_96 rfl ?_
              refine lv_iload_n hx hb dX0_stressAt_97 rfl (lv_at hl 3 rfl) ?_
              refine lv_aload_n hx hb dX0_stressAt_98 rfl (lv_at hl 1 rfl) ?_
              refine va_get (D := (dC, dI)) (ci := 1) (v := .ref (A 8)) (C := RX0) (T := TX0) (N := 5) hx hb hts miX0_stressAt_X0 hown hK hP 2 rfl rfl 0 (by decide) (hts (.fieldLink RX0 9 "SectionFibres$Kinds" "strains" "[I") mbX0_stressAt_2) (fun _ h9 => h9) rfl dX0_stressAt_99 ?_
              refine lv_iload hx hb dX0_stressAt_102 (lv_at hl 6 rfl) ?_
              refine ialn hx hb hK hP 8 0 rfl rfl i (rfl) (by omega) (by decide) dX0_stressAt_104 ?_
              refine lv_isub hx hb dX0_stressAt_105 ?_
              refine lv_i2l hx hb dX0_stressAt_106 rfl ?_
              refine lv_aload_n hx hb dX0_stressAt_107 rfl (lv_at hl 1 rfl) ?_
              refine va_get (D := (dC, dI)) (ci := 1) (v := .ref (A 8)) (C := RX0) (T := TX0) (N := 5) hx hb hts miX0_stressAt_X0 hown hK hP 2 rfl rfl 0 (by decide) (hts (.fieldLink RX0 9 "SectionFibres$Kinds" "strains" "[I") mbX0_stressAt_2) (fun _ h9 => h9) rfl dX0_stressAt_108 ?_
              refine lv_iload hx hb dX0_stressAt_111 (lv_at hl 6 rfl) ?_
              refine lv_iconst (v := 1) hx hb dX0_stressAt_113 (by decide) ?_
              refine lv_iadd hx hb dX0_stressAt_114 ?_
              refine tp_i (v := nI (i + 1)) (nI_1 i) ?_
              refine ialn hx hb hK hP 8 0 rfl rfl (i + 1) (rfl) (by omega) (by decide) dX0_stressAt_115 ?_
              refine lv_aload_n hx hb dX0_stressAt_116 rfl (lv_at hl 1 rfl) ?_
              refine va_get (D := (dC, dI)) (ci := 1) (v := .ref (A 8)) (C := RX0) (T := TX0) (N := 5) hx hb hts miX0_stressAt_X0 hown hK hP 2 rfl rfl 0 (by decide) (hts (.fieldLink RX0 9 "SectionFibres$Kinds" "strains" "[I") mbX0_stressAt_2) (fun _ h9 => h9) rfl dX0_stressAt_117 ?_
              refine lv_iload hx hb dX0_stressAt_120 (lv_at hl 6 rfl) ?_
              refine ialn hx hb hK hP 8 0 rfl rfl i (rfl) (by omega) (by decide) dX0_stressAt_122 ?_
              refine lv_isub hx hb dX0_stressAt_123 ?_
              refine lv_i2l hx hb dX0_stressAt_124 rfl ?_
              refine rd_i (va_runSN (As := [.long (((g 6 (i + 1)) - (g 6 i)).toInt64), .long ((t - (g 5 i)).toInt64), .long (((g 5 (i + 1)) - (g 5 i)).toInt64)]) (rest := [.int (g 6 i)]) ⟨hx, hb, hml, hown, hts⟩ (c_X2_share l dC dI cA s.heap (((g 6 (i + 1)) - (g 6 i)).toInt64) ((t - (g 5 i)).toInt64) (((g 5 (i + 1)) - (g 5 i)).toInt64)) ⟨(va_cnB 3 hts gX0_stressAt_X2_share_n27 rfl rfl rfl (hN (.methodLinkNest RX0 27 yX2_share "SectionFibres") (List.mem_of_getElem? (i := 9) rfl)) (hts (.initialized RX2) mbX0_stressAt_4) (by decide +kernel) ⟨Nat.le_of_ble_eq_true rfl, Nat.le_of_ble_eq_true rfl⟩), hts (.static yX2_share) mbX0_stressAt_5, trivial⟩ ⟨rd_bl, rd_pre hK hN⟩ rfl rfl hl.1 rfl (lv_room (Nat.le_of_ble_eq_true rfl)) dX0_stressAt_125 ⟨Nat.zero_le _, Nat.zero_le _⟩) hS (fun r1 locs hq2 hS => ?_)
              have hq2 : r1 = sh (((g 6 (i + 1)) - (g 6 i)).toInt64) ((t - (g 5 i)).toInt64) (((g 5 (i + 1)) - (g 5 i)).toInt64) := hq2
              subst hq2
              refine lv_iadd hx hb dX0_stressAt_128 ?_
              exact W.iret (v := ((g 6 i) + (sh (((g 6 (i + 1)) - (g 6 i)).toInt64) ((t - (g 5 i)).toInt64) (((g 5 (i + 1)) - (g 5 i)).toInt64)))) hx hb hr (fun t9 ht9 hW9 => ⟨⟨_, (), rfl, (by rw [hv, show 8 * k + q - 1 - i = (8 * k + q - 1 - (i + 1)) + 1 by omega, rwL_s, if_pos (nle_lt c4)]), ht9⟩, hS.F ht9⟩) hS.2.2 dX0_stressAt_129
      exact lp (q + 1) (8 * k) _ _ (by omega) (by omega) (by omega) (by rw [rwF_k hk, hqe, if_neg c1, if_neg (lt_nle c2), nI_clamp (n := q) (by omega), show 8 * k + q - 1 - 8 * k = q - 1 by omega]) hS (lv_sub hl [3, 4, 5, 2, 1, 0] rfl)
    · refine lv_aload_n hx hb dX0_stressAt_38 rfl (lv_at hl 2 rfl) ?_
      refine va_get (D := (dC, dI)) (ci := 1) (v := .ref (A 9)) (C := RX0) (T := TX0) (N := 5) hx hb hts miX0_stressAt_X0 hown hK hP 2 rfl rfl 1 (by decide) (hts (.fieldLink RX0 15 "SectionFibres$Kinds" "stresses" "[I") mbX0_stressAt_3) (fun _ h9 => h9) rfl dX0_stressAt_39 ?_
      refine lv_iload_n hx hb dX0_stressAt_42 rfl (lv_at hl 1 rfl) ?_
      refine ialn hx hb hK hP 9 0 rfl rfl (8 * k) (rfl) (by omega) (by decide) dX0_stressAt_43 ?_
      exact W.iret (v := (g 6 (8 * k))) hx hb hr (fun t9 ht9 hW9 => ⟨⟨_, (), rfl, (by rw [rwF_k hk, hqe, if_neg c1, if_pos (nlt_le c2)]), ht9⟩, hS.F ht9⟩) hS.2.2 dX0_stressAt_44
  · refine lv_iconst (v := 0) hx hb dX0_stressAt_9 (by decide) ?_
    exact W.iret (v := 0) hx hb hr (fun t9 ht9 hW9 => ⟨⟨_, (), rfl, (by rw [rwF_k hk, hqe, if_pos c1]), ht9⟩, hS.F ht9⟩) hS.2.2 dX0_stressAt_10

set_option maxRecDepth 20000 in
theorem miX0_isBeyond_X0 : ∀ w ∈ u_ws RX0 TX0 5, w ∈ wsX0_isBeyond := by decide +kernel
set_option maxRecDepth 20000 in
theorem mbX0_isBeyond_1 : (.fieldLink RX0 18 "SectionFibres$Kinds" "points" "[I" : Cond) ∈ wsX0_isBeyond := by decide +kernel
set_option maxRecDepth 20000 in
theorem mbX0_isBeyond_2 : (.fieldLink RX0 9 "SectionFibres$Kinds" "strains" "[I" : Cond) ∈ wsX0_isBeyond := by decide +kernel
set_option maxHeartbeats 4000000 in
set_option maxRecDepth 100000 in
theorem c_X0_isBeyond (l : Launch) (dC : Nat → ClassId) (dI : Nat → Nat → Nat) (cA : ClassId) (H : Heap) (A : Nat → Nat) (g : Gg) (n : Nat) (hs pe pk : Int32) (fo mo : Int64) (hP : va_P (dC, dI) vwCl (wC cA A g n hs pe pk fo mo) H) (hg : InvG g) (kd t : Int32) (hkd : vp_in kd 4) : Met l yX0_isBeyond wsX0_isBeyond ({ frames := 0, cells := 0, slots := 0, locals := 0 }) (rd_P [.ref (A 2), .int kd, .int t] H (dC, dI) vwCl [(cA, .int)]) (rd_Qi H (fun r => (byF g kd t ∧ r = 1) ∨ (¬ (byF g kd t) ∧ r = 0))) 0 0 nF := by
  obtain ⟨k, hk, rfl⟩ := vp_in_of hkd (by decide)
  obtain ⟨q, hq, hqe⟩ := vp_in_of (hg.2.2.2.2.2.1 k hk) (by decide)
  refine Met.ofW (cc := cX0_isBeyond) (maxL := 4) (ret := (some .boolean)) (by decide) rfl ?_
  intro p e s m args below meth c s₁ B hml hv
  obtain ⟨rfl, hH, hK, hN⟩ := hv
  subst hH
  have hx := B.exec
  have hb := B.bytes
  have hr := B.returns
  have hts := atoms_spec (ws := wsX0_isBeyond) B.pre
  have hown : s.vm.findClass RX0 = some m.cls := findClass_of_methodNamed B.named
  have hlocks := B.notSynchronized
  have hS : va_S nF s.heap s.heap [] := va_S.rf
  have hl := lv_entry ([.ref (A 2), .int (nI k), .int t]) (n := 4) (Nat.le_of_ble_eq_true rfl)
  rw [lg_entry_eq]
  generalize (lg_sl ([.ref (A 2), .int (nI k), .int t]) ++ List.replicate (4 - (lg_sl ([.ref (A 2), .int (nI k), .int t])).length) Slot.unset).toArray = ls at hl ⊢
  have hl : lv_has ls 4 [(0, .ref (A 2)), (1, .int (nI k)), (2, .int t)] := hl
  refine lv_aload_n hx hb dX0_isBeyond_0 rfl (lv_at hl 0 rfl) ?_
  refine va_get (D := (dC, dI)) (ci := 1) (v := .ref (A 10)) (C := RX0) (T := TX0) (N := 5) hx hb hts miX0_isBeyond_X0 hown hK hP 2 rfl rfl 2 (by decide) (hts (.fieldLink RX0 18 "SectionFibres$Kinds" "points" "[I") mbX0_isBeyond_1) (fun _ h9 => h9) rfl dX0_isBeyond_1 ?_
  refine lv_iload_n hx hb dX0_isBeyond_4 rfl (lv_at hl 1 rfl) ?_
  refine ialn hx hb hK hP 10 0 rfl rfl k (rfl) (by omega) (by decide) dX0_isBeyond_5 ?_
  refine tp_i (v := nI q) (hqe) ?_
  refine lv_if_ne (tgt := 11) hx hb dX0_isBeyond_6 (by decide) (fun c1 => ?_) (fun c1 => ?_)
  · have hq0 : 0 < q := Nat.pos_of_ne_zero (fun h9 => c1 (by rw [h9]; rfl))
    refine lv_iload_n hx hb dX0_isBeyond_11 rfl (lv_at hl 1 rfl) ?_
    refine lv_bipush (v := 8) hx hb dX0_isBeyond_12 (by decide) ?_
    refine lv_imul hx hb dX0_isBeyond_14 ?_
    refine tp_i (v := nI (8 * k)) ((pk_mul k 8).trans (by rw [Nat.mul_comm k 8])) ?_
    refine lv_istore_n (lv' := [(3, .int (nI (8 * k))), (0, .ref (A 2)), (1, .int (nI k)), (2, .int t)]) hx hb dX0_isBeyond_15 rfl hl (by decide) rfl (fun ls hl => ?_)
    refine lv_iload_n hx hb dX0_isBeyond_16 rfl (lv_at hl 3 rfl) ?_
    refine lv_aload_n hx hb dX0_isBeyond_17 rfl (lv_at hl 1 rfl) ?_
    refine va_get (D := (dC, dI)) (ci := 1) (v := .ref (A 8)) (C := RX0) (T := TX0) (N := 5) hx hb hts miX0_isBeyond_X0 hown hK hP 2 rfl rfl 0 (by decide) (hts (.fieldLink RX0 9 "SectionFibres$Kinds" "strains" "[I") mbX0_isBeyond_2) (fun _ h9 => h9) rfl dX0_isBeyond_18 ?_
    refine lv_iload_n hx hb dX0_isBeyond_21 rfl (lv_at hl 0 rfl) ?_
    refine ialn hx hb hK hP 8 0 rfl rfl (8 * k) (rfl) (by omega) (by decide) dX0_isBeyond_22 ?_
    refine lv_icmp_lt (tgt := 45) hx hb dX0_isBeyond_23 (by decide) (fun c2 => ?_) (fun c2 => ?_)
    · refine lv_iconst (v := 1) hx hb dX0_isBeyond_45 (by decide) ?_
      refine lv_goto (tgt := 50) hx hb dX0_isBeyond_46 (by decide) ?_
      exact W.zret (ty := .boolean) (v := 1) hx hb hr (by decide) (fun t9 ht9 hW9 => ⟨⟨_, (), rfl, (Or.inl ⟨by rw [byF_k hk, hqe]; exact ⟨c1, Or.inl c2⟩, rfl⟩), ht9⟩, hS.F ht9⟩) hS.2.2 dX0_isBeyond_50
    · refine lv_iload_n hx hb dX0_isBeyond_26 rfl (lv_at hl 3 rfl) ?_
      refine lv_aload_n hx hb dX0_isBeyond_27 rfl (lv_at hl 1 rfl) ?_
      refine va_get (D := (dC, dI)) (ci := 1) (v := .ref (A 8)) (C := RX0) (T := TX0) (N := 5) hx hb hts miX0_isBeyond_X0 hown hK hP 2 rfl rfl 0 (by decide) (hts (.fieldLink RX0 9 "SectionFibres$Kinds" "strains" "[I") mbX0_isBeyond_2) (fun _ h9 => h9) rfl dX0_isBeyond_28 ?_
      refine lv_iload_n hx hb dX0_isBeyond_31 rfl (lv_at hl 0 rfl) ?_
      refine lv_aload_n hx hb dX0_isBeyond_32 rfl (lv_at hl 1 rfl) ?_
      refine va_get (D := (dC, dI)) (ci := 1) (v := .ref (A 10)) (C := RX0) (T := TX0) (N := 5) hx hb hts miX0_isBeyond_X0 hown hK hP 2 rfl rfl 2 (by decide) (hts (.fieldLink RX0 18 "SectionFibres$Kinds" "points" "[I") mbX0_isBeyond_1) (fun _ h9 => h9) rfl dX0_isBeyond_33 ?_
      refine lv_iload_n hx hb dX0_isBeyond_36 rfl (lv_at hl 2 rfl) ?_
      refine ialn hx hb hK hP 10 0 rfl rfl k (rfl) (by omega) (by decide) dX0_isBeyond_37 ?_
      refine tp_i (v := nI q) (hqe) ?_
      refine lv_iadd hx hb dX0_isBeyond_38 ?_
      refine tp_i (v := nI (8 * k + q)) (nI_add _ _) ?_
      refine lv_iconst (v := 1) hx hb dX0_isBeyond_39 (by decide) ?_
      refine lv_isub hx hb dX0_isBeyond_40 ?_
      refine tp_i (v := nI (8 * k + q - 1)) (by have h9 := nI_pred (8 * k + q - 1); rwa [show 8 * k + q - 1 + 1 = 8 * k + q by omega] at h9) ?_
      refine ialn hx hb hK hP 8 0 rfl rfl (8 * k + q - 1) (rfl) (by omega) (by decide) dX0_isBeyond_41 ?_
      refine lv_icmp_le (tgt := 49) hx hb dX0_isBeyond_42 (by decide) (fun c3 => ?_) (fun c3 => ?_)
      · refine lv_iconst (v := 0) hx hb dX0_isBeyond_49 (by decide) ?_
        exact W.zret (ty := .boolean) (v := 0) hx hb hr (by decide) (fun t9 ht9 hW9 => ⟨⟨_, (), rfl, (Or.inr ⟨fun h9 => by rw [byF_k hk, hqe, nI_clamp (n := q) (by omega)] at h9; exact h9.2.elim c2 (le_nlt c3), rfl⟩), ht9⟩, hS.F ht9⟩) hS.2.2 dX0_isBeyond_50
      · refine lv_iconst (v := 1) hx hb dX0_isBeyond_45 (by decide) ?_
        refine lv_goto (tgt := 50) hx hb dX0_isBeyond_46 (by decide) ?_
        exact W.zret (ty := .boolean) (v := 1) hx hb hr (by decide) (fun t9 ht9 hW9 => ⟨⟨_, (), rfl, (Or.inl ⟨by rw [byF_k hk, hqe, nI_clamp (n := q) (by omega)]; exact ⟨c1, Or.inr (nle_lt c3)⟩, rfl⟩), ht9⟩, hS.F ht9⟩) hS.2.2 dX0_isBeyond_50
  · refine lv_iconst (v := 0) hx hb dX0_isBeyond_9 (by decide) ?_
    exact W.zret (ty := .boolean) (v := 0) hx hb hr (by decide) (fun t9 ht9 hW9 => ⟨⟨_, (), rfl, (Or.inr ⟨fun h9 => by rw [byF_k hk, hqe] at h9; exact h9.1 c1, rfl⟩), ht9⟩, hS.F ht9⟩) hS.2.2 dX0_isBeyond_10
end
section
set_option maxRecDepth 20000 in
theorem miX1_has_X1 : ∀ w ∈ u_ws RX1 TX1 7, w ∈ wsX1_has := by decide +kernel
set_option maxRecDepth 20000 in
theorem mbX1_has_1 : (.fieldLink RX1 34 "SectionFibres$Section" "size" "I" : Cond) ∈ wsX1_has := by decide +kernel
set_option maxRecDepth 20000 in
theorem mbX1_has_2 : (.initialized RX2 : Cond) ∈ wsX1_has := by decide +kernel
set_option maxRecDepth 20000 in
theorem mbX1_has_3 : (.static yX2_within : Cond) ∈ wsX1_has := by decide +kernel
set_option maxHeartbeats 4000000 in
set_option maxRecDepth 100000 in
theorem c_X1_has (l : Launch) (dC : Nat → ClassId) (dI : Nat → Nat → Nat) (cA : ClassId) (H : Heap) (A : Nat → Nat) (g : Gg) (n : Nat) (hs pe pk : Int32) (fo mo : Int64) (hP : va_P (dC, dI) vwCl (wC cA A g n hs pe pk fo mo) H) (hn : n ≤ 41) (v : Int32) : Met l yX1_has wsX1_has ({ frames := 1, cells := 0, slots := 0, locals := 22 }) (rd_P [.ref (A 1), .int v] H (dC, dI) vwCl [(cA, .int)]) (rd_Qi H (fun r => (rg v 0 ((n : Int) - 1) ∧ r = 1) ∨ (¬ (rg v 0 ((n : Int) - 1)) ∧ r = 0))) 0 0 nF := by
  refine Met.ofW (cc := cX1_has) (maxL := 2) (ret := (some .boolean)) (by decide) rfl ?_
  intro p e s m args below meth c s₁ B hml hv
  obtain ⟨rfl, hH, hK, hN⟩ := hv
  subst hH
  have hx := B.exec
  have hb := B.bytes
  have hr := B.returns
  have hts := atoms_spec (ws := wsX1_has) B.pre
  have hown : s.vm.findClass RX1 = some m.cls := findClass_of_methodNamed B.named
  have hlocks := B.notSynchronized
  have hS : va_S nF s.heap s.heap [] := va_S.rf
  have hl := lv_entry ([.ref (A 1), .int v]) (n := 2) (Nat.le_of_ble_eq_true rfl)
  rw [lg_entry_eq]
  generalize (lg_sl ([.ref (A 1), .int v]) ++ List.replicate (2 - (lg_sl ([.ref (A 1), .int v])).length) Slot.unset).toArray = ls at hl ⊢
  have hl : lv_has ls 2 [(0, .ref (A 1)), (1, .int v)] := hl
  have hnt : (nI n).toInt = (n : Int) := nI_toInt (by omega)
  refine lv_iload_n hx hb dX1_has_0 rfl (lv_at hl 1 rfl) ?_
  refine lv_iconst (v := 0) hx hb dX1_has_1 (by decide) ?_
  refine lv_aload_n hx hb dX1_has_2 rfl (lv_at hl 0 rfl) ?_
  refine va_get (D := (dC, dI)) (ci := 2) (v := .int (nI n)) (C := RX1) (T := TX1) (N := 7) hx hb hts miX1_has_X1 hown hK hP 1 rfl rfl 6 (by decide) (hts (.fieldLink RX1 34 "SectionFibres$Section" "size" "I") mbX1_has_1) (fun _ h9 => h9) rfl dX1_has_3 ?_
  refine lv_iconst (v := 1) hx hb dX1_has_6 (by decide) ?_
  refine lv_isub hx hb dX1_has_7 ?_
  refine rd_i (va_runSN (As := [.int v, .int 0, .int ((nI n) - 1)]) (rest := []) ⟨hx, hb, hml, hown, hts⟩ (c_X2_within l dC dI cA s.heap v 0 ((nI n) - 1) 0 ((n : Int) - 1) (by decide) (by rw [sb32 (by rw [hnt, show (1 : Int32).toInt = 1 by decide]; omega) (by rw [hnt, show (1 : Int32).toInt = 1 by decide]; omega), hnt]; rfl)) ⟨(va_cnB 3 hts gX1_has_X2_within_n38 rfl rfl rfl (hN (.methodLinkNest RX1 38 yX2_within "SectionFibres") (List.mem_of_getElem? (i := 5) rfl)) (hts (.initialized RX2) mbX1_has_2) (by decide +kernel) ⟨Nat.le_of_ble_eq_true rfl, Nat.le_of_ble_eq_true rfl⟩), hts (.static yX2_within) mbX1_has_3, trivial⟩ ⟨rd_bl, rd_pre hK hN⟩ rfl rfl hl.1 rfl (lv_room (Nat.le_of_ble_eq_true rfl)) dX1_has_8 ⟨Nat.zero_le _, Nat.zero_le _⟩) hS (fun r1 locs hq2 hS => ?_)
  rcases hq2 with ⟨hq2, rfl⟩ | ⟨hq2, rfl⟩
  · have hq9 : rg v 0 ((n : Int) - 1) := hq2
    exact W.zret (ty := .boolean) (v := 1) hx hb hr (by decide) (fun t9 ht9 hW9 => ⟨⟨_, (), rfl, (Or.inl ⟨hq9, rfl⟩), ht9⟩, hS.F ht9⟩) hS.2.2 dX1_has_11
  · have hq9 : ¬ (rg v 0 ((n : Int) - 1)) := hq2
    exact W.zret (ty := .boolean) (v := 0) hx hb hr (by decide) (fun t9 ht9 hW9 => ⟨⟨_, (), rfl, (Or.inr ⟨hq9, rfl⟩), ht9⟩, hS.F ht9⟩) hS.2.2 dX1_has_11

set_option maxRecDepth 20000 in
theorem miX1_worksOn_X1 : ∀ w ∈ u_ws RX1 TX1 7, w ∈ wsX1_worksOn := by decide +kernel
set_option maxRecDepth 20000 in
theorem mbX1_worksOn_1 : (.fieldLink RX1 25 "SectionFibres$Section" "kindOf" "[I" : Cond) ∈ wsX1_worksOn := by decide +kernel
set_option maxRecDepth 20000 in
theorem mbX1_worksOn_2 : (.fieldLink RX1 22 "SectionFibres$Section" "places" "[I" : Cond) ∈ wsX1_worksOn := by decide +kernel
set_option maxRecDepth 20000 in
theorem mbX1_worksOn_3 : (.fieldLink RX1 28 "SectionFibres$Section" "births" "[I" : Cond) ∈ wsX1_worksOn := by decide +kernel
set_option maxRecDepth 20000 in
theorem mbX1_worksOn_4 : (.fieldLink RX1 12 "SectionFibres$Section" "kinds" "LSectionFibres$Kinds;" : Cond) ∈ wsX1_worksOn := by decide +kernel
set_option maxRecDepth 20000 in
theorem miX1_worksOn_X0 : ∀ w ∈ u_ws RX0 TX0 5, w ∈ wsX1_worksOn := by decide +kernel
set_option maxRecDepth 20000 in
theorem mbX1_worksOn_6 : (.constantLong RX1 51 (100) : Cond) ∈ wsX1_worksOn := by decide +kernel
set_option maxRecDepth 20000 in
theorem mbX1_worksOn_7 : (.initialized RX2 : Cond) ∈ wsX1_worksOn := by decide +kernel
set_option maxRecDepth 20000 in
theorem mbX1_worksOn_8 : (.static yX2_share : Cond) ∈ wsX1_worksOn := by decide +kernel
set_option maxHeartbeats 4000000 in
set_option maxRecDepth 100000 in
theorem c_X1_worksOn (l : Launch) (dC : Nat → ClassId) (dI : Nat → Nat → Nat) (cA : ClassId) (H : Heap) (A : Nat → Nat) (g : Gg) (n : Nat) (hs pe pk : Int32) (fo mo : Int64) (hP : va_P (dC, dI) vwCl (wC cA A g n hs pe pk fo mo) H) (hg : InvG g) (f : Nat) (hf : f < 41) (ee kb : Int32) : Met l yX1_worksOn wsX1_worksOn ({ frames := 1, cells := 0, slots := 0, locals := 25 }) (rd_P [.ref (A 1), .int (nI f), .int ee, .int kb] H (dC, dI) vwCl [(cA, .int)]) (rd_Qi H (fun r => r = wkF g f ee kb)) 0 0 nF := by
  refine Met.ofW (cc := cX1_worksOn) (maxL := 6) (ret := (some .int)) (by decide) rfl ?_
  intro p e s m args below meth c s₁ B hml hv
  obtain ⟨rfl, hH, hK, hN⟩ := hv
  subst hH
  have hx := B.exec
  have hb := B.bytes
  have hr := B.returns
  have hts := atoms_spec (ws := wsX1_worksOn) B.pre
  have hown : s.vm.findClass RX1 = some m.cls := findClass_of_methodNamed B.named
  have hlocks := B.notSynchronized
  have hS : va_S nF s.heap s.heap [] := va_S.rf
  have hl := lv_entry ([.ref (A 1), .int (nI f), .int ee, .int kb]) (n := 6) (Nat.le_of_ble_eq_true rfl)
  rw [lg_entry_eq]
  generalize (lg_sl ([.ref (A 1), .int (nI f), .int ee, .int kb]) ++ List.replicate (6 - (lg_sl ([.ref (A 1), .int (nI f), .int ee, .int kb])).length) Slot.unset).toArray = ls at hl ⊢
  have hl : lv_has ls 6 [(0, .ref (A 1)), (1, .int (nI f)), (2, .int ee), (3, .int kb)] := hl
  obtain ⟨kd, hkd, hke⟩ := vp_in_of (hg.1 f hf) (by decide)
  refine lv_aload_n hx hb dX1_worksOn_0 rfl (lv_at hl 0 rfl) ?_
  refine va_get (D := (dC, dI)) (ci := 2) (v := .ref (A 5)) (C := RX1) (T := TX1) (N := 7) hx hb hts miX1_worksOn_X1 hown hK hP 1 rfl rfl 3 (by decide) (hts (.fieldLink RX1 25 "SectionFibres$Section" "kindOf" "[I") mbX1_worksOn_1) (fun _ h9 => h9) rfl dX1_worksOn_1 ?_
  refine lv_iload_n hx hb dX1_worksOn_4 rfl (lv_at hl 1 rfl) ?_
  refine ialn hx hb hK hP 5 0 rfl rfl f (rfl) (by omega) (by decide) dX1_worksOn_5 ?_
  refine tp_i (v := nI kd) (hke) ?_
  refine lv_istore (lv' := [(4, .int (nI kd)), (0, .ref (A 1)), (1, .int (nI f)), (2, .int ee), (3, .int kb)]) hx hb dX1_worksOn_6 hl (by decide) rfl (fun ls hl => ?_)
  refine lv_iload_n hx hb dX1_worksOn_8 rfl (lv_at hl 3 rfl) ?_
  refine lv_iload_n hx hb dX1_worksOn_9 rfl (lv_at hl 4 rfl) ?_
  refine lv_aload_n hx hb dX1_worksOn_10 rfl (lv_at hl 1 rfl) ?_
  refine va_get (D := (dC, dI)) (ci := 2) (v := .ref (A 4)) (C := RX1) (T := TX1) (N := 7) hx hb hts miX1_worksOn_X1 hown hK hP 1 rfl rfl 2 (by decide) (hts (.fieldLink RX1 22 "SectionFibres$Section" "places" "[I") mbX1_worksOn_2) (fun _ h9 => h9) rfl dX1_worksOn_11 ?_
  refine lv_iload_n hx hb dX1_worksOn_14 rfl (lv_at hl 2 rfl) ?_
  refine ialn hx hb hK hP 4 0 rfl rfl f (rfl) (by omega) (by decide) dX1_worksOn_15 ?_
  refine lv_imul hx hb dX1_worksOn_16 ?_
  refine lv_sipush (v := 1000) hx hb dX1_worksOn_17 (by decide) ?_
  refine rd_i (va_runS (As := [.int (kb * (g 1 f)), .int 1000]) (rest := [.int ee]) ⟨hx, hb, hml, hown, hts⟩ (c_J9_floorDiv_7cf53 l dC dI cA s.heap (kb * (g 1 f)) 1000 (by decide)) (va_cwS 2 hts gX1_worksOn_J9_floorDiv_7cf53 rfl rfl rfl (by decide +kernel) ⟨Nat.le_of_ble_eq_true rfl, Nat.le_of_ble_eq_true rfl⟩) ⟨rd_bl, rd_pre hK hN⟩ rfl rfl hl.1 rfl (lv_room (Nat.le_of_ble_eq_true rfl)) dX1_worksOn_20 ⟨Nat.zero_le _, Nat.zero_le _⟩) hS (fun r1 locs hq2 hS => ?_)
  have hq2 : r1 = fdv (kb * (g 1 f)) 1000 := hq2
  subst hq2
  refine lv_iadd hx hb dX1_worksOn_23 ?_
  refine lv_istore (lv' := [(5, .int (ee + (fdv (kb * (g 1 f)) 1000))), (4, .int (nI kd)), (0, .ref (A 1)), (1, .int (nI f)), (2, .int ee), (3, .int kb)]) hx hb dX1_worksOn_24 hl (by decide) rfl (fun ls hl => ?_)
  refine lv_iload hx hb dX1_worksOn_26 (lv_at hl 0 rfl) ?_
  refine lv_aload_n hx hb dX1_worksOn_28 rfl (lv_at hl 2 rfl) ?_
  refine va_get (D := (dC, dI)) (ci := 2) (v := .ref (A 6)) (C := RX1) (T := TX1) (N := 7) hx hb hts miX1_worksOn_X1 hown hK hP 1 rfl rfl 4 (by decide) (hts (.fieldLink RX1 28 "SectionFibres$Section" "births" "[I") mbX1_worksOn_3) (fun _ h9 => h9) rfl dX1_worksOn_29 ?_
  refine lv_iload_n hx hb dX1_worksOn_32 rfl (lv_at hl 3 rfl) ?_
  refine ialn hx hb hK hP 6 0 rfl rfl f (rfl) (by omega) (by decide) dX1_worksOn_33 ?_
  refine lv_isub hx hb dX1_worksOn_34 ?_
  refine lv_aload_n hx hb dX1_worksOn_35 rfl (lv_at hl 2 rfl) ?_
  refine va_get (D := (dC, dI)) (ci := 2) (v := .ref (A 2)) (C := RX1) (T := TX1) (N := 7) hx hb hts miX1_worksOn_X1 hown hK hP 1 rfl rfl 0 (by decide) (hts (.fieldLink RX1 12 "SectionFibres$Section" "kinds" "LSectionFibres$Kinds;") mbX1_worksOn_4) (fun _ h9 => h9) rfl dX1_worksOn_36 ?_
  refine va_getN (D := (dC, dI)) (ci := 1) (v := .ref (A 12)) (C := RX0) (T := TX0) (N := 5) hx hb hts miX1_worksOn_X0 hown hK hP 2 rfl rfl 4 (by decide) (va_Nw.use rfl (hN (.fieldLinkNest RX1 48 "SectionFibres$Kinds" "shrunk" "[I" "SectionFibres") (List.mem_of_getElem? (i := 24) rfl))) (fun _ h9 => h9) rfl dX1_worksOn_39 ?_
  refine lv_iload hx hb dX1_worksOn_42 (lv_at hl 1 rfl) ?_
  refine ialn hx hb hK hP 12 0 rfl rfl kd (rfl) (by omega) (by decide) dX1_worksOn_44 ?_
  refine lv_isub hx hb dX1_worksOn_45 ?_
  refine lv_i2l hx hb dX1_worksOn_46 rfl ?_
  refine lv_ldc2 hx hb hown (hts (.constantLong RX1 51 (100)) mbX1_worksOn_6) dX1_worksOn_47 ?_
  refine lv_bipush (v := 100) hx hb dX1_worksOn_50 (by decide) ?_
  refine lv_aload_n hx hb dX1_worksOn_52 rfl (lv_at hl 2 rfl) ?_
  refine va_get (D := (dC, dI)) (ci := 2) (v := .ref (A 2)) (C := RX1) (T := TX1) (N := 7) hx hb hts miX1_worksOn_X1 hown hK hP 1 rfl rfl 0 (by decide) (hts (.fieldLink RX1 12 "SectionFibres$Section" "kinds" "LSectionFibres$Kinds;") mbX1_worksOn_4) (fun _ h9 => h9) rfl dX1_worksOn_53 ?_
  refine va_getN (D := (dC, dI)) (ci := 1) (v := .ref (A 11)) (C := RX0) (T := TX0) (N := 5) hx hb hts miX1_worksOn_X0 hown hK hP 2 rfl rfl 3 (by decide) (va_Nw.use rfl (hN (.fieldLinkNest RX1 53 "SectionFibres$Kinds" "creep" "[I" "SectionFibres") (List.mem_of_getElem? (i := 22) rfl))) (fun _ h9 => h9) rfl dX1_worksOn_56 ?_
  refine lv_iload hx hb dX1_worksOn_59 (lv_at hl 1 rfl) ?_
  refine ialn hx hb hK hP 11 0 rfl rfl kd (rfl) (by omega) (by decide) dX1_worksOn_61 ?_
  refine lv_iadd hx hb dX1_worksOn_62 ?_
  refine lv_i2l hx hb dX1_worksOn_63 rfl ?_
  refine rd_i (va_runSN (As := [.long ((((ee + (fdv (kb * (g 1 f)) 1000)) - (g 3 f)) - (g 9 kd)).toInt64), .long 100, .long ((100 + (g 8 kd)).toInt64)]) (rest := []) ⟨hx, hb, hml, hown, hts⟩ (c_X2_share l dC dI cA s.heap ((((ee + (fdv (kb * (g 1 f)) 1000)) - (g 3 f)) - (g 9 kd)).toInt64) 100 ((100 + (g 8 kd)).toInt64)) ⟨(va_cnB 3 hts gX1_worksOn_X2_share_n56 rfl rfl rfl (hN (.methodLinkNest RX1 56 yX2_share "SectionFibres") (List.mem_of_getElem? (i := 7) rfl)) (hts (.initialized RX2) mbX1_worksOn_7) (by decide +kernel) ⟨Nat.le_of_ble_eq_true rfl, Nat.le_of_ble_eq_true rfl⟩), hts (.static yX2_share) mbX1_worksOn_8, trivial⟩ ⟨rd_bl, rd_pre hK hN⟩ rfl rfl hl.1 rfl (lv_room (Nat.le_of_ble_eq_true rfl)) dX1_worksOn_64 ⟨Nat.zero_le _, Nat.zero_le _⟩) hS (fun r3 locs hq4 hS => ?_)
  have hq4 : r3 = sh ((((ee + (fdv (kb * (g 1 f)) 1000)) - (g 3 f)) - (g 9 kd)).toInt64) 100 ((100 + (g 8 kd)).toInt64) := hq4
  subst hq4
  exact W.iret (v := (sh ((((ee + (fdv (kb * (g 1 f)) 1000)) - (g 3 f)) - (g 9 kd)).toInt64) 100 ((100 + (g 8 kd)).toInt64))) hx hb hr (fun t9 ht9 hW9 => ⟨⟨_, (), rfl, (by unfold wkF; rw [hke, nI_clamp (n := kd) (by omega)]), ht9⟩, hS.F ht9⟩) hS.2.2 dX1_worksOn_67

set_option maxRecDepth 20000 in
theorem miX1_stressOn_X1 : ∀ w ∈ u_ws RX1 TX1 7, w ∈ wsX1_stressOn := by decide +kernel
set_option maxRecDepth 20000 in
theorem mbX1_stressOn_1 : (.fieldLink RX1 12 "SectionFibres$Section" "kinds" "LSectionFibres$Kinds;" : Cond) ∈ wsX1_stressOn := by decide +kernel
set_option maxRecDepth 20000 in
theorem mbX1_stressOn_2 : (.fieldLink RX1 25 "SectionFibres$Section" "kindOf" "[I" : Cond) ∈ wsX1_stressOn := by decide +kernel
set_option maxRecDepth 20000 in
theorem mbX1_stressOn_3 : (.initialized RX0 : Cond) ∈ wsX1_stressOn := by decide +kernel
set_option maxRecDepth 20000 in
theorem mbX1_stressOn_4 : (.instanceMethod yX0_stressAt : Cond) ∈ wsX1_stressOn := by decide +kernel
set_option maxRecDepth 20000 in
theorem mbX1_stressOn_5 : (.selects RX0 yX0_stressAt yX0_stressAt : Cond) ∈ wsX1_stressOn := by decide +kernel
set_option maxRecDepth 20000 in
theorem mbX1_stressOn_6 : (.fieldLink RX1 31 "SectionFibres$Section" "kept" "[I" : Cond) ∈ wsX1_stressOn := by decide +kernel
set_option maxRecDepth 20000 in
theorem mbX1_stressOn_7 : (.constantLong RX1 51 (100) : Cond) ∈ wsX1_stressOn := by decide +kernel
set_option maxRecDepth 20000 in
theorem mbX1_stressOn_8 : (.initialized RX2 : Cond) ∈ wsX1_stressOn := by decide +kernel
set_option maxRecDepth 20000 in
theorem mbX1_stressOn_9 : (.static yX2_share : Cond) ∈ wsX1_stressOn := by decide +kernel
set_option maxHeartbeats 4000000 in
set_option maxRecDepth 100000 in
theorem c_X1_stressOn (l : Launch) (dC : Nat → ClassId) (dI : Nat → Nat → Nat) (cA : ClassId) (H : Heap) (A : Nat → Nat) (g : Gg) (n : Nat) (hs pe pk : Int32) (fo mo : Int64) (hP : va_P (dC, dI) vwCl (wC cA A g n hs pe pk fo mo) H) (hg : InvG g) (f : Nat) (hf : f < 41) (ee kb : Int32) : Met l yX1_stressOn wsX1_stressOn ({ frames := 2, cells := 0, slots := 0, locals := 51 }) (rd_P [.ref (A 1), .int (nI f), .int ee, .int kb] H (dC, dI) vwCl [(cA, .int)]) (rd_Qi H (fun r => r = stF g f ee kb)) 0 0 nF := by
  refine Met.ofW (cc := cX1_stressOn) (maxL := 4) (ret := (some .int)) (by decide) rfl ?_
  intro p e s m args below meth c s₁ B hml hv
  obtain ⟨rfl, hH, hK, hN⟩ := hv
  subst hH
  have hx := B.exec
  have hb := B.bytes
  have hr := B.returns
  have hts := atoms_spec (ws := wsX1_stressOn) B.pre
  have hown : s.vm.findClass RX1 = some m.cls := findClass_of_methodNamed B.named
  have hlocks := B.notSynchronized
  have hS : va_S nF s.heap s.heap [] := va_S.rf
  have hl := lv_entry ([.ref (A 1), .int (nI f), .int ee, .int kb]) (n := 4) (Nat.le_of_ble_eq_true rfl)
  rw [lg_entry_eq]
  generalize (lg_sl ([.ref (A 1), .int (nI f), .int ee, .int kb]) ++ List.replicate (4 - (lg_sl ([.ref (A 1), .int (nI f), .int ee, .int kb])).length) Slot.unset).toArray = ls at hl ⊢
  have hl : lv_has ls 4 [(0, .ref (A 1)), (1, .int (nI f)), (2, .int ee), (3, .int kb)] := hl
  refine lv_aload_n hx hb dX1_stressOn_0 rfl (lv_at hl 0 rfl) ?_
  refine va_get (D := (dC, dI)) (ci := 2) (v := .ref (A 2)) (C := RX1) (T := TX1) (N := 7) hx hb hts miX1_stressOn_X1 hown hK hP 1 rfl rfl 0 (by decide) (hts (.fieldLink RX1 12 "SectionFibres$Section" "kinds" "LSectionFibres$Kinds;") mbX1_stressOn_1) (fun _ h9 => h9) rfl dX1_stressOn_1 ?_
  refine lv_aload_n hx hb dX1_stressOn_4 rfl (lv_at hl 0 rfl) ?_
  refine va_get (D := (dC, dI)) (ci := 2) (v := .ref (A 5)) (C := RX1) (T := TX1) (N := 7) hx hb hts miX1_stressOn_X1 hown hK hP 1 rfl rfl 3 (by decide) (hts (.fieldLink RX1 25 "SectionFibres$Section" "kindOf" "[I") mbX1_stressOn_2) (fun _ h9 => h9) rfl dX1_stressOn_5 ?_
  refine lv_iload_n hx hb dX1_stressOn_8 rfl (lv_at hl 1 rfl) ?_
  refine ialn hx hb hK hP 5 0 rfl rfl f (rfl) (by omega) (by decide) dX1_stressOn_9 ?_
  refine lv_aload_n hx hb dX1_stressOn_10 rfl (lv_at hl 0 rfl) ?_
  refine lv_iload_n hx hb dX1_stressOn_11 rfl (lv_at hl 1 rfl) ?_
  refine lv_iload_n hx hb dX1_stressOn_12 rfl (lv_at hl 2 rfl) ?_
  refine lv_iload_n hx hb dX1_stressOn_13 rfl (lv_at hl 3 rfl) ?_
  refine rd_i (va_runV (As := [.int (nI f), .int ee, .int kb]) (rest := [.int (g 2 f), .ref (A 2)]) ⟨hx, hb, hml, hown, hts⟩ (c_X1_worksOn l dC dI cA s.heap A g n hs pe pk fo mo hP hg f (by omega) ee kb) (cwV 3 hts gX1_stressOn_X1_worksOn rfl rfl rfl (by decide +kernel) ⟨Nat.le_of_ble_eq_true rfl, Nat.le_of_ble_eq_true rfl⟩) ⟨rd_bl, va_recv hK hP (ci := 2) (q0 := 1) rfl rfl, rd_pre hK hN⟩ rfl rfl hl.1 rfl (lv_room (Nat.le_of_ble_eq_true rfl)) dX1_stressOn_14 ⟨Nat.zero_le _, Nat.zero_le _⟩) hS (fun r1 locs hq2 hS => ?_)
  have hq2 : r1 = wkF g f ee kb := hq2
  subst hq2
  refine rd_i (va_runVN (As := [.int (g 2 f), .int (wkF g f ee kb)]) (rest := []) ⟨hx, hb, hml, hown, hts⟩ (c_X0_stressAt l dC dI cA s.heap A g n hs pe pk fo mo hP hg (g 2 f) (wkF g f ee kb) (hg.1 f hf)) ⟨(va_cnB 2 hts gX1_stressOn_X0_stressAt_n64 rfl rfl rfl (hN (.methodLinkNest RX1 64 yX0_stressAt "SectionFibres") (List.mem_of_getElem? (i := 8) rfl)) (hts (.initialized RX0) mbX1_stressOn_3) (by decide +kernel) ⟨Nat.le_of_ble_eq_true rfl, Nat.le_of_ble_eq_true rfl⟩), hts (.instanceMethod yX0_stressAt) mbX1_stressOn_4, hts (.selects RX0 yX0_stressAt yX0_stressAt) mbX1_stressOn_5⟩ ⟨rd_bl, va_recv hK hP (ci := 1) (q0 := 2) rfl rfl, rd_pre hK hN⟩ rfl rfl hl.1 rfl (lv_room (Nat.le_of_ble_eq_true rfl)) dX1_stressOn_17 ⟨Nat.zero_le _, Nat.zero_le _⟩) hS (fun r3 locs hq4 hS => ?_)
  have hq4 : r3 = rwF g (g 2 f) (wkF g f ee kb) := hq4
  subst hq4
  refine lv_i2l hx hb dX1_stressOn_20 rfl ?_
  refine lv_aload_n hx hb dX1_stressOn_21 rfl (lv_at hl 0 rfl) ?_
  refine va_get (D := (dC, dI)) (ci := 2) (v := .ref (A 7)) (C := RX1) (T := TX1) (N := 7) hx hb hts miX1_stressOn_X1 hown hK hP 1 rfl rfl 5 (by decide) (hts (.fieldLink RX1 31 "SectionFibres$Section" "kept" "[I") mbX1_stressOn_6) (fun _ h9 => h9) rfl dX1_stressOn_22 ?_
  refine lv_iload_n hx hb dX1_stressOn_25 rfl (lv_at hl 1 rfl) ?_
  refine ialn hx hb hK hP 7 0 rfl rfl f (rfl) (by omega) (by decide) dX1_stressOn_26 ?_
  refine lv_i2l hx hb dX1_stressOn_27 rfl ?_
  refine lv_ldc2 hx hb hown (hts (.constantLong RX1 51 (100)) mbX1_stressOn_7) dX1_stressOn_28 ?_
  refine rd_i (va_runSN (As := [.long ((rwF g (g 2 f) (wkF g f ee kb)).toInt64), .long ((g 4 f).toInt64), .long 100]) (rest := []) ⟨hx, hb, hml, hown, hts⟩ (c_X2_share l dC dI cA s.heap ((rwF g (g 2 f) (wkF g f ee kb)).toInt64) ((g 4 f).toInt64) 100) ⟨(va_cnB 3 hts gX1_stressOn_X2_share_n56 rfl rfl rfl (hN (.methodLinkNest RX1 56 yX2_share "SectionFibres") (List.mem_of_getElem? (i := 7) rfl)) (hts (.initialized RX2) mbX1_stressOn_8) (by decide +kernel) ⟨Nat.le_of_ble_eq_true rfl, Nat.le_of_ble_eq_true rfl⟩), hts (.static yX2_share) mbX1_stressOn_9, trivial⟩ ⟨rd_bl, rd_pre hK hN⟩ rfl rfl hl.1 rfl (lv_room (Nat.le_of_ble_eq_true rfl)) dX1_stressOn_31 ⟨Nat.zero_le _, Nat.zero_le _⟩) hS (fun r5 locs hq6 hS => ?_)
  have hq6 : r5 = sh ((rwF g (g 2 f) (wkF g f ee kb)).toInt64) ((g 4 f).toInt64) 100 := hq6
  subst hq6
  exact W.iret (v := (sh ((rwF g (g 2 f) (wkF g f ee kb)).toInt64) ((g 4 f).toInt64) 100)) hx hb hr (fun t9 ht9 hW9 => ⟨⟨_, (), rfl, rfl, ht9⟩, hS.F ht9⟩) hS.2.2 dX1_stressOn_34

set_option maxRecDepth 20000 in
theorem miX1_sumOf_X1 : ∀ w ∈ u_ws RX1 TX1 7, w ∈ wsX1_sumOf := by decide +kernel
set_option maxRecDepth 20000 in
theorem mbX1_sumOf_1 : (.fieldLink RX1 34 "SectionFibres$Section" "size" "I" : Cond) ∈ wsX1_sumOf := by decide +kernel
set_option maxRecDepth 20000 in
theorem mbX1_sumOf_2 : (.fieldLink RX1 18 "SectionFibres$Section" "areas" "[I" : Cond) ∈ wsX1_sumOf := by decide +kernel
set_option maxRecDepth 20000 in
theorem mbX1_sumOf_3 : (.fieldLink RX1 22 "SectionFibres$Section" "places" "[I" : Cond) ∈ wsX1_sumOf := by decide +kernel
set_option maxHeartbeats 4000000 in
set_option maxRecDepth 100000 in
theorem c_X1_sumOf (l : Launch) (dC : Nat → ClassId) (dI : Nat → Nat → Nat) (cA : ClassId) (H : Heap) (A : Nat → Nat) (g : Gg) (n : Nat) (hs pe pk : Int32) (fo mo : Int64) (hP : va_P (dC, dI) vwCl (wC cA A g n hs pe pk fo mo) H) (hg : InvG g) (hn : n ≤ 41) (w : Bool) (wh : Int32) (hw : wh = 1 ↔ w = true) (ee kb : Int32) : Met l yX1_sumOf wsX1_sumOf ({ frames := 3, cells := 0, slots := 0, locals := 74 }) (rd_P [.ref (A 1), .int wh, .int ee, .int kb] H (dC, dI) vwCl [(cA, .int)]) (rd_Ql H (fun r => r = smF g w ee kb n)) 0 0 nF := by
  refine Met.ofW (cc := cX1_sumOf) (maxL := 9) (ret := (some .long)) (by decide) rfl ?_
  intro p e s m args below meth c s₁ B hml hv
  obtain ⟨rfl, hH, hK, hN⟩ := hv
  subst hH
  have hx := B.exec
  have hb := B.bytes
  have hr := B.returns
  have hts := atoms_spec (ws := wsX1_sumOf) B.pre
  have hown : s.vm.findClass RX1 = some m.cls := findClass_of_methodNamed B.named
  have hlocks := B.notSynchronized
  have hS : va_S nF s.heap s.heap [] := va_S.rf
  have hl := lv_entry ([.ref (A 1), .int wh, .int ee, .int kb]) (n := 9) (Nat.le_of_ble_eq_true rfl)
  rw [lg_entry_eq]
  generalize (lg_sl ([.ref (A 1), .int wh, .int ee, .int kb]) ++ List.replicate (9 - (lg_sl ([.ref (A 1), .int wh, .int ee, .int kb])).length) Slot.unset).toArray = ls at hl ⊢
  have hl : lv_has ls 9 [(0, .ref (A 1)), (1, .int wh), (2, .int ee), (3, .int kb)] := hl
  refine lv_lconst (v := 0) hx hb dX1_sumOf_0 (by decide) ?_
  refine lv_lstore (lv' := [(4, .long 0), (0, .ref (A 1)), (1, .int wh), (2, .int ee), (3, .int kb)]) hx hb dX1_sumOf_1 hl (by decide) rfl (fun ls hl => ?_)
  refine lv_iconst (v := 0) hx hb dX1_sumOf_3 (by decide) ?_
  refine tp_i (v := nI 0) (rfl) ?_
  refine lv_istore (lv' := [(6, .int (nI 0)), (4, .long 0), (0, .ref (A 1)), (1, .int wh), (2, .int ee), (3, .int kb)]) hx hb dX1_sumOf_4 hl (by decide) rfl (fun ls hl => ?_)
  have lp : ∀ (z : Nat) (i : Nat) (locs : List Loc) (ls : Array Slot), i ≤ n → n + 1 ≤ i + z → va_S nF s.heap s.heap locs → lv_has ls 9 [(0, .ref (A 1)), (1, .int wh), (2, .int ee), (3, .int kb), (4, .long (smF g w ee kb i)), (6, .int (nI i))] → W p l e (headSpec wsX1_sumOf ({ frames := 3, cells := 0, slots := 0, locals := 74 })).room s m ([.ref (A 1), .int wh, .int ee, .int kb]).toArray below meth c s.heap locs 0 0 (MQ below (rd_Ql s.heap (fun r => r = smF g w ee kb n)) ([.ref (A 1), .int wh, .int ee, .int kb]).toArray s 0 0 nF) (F0 m 6 ls []) := by
    intro z
    induction z with
    | zero =>
      intro i locs ls h1 h2 hS hl
      exact absurd h2 (by omega)
    | succ z ih =>
      intro i locs ls h1 h2 hS hl
      refine lv_iload hx hb dX1_sumOf_6 (lv_at hl 5 rfl) ?_
      refine lv_aload_n hx hb dX1_sumOf_8 rfl (lv_at hl 0 rfl) ?_
      refine va_get (D := (dC, dI)) (ci := 2) (v := .int (nI n)) (C := RX1) (T := TX1) (N := 7) hx hb hts miX1_sumOf_X1 hown hK hP 1 rfl rfl 6 (by decide) (hts (.fieldLink RX1 34 "SectionFibres$Section" "size" "I") mbX1_sumOf_1) (fun _ h9 => h9) rfl dX1_sumOf_9 ?_
      refine lv_icmp_ge (tgt := 67) hx hb dX1_sumOf_12 (by decide) (fun c1 => ?_) (fun c1 => ?_)
      · have hi : i = n := by have h9 := (nI_leI (by omega) (by omega)).mp c1; omega
        refine lv_lload hx hb dX1_sumOf_67 (lv_at hl 4 rfl) ?_
        exact W.lret (v := (smF g w ee kb i)) hx hb hr (fun t9 ht9 hW9 => ⟨⟨_, (), rfl, (by rw [hi]), ht9⟩, hS.F ht9⟩) hS.2.2 dX1_sumOf_69
      · have hi : i < n := by rcases Nat.lt_or_ge i n with h9 | h9; exact h9; exact absurd (nI_le h9 (by omega)) c1
        refine lv_aload_n hx hb dX1_sumOf_15 rfl (lv_at hl 0 rfl) ?_
        refine va_get (D := (dC, dI)) (ci := 2) (v := .ref (A 3)) (C := RX1) (T := TX1) (N := 7) hx hb hts miX1_sumOf_X1 hown hK hP 1 rfl rfl 1 (by decide) (hts (.fieldLink RX1 18 "SectionFibres$Section" "areas" "[I") mbX1_sumOf_2) (fun _ h9 => h9) rfl dX1_sumOf_16 ?_
        refine lv_iload hx hb dX1_sumOf_19 (lv_at hl 5 rfl) ?_
        refine ialn hx hb hK hP 3 0 rfl rfl i (rfl) (by omega) (by decide) dX1_sumOf_21 ?_
        refine lv_i2l hx hb dX1_sumOf_22 rfl ?_
        refine lv_aload_n hx hb dX1_sumOf_23 rfl (lv_at hl 0 rfl) ?_
        refine lv_iload hx hb dX1_sumOf_24 (lv_at hl 5 rfl) ?_
        refine lv_iload_n hx hb dX1_sumOf_26 rfl (lv_at hl 2 rfl) ?_
        refine lv_iload_n hx hb dX1_sumOf_27 rfl (lv_at hl 3 rfl) ?_
        refine rd_i (va_runV (As := [.int (nI i), .int ee, .int kb]) (rest := [.long ((g 0 i).toInt64)]) ⟨hx, hb, hml, hown, hts⟩ (c_X1_stressOn l dC dI cA s.heap A g n hs pe pk fo mo hP hg i (by omega) ee kb) (cwV 3 hts gX1_sumOf_X1_stressOn rfl rfl rfl (by decide +kernel) ⟨Nat.le_of_ble_eq_true rfl, Nat.le_of_ble_eq_true rfl⟩) ⟨rd_bl, va_recv hK hP (ci := 2) (q0 := 1) rfl rfl, rd_pre hK hN⟩ rfl rfl hl.1 rfl (lv_room (Nat.le_of_ble_eq_true rfl)) dX1_sumOf_28 ⟨Nat.zero_le _, Nat.zero_le _⟩) hS (fun r1 locs hq2 hS => ?_)
        have hq2 : r1 = stF g i ee kb := hq2
        subst hq2
        refine lv_i2l hx hb dX1_sumOf_31 rfl ?_
        refine lv_lmul hx hb dX1_sumOf_32 ?_
        refine lv_lstore (lv' := [(7, .long (((g 0 i).toInt64) * ((stF g i ee kb).toInt64))), (0, .ref (A 1)), (1, .int wh), (2, .int ee), (3, .int kb), (4, .long (smF g w ee kb i)), (6, .int (nI i))]) hx hb dX1_sumOf_33 hl (by decide) rfl (fun ls hl => ?_)
        refine lv_lload hx hb dX1_sumOf_35 (lv_at hl 5 rfl) ?_
        refine lv_iload_n hx hb dX1_sumOf_37 rfl (lv_at hl 2 rfl) ?_
        refine lv_iconst (v := 1) hx hb dX1_sumOf_38 (by decide) ?_
        refine lv_icmp_ne (tgt := 56) hx hb dX1_sumOf_39 (by decide) (fun c2 => ?_) (fun c2 => ?_)
        · refine lv_lload hx hb dX1_sumOf_56 (lv_at hl 0 rfl) ?_
          refine lv_ladd hx hb dX1_sumOf_58 ?_
          refine tp_l (v := smF g w ee kb (i + 1)) (by rw [Bool.eq_false_iff.mpr (fun h9 => c2 (hw.mpr h9))]; rfl) ?_
          refine lv_lstore (lv' := [(4, .long (smF g w ee kb (i + 1))), (7, .long (((g 0 i).toInt64) * ((stF g i ee kb).toInt64))), (0, .ref (A 1)), (1, .int wh), (2, .int ee), (3, .int kb), (6, .int (nI i))]) hx hb dX1_sumOf_59 hl (by decide) rfl (fun ls hl => ?_)
          refine lv_iinc (v := nI (i + 1)) (lv' := [(6, .int (nI (i + 1))), (4, .long (smF g w ee kb (i + 1))), (7, .long (((g 0 i).toInt64) * ((stF g i ee kb).toInt64))), (0, .ref (A 1)), (1, .int wh), (2, .int ee), (3, .int kb)]) hx hb dX1_sumOf_61 hl (k := 6) rfl (nI_1 i) (by decide) rfl (fun ls hl => ?_)
          refine lv_goto (tgt := 6) hx hb dX1_sumOf_64 (by decide) ?_
          exact ih (i + 1) _ _ (by omega) (by omega) hS (lv_sub hl [3, 4, 5, 6, 1, 0] rfl)
        · refine lv_lload hx hb dX1_sumOf_42 (lv_at hl 0 rfl) ?_
          refine lv_aload_n hx hb dX1_sumOf_44 rfl (lv_at hl 1 rfl) ?_
          refine va_get (D := (dC, dI)) (ci := 2) (v := .ref (A 4)) (C := RX1) (T := TX1) (N := 7) hx hb hts miX1_sumOf_X1 hown hK hP 1 rfl rfl 2 (by decide) (hts (.fieldLink RX1 22 "SectionFibres$Section" "places" "[I") mbX1_sumOf_3) (fun _ h9 => h9) rfl dX1_sumOf_45 ?_
          refine lv_iload hx hb dX1_sumOf_48 (lv_at hl 6 rfl) ?_
          refine ialn hx hb hK hP 4 0 rfl rfl i (rfl) (by omega) (by decide) dX1_sumOf_50 ?_
          refine lv_i2l hx hb dX1_sumOf_51 rfl ?_
          refine lv_lmul hx hb dX1_sumOf_52 ?_
          refine lv_goto (tgt := 58) hx hb dX1_sumOf_53 (by decide) ?_
          refine lv_ladd hx hb dX1_sumOf_58 ?_
          refine tp_l (v := smF g w ee kb (i + 1)) (by rw [hw.mp c2]; rfl) ?_
          refine lv_lstore (lv' := [(4, .long (smF g w ee kb (i + 1))), (7, .long (((g 0 i).toInt64) * ((stF g i ee kb).toInt64))), (0, .ref (A 1)), (1, .int wh), (2, .int ee), (3, .int kb), (6, .int (nI i))]) hx hb dX1_sumOf_59 hl (by decide) rfl (fun ls hl => ?_)
          refine lv_iinc (v := nI (i + 1)) (lv' := [(6, .int (nI (i + 1))), (4, .long (smF g w ee kb (i + 1))), (7, .long (((g 0 i).toInt64) * ((stF g i ee kb).toInt64))), (0, .ref (A 1)), (1, .int wh), (2, .int ee), (3, .int kb)]) hx hb dX1_sumOf_61 hl (k := 6) rfl (nI_1 i) (by decide) rfl (fun ls hl => ?_)
          refine lv_goto (tgt := 6) hx hb dX1_sumOf_64 (by decide) ?_
          exact ih (i + 1) _ _ (by omega) (by omega) hS (lv_sub hl [3, 4, 5, 6, 1, 0] rfl)
  exact lp (n + 1) 0 _ _ (Nat.zero_le _) (by omega) hS (lv_sub hl [2, 3, 4, 5, 1, 0] rfl)

set_option maxRecDepth 20000 in
theorem miX1_firstBeyond_X1 : ∀ w ∈ u_ws RX1 TX1 7, w ∈ wsX1_firstBeyond := by decide +kernel
set_option maxRecDepth 20000 in
theorem mbX1_firstBeyond_1 : (.fieldLink RX1 34 "SectionFibres$Section" "size" "I" : Cond) ∈ wsX1_firstBeyond := by decide +kernel
set_option maxRecDepth 20000 in
theorem mbX1_firstBeyond_2 : (.fieldLink RX1 12 "SectionFibres$Section" "kinds" "LSectionFibres$Kinds;" : Cond) ∈ wsX1_firstBeyond := by decide +kernel
set_option maxRecDepth 20000 in
theorem mbX1_firstBeyond_3 : (.fieldLink RX1 25 "SectionFibres$Section" "kindOf" "[I" : Cond) ∈ wsX1_firstBeyond := by decide +kernel
set_option maxRecDepth 20000 in
theorem mbX1_firstBeyond_4 : (.initialized RX0 : Cond) ∈ wsX1_firstBeyond := by decide +kernel
set_option maxRecDepth 20000 in
theorem mbX1_firstBeyond_5 : (.instanceMethod yX0_isBeyond : Cond) ∈ wsX1_firstBeyond := by decide +kernel
set_option maxRecDepth 20000 in
theorem mbX1_firstBeyond_6 : (.selects RX0 yX0_isBeyond yX0_isBeyond : Cond) ∈ wsX1_firstBeyond := by decide +kernel
set_option maxHeartbeats 4000000 in
set_option maxRecDepth 100000 in
theorem c_X1_firstBeyond (l : Launch) (dC : Nat → ClassId) (dI : Nat → Nat → Nat) (cA : ClassId) (H : Heap) (A : Nat → Nat) (g : Gg) (n : Nat) (hs pe pk : Int32) (fo mo : Int64) (hP : va_P (dC, dI) vwCl (wC cA A g n hs pe pk fo mo) H) (hg : InvG g) (hn : n ≤ 41) (ee kb : Int32) : Met l yX1_firstBeyond wsX1_firstBeyond ({ frames := 2, cells := 0, slots := 0, locals := 50 }) (rd_P [.ref (A 1), .int ee, .int kb] H (dC, dI) vwCl [(cA, .int)]) (rd_Qi H (fun r => r = fbF g ee kb n 0)) 0 0 nF := by
  refine Met.ofW (cc := cX1_firstBeyond) (maxL := 4) (ret := (some .int)) (by decide) rfl ?_
  intro p e s m args below meth c s₁ B hml hv
  obtain ⟨rfl, hH, hK, hN⟩ := hv
  subst hH
  have hx := B.exec
  have hb := B.bytes
  have hr := B.returns
  have hts := atoms_spec (ws := wsX1_firstBeyond) B.pre
  have hown : s.vm.findClass RX1 = some m.cls := findClass_of_methodNamed B.named
  have hlocks := B.notSynchronized
  have hS : va_S nF s.heap s.heap [] := va_S.rf
  have hl := lv_entry ([.ref (A 1), .int ee, .int kb]) (n := 4) (Nat.le_of_ble_eq_true rfl)
  rw [lg_entry_eq]
  generalize (lg_sl ([.ref (A 1), .int ee, .int kb]) ++ List.replicate (4 - (lg_sl ([.ref (A 1), .int ee, .int kb])).length) Slot.unset).toArray = ls at hl ⊢
  have hl : lv_has ls 4 [(0, .ref (A 1)), (1, .int ee), (2, .int kb)] := hl
  refine lv_iconst (v := 0) hx hb dX1_firstBeyond_0 (by decide) ?_
  refine tp_i (v := nI 0) (rfl) ?_
  refine lv_istore_n (lv' := [(3, .int (nI 0)), (0, .ref (A 1)), (1, .int ee), (2, .int kb)]) hx hb dX1_firstBeyond_1 rfl hl (by decide) rfl (fun ls hl => ?_)
  have lp : ∀ (z : Nat) (i : Nat) (locs : List Loc) (ls : Array Slot), i ≤ n → n + 1 ≤ i + z → fbF g ee kb n 0 = fbF g ee kb (n - i) i → va_S nF s.heap s.heap locs → lv_has ls 4 [(0, .ref (A 1)), (1, .int ee), (2, .int kb), (3, .int (nI i))] → W p l e (headSpec wsX1_firstBeyond ({ frames := 2, cells := 0, slots := 0, locals := 50 })).room s m ([.ref (A 1), .int ee, .int kb]).toArray below meth c s.heap locs 0 0 (MQ below (rd_Qi s.heap (fun r => r = fbF g ee kb n 0)) ([.ref (A 1), .int ee, .int kb]).toArray s 0 0 nF) (F0 m 2 ls []) := by
    intro z
    induction z with
    | zero =>
      intro i locs ls h1 h2 hv hS hl
      exact absurd h2 (by omega)
    | succ z ih =>
      intro i locs ls h1 h2 hv hS hl
      refine lv_iload_n hx hb dX1_firstBeyond_2 rfl (lv_at hl 3 rfl) ?_
      refine lv_aload_n hx hb dX1_firstBeyond_3 rfl (lv_at hl 0 rfl) ?_
      refine va_get (D := (dC, dI)) (ci := 2) (v := .int (nI n)) (C := RX1) (T := TX1) (N := 7) hx hb hts miX1_firstBeyond_X1 hown hK hP 1 rfl rfl 6 (by decide) (hts (.fieldLink RX1 34 "SectionFibres$Section" "size" "I") mbX1_firstBeyond_1) (fun _ h9 => h9) rfl dX1_firstBeyond_4 ?_
      refine lv_icmp_ge (tgt := 41) hx hb dX1_firstBeyond_7 (by decide) (fun c1 => ?_) (fun c1 => ?_)
      · have hi : i = n := by have h9 := (nI_leI (by omega) (by omega)).mp c1; omega
        refine lv_iconst (v := (-1)) hx hb dX1_firstBeyond_41 (by decide) ?_
        exact W.iret (v := (-1)) hx hb hr (fun t9 ht9 hW9 => ⟨⟨_, (), rfl, (by rw [hv, hi, Nat.sub_self]; rfl), ht9⟩, hS.F ht9⟩) hS.2.2 dX1_firstBeyond_42
      · have hi : i < n := by rcases Nat.lt_or_ge i n with h9 | h9; exact h9; exact absurd (nI_le h9 (by omega)) c1
        refine lv_aload_n hx hb dX1_firstBeyond_10 rfl (lv_at hl 0 rfl) ?_
        refine va_get (D := (dC, dI)) (ci := 2) (v := .ref (A 2)) (C := RX1) (T := TX1) (N := 7) hx hb hts miX1_firstBeyond_X1 hown hK hP 1 rfl rfl 0 (by decide) (hts (.fieldLink RX1 12 "SectionFibres$Section" "kinds" "LSectionFibres$Kinds;") mbX1_firstBeyond_2) (fun _ h9 => h9) rfl dX1_firstBeyond_11 ?_
        refine lv_aload_n hx hb dX1_firstBeyond_14 rfl (lv_at hl 0 rfl) ?_
        refine va_get (D := (dC, dI)) (ci := 2) (v := .ref (A 5)) (C := RX1) (T := TX1) (N := 7) hx hb hts miX1_firstBeyond_X1 hown hK hP 1 rfl rfl 3 (by decide) (hts (.fieldLink RX1 25 "SectionFibres$Section" "kindOf" "[I") mbX1_firstBeyond_3) (fun _ h9 => h9) rfl dX1_firstBeyond_15 ?_
        refine lv_iload_n hx hb dX1_firstBeyond_18 rfl (lv_at hl 3 rfl) ?_
        refine ialn hx hb hK hP 5 0 rfl rfl i (rfl) (by omega) (by decide) dX1_firstBeyond_19 ?_
        refine lv_aload_n hx hb dX1_firstBeyond_20 rfl (lv_at hl 0 rfl) ?_
        refine lv_iload_n hx hb dX1_firstBeyond_21 rfl (lv_at hl 3 rfl) ?_
        refine lv_iload_n hx hb dX1_firstBeyond_22 rfl (lv_at hl 1 rfl) ?_
        refine lv_iload_n hx hb dX1_firstBeyond_23 rfl (lv_at hl 2 rfl) ?_
        refine rd_i (va_runV (As := [.int (nI i), .int ee, .int kb]) (rest := [.int (g 2 i), .ref (A 2)]) ⟨hx, hb, hml, hown, hts⟩ (c_X1_worksOn l dC dI cA s.heap A g n hs pe pk fo mo hP hg i (by omega) ee kb) (cwV 3 hts gX1_firstBeyond_X1_worksOn rfl rfl rfl (by decide +kernel) ⟨Nat.le_of_ble_eq_true rfl, Nat.le_of_ble_eq_true rfl⟩) ⟨rd_bl, va_recv hK hP (ci := 2) (q0 := 1) rfl rfl, rd_pre hK hN⟩ rfl rfl hl.1 rfl (lv_room (Nat.le_of_ble_eq_true rfl)) dX1_firstBeyond_24 ⟨Nat.zero_le _, Nat.zero_le _⟩) hS (fun r1 locs hq2 hS => ?_)
        have hq2 : r1 = wkF g i ee kb := hq2
        subst hq2
        refine rd_i (va_runVN (As := [.int (g 2 i), .int (wkF g i ee kb)]) (rest := []) ⟨hx, hb, hml, hown, hts⟩ (c_X0_isBeyond l dC dI cA s.heap A g n hs pe pk fo mo hP hg (g 2 i) (wkF g i ee kb) (hg.1 i (by omega))) ⟨(va_cnB 2 hts gX1_firstBeyond_X0_isBeyond_n70 rfl rfl rfl (hN (.methodLinkNest RX1 70 yX0_isBeyond "SectionFibres") (List.mem_of_getElem? (i := 13) rfl)) (hts (.initialized RX0) mbX1_firstBeyond_4) (by decide +kernel) ⟨Nat.le_of_ble_eq_true rfl, Nat.le_of_ble_eq_true rfl⟩), hts (.instanceMethod yX0_isBeyond) mbX1_firstBeyond_5, hts (.selects RX0 yX0_isBeyond yX0_isBeyond) mbX1_firstBeyond_6⟩ ⟨rd_bl, va_recv hK hP (ci := 1) (q0 := 2) rfl rfl, rd_pre hK hN⟩ rfl rfl hl.1 rfl (lv_room (Nat.le_of_ble_eq_true rfl)) dX1_firstBeyond_27 ⟨Nat.zero_le _, Nat.zero_le _⟩) hS (fun r3 locs hq4 hS => ?_)
        rcases hq4 with ⟨hq4, rfl⟩ | ⟨hq4, rfl⟩
        · have hq9 : byF g (g 2 i) (wkF g i ee kb) := hq4
          refine lv_if_eq (tgt := 35) hx hb dX1_firstBeyond_30 (by decide) (fun h9 => absurd h9 (by decide)) (fun _ => ?_)
          refine lv_iload_n hx hb dX1_firstBeyond_33 rfl (lv_at hl 3 rfl) ?_
          exact W.iret (v := (nI i)) hx hb hr (fun t9 ht9 hW9 => ⟨⟨_, (), rfl, (by rw [hv, show n - i = (n - (i + 1)) + 1 by omega, fbF_t hq9]), ht9⟩, hS.F ht9⟩) hS.2.2 dX1_firstBeyond_34
        · have hq9 : ¬ (byF g (g 2 i) (wkF g i ee kb)) := hq4
          refine lv_if_eq (tgt := 35) hx hb dX1_firstBeyond_30 (by decide) (fun _ => ?_) (fun h9 => absurd h9 (by decide))
          refine lv_iinc (v := nI (i + 1)) (lv' := [(3, .int (nI (i + 1))), (0, .ref (A 1)), (1, .int ee), (2, .int kb)]) hx hb dX1_firstBeyond_35 hl (k := 3) rfl (nI_1 i) (by decide) rfl (fun ls hl => ?_)
          refine lv_goto (tgt := 2) hx hb dX1_firstBeyond_38 (by decide) ?_
          exact ih (i + 1) _ _ (by omega) (by omega) (by rw [hv, show n - i = (n - (i + 1)) + 1 by omega, fbF_f hq9]) hS (lv_sub hl [1, 2, 3, 0] rfl)
  exact lp (n + 1) 0 _ _ (Nat.zero_le _) (by omega) rfl hS (lv_sub hl [1, 2, 3, 0] rfl)

set_option maxRecDepth 20000 in
theorem miX1_allAreas_X1 : ∀ w ∈ u_ws RX1 TX1 7, w ∈ wsX1_allAreas := by decide +kernel
set_option maxRecDepth 20000 in
theorem mbX1_allAreas_1 : (.fieldLink RX1 34 "SectionFibres$Section" "size" "I" : Cond) ∈ wsX1_allAreas := by decide +kernel
set_option maxRecDepth 20000 in
theorem mbX1_allAreas_2 : (.fieldLink RX1 18 "SectionFibres$Section" "areas" "[I" : Cond) ∈ wsX1_allAreas := by decide +kernel
set_option maxHeartbeats 4000000 in
set_option maxRecDepth 100000 in
theorem c_X1_allAreas (l : Launch) (dC : Nat → ClassId) (dI : Nat → Nat → Nat) (cA : ClassId) (H : Heap) (A : Nat → Nat) (g : Gg) (n : Nat) (hs pe pk : Int32) (fo mo : Int64) (hP : va_P (dC, dI) vwCl (wC cA A g n hs pe pk fo mo) H) (hn : n ≤ 41) : Met l yX1_allAreas wsX1_allAreas ({ frames := 0, cells := 0, slots := 0, locals := 0 }) (rd_P [.ref (A 1)] H (dC, dI) vwCl [(cA, .int)]) (rd_Qi H (fun r => r = arF g n)) 0 0 nF := by
  refine Met.ofW (cc := cX1_allAreas) (maxL := 3) (ret := (some .int)) (by decide) rfl ?_
  intro p e s m args below meth c s₁ B hml hv
  obtain ⟨rfl, hH, hK, hN⟩ := hv
  subst hH
  have hx := B.exec
  have hb := B.bytes
  have hr := B.returns
  have hts := atoms_spec (ws := wsX1_allAreas) B.pre
  have hown : s.vm.findClass RX1 = some m.cls := findClass_of_methodNamed B.named
  have hlocks := B.notSynchronized
  have hS : va_S nF s.heap s.heap [] := va_S.rf
  have hl := lv_entry ([.ref (A 1)]) (n := 3) (Nat.le_of_ble_eq_true rfl)
  rw [lg_entry_eq]
  generalize (lg_sl ([.ref (A 1)]) ++ List.replicate (3 - (lg_sl ([.ref (A 1)])).length) Slot.unset).toArray = ls at hl ⊢
  have hl : lv_has ls 3 [(0, .ref (A 1))] := hl
  refine lv_iconst (v := 0) hx hb dX1_allAreas_0 (by decide) ?_
  refine lv_istore_n (lv' := [(1, .int 0), (0, .ref (A 1))]) hx hb dX1_allAreas_1 rfl hl (by decide) rfl (fun ls hl => ?_)
  refine lv_iconst (v := 0) hx hb dX1_allAreas_2 (by decide) ?_
  refine tp_i (v := nI 0) (rfl) ?_
  refine lv_istore_n (lv' := [(2, .int (nI 0)), (1, .int 0), (0, .ref (A 1))]) hx hb dX1_allAreas_3 rfl hl (by decide) rfl (fun ls hl => ?_)
  have lp : ∀ (z : Nat) (i : Nat) (locs : List Loc) (ls : Array Slot), i ≤ n → n + 1 ≤ i + z → va_S nF s.heap s.heap locs → lv_has ls 3 [(0, .ref (A 1)), (1, .int (arF g i)), (2, .int (nI i))] → W p l e (headSpec wsX1_allAreas ({ frames := 0, cells := 0, slots := 0, locals := 0 })).room s m ([.ref (A 1)]).toArray below meth c s.heap locs 0 0 (MQ below (rd_Qi s.heap (fun r => r = arF g n)) ([.ref (A 1)]).toArray s 0 0 nF) (F0 m 4 ls []) := by
    intro z
    induction z with
    | zero =>
      intro i locs ls h1 h2 hS hl
      exact absurd h2 (by omega)
    | succ z ih =>
      intro i locs ls h1 h2 hS hl
      refine lv_iload_n hx hb dX1_allAreas_4 rfl (lv_at hl 2 rfl) ?_
      refine lv_aload_n hx hb dX1_allAreas_5 rfl (lv_at hl 0 rfl) ?_
      refine va_get (D := (dC, dI)) (ci := 2) (v := .int (nI n)) (C := RX1) (T := TX1) (N := 7) hx hb hts miX1_allAreas_X1 hown hK hP 1 rfl rfl 6 (by decide) (hts (.fieldLink RX1 34 "SectionFibres$Section" "size" "I") mbX1_allAreas_1) (fun _ h9 => h9) rfl dX1_allAreas_6 ?_
      refine lv_icmp_ge (tgt := 27) hx hb dX1_allAreas_9 (by decide) (fun c1 => ?_) (fun c1 => ?_)
      · have hi : i = n := by have h9 := (nI_leI (by omega) (by omega)).mp c1; omega
        refine lv_iload_n hx hb dX1_allAreas_27 rfl (lv_at hl 1 rfl) ?_
        exact W.iret (v := (arF g i)) hx hb hr (fun t9 ht9 hW9 => ⟨⟨_, (), rfl, (by rw [hi]), ht9⟩, hS.F ht9⟩) hS.2.2 dX1_allAreas_28
      · have hi : i < n := by rcases Nat.lt_or_ge i n with h9 | h9; exact h9; exact absurd (nI_le h9 (by omega)) c1
        refine lv_iload_n hx hb dX1_allAreas_12 rfl (lv_at hl 1 rfl) ?_
        refine lv_aload_n hx hb dX1_allAreas_13 rfl (lv_at hl 0 rfl) ?_
        refine va_get (D := (dC, dI)) (ci := 2) (v := .ref (A 3)) (C := RX1) (T := TX1) (N := 7) hx hb hts miX1_allAreas_X1 hown hK hP 1 rfl rfl 1 (by decide) (hts (.fieldLink RX1 18 "SectionFibres$Section" "areas" "[I") mbX1_allAreas_2) (fun _ h9 => h9) rfl dX1_allAreas_14 ?_
        refine lv_iload_n hx hb dX1_allAreas_17 rfl (lv_at hl 2 rfl) ?_
        refine ialn hx hb hK hP 3 0 rfl rfl i (rfl) (by omega) (by decide) dX1_allAreas_18 ?_
        refine lv_iadd hx hb dX1_allAreas_19 ?_
        refine tp_i (v := arF g (i + 1)) (rfl) ?_
        refine lv_istore_n (lv' := [(1, .int (arF g (i + 1))), (0, .ref (A 1)), (2, .int (nI i))]) hx hb dX1_allAreas_20 rfl hl (by decide) rfl (fun ls hl => ?_)
        refine lv_iinc (v := nI (i + 1)) (lv' := [(2, .int (nI (i + 1))), (1, .int (arF g (i + 1))), (0, .ref (A 1))]) hx hb dX1_allAreas_21 hl (k := 2) rfl (nI_1 i) (by decide) rfl (fun ls hl => ?_)
        refine lv_goto (tgt := 4) hx hb dX1_allAreas_24 (by decide) ?_
        exact ih (i + 1) _ _ (by omega) (by omega) hS (lv_sub hl [2, 1, 0] rfl)
  exact lp (n + 1) 0 _ _ (Nat.zero_le _) (by omega) hS (lv_sub hl [2, 1, 0] rfl)

set_option maxRecDepth 20000 in
theorem mbX1_balanceOf_0 : (.constant RX1 78 (-1000000) : Cond) ∈ wsX1_balanceOf := by decide +kernel
set_option maxHeartbeats 4000000 in
set_option maxRecDepth 100000 in
theorem c_X1_balanceOf (l : Launch) (dC : Nat → ClassId) (dI : Nat → Nat → Nat) (cA : ClassId) (H : Heap) (A : Nat → Nat) (g : Gg) (n : Nat) (hs pe pk : Int32) (fo mo : Int64) (hP : va_P (dC, dI) vwCl (wC cA A g n hs pe pk fo mo) H) (hg : InvG g) (hn : n ≤ 41) (fr : Int64) (kb : Int32) : Met l yX1_balanceOf wsX1_balanceOf ({ frames := 4, cells := 0, slots := 0, locals := 102 }) (rd_P [.ref (A 1), .long fr, .int kb] H (dC, dI) vwCl [(cA, .int)]) (rd_Qi H (fun r => r = blF g n fr kb)) 0 0 nF := by
  refine Met.ofW (cc := cX1_balanceOf) (maxL := 8) (ret := (some .int)) (by decide) rfl ?_
  intro p e s m args below meth c s₁ B hml hv
  obtain ⟨rfl, hH, hK, hN⟩ := hv
  subst hH
  have hx := B.exec
  have hb := B.bytes
  have hr := B.returns
  have hts := atoms_spec (ws := wsX1_balanceOf) B.pre
  have hown : s.vm.findClass RX1 = some m.cls := findClass_of_methodNamed B.named
  have hlocks := B.notSynchronized
  have hS : va_S nF s.heap s.heap [] := va_S.rf
  have hl := lv_entry ([.ref (A 1), .long fr, .int kb]) (n := 8) (Nat.le_of_ble_eq_true rfl)
  rw [lg_entry_eq]
  generalize (lg_sl ([.ref (A 1), .long fr, .int kb]) ++ List.replicate (8 - (lg_sl ([.ref (A 1), .long fr, .int kb])).length) Slot.unset).toArray = ls at hl ⊢
  have hl : lv_has ls 8 [(0, .ref (A 1)), (1, .long fr), (3, .int kb)] := hl
  refine lv_sipush (v := (-20000)) hx hb dX1_balanceOf_0 (by decide) ?_
  refine tp_i (v := iI (-20000)) (by decide) ?_
  refine lv_istore (lv' := [(4, .int (iI (-20000))), (0, .ref (A 1)), (1, .long fr), (3, .int kb)]) hx hb dX1_balanceOf_3 hl (by decide) rfl (fun ls hl => ?_)
  refine lv_sipush (v := 20000) hx hb dX1_balanceOf_5 (by decide) ?_
  refine tp_i (v := iI 20000) (by decide) ?_
  refine lv_istore (lv' := [(5, .int (iI 20000)), (4, .int (iI (-20000))), (0, .ref (A 1)), (1, .long fr), (3, .int kb)]) hx hb dX1_balanceOf_8 hl (by decide) rfl (fun ls hl => ?_)
  refine lv_aload_n hx hb dX1_balanceOf_10 rfl (lv_at hl 2 rfl) ?_
  refine lv_iconst (v := 0) hx hb dX1_balanceOf_11 (by decide) ?_
  refine lv_iload hx hb dX1_balanceOf_12 (lv_at hl 0 rfl) ?_
  refine lv_iload_n hx hb dX1_balanceOf_14 rfl (lv_at hl 4 rfl) ?_
  refine rd_l (va_runV (As := [.int 0, .int (iI 20000), .int kb]) (rest := []) ⟨hx, hb, hml, hown, hts⟩ (c_X1_sumOf l dC dI cA s.heap A g n hs pe pk fo mo hP hg hn false 0 (by decide) (iI 20000) kb) (cwV 3 hts gX1_balanceOf_X1_sumOf rfl rfl rfl (by decide +kernel) ⟨Nat.le_of_ble_eq_true rfl, Nat.le_of_ble_eq_true rfl⟩) ⟨rd_bl, va_recv hK hP (ci := 2) (q0 := 1) rfl rfl, rd_pre hK hN⟩ rfl rfl hl.1 rfl (lv_room (Nat.le_of_ble_eq_true rfl)) dX1_balanceOf_15 ⟨Nat.zero_le _, Nat.zero_le _⟩) hS (fun r1 locs hq2 hS => ?_)
  have hq2 : r1 = smF g false (iI 20000) kb n := hq2
  subst hq2
  refine lv_lload_n hx hb dX1_balanceOf_18 rfl (lv_at hl 3 rfl) ?_
  refine W.lcmp hx hb dX1_balanceOf_19 ?_
  refine lv_if_ge (tgt := 26) hx hb dX1_balanceOf_20 (by decide) (fun c1 => ?_) (fun c1 => ?_)
  · have c1 := (lg_cmp_ge _ _).mp c1
    refine lv_iconst (v := 0) hx hb dX1_balanceOf_26 (by decide) ?_
    refine tp_i (v := nI 0) (rfl) ?_
    refine lv_istore (lv' := [(6, .int (nI 0)), (5, .int (iI 20000)), (4, .int (iI (-20000))), (0, .ref (A 1)), (1, .long fr), (3, .int kb)]) hx hb dX1_balanceOf_27 hl (by decide) rfl (fun ls hl => ?_)
    have lp : ∀ (z : Nat) (a : Int) (b : Int) (j : Nat) (locs : List Loc) (ls : Array Slot), -20000 ≤ a → a ≤ 20000 → -20000 ≤ b → b ≤ 20000 → j ≤ 32 → 33 ≤ j + z → bsF (fun x => fr ≤ smF g false (iI x) kb n) 32 (-20000) 20000 = bsF (fun x => fr ≤ smF g false (iI x) kb n) (32 - j) a b → va_S nF s.heap s.heap locs → lv_has ls 8 [(0, .ref (A 1)), (1, .long fr), (3, .int kb), (4, .int (iI a)), (5, .int (iI b)), (6, .int (nI j))] → W p l e (headSpec wsX1_balanceOf ({ frames := 4, cells := 0, slots := 0, locals := 102 })).room s m ([.ref (A 1), .long fr, .int kb]).toArray below meth c s.heap locs 0 0 (MQ below (rd_Qi s.heap (fun r => r = blF g n fr kb)) ([.ref (A 1), .long fr, .int kb]).toArray s 0 0 nF) (F0 m 29 ls []) := by
      intro z
      induction z with
      | zero =>
        intro a b j locs ls a1 a2 b1 b2 h1 h2 hv hS hl
        exact absurd h2 (by omega)
      | succ z ih =>
        intro a b j locs ls a1 a2 b1 b2 h1 h2 hv hS hl
        refine lv_iload hx hb dX1_balanceOf_29 (lv_at hl 5 rfl) ?_
        refine lv_bipush (v := 32) hx hb dX1_balanceOf_31 (by decide) ?_
        refine tp_i (v := nI 32) (rfl) ?_
        refine lv_icmp_ge (tgt := 86) hx hb dX1_balanceOf_33 (by decide) (fun c2 => ?_) (fun c2 => ?_)
        · have hj : j = 32 := by have h9 := (nI_leI (by omega) (by omega)).mp c2; omega
          refine lv_iload hx hb dX1_balanceOf_86 (lv_at hl 3 rfl) ?_
          exact W.iret (v := (iI a)) hx hb hr (fun t9 ht9 hW9 => ⟨⟨_, (), rfl, (by unfold blF; rw [if_neg (le_nlt64 c1), hv, hj, Nat.sub_self, show bsF (fun x => fr ≤ smF g false (iI x) kb n) 0 a b = a from rfl]), ht9⟩, hS.F ht9⟩) hS.2.2 dX1_balanceOf_88
        · have hj : j < 32 := by rcases Nat.lt_or_ge j 32 with h9 | h9; exact h9; exact absurd (nI_le h9 (by omega)) c2
          refine lv_iload hx hb dX1_balanceOf_36 (lv_at hl 3 rfl) ?_
          refine lv_iload hx hb dX1_balanceOf_38 (lv_at hl 4 rfl) ?_
          refine lv_icmp_ge (tgt := 86) hx hb dX1_balanceOf_40 (by decide) (fun c3 => ?_) (fun c3 => ?_)
          · have hab : ¬ a < b := by have h9 := (iI_le (by omega) (by omega) (by omega) (by omega)).mp c3; omega
            refine lv_iload hx hb dX1_balanceOf_86 (lv_at hl 3 rfl) ?_
            exact W.iret (v := (iI a)) hx hb hr (fun t9 ht9 hW9 => ⟨⟨_, (), rfl, (by unfold blF; rw [if_neg (le_nlt64 c1), hv, bs_end hab]), ht9⟩, hS.F ht9⟩) hS.2.2 dX1_balanceOf_88
          · have hab : a < b := by rcases Int.lt_or_le a b with h9 | h9; exact h9; exact absurd ((iI_le (by omega) (by omega) (by omega) (by omega)).mpr h9) c3
            refine lv_iload hx hb dX1_balanceOf_43 (lv_at hl 3 rfl) ?_
            refine lv_iload hx hb dX1_balanceOf_45 (lv_at hl 4 rfl) ?_
            refine lv_iadd hx hb dX1_balanceOf_47 ?_
            refine lv_iconst (v := 2) hx hb dX1_balanceOf_48 (by decide) ?_
            refine rd_i (va_runS (As := [.int ((iI a) + (iI b)), .int 2]) (rest := []) ⟨hx, hb, hml, hown, hts⟩ (c_J9_floorDiv_7cf53 l dC dI cA s.heap ((iI a) + (iI b)) 2 (by decide)) (va_cwS 2 hts gX1_balanceOf_J9_floorDiv_7cf53 rfl rfl rfl (by decide +kernel) ⟨Nat.le_of_ble_eq_true rfl, Nat.le_of_ble_eq_true rfl⟩) ⟨rd_bl, rd_pre hK hN⟩ rfl rfl hl.1 rfl (lv_room (Nat.le_of_ble_eq_true rfl)) dX1_balanceOf_49 ⟨Nat.zero_le _, Nat.zero_le _⟩) hS (fun r3 locs hq4 hS => ?_)
            have hq4 : r3 = fdv ((iI a) + (iI b)) 2 := hq4
            subst hq4
            refine tp_i (v := iI ((a + b) / 2)) (midC a1 a2 b1 b2) ?_
            refine lv_istore (lv' := [(7, .int (iI ((a + b) / 2))), (0, .ref (A 1)), (1, .long fr), (3, .int kb), (4, .int (iI a)), (5, .int (iI b)), (6, .int (nI j))]) hx hb dX1_balanceOf_52 hl (by decide) rfl (fun ls hl => ?_)
            refine lv_aload_n hx hb dX1_balanceOf_54 rfl (lv_at hl 1 rfl) ?_
            refine lv_iconst (v := 0) hx hb dX1_balanceOf_55 (by decide) ?_
            refine lv_iload hx hb dX1_balanceOf_56 (lv_at hl 0 rfl) ?_
            refine lv_iload_n hx hb dX1_balanceOf_58 rfl (lv_at hl 3 rfl) ?_
            refine rd_l (va_runV (As := [.int 0, .int (iI ((a + b) / 2)), .int kb]) (rest := []) ⟨hx, hb, hml, hown, hts⟩ (c_X1_sumOf l dC dI cA s.heap A g n hs pe pk fo mo hP hg hn false 0 (by decide) (iI ((a + b) / 2)) kb) (cwV 3 hts gX1_balanceOf_X1_sumOf rfl rfl rfl (by decide +kernel) ⟨Nat.le_of_ble_eq_true rfl, Nat.le_of_ble_eq_true rfl⟩) ⟨rd_bl, va_recv hK hP (ci := 2) (q0 := 1) rfl rfl, rd_pre hK hN⟩ rfl rfl hl.1 rfl (lv_room (Nat.le_of_ble_eq_true rfl)) dX1_balanceOf_59 ⟨Nat.zero_le _, Nat.zero_le _⟩) hS (fun r5 locs hq6 hS => ?_)
            have hq6 : r5 = smF g false (iI ((a + b) / 2)) kb n := hq6
            subst hq6
            refine lv_lload_n hx hb dX1_balanceOf_62 rfl (lv_at hl 2 rfl) ?_
            refine W.lcmp hx hb dX1_balanceOf_63 ?_
            refine lv_if_lt (tgt := 74) hx hb dX1_balanceOf_64 (by decide) (fun c4 => ?_) (fun c4 => ?_)
            · have c4 := (lg_cmp_lt _ _).mp c4
              refine lv_iload hx hb dX1_balanceOf_74 (lv_at hl 0 rfl) ?_
              refine lv_iconst (v := 1) hx hb dX1_balanceOf_76 (by decide) ?_
              refine lv_iadd hx hb dX1_balanceOf_77 ?_
              refine tp_i (v := iI ((a + b) / 2 + 1)) (by rw [← iI_ad]; rfl) ?_
              refine lv_istore (lv' := [(4, .int (iI ((a + b) / 2 + 1))), (7, .int (iI ((a + b) / 2))), (0, .ref (A 1)), (1, .long fr), (3, .int kb), (5, .int (iI b)), (6, .int (nI j))]) hx hb dX1_balanceOf_78 hl (by decide) rfl (fun ls hl => ?_)
              refine lv_iinc (v := nI (j + 1)) (lv' := [(6, .int (nI (j + 1))), (4, .int (iI ((a + b) / 2 + 1))), (7, .int (iI ((a + b) / 2))), (0, .ref (A 1)), (1, .long fr), (3, .int kb), (5, .int (iI b))]) hx hb dX1_balanceOf_80 hl (k := 6) rfl (nI_1 j) (by decide) rfl (fun ls hl => ?_)
              refine lv_goto (tgt := 29) hx hb dX1_balanceOf_83 (by decide) ?_
              exact ih ((a + b) / 2 + 1) b (j + 1) _ _ (by omega) (by omega) b1 b2 (by omega) (by omega) (by rw [hv, show 32 - j = (32 - (j + 1)) + 1 by omega, bs_f hab (lt_nle64 c4)]) hS (lv_sub hl [3, 4, 5, 1, 6, 0] rfl)
            · have c4 := mt (lg_cmp_lt _ _).mpr c4
              refine lv_iload hx hb dX1_balanceOf_67 (lv_at hl 0 rfl) ?_
              refine lv_istore (lv' := [(5, .int (iI ((a + b) / 2))), (7, .int (iI ((a + b) / 2))), (0, .ref (A 1)), (1, .long fr), (3, .int kb), (4, .int (iI a)), (6, .int (nI j))]) hx hb dX1_balanceOf_69 hl (by decide) rfl (fun ls hl => ?_)
              refine lv_goto (tgt := 80) hx hb dX1_balanceOf_71 (by decide) ?_
              refine lv_iinc (v := nI (j + 1)) (lv' := [(6, .int (nI (j + 1))), (5, .int (iI ((a + b) / 2))), (7, .int (iI ((a + b) / 2))), (0, .ref (A 1)), (1, .long fr), (3, .int kb), (4, .int (iI a))]) hx hb dX1_balanceOf_80 hl (k := 6) rfl (nI_1 j) (by decide) rfl (fun ls hl => ?_)
              refine lv_goto (tgt := 29) hx hb dX1_balanceOf_83 (by decide) ?_
              exact ih a ((a + b) / 2) (j + 1) _ _ a1 a2 (by omega) (by omega) (by omega) (by omega) (by rw [hv, show 32 - j = (32 - (j + 1)) + 1 by omega, bs_t hab (nlt_le64 c4)]) hS (lv_sub hl [3, 4, 5, 6, 1, 0] rfl)
    exact lp 33 (-20000) 20000 0 _ _ (by omega) (by omega) (by omega) (by omega) (by omega) (by omega) rfl hS (lv_sub hl [3, 4, 5, 2, 1, 0] rfl)
  · have c1 := mt (lg_cmp_ge _ _).mpr c1
    refine lv_ldc hx hb hown (hts (.constant RX1 78 (-1000000)) mbX1_balanceOf_0) dX1_balanceOf_23 ?_
    exact W.iret (v := (-1000000)) hx hb hr (fun t9 ht9 hW9 => ⟨⟨_, (), rfl, (by unfold blF; rw [if_pos (nle_lt64 c1)]), ht9⟩, hS.F ht9⟩) hS.2.2 dX1_balanceOf_25

set_option maxRecDepth 20000 in
theorem mbX1_bendFor_0 : (.constant RX1 78 (-1000000) : Cond) ∈ wsX1_bendFor := by decide +kernel
set_option maxRecDepth 20000 in
theorem mbX1_bendFor_1 : (.constant RX1 84 (1000002) : Cond) ∈ wsX1_bendFor := by decide +kernel
set_option maxRecDepth 20000 in
theorem mbX1_bendFor_2 : (.constant RX1 83 (1000001) : Cond) ∈ wsX1_bendFor := by decide +kernel
set_option maxHeartbeats 4000000 in
set_option maxRecDepth 100000 in
theorem c_X1_bendFor (l : Launch) (dC : Nat → ClassId) (dI : Nat → Nat → Nat) (cA : ClassId) (H : Heap) (A : Nat → Nat) (g : Gg) (n : Nat) (hs pe pk : Int32) (fo mo : Int64) (hP : va_P (dC, dI) vwCl (wC cA A g n hs pe pk fo mo) H) (hg : InvG g) (hn : n ≤ 41) (fr mv : Int64) : Met l yX1_bendFor wsX1_bendFor ({ frames := 5, cells := 0, slots := 0, locals := 129 }) (rd_P [.ref (A 1), .long fr, .long mv] H (dC, dI) vwCl [(cA, .int)]) (rd_Qi H (fun r => r = enF (slF g n fr mv))) 0 0 nF := by
  refine Met.ofW (cc := cX1_bendFor) (maxL := 10) (ret := (some .int)) (by decide) rfl ?_
  intro p e s m args below meth c s₁ B hml hv
  obtain ⟨rfl, hH, hK, hN⟩ := hv
  subst hH
  have hx := B.exec
  have hb := B.bytes
  have hr := B.returns
  have hts := atoms_spec (ws := wsX1_bendFor) B.pre
  have hown : s.vm.findClass RX1 = some m.cls := findClass_of_methodNamed B.named
  have hlocks := B.notSynchronized
  have hS : va_S nF s.heap s.heap [] := va_S.rf
  have hl := lv_entry ([.ref (A 1), .long fr, .long mv]) (n := 10) (Nat.le_of_ble_eq_true rfl)
  rw [lg_entry_eq]
  generalize (lg_sl ([.ref (A 1), .long fr, .long mv]) ++ List.replicate (10 - (lg_sl ([.ref (A 1), .long fr, .long mv])).length) Slot.unset).toArray = ls at hl ⊢
  have hl : lv_has ls 10 [(0, .ref (A 1)), (1, .long fr), (3, .long mv)] := hl
  refine lv_sipush (v := (-20000)) hx hb dX1_bendFor_0 (by decide) ?_
  refine tp_i (v := iI (-20000)) (by decide) ?_
  refine lv_istore (lv' := [(5, .int (iI (-20000))), (0, .ref (A 1)), (1, .long fr), (3, .long mv)]) hx hb dX1_bendFor_3 hl (by decide) rfl (fun ls hl => ?_)
  refine lv_sipush (v := 20000) hx hb dX1_bendFor_5 (by decide) ?_
  refine tp_i (v := iI 20000) (by decide) ?_
  refine lv_istore (lv' := [(6, .int (iI 20000)), (5, .int (iI (-20000))), (0, .ref (A 1)), (1, .long fr), (3, .long mv)]) hx hb dX1_bendFor_8 hl (by decide) rfl (fun ls hl => ?_)
  refine lv_iconst (v := 0) hx hb dX1_bendFor_10 (by decide) ?_
  refine tp_i (v := nI 0) (rfl) ?_
  refine lv_istore (lv' := [(7, .int (nI 0)), (6, .int (iI 20000)), (5, .int (iI (-20000))), (0, .ref (A 1)), (1, .long fr), (3, .long mv)]) hx hb dX1_bendFor_11 hl (by decide) rfl (fun ls hl => ?_)
  have lp : ∀ (z : Nat) (a : Int) (b : Int) (j : Nat) (locs : List Loc) (ls : Array Slot), -20000 ≤ a → a ≤ 20000 → -20000 ≤ b → b ≤ 20000 → j ≤ 32 → 33 ≤ j + z → slF g n fr mv = soF g n fr mv (32 - j) a b → va_S nF s.heap s.heap locs → lv_has ls 10 [(0, .ref (A 1)), (1, .long fr), (3, .long mv), (5, .int (iI a)), (6, .int (iI b)), (7, .int (nI j))] → W p l e (headSpec wsX1_bendFor ({ frames := 5, cells := 0, slots := 0, locals := 129 })).room s m ([.ref (A 1), .long fr, .long mv]).toArray below meth c s.heap locs 0 0 (MQ below (rd_Qi s.heap (fun r => r = enF (slF g n fr mv))) ([.ref (A 1), .long fr, .long mv]).toArray s 0 0 nF) (F0 m 13 ls []) := by
    intro z
    induction z with
    | zero =>
      intro a b j locs ls a1 a2 b1 b2 h1 h2 hv hS hl
      exact absurd h2 (by omega)
    | succ z ih =>
      intro a b j locs ls a1 a2 b1 b2 h1 h2 hv hS hl
      refine lv_iload hx hb dX1_bendFor_13 (lv_at hl 5 rfl) ?_
      refine lv_bipush (v := 32) hx hb dX1_bendFor_15 (by decide) ?_
      refine tp_i (v := nI 32) (rfl) ?_
      refine lv_icmp_ge (tgt := 90) hx hb dX1_bendFor_17 (by decide) (fun c2 => ?_) (fun c2 => ?_)
      · have hj : j = 32 := by have h9 := (nI_leI (by omega) (by omega)).mp c2; omega
        have hv : slF g n fr mv = soE g n fr mv a := by rw [hv, hj]; rfl
        refine lv_aload_n hx hb dX1_bendFor_90 rfl (lv_at hl 0 rfl) ?_
        refine lv_lload_n hx hb dX1_bendFor_91 rfl (lv_at hl 1 rfl) ?_
        refine lv_iload hx hb dX1_bendFor_92 (lv_at hl 3 rfl) ?_
        refine rd_i (va_runV (As := [.long fr, .int (iI a)]) (rest := []) ⟨hx, hb, hml, hown, hts⟩ (c_X1_balanceOf l dC dI cA s.heap A g n hs pe pk fo mo hP hg hn fr (iI a)) (cwV 2 hts gX1_bendFor_X1_balanceOf rfl rfl rfl (by decide +kernel) ⟨Nat.le_of_ble_eq_true rfl, Nat.le_of_ble_eq_true rfl⟩) ⟨rd_bl, va_recv hK hP (ci := 2) (q0 := 1) rfl rfl, rd_pre hK hN⟩ rfl rfl hl.1 rfl (lv_room (Nat.le_of_ble_eq_true rfl)) dX1_bendFor_94 ⟨Nat.zero_le _, Nat.zero_le _⟩) hS (fun r1 locs hq2 hS => ?_)
        have hq2 : r1 = blF g n fr (iI a) := hq2
        subst hq2
        refine lv_istore (lv' := [(7, .int (blF g n fr (iI a))), (0, .ref (A 1)), (1, .long fr), (3, .long mv), (5, .int (iI a)), (6, .int (iI b))]) hx hb dX1_bendFor_97 hl (by decide) rfl (fun ls hl => ?_)
        refine lv_iload hx hb dX1_bendFor_99 (lv_at hl 0 rfl) ?_
        refine lv_ldc hx hb hown (hts (.constant RX1 78 (-1000000)) mbX1_bendFor_0) dX1_bendFor_101 ?_
        refine lv_icmp_ne (tgt := 109) hx hb dX1_bendFor_103 (by decide) (fun c6 => ?_) (fun c6 => ?_)
        · refine lv_aload_n hx hb dX1_bendFor_109 rfl (lv_at hl 1 rfl) ?_
          refine lv_iconst (v := 1) hx hb dX1_bendFor_110 (by decide) ?_
          refine lv_iload hx hb dX1_bendFor_111 (lv_at hl 0 rfl) ?_
          refine lv_iload hx hb dX1_bendFor_113 (lv_at hl 4 rfl) ?_
          refine rd_l (va_runV (As := [.int 1, .int (blF g n fr (iI a)), .int (iI a)]) (rest := []) ⟨hx, hb, hml, hown, hts⟩ (c_X1_sumOf l dC dI cA s.heap A g n hs pe pk fo mo hP hg hn true 1 (by decide) (blF g n fr (iI a)) (iI a)) (cwV 3 hts gX1_bendFor_X1_sumOf rfl rfl rfl (by decide +kernel) ⟨Nat.le_of_ble_eq_true rfl, Nat.le_of_ble_eq_true rfl⟩) ⟨rd_bl, va_recv hK hP (ci := 2) (q0 := 1) rfl rfl, rd_pre hK hN⟩ rfl rfl hl.1 rfl (lv_room (Nat.le_of_ble_eq_true rfl)) dX1_bendFor_115 ⟨Nat.zero_le _, Nat.zero_le _⟩) hS (fun r3 locs hq4 hS => ?_)
          have hq4 : r3 = smF g true (blF g n fr (iI a)) (iI a) n := hq4
          subst hq4
          refine lv_lload_n hx hb dX1_bendFor_118 rfl (lv_at hl 3 rfl) ?_
          refine W.lcmp hx hb dX1_bendFor_119 ?_
          refine lv_if_ge (tgt := 128) hx hb dX1_bendFor_120 (by decide) (fun c7 => ?_) (fun c7 => ?_)
          · have c7 := (lg_cmp_ge _ _).mp c7
            refine lv_iload hx hb dX1_bendFor_128 (lv_at hl 4 rfl) ?_
            exact W.iret (v := (iI a)) hx hb hr (fun t9 ht9 hW9 => ⟨⟨_, (), rfl, (by rw [hv]; unfold soE; rw [if_neg c6, if_neg (le_nlt64 c7)]; rfl), ht9⟩, hS.F ht9⟩) hS.2.2 dX1_bendFor_130
          · have c7 := mt (lg_cmp_ge _ _).mpr c7
            refine lv_ldc hx hb hown (hts (.constant RX1 84 (1000002)) mbX1_bendFor_1) dX1_bendFor_123 ?_
            refine lv_goto (tgt := 130) hx hb dX1_bendFor_125 (by decide) ?_
            exact W.iret (v := 1000002) hx hb hr (fun t9 ht9 hW9 => ⟨⟨_, (), rfl, (by rw [hv]; unfold soE; rw [if_neg c6, if_pos (nle_lt64 c7)]; rfl), ht9⟩, hS.F ht9⟩) hS.2.2 dX1_bendFor_130
        · refine lv_ldc hx hb hown (hts (.constant RX1 83 (1000001)) mbX1_bendFor_2) dX1_bendFor_106 ?_
          exact W.iret (v := 1000001) hx hb hr (fun t9 ht9 hW9 => ⟨⟨_, (), rfl, (by rw [hv]; unfold soE; rw [if_pos c6]; rfl), ht9⟩, hS.F ht9⟩) hS.2.2 dX1_bendFor_108
      · have hj : j < 32 := by rcases Nat.lt_or_ge j 32 with h9 | h9; exact h9; exact absurd (nI_le h9 (by omega)) c2
        refine lv_iload hx hb dX1_bendFor_20 (lv_at hl 3 rfl) ?_
        refine lv_iload hx hb dX1_bendFor_22 (lv_at hl 4 rfl) ?_
        refine lv_icmp_ge (tgt := 90) hx hb dX1_bendFor_24 (by decide) (fun c3 => ?_) (fun c3 => ?_)
        · have hab : ¬ a < b := by have h9 := (iI_le (by omega) (by omega) (by omega) (by omega)).mp c3; omega
          have hv : slF g n fr mv = soE g n fr mv a := by rw [hv, so_end hab]
          refine lv_aload_n hx hb dX1_bendFor_90 rfl (lv_at hl 0 rfl) ?_
          refine lv_lload_n hx hb dX1_bendFor_91 rfl (lv_at hl 1 rfl) ?_
          refine lv_iload hx hb dX1_bendFor_92 (lv_at hl 3 rfl) ?_
          refine rd_i (va_runV (As := [.long fr, .int (iI a)]) (rest := []) ⟨hx, hb, hml, hown, hts⟩ (c_X1_balanceOf l dC dI cA s.heap A g n hs pe pk fo mo hP hg hn fr (iI a)) (cwV 2 hts gX1_bendFor_X1_balanceOf rfl rfl rfl (by decide +kernel) ⟨Nat.le_of_ble_eq_true rfl, Nat.le_of_ble_eq_true rfl⟩) ⟨rd_bl, va_recv hK hP (ci := 2) (q0 := 1) rfl rfl, rd_pre hK hN⟩ rfl rfl hl.1 rfl (lv_room (Nat.le_of_ble_eq_true rfl)) dX1_bendFor_94 ⟨Nat.zero_le _, Nat.zero_le _⟩) hS (fun r5 locs hq6 hS => ?_)
          have hq6 : r5 = blF g n fr (iI a) := hq6
          subst hq6
          refine lv_istore (lv' := [(7, .int (blF g n fr (iI a))), (0, .ref (A 1)), (1, .long fr), (3, .long mv), (5, .int (iI a)), (6, .int (iI b))]) hx hb dX1_bendFor_97 hl (by decide) rfl (fun ls hl => ?_)
          refine lv_iload hx hb dX1_bendFor_99 (lv_at hl 0 rfl) ?_
          refine lv_ldc hx hb hown (hts (.constant RX1 78 (-1000000)) mbX1_bendFor_0) dX1_bendFor_101 ?_
          refine lv_icmp_ne (tgt := 109) hx hb dX1_bendFor_103 (by decide) (fun c6 => ?_) (fun c6 => ?_)
          · refine lv_aload_n hx hb dX1_bendFor_109 rfl (lv_at hl 1 rfl) ?_
            refine lv_iconst (v := 1) hx hb dX1_bendFor_110 (by decide) ?_
            refine lv_iload hx hb dX1_bendFor_111 (lv_at hl 0 rfl) ?_
            refine lv_iload hx hb dX1_bendFor_113 (lv_at hl 4 rfl) ?_
            refine rd_l (va_runV (As := [.int 1, .int (blF g n fr (iI a)), .int (iI a)]) (rest := []) ⟨hx, hb, hml, hown, hts⟩ (c_X1_sumOf l dC dI cA s.heap A g n hs pe pk fo mo hP hg hn true 1 (by decide) (blF g n fr (iI a)) (iI a)) (cwV 3 hts gX1_bendFor_X1_sumOf rfl rfl rfl (by decide +kernel) ⟨Nat.le_of_ble_eq_true rfl, Nat.le_of_ble_eq_true rfl⟩) ⟨rd_bl, va_recv hK hP (ci := 2) (q0 := 1) rfl rfl, rd_pre hK hN⟩ rfl rfl hl.1 rfl (lv_room (Nat.le_of_ble_eq_true rfl)) dX1_bendFor_115 ⟨Nat.zero_le _, Nat.zero_le _⟩) hS (fun r7 locs hq8 hS => ?_)
            have hq8 : r7 = smF g true (blF g n fr (iI a)) (iI a) n := hq8
            subst hq8
            refine lv_lload_n hx hb dX1_bendFor_118 rfl (lv_at hl 3 rfl) ?_
            refine W.lcmp hx hb dX1_bendFor_119 ?_
            refine lv_if_ge (tgt := 128) hx hb dX1_bendFor_120 (by decide) (fun c7 => ?_) (fun c7 => ?_)
            · have c7 := (lg_cmp_ge _ _).mp c7
              refine lv_iload hx hb dX1_bendFor_128 (lv_at hl 4 rfl) ?_
              exact W.iret (v := (iI a)) hx hb hr (fun t9 ht9 hW9 => ⟨⟨_, (), rfl, (by rw [hv]; unfold soE; rw [if_neg c6, if_neg (le_nlt64 c7)]; rfl), ht9⟩, hS.F ht9⟩) hS.2.2 dX1_bendFor_130
            · have c7 := mt (lg_cmp_ge _ _).mpr c7
              refine lv_ldc hx hb hown (hts (.constant RX1 84 (1000002)) mbX1_bendFor_1) dX1_bendFor_123 ?_
              refine lv_goto (tgt := 130) hx hb dX1_bendFor_125 (by decide) ?_
              exact W.iret (v := 1000002) hx hb hr (fun t9 ht9 hW9 => ⟨⟨_, (), rfl, (by rw [hv]; unfold soE; rw [if_neg c6, if_pos (nle_lt64 c7)]; rfl), ht9⟩, hS.F ht9⟩) hS.2.2 dX1_bendFor_130
          · refine lv_ldc hx hb hown (hts (.constant RX1 83 (1000001)) mbX1_bendFor_2) dX1_bendFor_106 ?_
            exact W.iret (v := 1000001) hx hb hr (fun t9 ht9 hW9 => ⟨⟨_, (), rfl, (by rw [hv]; unfold soE; rw [if_pos c6]; rfl), ht9⟩, hS.F ht9⟩) hS.2.2 dX1_bendFor_108
        · have hab : a < b := by rcases Int.lt_or_le a b with h9 | h9; exact h9; exact absurd ((iI_le (by omega) (by omega) (by omega) (by omega)).mpr h9) c3
          refine lv_iload hx hb dX1_bendFor_27 (lv_at hl 3 rfl) ?_
          refine lv_iload hx hb dX1_bendFor_29 (lv_at hl 4 rfl) ?_
          refine lv_iadd hx hb dX1_bendFor_31 ?_
          refine lv_iconst (v := 2) hx hb dX1_bendFor_32 (by decide) ?_
          refine rd_i (va_runS (As := [.int ((iI a) + (iI b)), .int 2]) (rest := []) ⟨hx, hb, hml, hown, hts⟩ (c_J9_floorDiv_7cf53 l dC dI cA s.heap ((iI a) + (iI b)) 2 (by decide)) (va_cwS 2 hts gX1_bendFor_J9_floorDiv_7cf53 rfl rfl rfl (by decide +kernel) ⟨Nat.le_of_ble_eq_true rfl, Nat.le_of_ble_eq_true rfl⟩) ⟨rd_bl, rd_pre hK hN⟩ rfl rfl hl.1 rfl (lv_room (Nat.le_of_ble_eq_true rfl)) dX1_bendFor_33 ⟨Nat.zero_le _, Nat.zero_le _⟩) hS (fun r9 locs hq10 hS => ?_)
          have hq10 : r9 = fdv ((iI a) + (iI b)) 2 := hq10
          subst hq10
          refine tp_i (v := iI ((a + b) / 2)) (midC a1 a2 b1 b2) ?_
          refine lv_istore (lv' := [(8, .int (iI ((a + b) / 2))), (0, .ref (A 1)), (1, .long fr), (3, .long mv), (5, .int (iI a)), (6, .int (iI b)), (7, .int (nI j))]) hx hb dX1_bendFor_36 hl (by decide) rfl (fun ls hl => ?_)
          refine lv_aload_n hx hb dX1_bendFor_38 rfl (lv_at hl 1 rfl) ?_
          refine lv_lload_n hx hb dX1_bendFor_39 rfl (lv_at hl 2 rfl) ?_
          refine lv_iload hx hb dX1_bendFor_40 (lv_at hl 0 rfl) ?_
          refine rd_i (va_runV (As := [.long fr, .int (iI ((a + b) / 2))]) (rest := []) ⟨hx, hb, hml, hown, hts⟩ (c_X1_balanceOf l dC dI cA s.heap A g n hs pe pk fo mo hP hg hn fr (iI ((a + b) / 2))) (cwV 2 hts gX1_bendFor_X1_balanceOf rfl rfl rfl (by decide +kernel) ⟨Nat.le_of_ble_eq_true rfl, Nat.le_of_ble_eq_true rfl⟩) ⟨rd_bl, va_recv hK hP (ci := 2) (q0 := 1) rfl rfl, rd_pre hK hN⟩ rfl rfl hl.1 rfl (lv_room (Nat.le_of_ble_eq_true rfl)) dX1_bendFor_42 ⟨Nat.zero_le _, Nat.zero_le _⟩) hS (fun r11 locs hq12 hS => ?_)
          have hq12 : r11 = blF g n fr (iI ((a + b) / 2)) := hq12
          subst hq12
          refine lv_istore (lv' := [(9, .int (blF g n fr (iI ((a + b) / 2)))), (8, .int (iI ((a + b) / 2))), (0, .ref (A 1)), (1, .long fr), (3, .long mv), (5, .int (iI a)), (6, .int (iI b)), (7, .int (nI j))]) hx hb dX1_bendFor_45 hl (by decide) rfl (fun ls hl => ?_)
          refine lv_iload hx hb dX1_bendFor_47 (lv_at hl 0 rfl) ?_
          refine lv_ldc hx hb hown (hts (.constant RX1 78 (-1000000)) mbX1_bendFor_0) dX1_bendFor_49 ?_
          refine lv_icmp_ne (tgt := 57) hx hb dX1_bendFor_51 (by decide) (fun c4 => ?_) (fun c4 => ?_)
          · refine lv_aload_n hx hb dX1_bendFor_57 rfl (lv_at hl 2 rfl) ?_
            refine lv_iconst (v := 1) hx hb dX1_bendFor_58 (by decide) ?_
            refine lv_iload hx hb dX1_bendFor_59 (lv_at hl 0 rfl) ?_
            refine lv_iload hx hb dX1_bendFor_61 (lv_at hl 1 rfl) ?_
            refine rd_l (va_runV (As := [.int 1, .int (blF g n fr (iI ((a + b) / 2))), .int (iI ((a + b) / 2))]) (rest := []) ⟨hx, hb, hml, hown, hts⟩ (c_X1_sumOf l dC dI cA s.heap A g n hs pe pk fo mo hP hg hn true 1 (by decide) (blF g n fr (iI ((a + b) / 2))) (iI ((a + b) / 2))) (cwV 3 hts gX1_bendFor_X1_sumOf rfl rfl rfl (by decide +kernel) ⟨Nat.le_of_ble_eq_true rfl, Nat.le_of_ble_eq_true rfl⟩) ⟨rd_bl, va_recv hK hP (ci := 2) (q0 := 1) rfl rfl, rd_pre hK hN⟩ rfl rfl hl.1 rfl (lv_room (Nat.le_of_ble_eq_true rfl)) dX1_bendFor_63 ⟨Nat.zero_le _, Nat.zero_le _⟩) hS (fun r13 locs hq14 hS => ?_)
            have hq14 : r13 = smF g true (blF g n fr (iI ((a + b) / 2))) (iI ((a + b) / 2)) n := hq14
            subst hq14
            refine lv_lload_n hx hb dX1_bendFor_66 rfl (lv_at hl 4 rfl) ?_
            refine W.lcmp hx hb dX1_bendFor_67 ?_
            refine lv_if_lt (tgt := 78) hx hb dX1_bendFor_68 (by decide) (fun c5 => ?_) (fun c5 => ?_)
            · have c5 := (lg_cmp_lt _ _).mp c5
              refine lv_iload hx hb dX1_bendFor_78 (lv_at hl 1 rfl) ?_
              refine lv_iconst (v := 1) hx hb dX1_bendFor_80 (by decide) ?_
              refine lv_iadd hx hb dX1_bendFor_81 ?_
              refine tp_i (v := iI ((a + b) / 2 + 1)) (by rw [← iI_ad]; rfl) ?_
              refine lv_istore (lv' := [(5, .int (iI ((a + b) / 2 + 1))), (9, .int (blF g n fr (iI ((a + b) / 2)))), (8, .int (iI ((a + b) / 2))), (0, .ref (A 1)), (1, .long fr), (3, .long mv), (6, .int (iI b)), (7, .int (nI j))]) hx hb dX1_bendFor_82 hl (by decide) rfl (fun ls hl => ?_)
              refine lv_iinc (v := nI (j + 1)) (lv' := [(7, .int (nI (j + 1))), (5, .int (iI ((a + b) / 2 + 1))), (9, .int (blF g n fr (iI ((a + b) / 2)))), (8, .int (iI ((a + b) / 2))), (0, .ref (A 1)), (1, .long fr), (3, .long mv), (6, .int (iI b))]) hx hb dX1_bendFor_84 hl (k := 7) rfl (nI_1 j) (by decide) rfl (fun ls hl => ?_)
              refine lv_goto (tgt := 13) hx hb dX1_bendFor_87 (by decide) ?_
              exact ih ((a + b) / 2 + 1) b (j + 1) _ _ (by omega) (by omega) b1 b2 (by omega) (by omega) (by rw [hv, show 32 - j = (32 - (j + 1)) + 1 by omega, so_f hab c4 (lt_nle64 c5)]) hS (lv_sub hl [4, 5, 6, 1, 7, 0] rfl)
            · have c5 := mt (lg_cmp_lt _ _).mpr c5
              refine lv_iload hx hb dX1_bendFor_71 (lv_at hl 1 rfl) ?_
              refine lv_istore (lv' := [(6, .int (iI ((a + b) / 2))), (9, .int (blF g n fr (iI ((a + b) / 2)))), (8, .int (iI ((a + b) / 2))), (0, .ref (A 1)), (1, .long fr), (3, .long mv), (5, .int (iI a)), (7, .int (nI j))]) hx hb dX1_bendFor_73 hl (by decide) rfl (fun ls hl => ?_)
              refine lv_goto (tgt := 84) hx hb dX1_bendFor_75 (by decide) ?_
              refine lv_iinc (v := nI (j + 1)) (lv' := [(7, .int (nI (j + 1))), (6, .int (iI ((a + b) / 2))), (9, .int (blF g n fr (iI ((a + b) / 2)))), (8, .int (iI ((a + b) / 2))), (0, .ref (A 1)), (1, .long fr), (3, .long mv), (5, .int (iI a))]) hx hb dX1_bendFor_84 hl (k := 7) rfl (nI_1 j) (by decide) rfl (fun ls hl => ?_)
              refine lv_goto (tgt := 13) hx hb dX1_bendFor_87 (by decide) ?_
              exact ih a ((a + b) / 2) (j + 1) _ _ a1 a2 (by omega) (by omega) (by omega) (by omega) (by rw [hv, show 32 - j = (32 - (j + 1)) + 1 by omega, so_t hab c4 (nlt_le64 c5)]) hS (lv_sub hl [4, 5, 6, 7, 1, 0] rfl)
          · refine lv_ldc hx hb hown (hts (.constant RX1 83 (1000001)) mbX1_bendFor_2) dX1_bendFor_54 ?_
            exact W.iret (v := 1000001) hx hb hr (fun t9 ht9 hW9 => ⟨⟨_, (), rfl, (by rw [hv, show 32 - j = (32 - (j + 1)) + 1 by omega, so_0 hab c4]; rfl), ht9⟩, hS.F ht9⟩) hS.2.2 dX1_bendFor_56
  exact lp 33 (-20000) 20000 0 _ _ (by omega) (by omega) (by omega) (by omega) (by omega) (by omega) rfl hS (lv_sub hl [3, 4, 5, 2, 1, 0] rfl)
end
section
/-- the reference's cells -/
abbrev wR (cA : ClassId) (Z : Nat → Nat) (g : Gg) (n : Nat) (th hs pe pk : Int32) (fo mo : Int64) (fE fK : Int32) : va_W :=
  [(Z 0, .inr (4, [.int th, .int (nI n), .ref (Z 1), .ref (Z 2), .ref (Z 3), .ref (Z 4), .ref (Z 5), .ref (Z 6), .ref (Z 7), .ref (Z 8), .ref (Z 9), .ref (Z 10), .int hs, .int pe, .int pk, .long fo, .long mo, .int fE, .int fK])),
   (Z 1, .inl (cA, 41, .inl (g 0))), (Z 2, .inl (cA, 41, .inl (g 1))), (Z 3, .inl (cA, 41, .inl (g 2))), (Z 4, .inl (cA, 41, .inl (g 3))), (Z 5, .inl (cA, 41, .inl (g 4))), (Z 6, .inl (cA, 4, .inl (g 7))), (Z 7, .inl (cA, 32, .inl (g 5))), (Z 8, .inl (cA, 32, .inl (g 6))), (Z 9, .inl (cA, 4, .inl (g 8))), (Z 10, .inl (cA, 4, .inl (g 9)))]

set_option maxHeartbeats 4000000 in
set_option maxRecDepth 100000 in
theorem c_X3_within (l : Launch) (dC : Nat → ClassId) (dI : Nat → Nat → Nat) (cA : ClassId) (H : Heap) (v lo hi : Int32) (a b : Int) (ha : lo.toInt = a) (hb9 : hi.toInt = b) : Met l yX3_within wsX3_within ({ frames := 0, cells := 0, slots := 0, locals := 0 }) (rd_P [.int v, .int lo, .int hi] H (dC, dI) vwCl [(cA, .int)]) (rd_Qi H (fun r => (rg v a b ∧ r = 1) ∨ (¬ (rg v a b) ∧ r = 0))) 0 0 nF := by
  refine Met.ofW (cc := cX3_within) (maxL := 3) (ret := (some .boolean)) (by decide) rfl ?_
  intro p e s m args below meth c s₁ B hml hv
  obtain ⟨rfl, hH, hK, hN⟩ := hv
  subst hH
  have hx := B.exec
  have hb := B.bytes
  have hr := B.returns
  have hts := atoms_spec (ws := wsX3_within) B.pre
  have hown : s.vm.findClass RX3 = some m.cls := findClass_of_methodNamed B.named
  have hlocks := B.notSynchronized
  have hS : va_S nF s.heap s.heap [] := va_S.rf
  have hl := lv_entry ([.int v, .int lo, .int hi]) (n := 3) (Nat.le_of_ble_eq_true rfl)
  rw [lg_entry_eq]
  generalize (lg_sl ([.int v, .int lo, .int hi]) ++ List.replicate (3 - (lg_sl ([.int v, .int lo, .int hi])).length) Slot.unset).toArray = ls at hl ⊢
  have hl : lv_has ls 3 [(0, .int v), (1, .int lo), (2, .int hi)] := hl
  refine lv_iload_n hx hb dX3_within_0 rfl (lv_at hl 0 rfl) ?_
  refine lv_iload_n hx hb dX3_within_1 rfl (lv_at hl 1 rfl) ?_
  refine lv_icmp_lt (tgt := 14) hx hb dX3_within_2 (by decide) (fun c1 => ?_) (fun c1 => ?_)
  · refine lv_iconst (v := 0) hx hb dX3_within_14 (by decide) ?_
    exact W.zret (ty := .boolean) (v := 0) hx hb hr (by decide) (fun t9 ht9 hW9 => ⟨⟨_, (), rfl, (Or.inr ⟨fun h9 => by rw [Int32.lt_iff_toInt_lt] at c1; have h8 := h9.1; have h7 := h9.2; omega, rfl⟩), ht9⟩, hS.F ht9⟩) hS.2.2 dX3_within_15
  · refine lv_iload_n hx hb dX3_within_5 rfl (lv_at hl 0 rfl) ?_
    refine lv_iload_n hx hb dX3_within_6 rfl (lv_at hl 2 rfl) ?_
    refine lv_icmp_gt (tgt := 14) hx hb dX3_within_7 (by decide) (fun c2 => ?_) (fun c2 => ?_)
    · refine lv_iconst (v := 0) hx hb dX3_within_14 (by decide) ?_
      exact W.zret (ty := .boolean) (v := 0) hx hb hr (by decide) (fun t9 ht9 hW9 => ⟨⟨_, (), rfl, (Or.inr ⟨fun h9 => by rw [Int32.lt_iff_toInt_lt] at c2; have h8 := h9.1; have h7 := h9.2; omega, rfl⟩), ht9⟩, hS.F ht9⟩) hS.2.2 dX3_within_15
    · refine lv_iconst (v := 1) hx hb dX3_within_10 (by decide) ?_
      refine lv_goto (tgt := 15) hx hb dX3_within_11 (by decide) ?_
      exact W.zret (ty := .boolean) (v := 1) hx hb hr (by decide) (fun t9 ht9 hW9 => ⟨⟨_, (), rfl, (Or.inl ⟨by rw [Int32.lt_iff_toInt_lt] at c1 c2; exact ⟨by omega, by omega⟩, rfl⟩), ht9⟩, hS.F ht9⟩) hS.2.2 dX3_within_15

set_option maxHeartbeats 4000000 in
set_option maxRecDepth 100000 in
theorem c_X3_isKind (l : Launch) (dC : Nat → ClassId) (dI : Nat → Nat → Nat) (cA : ClassId) (H : Heap) (v : Int32) : Met l yX3_isKind wsX3_isKind ({ frames := 0, cells := 0, slots := 0, locals := 0 }) (rd_P [.int v] H (dC, dI) vwCl [(cA, .int)]) (rd_Qi H (fun r => (rg v 0 3 ∧ r = 1) ∨ (¬ (rg v 0 3) ∧ r = 0))) 0 0 nF := by
  refine Met.ofW (cc := cX3_isKind) (maxL := 1) (ret := (some .boolean)) (by decide) rfl ?_
  intro p e s m args below meth c s₁ B hml hv
  obtain ⟨rfl, hH, hK, hN⟩ := hv
  subst hH
  have hx := B.exec
  have hb := B.bytes
  have hr := B.returns
  have hts := atoms_spec (ws := wsX3_isKind) B.pre
  have hown : s.vm.findClass RX3 = some m.cls := findClass_of_methodNamed B.named
  have hlocks := B.notSynchronized
  have hS : va_S nF s.heap s.heap [] := va_S.rf
  have hl := lv_entry ([.int v]) (n := 1) (Nat.le_of_ble_eq_true rfl)
  rw [lg_entry_eq]
  generalize (lg_sl ([.int v]) ++ List.replicate (1 - (lg_sl ([.int v])).length) Slot.unset).toArray = ls at hl ⊢
  have hl : lv_has ls 1 [(0, .int v)] := hl
  refine lv_iload_n hx hb dX3_isKind_0 rfl (lv_at hl 0 rfl) ?_
  refine lv_if_lt (tgt := 13) hx hb dX3_isKind_1 (by decide) (fun c1 => ?_) (fun c1 => ?_)
  · refine lv_iconst (v := 0) hx hb dX3_isKind_13 (by decide) ?_
    exact W.zret (ty := .boolean) (v := 0) hx hb hr (by decide) (fun t9 ht9 hW9 => ⟨⟨_, (), rfl, (Or.inr ⟨fun h9 => by have h5 := h9.1; have h6 := h9.2; have h7 : (0 : Int32).toInt = 0 := (by decide); have h8 : (4 : Int32).toInt = 4 := (by decide); rw [Int32.lt_iff_toInt_lt] at c1; omega, rfl⟩), ht9⟩, hS.F ht9⟩) hS.2.2 dX3_isKind_14
  · refine lv_iload_n hx hb dX3_isKind_4 rfl (lv_at hl 0 rfl) ?_
    refine lv_iconst (v := 4) hx hb dX3_isKind_5 (by decide) ?_
    refine lv_icmp_ge (tgt := 13) hx hb dX3_isKind_6 (by decide) (fun c2 => ?_) (fun c2 => ?_)
    · refine lv_iconst (v := 0) hx hb dX3_isKind_13 (by decide) ?_
      exact W.zret (ty := .boolean) (v := 0) hx hb hr (by decide) (fun t9 ht9 hW9 => ⟨⟨_, (), rfl, (Or.inr ⟨fun h9 => by have h5 := h9.1; have h6 := h9.2; have h7 : (0 : Int32).toInt = 0 := (by decide); have h8 : (4 : Int32).toInt = 4 := (by decide); rw [Int32.le_iff_toInt_le] at c2; omega, rfl⟩), ht9⟩, hS.F ht9⟩) hS.2.2 dX3_isKind_14
    · refine lv_iconst (v := 1) hx hb dX3_isKind_9 (by decide) ?_
      refine lv_goto (tgt := 14) hx hb dX3_isKind_10 (by decide) ?_
      exact W.zret (ty := .boolean) (v := 1) hx hb hr (by decide) (fun t9 ht9 hW9 => ⟨⟨_, (), rfl, (Or.inl ⟨by rw [Int32.lt_iff_toInt_lt] at c1; rw [Int32.le_iff_toInt_le] at c2; have h7 : (0 : Int32).toInt = 0 := (by decide); have h8 : (4 : Int32).toInt = 4 := (by decide); exact ⟨by omega, by omega⟩, rfl⟩), ht9⟩, hS.F ht9⟩) hS.2.2 dX3_isKind_14

set_option maxRecDepth 20000 in
theorem miX3_isFibre_X3 : ∀ w ∈ u_ws RX3 TX3 19, w ∈ wsX3_isFibre := by decide +kernel
set_option maxRecDepth 20000 in
theorem mbX3_isFibre_1 : (.fieldLink RX3 44 "SectionFibresModel" "fibres" "I" : Cond) ∈ wsX3_isFibre := by decide +kernel
set_option maxHeartbeats 4000000 in
set_option maxRecDepth 100000 in
theorem c_X3_isFibre (l : Launch) (dC : Nat → ClassId) (dI : Nat → Nat → Nat) (cA : ClassId) (H : Heap) (Z : Nat → Nat) (g : Gg) (n : Nat) (th hs pe pk : Int32) (fo mo : Int64) (fE fK : Int32) (hP : va_P (dC, dI) vwCl (wR cA Z g n th hs pe pk fo mo fE fK) H) (hn : n ≤ 41) (v : Int32) : Met l yX3_isFibre wsX3_isFibre ({ frames := 0, cells := 0, slots := 0, locals := 0 }) (rd_P [.ref (Z 0), .int v] H (dC, dI) vwCl [(cA, .int)]) (rd_Qi H (fun r => (rg v 0 ((n : Int) - 1) ∧ r = 1) ∨ (¬ (rg v 0 ((n : Int) - 1)) ∧ r = 0))) 0 0 nF := by
  refine Met.ofW (cc := cX3_isFibre) (maxL := 2) (ret := (some .boolean)) (by decide) rfl ?_
  intro p e s m args below meth c s₁ B hml hv
  obtain ⟨rfl, hH, hK, hN⟩ := hv
  subst hH
  have hx := B.exec
  have hb := B.bytes
  have hr := B.returns
  have hts := atoms_spec (ws := wsX3_isFibre) B.pre
  have hown : s.vm.findClass RX3 = some m.cls := findClass_of_methodNamed B.named
  have hlocks := B.notSynchronized
  have hS : va_S nF s.heap s.heap [] := va_S.rf
  have hl := lv_entry ([.ref (Z 0), .int v]) (n := 2) (Nat.le_of_ble_eq_true rfl)
  rw [lg_entry_eq]
  generalize (lg_sl ([.ref (Z 0), .int v]) ++ List.replicate (2 - (lg_sl ([.ref (Z 0), .int v])).length) Slot.unset).toArray = ls at hl ⊢
  have hl : lv_has ls 2 [(0, .ref (Z 0)), (1, .int v)] := hl
  have hnt : (nI n).toInt = (n : Int) := nI_toInt (by omega)
  have h0t : (0 : Int32).toInt = 0 := by decide
  refine lv_iload_n hx hb dX3_isFibre_0 rfl (lv_at hl 1 rfl) ?_
  refine lv_if_lt (tgt := 16) hx hb dX3_isFibre_1 (by decide) (fun c1 => ?_) (fun c1 => ?_)
  · refine lv_iconst (v := 0) hx hb dX3_isFibre_16 (by decide) ?_
    exact W.zret (ty := .boolean) (v := 0) hx hb hr (by decide) (fun t9 ht9 hW9 => ⟨⟨_, (), rfl, (Or.inr ⟨fun h9 => by have h5 := h9.1; have h6 := h9.2; rw [Int32.lt_iff_toInt_lt] at c1; omega, rfl⟩), ht9⟩, hS.F ht9⟩) hS.2.2 dX3_isFibre_17
  · refine lv_iload_n hx hb dX3_isFibre_4 rfl (lv_at hl 1 rfl) ?_
    refine lv_aload_n hx hb dX3_isFibre_5 rfl (lv_at hl 0 rfl) ?_
    refine va_get (D := (dC, dI)) (ci := 4) (v := .int (nI n)) (C := RX3) (T := TX3) (N := 19) hx hb hts miX3_isFibre_X3 hown hK hP 0 rfl rfl 1 (by decide) (hts (.fieldLink RX3 44 "SectionFibresModel" "fibres" "I") mbX3_isFibre_1) (fun _ h9 => h9) rfl dX3_isFibre_6 ?_
    refine lv_icmp_ge (tgt := 16) hx hb dX3_isFibre_9 (by decide) (fun c2 => ?_) (fun c2 => ?_)
    · refine lv_iconst (v := 0) hx hb dX3_isFibre_16 (by decide) ?_
      exact W.zret (ty := .boolean) (v := 0) hx hb hr (by decide) (fun t9 ht9 hW9 => ⟨⟨_, (), rfl, (Or.inr ⟨fun h9 => by have h5 := h9.1; have h6 := h9.2; rw [Int32.le_iff_toInt_le, hnt] at c2; omega, rfl⟩), ht9⟩, hS.F ht9⟩) hS.2.2 dX3_isFibre_17
    · refine lv_iconst (v := 1) hx hb dX3_isFibre_12 (by decide) ?_
      refine lv_goto (tgt := 17) hx hb dX3_isFibre_13 (by decide) ?_
      exact W.zret (ty := .boolean) (v := 1) hx hb hr (by decide) (fun t9 ht9 hW9 => ⟨⟨_, (), rfl, (Or.inl ⟨by rw [Int32.lt_iff_toInt_lt] at c1; rw [Int32.le_iff_toInt_le, hnt] at c2; exact ⟨by omega, by omega⟩, rfl⟩), ht9⟩, hS.F ht9⟩) hS.2.2 dX3_isFibre_17

set_option maxRecDepth 20000 in
theorem miX3_thrown_X3 : ∀ w ∈ u_ws RX3 TX3 19, w ∈ wsX3_thrown := by decide +kernel
set_option maxRecDepth 20000 in
theorem mbX3_thrown_1 : (.fieldLink RX3 40 "SectionFibresModel" "thrown" "I" : Cond) ∈ wsX3_thrown := by decide +kernel
set_option maxHeartbeats 4000000 in
set_option maxRecDepth 100000 in
theorem c_X3_thrown (l : Launch) (dC : Nat → ClassId) (dI : Nat → Nat → Nat) (cA : ClassId) (H : Heap) (Z : Nat → Nat) (g : Gg) (n : Nat) (th hs pe pk : Int32) (fo mo : Int64) (fE fK : Int32) (hP : va_P (dC, dI) vwCl (wR cA Z g n th hs pe pk fo mo fE fK) H) : Met l yX3_thrown wsX3_thrown ({ frames := 0, cells := 0, slots := 0, locals := 0 }) (rd_P [.ref (Z 0)] H (dC, dI) vwCl [(cA, .int)]) (rd_Qi H (fun r => r = th)) 0 0 nF := by
  refine Met.ofW (cc := cX3_thrown) (maxL := 1) (ret := (some .int)) (by decide) rfl ?_
  intro p e s m args below meth c s₁ B hml hv
  obtain ⟨rfl, hH, hK, hN⟩ := hv
  subst hH
  have hx := B.exec
  have hb := B.bytes
  have hr := B.returns
  have hts := atoms_spec (ws := wsX3_thrown) B.pre
  have hown : s.vm.findClass RX3 = some m.cls := findClass_of_methodNamed B.named
  have hlocks := B.notSynchronized
  have hS : va_S nF s.heap s.heap [] := va_S.rf
  have hl := lv_entry ([.ref (Z 0)]) (n := 1) (Nat.le_of_ble_eq_true rfl)
  rw [lg_entry_eq]
  generalize (lg_sl ([.ref (Z 0)]) ++ List.replicate (1 - (lg_sl ([.ref (Z 0)])).length) Slot.unset).toArray = ls at hl ⊢
  have hl : lv_has ls 1 [(0, .ref (Z 0))] := hl
  refine lv_aload_n hx hb dX3_thrown_0 rfl (lv_at hl 0 rfl) ?_
  refine va_get (D := (dC, dI)) (ci := 4) (v := .int th) (C := RX3) (T := TX3) (N := 19) hx hb hts miX3_thrown_X3 hown hK hP 0 rfl rfl 0 (by decide) (hts (.fieldLink RX3 40 "SectionFibresModel" "thrown" "I") mbX3_thrown_1) (fun _ h9 => h9) rfl dX3_thrown_1 ?_
  exact W.iret (v := th) hx hb hr (fun t9 ht9 hW9 => ⟨⟨_, (), rfl, rfl, ht9⟩, hS.F ht9⟩) hS.2.2 dX3_thrown_4

set_option maxRecDepth 20000 in
theorem miX3_stressAt_X3 : ∀ w ∈ u_ws RX3 TX3 19, w ∈ wsX3_stressAt := by decide +kernel
set_option maxRecDepth 20000 in
theorem mbX3_stressAt_1 : (.fieldLink RX3 25 "SectionFibresModel" "points" "[I" : Cond) ∈ wsX3_stressAt := by decide +kernel
set_option maxRecDepth 20000 in
theorem mbX3_stressAt_2 : (.fieldLink RX3 28 "SectionFibresModel" "strains" "[I" : Cond) ∈ wsX3_stressAt := by decide +kernel
set_option maxRecDepth 20000 in
theorem mbX3_stressAt_3 : (.fieldLink RX3 31 "SectionFibresModel" "stresses" "[I" : Cond) ∈ wsX3_stressAt := by decide +kernel
set_option maxHeartbeats 4000000 in
set_option maxRecDepth 100000 in
theorem c_X3_stressAt (l : Launch) (dC : Nat → ClassId) (dI : Nat → Nat → Nat) (cA : ClassId) (H : Heap) (Z : Nat → Nat) (g : Gg) (n : Nat) (th hs pe pk : Int32) (fo mo : Int64) (fE fK : Int32) (hP : va_P (dC, dI) vwCl (wR cA Z g n th hs pe pk fo mo fE fK) H) (hg : InvG g) (kd t : Int32) (hkd : vp_in kd 4) : Met l yX3_stressAt wsX3_stressAt ({ frames := 0, cells := 0, slots := 0, locals := 0 }) (rd_P [.ref (Z 0), .int kd, .int t] H (dC, dI) vwCl [(cA, .int)]) (rd_Qi H (fun r => r = rwF g kd t)) 0 0 nF := by
  obtain ⟨k, hk, rfl⟩ := vp_in_of hkd (by decide)
  obtain ⟨q, hq, hqe⟩ := vp_in_of (hg.2.2.2.2.2.1 k hk) (by decide)
  refine Met.ofW (cc := cX3_stressAt) (maxL := 8) (ret := (some .int)) (by decide) rfl ?_
  intro p e s m args below meth c s₁ B hml hv
  obtain ⟨rfl, hH, hK, hN⟩ := hv
  subst hH
  have hx := B.exec
  have hb := B.bytes
  have hr := B.returns
  have hts := atoms_spec (ws := wsX3_stressAt) B.pre
  have hown : s.vm.findClass RX3 = some m.cls := findClass_of_methodNamed B.named
  have hlocks := B.notSynchronized
  have hS : va_S nF s.heap s.heap [] := va_S.rf
  have hl := lv_entry ([.ref (Z 0), .int (nI k), .int t]) (n := 8) (Nat.le_of_ble_eq_true rfl)
  rw [lg_entry_eq]
  generalize (lg_sl ([.ref (Z 0), .int (nI k), .int t]) ++ List.replicate (8 - (lg_sl ([.ref (Z 0), .int (nI k), .int t])).length) Slot.unset).toArray = ls at hl ⊢
  have hl : lv_has ls 8 [(0, .ref (Z 0)), (1, .int (nI k)), (2, .int t)] := hl
  refine lv_bipush (v := 8) hx hb dX3_stressAt_0 (by decide) ?_
  refine lv_iload_n hx hb dX3_stressAt_2 rfl (lv_at hl 1 rfl) ?_
  refine lv_imul hx hb dX3_stressAt_3 ?_
  refine tp_i (v := nI (8 * k)) (pk_mul 8 k) ?_
  refine lv_istore_n (lv' := [(3, .int (nI (8 * k))), (0, .ref (Z 0)), (1, .int (nI k)), (2, .int t)]) hx hb dX3_stressAt_4 rfl hl (by decide) rfl (fun ls hl => ?_)
  refine lv_aload_n hx hb dX3_stressAt_5 rfl (lv_at hl 1 rfl) ?_
  refine va_get (D := (dC, dI)) (ci := 4) (v := .ref (Z 6)) (C := RX3) (T := TX3) (N := 19) hx hb hts miX3_stressAt_X3 hown hK hP 0 rfl rfl 7 (by decide) (hts (.fieldLink RX3 25 "SectionFibresModel" "points" "[I") mbX3_stressAt_1) (fun _ h9 => h9) rfl dX3_stressAt_6 ?_
  refine lv_iload_n hx hb dX3_stressAt_9 rfl (lv_at hl 2 rfl) ?_
  refine ialn hx hb hK hP 6 0 rfl rfl k (rfl) (by omega) (by decide) dX3_stressAt_10 ?_
  refine tp_i (v := nI q) (hqe) ?_
  refine lv_istore (lv' := [(4, .int (nI q)), (3, .int (nI (8 * k))), (0, .ref (Z 0)), (1, .int (nI k)), (2, .int t)]) hx hb dX3_stressAt_11 hl (by decide) rfl (fun ls hl => ?_)
  refine lv_iload hx hb dX3_stressAt_13 (lv_at hl 0 rfl) ?_
  refine lv_if_ne (tgt := 20) hx hb dX3_stressAt_15 (by decide) (fun c1 => ?_) (fun c1 => ?_)
  · have hq0 : 0 < q := Nat.pos_of_ne_zero (fun h9 => c1 (by rw [h9]; rfl))
    refine lv_iload_n hx hb dX3_stressAt_20 rfl (lv_at hl 4 rfl) ?_
    refine lv_aload_n hx hb dX3_stressAt_21 rfl (lv_at hl 2 rfl) ?_
    refine va_get (D := (dC, dI)) (ci := 4) (v := .ref (Z 7)) (C := RX3) (T := TX3) (N := 19) hx hb hts miX3_stressAt_X3 hown hK hP 0 rfl rfl 8 (by decide) (hts (.fieldLink RX3 28 "SectionFibresModel" "strains" "[I") mbX3_stressAt_2) (fun _ h9 => h9) rfl dX3_stressAt_22 ?_
    refine lv_iload_n hx hb dX3_stressAt_25 rfl (lv_at hl 1 rfl) ?_
    refine ialn hx hb hK hP 7 0 rfl rfl (8 * k) (rfl) (by omega) (by decide) dX3_stressAt_26 ?_
    refine lv_icmp_gt (tgt := 37) hx hb dX3_stressAt_27 (by decide) (fun c2 => ?_) (fun c2 => ?_)
    · refine lv_iload_n hx hb dX3_stressAt_37 rfl (lv_at hl 1 rfl) ?_
      refine lv_iconst (v := 1) hx hb dX3_stressAt_38 (by decide) ?_
      refine lv_iadd hx hb dX3_stressAt_39 ?_
      refine tp_i (v := nI (8 * k + 1)) (nI_1 _) ?_
      refine lv_istore (lv' := [(5, .int (nI (8 * k + 1))), (4, .int (nI q)), (3, .int (nI (8 * k))), (0, .ref (Z 0)), (1, .int (nI k)), (2, .int t)]) hx hb dX3_stressAt_40 hl (by decide) rfl (fun ls hl => ?_)
      have lp : ∀ (z : Nat) (j : Nat) (locs : List Loc) (ls : Array Slot), 8 * k ≤ j → j + 1 ≤ 8 * k + q → 8 * k + q ≤ j + z → rwF g (nI k) t = rvL (g 5) (g 6) t (8 * k + q - 1 - j) j → va_S nF s.heap s.heap locs → lv_has ls 8 [(0, .ref (Z 0)), (1, .int (nI k)), (2, .int t), (3, .int (nI (8 * k))), (4, .int (nI q)), (5, .int (nI (j + 1)))] → W p l e (headSpec wsX3_stressAt ({ frames := 0, cells := 0, slots := 0, locals := 0 })).room s m ([.ref (Z 0), .int (nI k), .int t]).toArray below meth c s.heap locs 0 0 (MQ below (rd_Qi s.heap (fun r => r = rwF g (nI k) t)) ([.ref (Z 0), .int (nI k), .int t]).toArray s 0 0 nF) (F0 m 42 ls []) := by
        intro z
        induction z with
        | zero =>
          intro j locs ls h1 h2 h3 hv hS hl
          exact absurd h3 (by omega)
        | succ z ih =>
          intro j locs ls h1 h2 h3 hv hS hl
          refine lv_iload hx hb dX3_stressAt_42 (lv_at hl 5 rfl) ?_
          refine lv_iload_n hx hb dX3_stressAt_44 rfl (lv_at hl 3 rfl) ?_
          refine lv_iload hx hb dX3_stressAt_45 (lv_at hl 4 rfl) ?_
          refine lv_iadd hx hb dX3_stressAt_47 ?_
          refine tp_i (v := nI (8 * k + q)) (nI_add _ _) ?_
          refine lv_icmp_ge (tgt := 68) hx hb dX3_stressAt_48 (by decide) (fun c3 => ?_) (fun c3 => ?_)
          · have hj : j + 1 = 8 * k + q := by have h9 := (nI_leI (by omega) (by omega)).mp c3; omega
            refine lv_iload hx hb dX3_stressAt_68 (lv_at hl 5 rfl) ?_
            refine lv_iload_n hx hb dX3_stressAt_70 rfl (lv_at hl 3 rfl) ?_
            refine lv_iload hx hb dX3_stressAt_71 (lv_at hl 4 rfl) ?_
            refine lv_iadd hx hb dX3_stressAt_73 ?_
            refine tp_i (v := nI (8 * k + q)) (nI_add _ _) ?_
            refine lv_icmp_ne (tgt := 87) hx hb dX3_stressAt_74 (by decide) (fun h9 => absurd h9 (fun h8 => h8 (by rw [hj]))) (fun _ => ?_)
            refine lv_aload_n hx hb dX3_stressAt_77 rfl (lv_at hl 0 rfl) ?_
            refine va_get (D := (dC, dI)) (ci := 4) (v := .ref (Z 8)) (C := RX3) (T := TX3) (N := 19) hx hb hts miX3_stressAt_X3 hown hK hP 0 rfl rfl 9 (by decide) (hts (.fieldLink RX3 31 "SectionFibresModel" "stresses" "[I") mbX3_stressAt_3) (fun _ h9 => h9) rfl dX3_stressAt_78 ?_
            refine lv_iload hx hb dX3_stressAt_81 (lv_at hl 5 rfl) ?_
            refine lv_iconst (v := 1) hx hb dX3_stressAt_83 (by decide) ?_
            refine lv_isub hx hb dX3_stressAt_84 ?_
            refine tp_i (v := nI j) (nI_pred j) ?_
            refine ialn hx hb hK hP 8 0 rfl rfl j (rfl) (by omega) (by decide) dX3_stressAt_85 ?_
            exact W.iret (v := (g 6 j)) hx hb hr (fun t9 ht9 hW9 => ⟨⟨_, (), rfl, (by rw [hv, show 8 * k + q - 1 - j = 0 by omega, rvL_0]), ht9⟩, hS.F ht9⟩) hS.2.2 dX3_stressAt_86
          · have hj : j + 1 < 8 * k + q := by rcases Nat.lt_or_ge (j + 1) (8 * k + q) with h9 | h9; exact h9; exact absurd (nI_le h9 (by omega)) c3
            refine lv_aload_n hx hb dX3_stressAt_51 rfl (lv_at hl 0 rfl) ?_
            refine va_get (D := (dC, dI)) (ci := 4) (v := .ref (Z 7)) (C := RX3) (T := TX3) (N := 19) hx hb hts miX3_stressAt_X3 hown hK hP 0 rfl rfl 8 (by decide) (hts (.fieldLink RX3 28 "SectionFibresModel" "strains" "[I") mbX3_stressAt_2) (fun _ h9 => h9) rfl dX3_stressAt_52 ?_
            refine lv_iload hx hb dX3_stressAt_55 (lv_at hl 5 rfl) ?_
            refine ialn hx hb hK hP 7 0 rfl rfl (j + 1) (rfl) (by omega) (by decide) dX3_stressAt_57 ?_
            refine lv_iload_n hx hb dX3_stressAt_58 rfl (lv_at hl 2 rfl) ?_
            refine lv_icmp_ge (tgt := 68) hx hb dX3_stressAt_59 (by decide) (fun c4 => ?_) (fun c4 => ?_)
            · refine lv_iload hx hb dX3_stressAt_68 (lv_at hl 5 rfl) ?_
              refine lv_iload_n hx hb dX3_stressAt_70 rfl (lv_at hl 3 rfl) ?_
              refine lv_iload hx hb dX3_stressAt_71 (lv_at hl 4 rfl) ?_
              refine lv_iadd hx hb dX3_stressAt_73 ?_
              refine tp_i (v := nI (8 * k + q)) (nI_add _ _) ?_
              refine lv_icmp_ne (tgt := 87) hx hb dX3_stressAt_74 (by decide) (fun _ => ?_) (fun h9 => absurd h9 (fun h8 => by have h9 := (nI_eq (by omega) (by omega)).mp h8; omega))
              refine lv_aload_n hx hb dX3_stressAt_87 rfl (lv_at hl 0 rfl) ?_
              refine va_get (D := (dC, dI)) (ci := 4) (v := .ref (Z 8)) (C := RX3) (T := TX3) (N := 19) hx hb hts miX3_stressAt_X3 hown hK hP 0 rfl rfl 9 (by decide) (hts (.fieldLink RX3 31 "SectionFibresModel" "stresses" "[I") mbX3_stressAt_3) (fun _ h9 => h9) rfl dX3_stressAt_88 ?_
              refine lv_iload hx hb dX3_stressAt_91 (lv_at hl 5 rfl) ?_
              refine ialn hx hb hK hP 8 0 rfl rfl (j + 1) (rfl) (by omega) (by decide) dX3_stressAt_93 ?_
              refine lv_aload_n hx hb dX3_stressAt_94 rfl (lv_at hl 0 rfl) ?_
              refine va_get (D := (dC, dI)) (ci := 4) (v := .ref (Z 8)) (C := RX3) (T := TX3) (N := 19) hx hb hts miX3_stressAt_X3 hown hK hP 0 rfl rfl 9 (by decide) (hts (.fieldLink RX3 31 "SectionFibresModel" "stresses" "[I") mbX3_stressAt_3) (fun _ h9 => h9) rfl dX3_stressAt_95 ?_
              refine lv_iload hx hb dX3_stressAt_98 (lv_at hl 5 rfl) ?_
              refine lv_iconst (v := 1) hx hb dX3_stressAt_100 (by decide) ?_
              refine lv_isub hx hb dX3_stressAt_101 ?_
              refine tp_i (v := nI j) (nI_pred j) ?_
              refine ialn hx hb hK hP 8 0 rfl rfl j (rfl) (by omega) (by decide) dX3_stressAt_102 ?_
              refine lv_isub hx hb dX3_stressAt_103 ?_
              refine lv_i2l hx hb dX3_stressAt_104 rfl ?_
              refine lv_iload_n hx hb dX3_stressAt_105 rfl (lv_at hl 2 rfl) ?_
              refine lv_aload_n hx hb dX3_stressAt_106 rfl (lv_at hl 0 rfl) ?_
              refine va_get (D := (dC, dI)) (ci := 4) (v := .ref (Z 7)) (C := RX3) (T := TX3) (N := 19) hx hb hts miX3_stressAt_X3 hown hK hP 0 rfl rfl 8 (by decide) (hts (.fieldLink RX3 28 "SectionFibresModel" "strains" "[I") mbX3_stressAt_2) (fun _ h9 => h9) rfl dX3_stressAt_107 ?_
              refine lv_iload hx hb dX3_stressAt_110 (lv_at hl 5 rfl) ?_
              refine lv_iconst (v := 1) hx hb dX3_stressAt_112 (by decide) ?_
              refine lv_isub hx hb dX3_stressAt_113 ?_
              refine tp_i (v := nI j) (nI_pred j) ?_
              refine ialn hx hb hK hP 7 0 rfl rfl j (rfl) (by omega) (by decide) dX3_stressAt_114 ?_
              refine lv_isub hx hb dX3_stressAt_115 ?_
              refine lv_i2l hx hb dX3_stressAt_116 rfl ?_
              refine lv_lmul hx hb dX3_stressAt_117 ?_
              refine lv_aload_n hx hb dX3_stressAt_118 rfl (lv_at hl 0 rfl) ?_
              refine va_get (D := (dC, dI)) (ci := 4) (v := .ref (Z 7)) (C := RX3) (T := TX3) (N := 19) hx hb hts miX3_stressAt_X3 hown hK hP 0 rfl rfl 8 (by decide) (hts (.fieldLink RX3 28 "SectionFibresModel" "strains" "[I") mbX3_stressAt_2) (fun _ h9 => h9) rfl dX3_stressAt_119 ?_
              refine lv_iload hx hb dX3_stressAt_122 (lv_at hl 5 rfl) ?_
              refine ialn hx hb hK hP 7 0 rfl rfl (j + 1) (rfl) (by omega) (by decide) dX3_stressAt_124 ?_
              refine lv_aload_n hx hb dX3_stressAt_125 rfl (lv_at hl 0 rfl) ?_
              refine va_get (D := (dC, dI)) (ci := 4) (v := .ref (Z 7)) (C := RX3) (T := TX3) (N := 19) hx hb hts miX3_stressAt_X3 hown hK hP 0 rfl rfl 8 (by decide) (hts (.fieldLink RX3 28 "SectionFibresModel" "strains" "[I") mbX3_stressAt_2) (fun _ h9 => h9) rfl dX3_stressAt_126 ?_
              refine lv_iload hx hb dX3_stressAt_129 (lv_at hl 5 rfl) ?_
              refine lv_iconst (v := 1) hx hb dX3_stressAt_131 (by decide) ?_
              refine lv_isub hx hb dX3_stressAt_132 ?_
              refine tp_i (v := nI j) (nI_pred j) ?_
              refine ialn hx hb hK hP 7 0 rfl rfl j (rfl) (by omega) (by decide) dX3_stressAt_133 ?_
              refine lv_isub hx hb dX3_stressAt_134 ?_
              refine lv_i2l hx hb dX3_stressAt_135 rfl ?_
              refine lv_ldiv hx hb dX3_stressAt_136 (ri_5 hg hk hq hqe h1 hj) ?_
              refine lv_lstore (lv' := [(6, .long (((((g 6 (j + 1)) - (g 6 j)).toInt64) * ((t - (g 5 j)).toInt64)) / (((g 5 (j + 1)) - (g 5 j)).toInt64))), (0, .ref (Z 0)), (1, .int (nI k)), (2, .int t), (3, .int (nI (8 * k))), (4, .int (nI q)), (5, .int (nI (j + 1)))]) hx hb dX3_stressAt_137 hl (by decide) rfl (fun ls hl => ?_)
              refine lv_aload_n hx hb dX3_stressAt_139 rfl (lv_at hl 1 rfl) ?_
              refine va_get (D := (dC, dI)) (ci := 4) (v := .ref (Z 8)) (C := RX3) (T := TX3) (N := 19) hx hb hts miX3_stressAt_X3 hown hK hP 0 rfl rfl 9 (by decide) (hts (.fieldLink RX3 31 "SectionFibresModel" "stresses" "[I") mbX3_stressAt_3) (fun _ h9 => h9) rfl dX3_stressAt_140 ?_
              refine lv_iload hx hb dX3_stressAt_143 (lv_at hl 6 rfl) ?_
              refine lv_iconst (v := 1) hx hb dX3_stressAt_145 (by decide) ?_
              refine lv_isub hx hb dX3_stressAt_146 ?_
              refine tp_i (v := nI j) (nI_pred j) ?_
              refine ialn hx hb hK hP 8 0 rfl rfl j (rfl) (by omega) (by decide) dX3_stressAt_147 ?_
              refine lv_lload hx hb dX3_stressAt_148 (lv_at hl 0 rfl) ?_
              refine lv_l2i hx hb dX3_stressAt_150 rfl ?_
              refine lv_iadd hx hb dX3_stressAt_151 ?_
              exact W.iret (v := ((g 6 j) + ((((((g 6 (j + 1)) - (g 6 j)).toInt64) * ((t - (g 5 j)).toInt64)) / (((g 5 (j + 1)) - (g 5 j)).toInt64)).toInt32))) hx hb hr (fun t9 ht9 hW9 => ⟨⟨_, (), rfl, (by rw [hv, show 8 * k + q - 1 - j = (8 * k + q - 1 - (j + 1)) + 1 by omega, rvL_s, if_neg (le_nlt c4)]), ht9⟩, hS.F ht9⟩) hS.2.2 dX3_stressAt_152
            · refine lv_iinc (v := nI (j + 1 + 1)) (lv' := [(5, .int (nI (j + 1 + 1))), (0, .ref (Z 0)), (1, .int (nI k)), (2, .int t), (3, .int (nI (8 * k))), (4, .int (nI q))]) hx hb dX3_stressAt_62 hl (k := 5) rfl (nI_1 (j + 1)) (by decide) rfl (fun ls hl => ?_)
              refine lv_goto (tgt := 42) hx hb dX3_stressAt_65 (by decide) ?_
              exact ih (j + 1) _ _ (by omega) (by omega) (by omega) (by rw [hv, show 8 * k + q - 1 - j = (8 * k + q - 1 - (j + 1)) + 1 by omega, rvL_s, if_pos (nle_lt c4)]) hS (lv_sub hl [1, 2, 3, 4, 5, 0] rfl)
      exact lp (q + 1) (8 * k) _ _ (by omega) (by omega) (by omega) (by rw [rwF_k hk, hqe, if_neg c1, if_neg (lt_nle c2), nI_clamp (n := q) (by omega), show 8 * k + q - 1 - 8 * k = q - 1 by omega]; exact rw_rv hg hk hq hqe hq0) hS (lv_sub hl [3, 4, 5, 2, 1, 0] rfl)
    · refine lv_aload_n hx hb dX3_stressAt_30 rfl (lv_at hl 2 rfl) ?_
      refine va_get (D := (dC, dI)) (ci := 4) (v := .ref (Z 8)) (C := RX3) (T := TX3) (N := 19) hx hb hts miX3_stressAt_X3 hown hK hP 0 rfl rfl 9 (by decide) (hts (.fieldLink RX3 31 "SectionFibresModel" "stresses" "[I") mbX3_stressAt_3) (fun _ h9 => h9) rfl dX3_stressAt_31 ?_
      refine lv_iload_n hx hb dX3_stressAt_34 rfl (lv_at hl 1 rfl) ?_
      refine ialn hx hb hK hP 8 0 rfl rfl (8 * k) (rfl) (by omega) (by decide) dX3_stressAt_35 ?_
      exact W.iret (v := (g 6 (8 * k))) hx hb hr (fun t9 ht9 hW9 => ⟨⟨_, (), rfl, (by rw [rwF_k hk, hqe, if_neg c1, if_pos (nlt_le c2)]), ht9⟩, hS.F ht9⟩) hS.2.2 dX3_stressAt_36
  · refine lv_iconst (v := 0) hx hb dX3_stressAt_18 (by decide) ?_
    exact W.iret (v := 0) hx hb hr (fun t9 ht9 hW9 => ⟨⟨_, (), rfl, (by rw [rwF_k hk, hqe, if_pos c1]), ht9⟩, hS.F ht9⟩) hS.2.2 dX3_stressAt_19

set_option maxRecDepth 20000 in
theorem miX3_works_X3 : ∀ w ∈ u_ws RX3 TX3 19, w ∈ wsX3_works := by decide +kernel
set_option maxRecDepth 20000 in
theorem mbX3_works_1 : (.fieldLink RX3 13 "SectionFibresModel" "places" "[I" : Cond) ∈ wsX3_works := by decide +kernel
set_option maxRecDepth 20000 in
theorem mbX3_works_2 : (.fieldLink RX3 19 "SectionFibresModel" "borns" "[I" : Cond) ∈ wsX3_works := by decide +kernel
set_option maxRecDepth 20000 in
theorem mbX3_works_3 : (.fieldLink RX3 37 "SectionFibresModel" "shrunk" "[I" : Cond) ∈ wsX3_works := by decide +kernel
set_option maxRecDepth 20000 in
theorem mbX3_works_4 : (.fieldLink RX3 16 "SectionFibresModel" "kinds" "[I" : Cond) ∈ wsX3_works := by decide +kernel
set_option maxRecDepth 20000 in
theorem mbX3_works_5 : (.fieldLink RX3 34 "SectionFibresModel" "creep" "[I" : Cond) ∈ wsX3_works := by decide +kernel
set_option maxHeartbeats 4000000 in
set_option maxRecDepth 100000 in
theorem c_X3_works (l : Launch) (dC : Nat → ClassId) (dI : Nat → Nat → Nat) (cA : ClassId) (H : Heap) (Z : Nat → Nat) (g : Gg) (n : Nat) (th hs pe pk : Int32) (fo mo : Int64) (fE fK : Int32) (hP : va_P (dC, dI) vwCl (wR cA Z g n th hs pe pk fo mo fE fK) H) (hg : InvG g) (f : Nat) (hf : f < 41) (ee kb : Int32) (hee : rg ee (-20000) 20000) (hkb : rg kb (-20000) 20000) : Met l yX3_works wsX3_works ({ frames := 0, cells := 0, slots := 0, locals := 0 }) (rd_P [.ref (Z 0), .int (nI f), .int ee, .int kb] H (dC, dI) vwCl [(cA, .int)]) (rd_Qi H (fun r => r = wkF g f ee kb)) 0 0 nF := by
  refine Met.ofW (cc := cX3_works) (maxL := 7) (ret := (some .int)) (by decide) rfl ?_
  intro p e s m args below meth c s₁ B hml hv
  obtain ⟨rfl, hH, hK, hN⟩ := hv
  subst hH
  have hx := B.exec
  have hb := B.bytes
  have hr := B.returns
  have hts := atoms_spec (ws := wsX3_works) B.pre
  have hown : s.vm.findClass RX3 = some m.cls := findClass_of_methodNamed B.named
  have hlocks := B.notSynchronized
  have hS : va_S nF s.heap s.heap [] := va_S.rf
  have hl := lv_entry ([.ref (Z 0), .int (nI f), .int ee, .int kb]) (n := 7) (Nat.le_of_ble_eq_true rfl)
  rw [lg_entry_eq]
  generalize (lg_sl ([.ref (Z 0), .int (nI f), .int ee, .int kb]) ++ List.replicate (7 - (lg_sl ([.ref (Z 0), .int (nI f), .int ee, .int kb])).length) Slot.unset).toArray = ls at hl ⊢
  have hl : lv_has ls 7 [(0, .ref (Z 0)), (1, .int (nI f)), (2, .int ee), (3, .int kb)] := hl
  obtain ⟨kd, hkd, hke⟩ := vp_in_of (hg.1 f hf) (by decide)
  have hkp := kp_b hkb.1 hkb.2 (hg.2.1 f hf).1 (hg.2.1 f hf).2
  refine lv_iload_n hx hb dX3_works_0 rfl (lv_at hl 3 rfl) ?_
  refine lv_aload_n hx hb dX3_works_1 rfl (lv_at hl 0 rfl) ?_
  refine va_get (D := (dC, dI)) (ci := 4) (v := .ref (Z 2)) (C := RX3) (T := TX3) (N := 19) hx hb hts miX3_works_X3 hown hK hP 0 rfl rfl 3 (by decide) (hts (.fieldLink RX3 13 "SectionFibresModel" "places" "[I") mbX3_works_1) (fun _ h9 => h9) rfl dX3_works_2 ?_
  refine lv_iload_n hx hb dX3_works_5 rfl (lv_at hl 1 rfl) ?_
  refine ialn hx hb hK hP 2 0 rfl rfl f (rfl) (by omega) (by decide) dX3_works_6 ?_
  refine lv_imul hx hb dX3_works_7 ?_
  refine lv_istore (lv' := [(4, .int (kb * (g 1 f))), (0, .ref (Z 0)), (1, .int (nI f)), (2, .int ee), (3, .int kb)]) hx hb dX3_works_8 hl (by decide) rfl (fun ls hl => ?_)
  refine lv_iload hx hb dX3_works_10 (lv_at hl 0 rfl) ?_
  refine lv_if_lt (tgt := 24) hx hb dX3_works_12 (by decide) (fun c1 => ?_) (fun c1 => ?_)
  · refine lv_sipush (v := 999) hx hb dX3_works_24 (by decide) ?_
    refine lv_iload hx hb dX3_works_27 (lv_at hl 0 rfl) ?_
    refine lv_isub hx hb dX3_works_29 ?_
    refine lv_sipush (v := 1000) hx hb dX3_works_30 (by decide) ?_
    refine lv_idiv hx hb dX3_works_33 (by decide) ?_
    refine lv_ineg hx hb dX3_works_34 ?_
    refine tp_i (v := iI ((kb * g 1 f).toInt / 1000)) (rdnN (by omega) (by omega) c1) ?_
    refine lv_istore (lv' := [(5, .int (iI ((kb * g 1 f).toInt / 1000))), (4, .int (kb * (g 1 f))), (0, .ref (Z 0)), (1, .int (nI f)), (2, .int ee), (3, .int kb)]) hx hb dX3_works_35 hl (by decide) rfl (fun ls hl => ?_)
    refine lv_iload_n hx hb dX3_works_37 rfl (lv_at hl 4 rfl) ?_
    refine lv_iload hx hb dX3_works_38 (lv_at hl 0 rfl) ?_
    refine lv_iadd hx hb dX3_works_40 ?_
    refine lv_aload_n hx hb dX3_works_41 rfl (lv_at hl 2 rfl) ?_
    refine va_get (D := (dC, dI)) (ci := 4) (v := .ref (Z 4)) (C := RX3) (T := TX3) (N := 19) hx hb hts miX3_works_X3 hown hK hP 0 rfl rfl 5 (by decide) (hts (.fieldLink RX3 19 "SectionFibresModel" "borns" "[I") mbX3_works_2) (fun _ h9 => h9) rfl dX3_works_42 ?_
    refine lv_iload_n hx hb dX3_works_45 rfl (lv_at hl 3 rfl) ?_
    refine ialn hx hb hK hP 4 0 rfl rfl f (rfl) (by omega) (by decide) dX3_works_46 ?_
    refine lv_isub hx hb dX3_works_47 ?_
    refine lv_aload_n hx hb dX3_works_48 rfl (lv_at hl 2 rfl) ?_
    refine va_get (D := (dC, dI)) (ci := 4) (v := .ref (Z 10)) (C := RX3) (T := TX3) (N := 19) hx hb hts miX3_works_X3 hown hK hP 0 rfl rfl 11 (by decide) (hts (.fieldLink RX3 37 "SectionFibresModel" "shrunk" "[I") mbX3_works_3) (fun _ h9 => h9) rfl dX3_works_49 ?_
    refine lv_aload_n hx hb dX3_works_52 rfl (lv_at hl 2 rfl) ?_
    refine va_get (D := (dC, dI)) (ci := 4) (v := .ref (Z 3)) (C := RX3) (T := TX3) (N := 19) hx hb hts miX3_works_X3 hown hK hP 0 rfl rfl 4 (by decide) (hts (.fieldLink RX3 16 "SectionFibresModel" "kinds" "[I") mbX3_works_4) (fun _ h9 => h9) rfl dX3_works_53 ?_
    refine lv_iload_n hx hb dX3_works_56 rfl (lv_at hl 3 rfl) ?_
    refine ialn hx hb hK hP 3 0 rfl rfl f (rfl) (by omega) (by decide) dX3_works_57 ?_
    refine tp_i (v := nI kd) (hke) ?_
    refine ialn hx hb hK hP 10 0 rfl rfl kd (rfl) (by omega) (by decide) dX3_works_58 ?_
    refine lv_isub hx hb dX3_works_59 ?_
    refine lv_istore (lv' := [(6, .int (((ee + (iI ((kb * g 1 f).toInt / 1000))) - (g 3 f)) - (g 9 kd))), (5, .int (iI ((kb * g 1 f).toInt / 1000))), (4, .int (kb * (g 1 f))), (0, .ref (Z 0)), (1, .int (nI f)), (2, .int ee), (3, .int kb)]) hx hb dX3_works_60 hl (by decide) rfl (fun ls hl => ?_)
    refine lv_iload hx hb dX3_works_62 (lv_at hl 0 rfl) ?_
    refine lv_bipush (v := 100) hx hb dX3_works_64 (by decide) ?_
    refine lv_imul hx hb dX3_works_66 ?_
    refine lv_bipush (v := 100) hx hb dX3_works_67 (by decide) ?_
    refine lv_aload_n hx hb dX3_works_69 rfl (lv_at hl 3 rfl) ?_
    refine va_get (D := (dC, dI)) (ci := 4) (v := .ref (Z 9)) (C := RX3) (T := TX3) (N := 19) hx hb hts miX3_works_X3 hown hK hP 0 rfl rfl 10 (by decide) (hts (.fieldLink RX3 34 "SectionFibresModel" "creep" "[I") mbX3_works_5) (fun _ h9 => h9) rfl dX3_works_70 ?_
    refine lv_aload_n hx hb dX3_works_73 rfl (lv_at hl 3 rfl) ?_
    refine va_get (D := (dC, dI)) (ci := 4) (v := .ref (Z 3)) (C := RX3) (T := TX3) (N := 19) hx hb hts miX3_works_X3 hown hK hP 0 rfl rfl 4 (by decide) (hts (.fieldLink RX3 16 "SectionFibresModel" "kinds" "[I") mbX3_works_4) (fun _ h9 => h9) rfl dX3_works_74 ?_
    refine lv_iload_n hx hb dX3_works_77 rfl (lv_at hl 4 rfl) ?_
    refine ialn hx hb hK hP 3 0 rfl rfl f (rfl) (by omega) (by decide) dX3_works_78 ?_
    refine tp_i (v := nI kd) (hke) ?_
    refine ialn hx hb hK hP 9 0 rfl rfl kd (rfl) (by omega) (by decide) dX3_works_79 ?_
    refine lv_iadd hx hb dX3_works_80 ?_
    refine lv_idiv hx hb dX3_works_81 (crne (hg.2.2.2.1 kd hkd).1 (hg.2.2.2.1 kd hkd).2) ?_
    exact W.iret (v := (((((ee + (iI ((kb * g 1 f).toInt / 1000))) - (g 3 f)) - (g 9 kd)) * 100) / (100 + (g 8 kd)))) hx hb hr (fun t9 ht9 hW9 => ⟨⟨_, (), rfl, (by have h9 := rwk_eq hg hf hee.1 hee.2 hkb.1 hkb.2 rfl; rw [hke, nI_clamp (n := kd) (by omega)] at h9; exact h9), ht9⟩, hS.F ht9⟩) hS.2.2 dX3_works_82
  · refine lv_iload hx hb dX3_works_15 (lv_at hl 0 rfl) ?_
    refine lv_sipush (v := 1000) hx hb dX3_works_17 (by decide) ?_
    refine lv_idiv hx hb dX3_works_20 (by decide) ?_
    refine tp_i (v := iI ((kb * g 1 f).toInt / 1000)) (rdnP (by omega) (by omega) c1) ?_
    refine lv_goto (tgt := 35) hx hb dX3_works_21 (by decide) ?_
    refine lv_istore (lv' := [(5, .int (iI ((kb * g 1 f).toInt / 1000))), (4, .int (kb * (g 1 f))), (0, .ref (Z 0)), (1, .int (nI f)), (2, .int ee), (3, .int kb)]) hx hb dX3_works_35 hl (by decide) rfl (fun ls hl => ?_)
    refine lv_iload_n hx hb dX3_works_37 rfl (lv_at hl 4 rfl) ?_
    refine lv_iload hx hb dX3_works_38 (lv_at hl 0 rfl) ?_
    refine lv_iadd hx hb dX3_works_40 ?_
    refine lv_aload_n hx hb dX3_works_41 rfl (lv_at hl 2 rfl) ?_
    refine va_get (D := (dC, dI)) (ci := 4) (v := .ref (Z 4)) (C := RX3) (T := TX3) (N := 19) hx hb hts miX3_works_X3 hown hK hP 0 rfl rfl 5 (by decide) (hts (.fieldLink RX3 19 "SectionFibresModel" "borns" "[I") mbX3_works_2) (fun _ h9 => h9) rfl dX3_works_42 ?_
    refine lv_iload_n hx hb dX3_works_45 rfl (lv_at hl 3 rfl) ?_
    refine ialn hx hb hK hP 4 0 rfl rfl f (rfl) (by omega) (by decide) dX3_works_46 ?_
    refine lv_isub hx hb dX3_works_47 ?_
    refine lv_aload_n hx hb dX3_works_48 rfl (lv_at hl 2 rfl) ?_
    refine va_get (D := (dC, dI)) (ci := 4) (v := .ref (Z 10)) (C := RX3) (T := TX3) (N := 19) hx hb hts miX3_works_X3 hown hK hP 0 rfl rfl 11 (by decide) (hts (.fieldLink RX3 37 "SectionFibresModel" "shrunk" "[I") mbX3_works_3) (fun _ h9 => h9) rfl dX3_works_49 ?_
    refine lv_aload_n hx hb dX3_works_52 rfl (lv_at hl 2 rfl) ?_
    refine va_get (D := (dC, dI)) (ci := 4) (v := .ref (Z 3)) (C := RX3) (T := TX3) (N := 19) hx hb hts miX3_works_X3 hown hK hP 0 rfl rfl 4 (by decide) (hts (.fieldLink RX3 16 "SectionFibresModel" "kinds" "[I") mbX3_works_4) (fun _ h9 => h9) rfl dX3_works_53 ?_
    refine lv_iload_n hx hb dX3_works_56 rfl (lv_at hl 3 rfl) ?_
    refine ialn hx hb hK hP 3 0 rfl rfl f (rfl) (by omega) (by decide) dX3_works_57 ?_
    refine tp_i (v := nI kd) (hke) ?_
    refine ialn hx hb hK hP 10 0 rfl rfl kd (rfl) (by omega) (by decide) dX3_works_58 ?_
    refine lv_isub hx hb dX3_works_59 ?_
    refine lv_istore (lv' := [(6, .int (((ee + (iI ((kb * g 1 f).toInt / 1000))) - (g 3 f)) - (g 9 kd))), (5, .int (iI ((kb * g 1 f).toInt / 1000))), (4, .int (kb * (g 1 f))), (0, .ref (Z 0)), (1, .int (nI f)), (2, .int ee), (3, .int kb)]) hx hb dX3_works_60 hl (by decide) rfl (fun ls hl => ?_)
    refine lv_iload hx hb dX3_works_62 (lv_at hl 0 rfl) ?_
    refine lv_bipush (v := 100) hx hb dX3_works_64 (by decide) ?_
    refine lv_imul hx hb dX3_works_66 ?_
    refine lv_bipush (v := 100) hx hb dX3_works_67 (by decide) ?_
    refine lv_aload_n hx hb dX3_works_69 rfl (lv_at hl 3 rfl) ?_
    refine va_get (D := (dC, dI)) (ci := 4) (v := .ref (Z 9)) (C := RX3) (T := TX3) (N := 19) hx hb hts miX3_works_X3 hown hK hP 0 rfl rfl 10 (by decide) (hts (.fieldLink RX3 34 "SectionFibresModel" "creep" "[I") mbX3_works_5) (fun _ h9 => h9) rfl dX3_works_70 ?_
    refine lv_aload_n hx hb dX3_works_73 rfl (lv_at hl 3 rfl) ?_
    refine va_get (D := (dC, dI)) (ci := 4) (v := .ref (Z 3)) (C := RX3) (T := TX3) (N := 19) hx hb hts miX3_works_X3 hown hK hP 0 rfl rfl 4 (by decide) (hts (.fieldLink RX3 16 "SectionFibresModel" "kinds" "[I") mbX3_works_4) (fun _ h9 => h9) rfl dX3_works_74 ?_
    refine lv_iload_n hx hb dX3_works_77 rfl (lv_at hl 4 rfl) ?_
    refine ialn hx hb hK hP 3 0 rfl rfl f (rfl) (by omega) (by decide) dX3_works_78 ?_
    refine tp_i (v := nI kd) (hke) ?_
    refine ialn hx hb hK hP 9 0 rfl rfl kd (rfl) (by omega) (by decide) dX3_works_79 ?_
    refine lv_iadd hx hb dX3_works_80 ?_
    refine lv_idiv hx hb dX3_works_81 (crne (hg.2.2.2.1 kd hkd).1 (hg.2.2.2.1 kd hkd).2) ?_
    exact W.iret (v := (((((ee + (iI ((kb * g 1 f).toInt / 1000))) - (g 3 f)) - (g 9 kd)) * 100) / (100 + (g 8 kd)))) hx hb hr (fun t9 ht9 hW9 => ⟨⟨_, (), rfl, (by have h9 := rwk_eq hg hf hee.1 hee.2 hkb.1 hkb.2 rfl; rw [hke, nI_clamp (n := kd) (by omega)] at h9; exact h9), ht9⟩, hS.F ht9⟩) hS.2.2 dX3_works_82

set_option maxRecDepth 20000 in
theorem miX3_stressOf_X3 : ∀ w ∈ u_ws RX3 TX3 19, w ∈ wsX3_stressOf := by decide +kernel
set_option maxRecDepth 20000 in
theorem mbX3_stressOf_1 : (.fieldLink RX3 16 "SectionFibresModel" "kinds" "[I" : Cond) ∈ wsX3_stressOf := by decide +kernel
set_option maxRecDepth 20000 in
theorem mbX3_stressOf_2 : (.fieldLink RX3 22 "SectionFibresModel" "kept" "[I" : Cond) ∈ wsX3_stressOf := by decide +kernel
set_option maxRecDepth 20000 in
theorem mbX3_stressOf_3 : (.constantLong RX3 77 (100) : Cond) ∈ wsX3_stressOf := by decide +kernel
set_option maxHeartbeats 4000000 in
set_option maxRecDepth 100000 in
theorem c_X3_stressOf (l : Launch) (dC : Nat → ClassId) (dI : Nat → Nat → Nat) (cA : ClassId) (H : Heap) (Z : Nat → Nat) (g : Gg) (n : Nat) (th hs pe pk : Int32) (fo mo : Int64) (fE fK : Int32) (hP : va_P (dC, dI) vwCl (wR cA Z g n th hs pe pk fo mo fE fK) H) (hg : InvG g) (f : Nat) (hf : f < 41) (ee kb : Int32) (hee : rg ee (-20000) 20000) (hkb : rg kb (-20000) 20000) : Met l yX3_stressOf wsX3_stressOf ({ frames := 1, cells := 0, slots := 0, locals := 27 }) (rd_P [.ref (Z 0), .int (nI f), .int ee, .int kb] H (dC, dI) vwCl [(cA, .int)]) (rd_Qi H (fun r => r = stF g f ee kb)) 0 0 nF := by
  refine Met.ofW (cc := cX3_stressOf) (maxL := 4) (ret := (some .int)) (by decide) rfl ?_
  intro p e s m args below meth c s₁ B hml hv
  obtain ⟨rfl, hH, hK, hN⟩ := hv
  subst hH
  have hx := B.exec
  have hb := B.bytes
  have hr := B.returns
  have hts := atoms_spec (ws := wsX3_stressOf) B.pre
  have hown : s.vm.findClass RX3 = some m.cls := findClass_of_methodNamed B.named
  have hlocks := B.notSynchronized
  have hS : va_S nF s.heap s.heap [] := va_S.rf
  have hl := lv_entry ([.ref (Z 0), .int (nI f), .int ee, .int kb]) (n := 4) (Nat.le_of_ble_eq_true rfl)
  rw [lg_entry_eq]
  generalize (lg_sl ([.ref (Z 0), .int (nI f), .int ee, .int kb]) ++ List.replicate (4 - (lg_sl ([.ref (Z 0), .int (nI f), .int ee, .int kb])).length) Slot.unset).toArray = ls at hl ⊢
  have hl : lv_has ls 4 [(0, .ref (Z 0)), (1, .int (nI f)), (2, .int ee), (3, .int kb)] := hl
  refine lv_aload_n hx hb dX3_stressOf_0 rfl (lv_at hl 0 rfl) ?_
  refine lv_aload_n hx hb dX3_stressOf_1 rfl (lv_at hl 0 rfl) ?_
  refine va_get (D := (dC, dI)) (ci := 4) (v := .ref (Z 3)) (C := RX3) (T := TX3) (N := 19) hx hb hts miX3_stressOf_X3 hown hK hP 0 rfl rfl 4 (by decide) (hts (.fieldLink RX3 16 "SectionFibresModel" "kinds" "[I") mbX3_stressOf_1) (fun _ h9 => h9) rfl dX3_stressOf_2 ?_
  refine lv_iload_n hx hb dX3_stressOf_5 rfl (lv_at hl 1 rfl) ?_
  refine ialn hx hb hK hP 3 0 rfl rfl f (rfl) (by omega) (by decide) dX3_stressOf_6 ?_
  refine lv_aload_n hx hb dX3_stressOf_7 rfl (lv_at hl 0 rfl) ?_
  refine lv_iload_n hx hb dX3_stressOf_8 rfl (lv_at hl 1 rfl) ?_
  refine lv_iload_n hx hb dX3_stressOf_9 rfl (lv_at hl 2 rfl) ?_
  refine lv_iload_n hx hb dX3_stressOf_10 rfl (lv_at hl 3 rfl) ?_
  refine rd_i (va_runV (As := [.int (nI f), .int ee, .int kb]) (rest := [.int (g 2 f), .ref (Z 0)]) ⟨hx, hb, hml, hown, hts⟩ (c_X3_works l dC dI cA s.heap Z g n th hs pe pk fo mo fE fK hP hg f (by omega) ee kb hee hkb) (cwV 3 hts gX3_stressOf_X3_works rfl rfl rfl (by decide +kernel) ⟨Nat.le_of_ble_eq_true rfl, Nat.le_of_ble_eq_true rfl⟩) ⟨rd_bl, va_recv hK hP (ci := 4) (q0 := 0) rfl rfl, rd_pre hK hN⟩ rfl rfl hl.1 rfl (lv_room (Nat.le_of_ble_eq_true rfl)) dX3_stressOf_11 ⟨Nat.zero_le _, Nat.zero_le _⟩) hS (fun r1 locs hq2 hS => ?_)
  have hq2 : r1 = wkF g f ee kb := hq2
  subst hq2
  refine rd_i (va_runV (As := [.int (g 2 f), .int (wkF g f ee kb)]) (rest := []) ⟨hx, hb, hml, hown, hts⟩ (c_X3_stressAt l dC dI cA s.heap Z g n th hs pe pk fo mo fE fK hP hg (g 2 f) (wkF g f ee kb) (hg.1 f hf)) (cwV 2 hts gX3_stressOf_X3_stressAt rfl rfl rfl (by decide +kernel) ⟨Nat.le_of_ble_eq_true rfl, Nat.le_of_ble_eq_true rfl⟩) ⟨rd_bl, va_recv hK hP (ci := 4) (q0 := 0) rfl rfl, rd_pre hK hN⟩ rfl rfl hl.1 rfl (lv_room (Nat.le_of_ble_eq_true rfl)) dX3_stressOf_14 ⟨Nat.zero_le _, Nat.zero_le _⟩) hS (fun r3 locs hq4 hS => ?_)
  have hq4 : r3 = rwF g (g 2 f) (wkF g f ee kb) := hq4
  subst hq4
  refine lv_i2l hx hb dX3_stressOf_17 rfl ?_
  refine lv_aload_n hx hb dX3_stressOf_18 rfl (lv_at hl 0 rfl) ?_
  refine va_get (D := (dC, dI)) (ci := 4) (v := .ref (Z 5)) (C := RX3) (T := TX3) (N := 19) hx hb hts miX3_stressOf_X3 hown hK hP 0 rfl rfl 6 (by decide) (hts (.fieldLink RX3 22 "SectionFibresModel" "kept" "[I") mbX3_stressOf_2) (fun _ h9 => h9) rfl dX3_stressOf_19 ?_
  refine lv_iload_n hx hb dX3_stressOf_22 rfl (lv_at hl 1 rfl) ?_
  refine ialn hx hb hK hP 5 0 rfl rfl f (rfl) (by omega) (by decide) dX3_stressOf_23 ?_
  refine lv_i2l hx hb dX3_stressOf_24 rfl ?_
  refine lv_lmul hx hb dX3_stressOf_25 ?_
  refine lv_ldc2 hx hb hown (hts (.constantLong RX3 77 (100)) mbX3_stressOf_3) dX3_stressOf_26 ?_
  refine lv_ldiv hx hb dX3_stressOf_29 (by decide) ?_
  refine lv_l2i hx hb dX3_stressOf_30 rfl ?_
  exact W.iret (v := (((((rwF g (g 2 f) (wkF g f ee kb)).toInt64) * ((g 4 f).toInt64)) / 100).toInt32)) hx hb hr (fun t9 ht9 hW9 => ⟨⟨_, (), rfl, (by unfold stF sh; rw [if_neg (by decide)]), ht9⟩, hS.F ht9⟩) hS.2.2 dX3_stressOf_31

set_option maxRecDepth 20000 in
theorem miX3_isBeyond_X3 : ∀ w ∈ u_ws RX3 TX3 19, w ∈ wsX3_isBeyond := by decide +kernel
set_option maxRecDepth 20000 in
theorem mbX3_isBeyond_1 : (.fieldLink RX3 16 "SectionFibresModel" "kinds" "[I" : Cond) ∈ wsX3_isBeyond := by decide +kernel
set_option maxRecDepth 20000 in
theorem mbX3_isBeyond_2 : (.fieldLink RX3 25 "SectionFibresModel" "points" "[I" : Cond) ∈ wsX3_isBeyond := by decide +kernel
set_option maxRecDepth 20000 in
theorem mbX3_isBeyond_3 : (.fieldLink RX3 28 "SectionFibresModel" "strains" "[I" : Cond) ∈ wsX3_isBeyond := by decide +kernel
set_option maxHeartbeats 4000000 in
set_option maxRecDepth 100000 in
theorem c_X3_isBeyond (l : Launch) (dC : Nat → ClassId) (dI : Nat → Nat → Nat) (cA : ClassId) (H : Heap) (Z : Nat → Nat) (g : Gg) (n : Nat) (th hs pe pk : Int32) (fo mo : Int64) (fE fK : Int32) (hP : va_P (dC, dI) vwCl (wR cA Z g n th hs pe pk fo mo fE fK) H) (hg : InvG g) (f : Nat) (hf : f < 41) (ee kb : Int32) (hee : rg ee (-20000) 20000) (hkb : rg kb (-20000) 20000) : Met l yX3_isBeyond wsX3_isBeyond ({ frames := 1, cells := 0, slots := 0, locals := 26 }) (rd_P [.ref (Z 0), .int (nI f), .int ee, .int kb] H (dC, dI) vwCl [(cA, .int)]) (rd_Qi H (fun r => (byF g (g 2 f) (wkF g f ee kb) ∧ r = 1) ∨ (¬ (byF g (g 2 f) (wkF g f ee kb)) ∧ r = 0))) 0 0 nF := by
  refine Met.ofW (cc := cX3_isBeyond) (maxL := 7) (ret := (some .boolean)) (by decide) rfl ?_
  intro p e s m args below meth c s₁ B hml hv
  obtain ⟨rfl, hH, hK, hN⟩ := hv
  subst hH
  have hx := B.exec
  have hb := B.bytes
  have hr := B.returns
  have hts := atoms_spec (ws := wsX3_isBeyond) B.pre
  have hown : s.vm.findClass RX3 = some m.cls := findClass_of_methodNamed B.named
  have hlocks := B.notSynchronized
  have hS : va_S nF s.heap s.heap [] := va_S.rf
  have hl := lv_entry ([.ref (Z 0), .int (nI f), .int ee, .int kb]) (n := 7) (Nat.le_of_ble_eq_true rfl)
  rw [lg_entry_eq]
  generalize (lg_sl ([.ref (Z 0), .int (nI f), .int ee, .int kb]) ++ List.replicate (7 - (lg_sl ([.ref (Z 0), .int (nI f), .int ee, .int kb])).length) Slot.unset).toArray = ls at hl ⊢
  have hl : lv_has ls 7 [(0, .ref (Z 0)), (1, .int (nI f)), (2, .int ee), (3, .int kb)] := hl
  obtain ⟨kd, hkd, hke⟩ := vp_in_of (hg.1 f hf) (by decide)
  obtain ⟨q, hq, hqe⟩ := vp_in_of (hg.2.2.2.2.2.1 kd hkd) (by decide)
  refine lv_aload_n hx hb dX3_isBeyond_0 rfl (lv_at hl 0 rfl) ?_
  refine lv_iload_n hx hb dX3_isBeyond_1 rfl (lv_at hl 1 rfl) ?_
  refine lv_iload_n hx hb dX3_isBeyond_2 rfl (lv_at hl 2 rfl) ?_
  refine lv_iload_n hx hb dX3_isBeyond_3 rfl (lv_at hl 3 rfl) ?_
  refine rd_i (va_runV (As := [.int (nI f), .int ee, .int kb]) (rest := []) ⟨hx, hb, hml, hown, hts⟩ (c_X3_works l dC dI cA s.heap Z g n th hs pe pk fo mo fE fK hP hg f (by omega) ee kb hee hkb) (cwV 3 hts gX3_isBeyond_X3_works rfl rfl rfl (by decide +kernel) ⟨Nat.le_of_ble_eq_true rfl, Nat.le_of_ble_eq_true rfl⟩) ⟨rd_bl, va_recv hK hP (ci := 4) (q0 := 0) rfl rfl, rd_pre hK hN⟩ rfl rfl hl.1 rfl (lv_room (Nat.le_of_ble_eq_true rfl)) dX3_isBeyond_4 ⟨Nat.zero_le _, Nat.zero_le _⟩) hS (fun r1 locs hq2 hS => ?_)
  have hq2 : r1 = wkF g f ee kb := hq2
  subst hq2
  refine lv_istore (lv' := [(4, .int (wkF g f ee kb)), (0, .ref (Z 0)), (1, .int (nI f)), (2, .int ee), (3, .int kb)]) hx hb dX3_isBeyond_7 hl (by decide) rfl (fun ls hl => ?_)
  refine lv_bipush (v := 8) hx hb dX3_isBeyond_9 (by decide) ?_
  refine lv_aload_n hx hb dX3_isBeyond_11 rfl (lv_at hl 1 rfl) ?_
  refine va_get (D := (dC, dI)) (ci := 4) (v := .ref (Z 3)) (C := RX3) (T := TX3) (N := 19) hx hb hts miX3_isBeyond_X3 hown hK hP 0 rfl rfl 4 (by decide) (hts (.fieldLink RX3 16 "SectionFibresModel" "kinds" "[I") mbX3_isBeyond_1) (fun _ h9 => h9) rfl dX3_isBeyond_12 ?_
  refine lv_iload_n hx hb dX3_isBeyond_15 rfl (lv_at hl 2 rfl) ?_
  refine ialn hx hb hK hP 3 0 rfl rfl f (rfl) (by omega) (by decide) dX3_isBeyond_16 ?_
  refine tp_i (v := nI kd) (hke) ?_
  refine lv_imul hx hb dX3_isBeyond_17 ?_
  refine tp_i (v := nI (8 * kd)) (pk_mul 8 kd) ?_
  refine lv_istore (lv' := [(5, .int (nI (8 * kd))), (4, .int (wkF g f ee kb)), (0, .ref (Z 0)), (1, .int (nI f)), (2, .int ee), (3, .int kb)]) hx hb dX3_isBeyond_18 hl (by decide) rfl (fun ls hl => ?_)
  refine lv_aload_n hx hb dX3_isBeyond_20 rfl (lv_at hl 2 rfl) ?_
  refine va_get (D := (dC, dI)) (ci := 4) (v := .ref (Z 6)) (C := RX3) (T := TX3) (N := 19) hx hb hts miX3_isBeyond_X3 hown hK hP 0 rfl rfl 7 (by decide) (hts (.fieldLink RX3 25 "SectionFibresModel" "points" "[I") mbX3_isBeyond_2) (fun _ h9 => h9) rfl dX3_isBeyond_21 ?_
  refine lv_aload_n hx hb dX3_isBeyond_24 rfl (lv_at hl 2 rfl) ?_
  refine va_get (D := (dC, dI)) (ci := 4) (v := .ref (Z 3)) (C := RX3) (T := TX3) (N := 19) hx hb hts miX3_isBeyond_X3 hown hK hP 0 rfl rfl 4 (by decide) (hts (.fieldLink RX3 16 "SectionFibresModel" "kinds" "[I") mbX3_isBeyond_1) (fun _ h9 => h9) rfl dX3_isBeyond_25 ?_
  refine lv_iload_n hx hb dX3_isBeyond_28 rfl (lv_at hl 3 rfl) ?_
  refine ialn hx hb hK hP 3 0 rfl rfl f (rfl) (by omega) (by decide) dX3_isBeyond_29 ?_
  refine tp_i (v := nI kd) (hke) ?_
  refine ialn hx hb hK hP 6 0 rfl rfl kd (rfl) (by omega) (by decide) dX3_isBeyond_30 ?_
  refine tp_i (v := nI q) (hqe) ?_
  refine lv_istore (lv' := [(6, .int (nI q)), (5, .int (nI (8 * kd))), (4, .int (wkF g f ee kb)), (0, .ref (Z 0)), (1, .int (nI f)), (2, .int ee), (3, .int kb)]) hx hb dX3_isBeyond_31 hl (by decide) rfl (fun ls hl => ?_)
  refine lv_iload hx hb dX3_isBeyond_33 (lv_at hl 0 rfl) ?_
  refine lv_if_le (tgt := 71) hx hb dX3_isBeyond_35 (by decide) (fun c1 => ?_) (fun c1 => ?_)
  · refine lv_iconst (v := 0) hx hb dX3_isBeyond_71 (by decide) ?_
    exact W.zret (ty := .boolean) (v := 0) hx hb hr (by decide) (fun t9 ht9 hW9 => ⟨⟨_, (), rfl, (Or.inr ⟨fun h9 => by rw [hke, byF_k hkd, hqe] at h9; exact h9.1 (by have h8 := (nI_leI (b := 0) (by omega) (by omega)).mp c1; rw [show q = 0 by omega]; rfl), rfl⟩), ht9⟩, hS.F ht9⟩) hS.2.2 dX3_isBeyond_72
  · have hq0 : 0 < q := Nat.pos_of_ne_zero (fun h9 => c1 (by rw [h9]; decide))
    refine lv_iload hx hb dX3_isBeyond_38 (lv_at hl 2 rfl) ?_
    refine lv_aload_n hx hb dX3_isBeyond_40 rfl (lv_at hl 3 rfl) ?_
    refine va_get (D := (dC, dI)) (ci := 4) (v := .ref (Z 7)) (C := RX3) (T := TX3) (N := 19) hx hb hts miX3_isBeyond_X3 hown hK hP 0 rfl rfl 8 (by decide) (hts (.fieldLink RX3 28 "SectionFibresModel" "strains" "[I") mbX3_isBeyond_3) (fun _ h9 => h9) rfl dX3_isBeyond_41 ?_
    refine lv_iload hx hb dX3_isBeyond_44 (lv_at hl 1 rfl) ?_
    refine ialn hx hb hK hP 7 0 rfl rfl (8 * kd) (rfl) (by omega) (by decide) dX3_isBeyond_46 ?_
    refine lv_icmp_lt (tgt := 67) hx hb dX3_isBeyond_47 (by decide) (fun c2 => ?_) (fun c2 => ?_)
    · refine lv_iconst (v := 1) hx hb dX3_isBeyond_67 (by decide) ?_
      refine lv_goto (tgt := 72) hx hb dX3_isBeyond_68 (by decide) ?_
      exact W.zret (ty := .boolean) (v := 1) hx hb hr (by decide) (fun t9 ht9 hW9 => ⟨⟨_, (), rfl, (Or.inl ⟨by rw [hke, byF_k hkd, hqe]; exact ⟨(fun h8 => by have h9 := (nI_eq (b := 0) (by omega) (by omega)).mp h8; omega), Or.inl c2⟩, rfl⟩), ht9⟩, hS.F ht9⟩) hS.2.2 dX3_isBeyond_72
    · refine lv_iload hx hb dX3_isBeyond_50 (lv_at hl 2 rfl) ?_
      refine lv_aload_n hx hb dX3_isBeyond_52 rfl (lv_at hl 3 rfl) ?_
      refine va_get (D := (dC, dI)) (ci := 4) (v := .ref (Z 7)) (C := RX3) (T := TX3) (N := 19) hx hb hts miX3_isBeyond_X3 hown hK hP 0 rfl rfl 8 (by decide) (hts (.fieldLink RX3 28 "SectionFibresModel" "strains" "[I") mbX3_isBeyond_3) (fun _ h9 => h9) rfl dX3_isBeyond_53 ?_
      refine lv_iload hx hb dX3_isBeyond_56 (lv_at hl 1 rfl) ?_
      refine lv_iload hx hb dX3_isBeyond_58 (lv_at hl 0 rfl) ?_
      refine lv_iadd hx hb dX3_isBeyond_60 ?_
      refine tp_i (v := nI (8 * kd + q)) (nI_add _ _) ?_
      refine lv_iconst (v := 1) hx hb dX3_isBeyond_61 (by decide) ?_
      refine lv_isub hx hb dX3_isBeyond_62 ?_
      refine tp_i (v := nI (8 * kd + q - 1)) (by have h9 := nI_pred (8 * kd + q - 1); rwa [show 8 * kd + q - 1 + 1 = 8 * kd + q by omega] at h9) ?_
      refine ialn hx hb hK hP 7 0 rfl rfl (8 * kd + q - 1) (rfl) (by omega) (by decide) dX3_isBeyond_63 ?_
      refine lv_icmp_le (tgt := 71) hx hb dX3_isBeyond_64 (by decide) (fun c3 => ?_) (fun c3 => ?_)
      · refine lv_iconst (v := 0) hx hb dX3_isBeyond_71 (by decide) ?_
        exact W.zret (ty := .boolean) (v := 0) hx hb hr (by decide) (fun t9 ht9 hW9 => ⟨⟨_, (), rfl, (Or.inr ⟨fun h9 => by rw [hke, byF_k hkd, hqe, nI_clamp (n := q) (by omega)] at h9; exact h9.2.elim c2 (le_nlt c3), rfl⟩), ht9⟩, hS.F ht9⟩) hS.2.2 dX3_isBeyond_72
      · refine lv_iconst (v := 1) hx hb dX3_isBeyond_67 (by decide) ?_
        refine lv_goto (tgt := 72) hx hb dX3_isBeyond_68 (by decide) ?_
        exact W.zret (ty := .boolean) (v := 1) hx hb hr (by decide) (fun t9 ht9 hW9 => ⟨⟨_, (), rfl, (Or.inl ⟨by rw [hke, byF_k hkd, hqe, nI_clamp (n := q) (by omega)]; exact ⟨(fun h8 => by have h9 := (nI_eq (b := 0) (by omega) (by omega)).mp h8; omega), Or.inr (nle_lt c3)⟩, rfl⟩), ht9⟩, hS.F ht9⟩) hS.2.2 dX3_isBeyond_72

set_option maxRecDepth 20000 in
theorem miX3_firstBeyond_X3 : ∀ w ∈ u_ws RX3 TX3 19, w ∈ wsX3_firstBeyond := by decide +kernel
set_option maxRecDepth 20000 in
theorem mbX3_firstBeyond_1 : (.fieldLink RX3 44 "SectionFibresModel" "fibres" "I" : Cond) ∈ wsX3_firstBeyond := by decide +kernel
set_option maxHeartbeats 4000000 in
set_option maxRecDepth 100000 in
theorem c_X3_firstBeyond (l : Launch) (dC : Nat → ClassId) (dI : Nat → Nat → Nat) (cA : ClassId) (H : Heap) (Z : Nat → Nat) (g : Gg) (n : Nat) (th hs pe pk : Int32) (fo mo : Int64) (fE fK : Int32) (hP : va_P (dC, dI) vwCl (wR cA Z g n th hs pe pk fo mo fE fK) H) (hg : InvG g) (hn : n ≤ 41) (ee kb : Int32) (hee : rg ee (-20000) 20000) (hkb : rg kb (-20000) 20000) : Met l yX3_firstBeyond wsX3_firstBeyond ({ frames := 2, cells := 0, slots := 0, locals := 52 }) (rd_P [.ref (Z 0), .int ee, .int kb] H (dC, dI) vwCl [(cA, .int)]) (rd_Qi H (fun r => r = fbF g ee kb n 0)) 0 0 nF := by
  refine Met.ofW (cc := cX3_firstBeyond) (maxL := 4) (ret := (some .int)) (by decide) rfl ?_
  intro p e s m args below meth c s₁ B hml hv
  obtain ⟨rfl, hH, hK, hN⟩ := hv
  subst hH
  have hx := B.exec
  have hb := B.bytes
  have hr := B.returns
  have hts := atoms_spec (ws := wsX3_firstBeyond) B.pre
  have hown : s.vm.findClass RX3 = some m.cls := findClass_of_methodNamed B.named
  have hlocks := B.notSynchronized
  have hS : va_S nF s.heap s.heap [] := va_S.rf
  have hl := lv_entry ([.ref (Z 0), .int ee, .int kb]) (n := 4) (Nat.le_of_ble_eq_true rfl)
  rw [lg_entry_eq]
  generalize (lg_sl ([.ref (Z 0), .int ee, .int kb]) ++ List.replicate (4 - (lg_sl ([.ref (Z 0), .int ee, .int kb])).length) Slot.unset).toArray = ls at hl ⊢
  have hl : lv_has ls 4 [(0, .ref (Z 0)), (1, .int ee), (2, .int kb)] := hl
  refine lv_iconst (v := 0) hx hb dX3_firstBeyond_0 (by decide) ?_
  refine tp_i (v := nI 0) (rfl) ?_
  refine lv_istore_n (lv' := [(3, .int (nI 0)), (0, .ref (Z 0)), (1, .int ee), (2, .int kb)]) hx hb dX3_firstBeyond_1 rfl hl (by decide) rfl (fun ls hl => ?_)
  have lp : ∀ (z : Nat) (i : Nat) (locs : List Loc) (ls : Array Slot), i ≤ n → n + 1 ≤ i + z → fbF g ee kb n 0 = fbF g ee kb (n - i) i → va_S nF s.heap s.heap locs → lv_has ls 4 [(0, .ref (Z 0)), (1, .int ee), (2, .int kb), (3, .int (nI i))] → W p l e (headSpec wsX3_firstBeyond ({ frames := 2, cells := 0, slots := 0, locals := 52 })).room s m ([.ref (Z 0), .int ee, .int kb]).toArray below meth c s.heap locs 0 0 (MQ below (rd_Qi s.heap (fun r => r = fbF g ee kb n 0)) ([.ref (Z 0), .int ee, .int kb]).toArray s 0 0 nF) (F0 m 2 ls []) := by
    intro z
    induction z with
    | zero =>
      intro i locs ls h1 h2 hv hS hl
      exact absurd h2 (by omega)
    | succ z ih =>
      intro i locs ls h1 h2 hv hS hl
      refine lv_iload_n hx hb dX3_firstBeyond_2 rfl (lv_at hl 3 rfl) ?_
      refine lv_aload_n hx hb dX3_firstBeyond_3 rfl (lv_at hl 0 rfl) ?_
      refine va_get (D := (dC, dI)) (ci := 4) (v := .int (nI n)) (C := RX3) (T := TX3) (N := 19) hx hb hts miX3_firstBeyond_X3 hown hK hP 0 rfl rfl 1 (by decide) (hts (.fieldLink RX3 44 "SectionFibresModel" "fibres" "I") mbX3_firstBeyond_1) (fun _ h9 => h9) rfl dX3_firstBeyond_4 ?_
      refine lv_icmp_ge (tgt := 28) hx hb dX3_firstBeyond_7 (by decide) (fun c1 => ?_) (fun c1 => ?_)
      · have hi : i = n := by have h9 := (nI_leI (by omega) (by omega)).mp c1; omega
        refine lv_iconst (v := (-1)) hx hb dX3_firstBeyond_28 (by decide) ?_
        exact W.iret (v := (-1)) hx hb hr (fun t9 ht9 hW9 => ⟨⟨_, (), rfl, (by rw [hv, hi, Nat.sub_self]; rfl), ht9⟩, hS.F ht9⟩) hS.2.2 dX3_firstBeyond_29
      · have hi : i < n := by rcases Nat.lt_or_ge i n with h9 | h9; exact h9; exact absurd (nI_le h9 (by omega)) c1
        refine lv_aload_n hx hb dX3_firstBeyond_10 rfl (lv_at hl 0 rfl) ?_
        refine lv_iload_n hx hb dX3_firstBeyond_11 rfl (lv_at hl 3 rfl) ?_
        refine lv_iload_n hx hb dX3_firstBeyond_12 rfl (lv_at hl 1 rfl) ?_
        refine lv_iload_n hx hb dX3_firstBeyond_13 rfl (lv_at hl 2 rfl) ?_
        refine rd_i (va_runV (As := [.int (nI i), .int ee, .int kb]) (rest := []) ⟨hx, hb, hml, hown, hts⟩ (c_X3_isBeyond l dC dI cA s.heap Z g n th hs pe pk fo mo fE fK hP hg i (by omega) ee kb hee hkb) (cwV 3 hts gX3_firstBeyond_X3_isBeyond rfl rfl rfl (by decide +kernel) ⟨Nat.le_of_ble_eq_true rfl, Nat.le_of_ble_eq_true rfl⟩) ⟨rd_bl, va_recv hK hP (ci := 4) (q0 := 0) rfl rfl, rd_pre hK hN⟩ rfl rfl hl.1 rfl (lv_room (Nat.le_of_ble_eq_true rfl)) dX3_firstBeyond_14 ⟨Nat.zero_le _, Nat.zero_le _⟩) hS (fun r1 locs hq2 hS => ?_)
        rcases hq2 with ⟨hq2, rfl⟩ | ⟨hq2, rfl⟩
        · have hq9 : byF g (g 2 i) (wkF g i ee kb) := hq2
          refine lv_if_eq (tgt := 22) hx hb dX3_firstBeyond_17 (by decide) (fun h9 => absurd h9 (by decide)) (fun _ => ?_)
          refine lv_iload_n hx hb dX3_firstBeyond_20 rfl (lv_at hl 3 rfl) ?_
          exact W.iret (v := (nI i)) hx hb hr (fun t9 ht9 hW9 => ⟨⟨_, (), rfl, (by rw [hv, show n - i = (n - (i + 1)) + 1 by omega, fbF_t hq9]), ht9⟩, hS.F ht9⟩) hS.2.2 dX3_firstBeyond_21
        · have hq9 : ¬ (byF g (g 2 i) (wkF g i ee kb)) := hq2
          refine lv_if_eq (tgt := 22) hx hb dX3_firstBeyond_17 (by decide) (fun _ => ?_) (fun h9 => absurd h9 (by decide))
          refine lv_iinc (v := nI (i + 1)) (lv' := [(3, .int (nI (i + 1))), (0, .ref (Z 0)), (1, .int ee), (2, .int kb)]) hx hb dX3_firstBeyond_22 hl (k := 3) rfl (nI_1 i) (by decide) rfl (fun ls hl => ?_)
          refine lv_goto (tgt := 2) hx hb dX3_firstBeyond_25 (by decide) ?_
          exact ih (i + 1) _ _ (by omega) (by omega) (by rw [hv, show n - i = (n - (i + 1)) + 1 by omega, fbF_f hq9]) hS (lv_sub hl [1, 2, 3, 0] rfl)
  exact lp (n + 1) 0 _ _ (Nat.zero_le _) (by omega) rfl hS (lv_sub hl [1, 2, 3, 0] rfl)

set_option maxRecDepth 20000 in
theorem miX3_sum_X3 : ∀ w ∈ u_ws RX3 TX3 19, w ∈ wsX3_sum := by decide +kernel
set_option maxRecDepth 20000 in
theorem mbX3_sum_1 : (.fieldLink RX3 44 "SectionFibresModel" "fibres" "I" : Cond) ∈ wsX3_sum := by decide +kernel
set_option maxRecDepth 20000 in
theorem mbX3_sum_2 : (.fieldLink RX3 7 "SectionFibresModel" "areas" "[I" : Cond) ∈ wsX3_sum := by decide +kernel
set_option maxRecDepth 20000 in
theorem mbX3_sum_3 : (.fieldLink RX3 13 "SectionFibresModel" "places" "[I" : Cond) ∈ wsX3_sum := by decide +kernel
set_option maxHeartbeats 4000000 in
set_option maxRecDepth 100000 in
theorem c_X3_sum (l : Launch) (dC : Nat → ClassId) (dI : Nat → Nat → Nat) (cA : ClassId) (H : Heap) (Z : Nat → Nat) (g : Gg) (n : Nat) (th hs pe pk : Int32) (fo mo : Int64) (fE fK : Int32) (hP : va_P (dC, dI) vwCl (wR cA Z g n th hs pe pk fo mo fE fK) H) (hg : InvG g) (hn : n ≤ 41) (ee kb : Int32) (hee : rg ee (-20000) 20000) (hkb : rg kb (-20000) 20000) (w : Bool) (wh : Int32) (hw : ¬ wh = 0 ↔ w = true) : Met l yX3_sum wsX3_sum ({ frames := 2, cells := 0, slots := 0, locals := 50 }) (rd_P [.ref (Z 0), .int ee, .int kb, .int wh] H (dC, dI) vwCl [(cA, .int)]) (rd_Ql H (fun r => r = smF g w ee kb n)) 0 0 nF := by
  refine Met.ofW (cc := cX3_sum) (maxL := 7) (ret := (some .long)) (by decide) rfl ?_
  intro p e s m args below meth c s₁ B hml hv
  obtain ⟨rfl, hH, hK, hN⟩ := hv
  subst hH
  have hx := B.exec
  have hb := B.bytes
  have hr := B.returns
  have hts := atoms_spec (ws := wsX3_sum) B.pre
  have hown : s.vm.findClass RX3 = some m.cls := findClass_of_methodNamed B.named
  have hlocks := B.notSynchronized
  have hS : va_S nF s.heap s.heap [] := va_S.rf
  have hl := lv_entry ([.ref (Z 0), .int ee, .int kb, .int wh]) (n := 7) (Nat.le_of_ble_eq_true rfl)
  rw [lg_entry_eq]
  generalize (lg_sl ([.ref (Z 0), .int ee, .int kb, .int wh]) ++ List.replicate (7 - (lg_sl ([.ref (Z 0), .int ee, .int kb, .int wh])).length) Slot.unset).toArray = ls at hl ⊢
  have hl : lv_has ls 7 [(0, .ref (Z 0)), (1, .int ee), (2, .int kb), (3, .int wh)] := hl
  refine lv_lconst (v := 0) hx hb dX3_sum_0 (by decide) ?_
  refine lv_lstore (lv' := [(4, .long 0), (0, .ref (Z 0)), (1, .int ee), (2, .int kb), (3, .int wh)]) hx hb dX3_sum_1 hl (by decide) rfl (fun ls hl => ?_)
  refine lv_iconst (v := 0) hx hb dX3_sum_3 (by decide) ?_
  refine tp_i (v := nI 0) (rfl) ?_
  refine lv_istore (lv' := [(6, .int (nI 0)), (4, .long 0), (0, .ref (Z 0)), (1, .int ee), (2, .int kb), (3, .int wh)]) hx hb dX3_sum_4 hl (by decide) rfl (fun ls hl => ?_)
  have lp : ∀ (z : Nat) (i : Nat) (locs : List Loc) (ls : Array Slot), i ≤ n → n + 1 ≤ i + z → va_S nF s.heap s.heap locs → lv_has ls 7 [(0, .ref (Z 0)), (1, .int ee), (2, .int kb), (3, .int wh), (4, .long (smF g w ee kb i)), (6, .int (nI i))] → W p l e (headSpec wsX3_sum ({ frames := 2, cells := 0, slots := 0, locals := 50 })).room s m ([.ref (Z 0), .int ee, .int kb, .int wh]).toArray below meth c s.heap locs 0 0 (MQ below (rd_Ql s.heap (fun r => r = smF g w ee kb n)) ([.ref (Z 0), .int ee, .int kb, .int wh]).toArray s 0 0 nF) (F0 m 6 ls []) := by
    intro z
    induction z with
    | zero =>
      intro i locs ls h1 h2 hS hl
      exact absurd h2 (by omega)
    | succ z ih =>
      intro i locs ls h1 h2 hS hl
      refine lv_iload hx hb dX3_sum_6 (lv_at hl 5 rfl) ?_
      refine lv_aload_n hx hb dX3_sum_8 rfl (lv_at hl 0 rfl) ?_
      refine va_get (D := (dC, dI)) (ci := 4) (v := .int (nI n)) (C := RX3) (T := TX3) (N := 19) hx hb hts miX3_sum_X3 hown hK hP 0 rfl rfl 1 (by decide) (hts (.fieldLink RX3 44 "SectionFibresModel" "fibres" "I") mbX3_sum_1) (fun _ h9 => h9) rfl dX3_sum_9 ?_
      refine lv_icmp_ge (tgt := 61) hx hb dX3_sum_12 (by decide) (fun c1 => ?_) (fun c1 => ?_)
      · have hi : i = n := by have h9 := (nI_leI (by omega) (by omega)).mp c1; omega
        refine lv_lload hx hb dX3_sum_61 (lv_at hl 4 rfl) ?_
        exact W.lret (v := (smF g w ee kb i)) hx hb hr (fun t9 ht9 hW9 => ⟨⟨_, (), rfl, (by rw [hi]), ht9⟩, hS.F ht9⟩) hS.2.2 dX3_sum_63
      · have hi : i < n := by rcases Nat.lt_or_ge i n with h9 | h9; exact h9; exact absurd (nI_le h9 (by omega)) c1
        refine lv_lload hx hb dX3_sum_15 (lv_at hl 4 rfl) ?_
        refine lv_aload_n hx hb dX3_sum_17 rfl (lv_at hl 0 rfl) ?_
        refine va_get (D := (dC, dI)) (ci := 4) (v := .ref (Z 1)) (C := RX3) (T := TX3) (N := 19) hx hb hts miX3_sum_X3 hown hK hP 0 rfl rfl 2 (by decide) (hts (.fieldLink RX3 7 "SectionFibresModel" "areas" "[I") mbX3_sum_2) (fun _ h9 => h9) rfl dX3_sum_18 ?_
        refine lv_iload hx hb dX3_sum_21 (lv_at hl 5 rfl) ?_
        refine ialn hx hb hK hP 1 0 rfl rfl i (rfl) (by omega) (by decide) dX3_sum_23 ?_
        refine lv_i2l hx hb dX3_sum_24 rfl ?_
        refine lv_aload_n hx hb dX3_sum_25 rfl (lv_at hl 0 rfl) ?_
        refine lv_iload hx hb dX3_sum_26 (lv_at hl 5 rfl) ?_
        refine lv_iload_n hx hb dX3_sum_28 rfl (lv_at hl 1 rfl) ?_
        refine lv_iload_n hx hb dX3_sum_29 rfl (lv_at hl 2 rfl) ?_
        refine rd_i (va_runV (As := [.int (nI i), .int ee, .int kb]) (rest := [.long ((g 0 i).toInt64), .long (smF g w ee kb i)]) ⟨hx, hb, hml, hown, hts⟩ (c_X3_stressOf l dC dI cA s.heap Z g n th hs pe pk fo mo fE fK hP hg i (by omega) ee kb hee hkb) (cwV 3 hts gX3_sum_X3_stressOf rfl rfl rfl (by decide +kernel) ⟨Nat.le_of_ble_eq_true rfl, Nat.le_of_ble_eq_true rfl⟩) ⟨rd_bl, va_recv hK hP (ci := 4) (q0 := 0) rfl rfl, rd_pre hK hN⟩ rfl rfl hl.1 rfl (lv_room (Nat.le_of_ble_eq_true rfl)) dX3_sum_30 ⟨Nat.zero_le _, Nat.zero_le _⟩) hS (fun r1 locs hq2 hS => ?_)
        have hq2 : r1 = stF g i ee kb := hq2
        subst hq2
        refine lv_i2l hx hb dX3_sum_33 rfl ?_
        refine lv_lmul hx hb dX3_sum_34 ?_
        refine lv_iload_n hx hb dX3_sum_35 rfl (lv_at hl 3 rfl) ?_
        refine lv_if_eq (tgt := 49) hx hb dX3_sum_36 (by decide) (fun c2 => ?_) (fun c2 => ?_)
        · refine lv_iconst (v := 1) hx hb dX3_sum_49 (by decide) ?_
          refine lv_i2l hx hb dX3_sum_50 rfl ?_
          refine tp_l (v := 1) (by decide) ?_
          refine lv_lmul hx hb dX3_sum_51 ?_
          refine lv_ladd hx hb dX3_sum_52 ?_
          refine tp_l (v := smF g w ee kb (i + 1)) (by rw [Int64.mul_one, Bool.eq_false_iff.mpr (fun h9 => hw.mpr h9 c2)]; rfl) ?_
          refine lv_lstore (lv' := [(4, .long (smF g w ee kb (i + 1))), (0, .ref (Z 0)), (1, .int ee), (2, .int kb), (3, .int wh), (6, .int (nI i))]) hx hb dX3_sum_53 hl (by decide) rfl (fun ls hl => ?_)
          refine lv_iinc (v := nI (i + 1)) (lv' := [(6, .int (nI (i + 1))), (4, .long (smF g w ee kb (i + 1))), (0, .ref (Z 0)), (1, .int ee), (2, .int kb), (3, .int wh)]) hx hb dX3_sum_55 hl (k := 5) rfl (nI_1 i) (by decide) rfl (fun ls hl => ?_)
          refine lv_goto (tgt := 6) hx hb dX3_sum_58 (by decide) ?_
          exact ih (i + 1) _ _ (by omega) (by omega) hS (lv_sub hl [2, 3, 4, 5, 1, 0] rfl)
        · refine lv_aload_n hx hb dX3_sum_39 rfl (lv_at hl 0 rfl) ?_
          refine va_get (D := (dC, dI)) (ci := 4) (v := .ref (Z 2)) (C := RX3) (T := TX3) (N := 19) hx hb hts miX3_sum_X3 hown hK hP 0 rfl rfl 3 (by decide) (hts (.fieldLink RX3 13 "SectionFibresModel" "places" "[I") mbX3_sum_3) (fun _ h9 => h9) rfl dX3_sum_40 ?_
          refine lv_iload hx hb dX3_sum_43 (lv_at hl 5 rfl) ?_
          refine ialn hx hb hK hP 2 0 rfl rfl i (rfl) (by omega) (by decide) dX3_sum_45 ?_
          refine lv_goto (tgt := 50) hx hb dX3_sum_46 (by decide) ?_
          refine lv_i2l hx hb dX3_sum_50 rfl ?_
          refine lv_lmul hx hb dX3_sum_51 ?_
          refine lv_ladd hx hb dX3_sum_52 ?_
          refine tp_l (v := smF g w ee kb (i + 1)) (by rw [hw.mp c2]; rfl) ?_
          refine lv_lstore (lv' := [(4, .long (smF g w ee kb (i + 1))), (0, .ref (Z 0)), (1, .int ee), (2, .int kb), (3, .int wh), (6, .int (nI i))]) hx hb dX3_sum_53 hl (by decide) rfl (fun ls hl => ?_)
          refine lv_iinc (v := nI (i + 1)) (lv' := [(6, .int (nI (i + 1))), (4, .long (smF g w ee kb (i + 1))), (0, .ref (Z 0)), (1, .int ee), (2, .int kb), (3, .int wh)]) hx hb dX3_sum_55 hl (k := 5) rfl (nI_1 i) (by decide) rfl (fun ls hl => ?_)
          refine lv_goto (tgt := 6) hx hb dX3_sum_58 (by decide) ?_
          exact ih (i + 1) _ _ (by omega) (by omega) hS (lv_sub hl [2, 3, 4, 5, 1, 0] rfl)
  exact lp (n + 1) 0 _ _ (Nat.zero_le _) (by omega) hS (lv_sub hl [2, 3, 4, 5, 1, 0] rfl)

set_option maxRecDepth 20000 in
theorem mbX3_balanceOf_0 : (.constant RX3 64 (-1000000) : Cond) ∈ wsX3_balanceOf := by decide +kernel
set_option maxHeartbeats 4000000 in
set_option maxRecDepth 100000 in
theorem c_X3_balanceOf (l : Launch) (dC : Nat → ClassId) (dI : Nat → Nat → Nat) (cA : ClassId) (H : Heap) (Z : Nat → Nat) (g : Gg) (n : Nat) (th hs pe pk : Int32) (fo mo : Int64) (fE fK : Int32) (hP : va_P (dC, dI) vwCl (wR cA Z g n th hs pe pk fo mo fE fK) H) (hg : InvG g) (hn : n ≤ 41) (fr : Int64) (kb : Int32) (hkb : rg kb (-20000) 20000) : Met l yX3_balanceOf wsX3_balanceOf ({ frames := 3, cells := 0, slots := 0, locals := 76 }) (rd_P [.ref (Z 0), .long fr, .int kb] H (dC, dI) vwCl [(cA, .int)]) (rd_Qi H (fun r => r = blF g n fr kb)) 0 0 nF := by
  refine Met.ofW (cc := cX3_balanceOf) (maxL := 7) (ret := (some .int)) (by decide) rfl ?_
  intro p e s m args below meth c s₁ B hml hv
  obtain ⟨rfl, hH, hK, hN⟩ := hv
  subst hH
  have hx := B.exec
  have hb := B.bytes
  have hr := B.returns
  have hts := atoms_spec (ws := wsX3_balanceOf) B.pre
  have hown : s.vm.findClass RX3 = some m.cls := findClass_of_methodNamed B.named
  have hlocks := B.notSynchronized
  have hS : va_S nF s.heap s.heap [] := va_S.rf
  have hl := lv_entry ([.ref (Z 0), .long fr, .int kb]) (n := 7) (Nat.le_of_ble_eq_true rfl)
  rw [lg_entry_eq]
  generalize (lg_sl ([.ref (Z 0), .long fr, .int kb]) ++ List.replicate (7 - (lg_sl ([.ref (Z 0), .long fr, .int kb])).length) Slot.unset).toArray = ls at hl ⊢
  have hl : lv_has ls 7 [(0, .ref (Z 0)), (1, .long fr), (3, .int kb)] := hl
  refine lv_aload_n hx hb dX3_balanceOf_0 rfl (lv_at hl 0 rfl) ?_
  refine lv_sipush (v := 20000) hx hb dX3_balanceOf_1 (by decide) ?_
  refine tp_i (v := iI 20000) (by decide) ?_
  refine lv_iload_n hx hb dX3_balanceOf_4 rfl (lv_at hl 2 rfl) ?_
  refine lv_iconst (v := 0) hx hb dX3_balanceOf_5 (by decide) ?_
  refine rd_l (va_runV (As := [.int (iI 20000), .int kb, .int 0]) (rest := []) ⟨hx, hb, hml, hown, hts⟩ (c_X3_sum l dC dI cA s.heap Z g n th hs pe pk fo mo fE fK hP hg hn (iI 20000) kb (rgI (by omega) (by omega)) hkb false 0 (by decide)) (cwV 3 hts gX3_balanceOf_X3_sum rfl rfl rfl (by decide +kernel) ⟨Nat.le_of_ble_eq_true rfl, Nat.le_of_ble_eq_true rfl⟩) ⟨rd_bl, va_recv hK hP (ci := 4) (q0 := 0) rfl rfl, rd_pre hK hN⟩ rfl rfl hl.1 rfl (lv_room (Nat.le_of_ble_eq_true rfl)) dX3_balanceOf_6 ⟨Nat.zero_le _, Nat.zero_le _⟩) hS (fun r1 locs hq2 hS => ?_)
  have hq2 : r1 = smF g false (iI 20000) kb n := hq2
  subst hq2
  refine lv_lload_n hx hb dX3_balanceOf_9 rfl (lv_at hl 1 rfl) ?_
  refine W.lcmp hx hb dX3_balanceOf_10 ?_
  refine lv_if_ge (tgt := 17) hx hb dX3_balanceOf_11 (by decide) (fun c1 => ?_) (fun c1 => ?_)
  · have c1 := (lg_cmp_ge _ _).mp c1
    refine lv_sipush (v := (-20000)) hx hb dX3_balanceOf_17 (by decide) ?_
    refine tp_i (v := iI (-20000)) (by decide) ?_
    refine lv_istore (lv' := [(4, .int (iI (-20000))), (0, .ref (Z 0)), (1, .long fr), (3, .int kb)]) hx hb dX3_balanceOf_20 hl (by decide) rfl (fun ls hl => ?_)
    refine lv_sipush (v := 20000) hx hb dX3_balanceOf_22 (by decide) ?_
    refine tp_i (v := iI 20000) (by decide) ?_
    refine lv_istore (lv' := [(5, .int (iI 20000)), (4, .int (iI (-20000))), (0, .ref (Z 0)), (1, .long fr), (3, .int kb)]) hx hb dX3_balanceOf_25 hl (by decide) rfl (fun ls hl => ?_)
    have lp : ∀ (z : Nat) (a : Int) (b : Int) (u : Nat) (locs : List Loc) (ls : Array Slot), -20000 ≤ a → a ≤ 20000 → -20000 ≤ b → b ≤ 20000 → a ≤ b → b - a < z → b - a < 2 ^ u → bsF (fun x => fr ≤ smF g false (iI x) kb n) 32 (-20000) 20000 = bsF (fun x => fr ≤ smF g false (iI x) kb n) u a b → va_S nF s.heap s.heap locs → lv_has ls 7 [(0, .ref (Z 0)), (1, .long fr), (3, .int kb), (4, .int (iI a)), (5, .int (iI b))] → W p l e (headSpec wsX3_balanceOf ({ frames := 3, cells := 0, slots := 0, locals := 76 })).room s m ([.ref (Z 0), .long fr, .int kb]).toArray below meth c s.heap locs 0 0 (MQ below (rd_Qi s.heap (fun r => r = blF g n fr kb)) ([.ref (Z 0), .long fr, .int kb]).toArray s 0 0 nF) (F0 m 27 ls []) := by
      intro z
      induction z with
      | zero =>
        intro a b u locs ls a1 a2 b1 b2 h1 h2 h3 hv hS hl
        exact absurd h2 (by omega)
      | succ z ih =>
        intro a b u locs ls a1 a2 b1 b2 h1 h2 h3 hv hS hl
        refine lv_iload hx hb dX3_balanceOf_27 (lv_at hl 3 rfl) ?_
        refine lv_iload hx hb dX3_balanceOf_29 (lv_at hl 4 rfl) ?_
        refine lv_icmp_ge (tgt := 75) hx hb dX3_balanceOf_31 (by decide) (fun c3 => ?_) (fun c3 => ?_)
        · have hab : ¬ a < b := by have h9 := (iI_le (by omega) (by omega) (by omega) (by omega)).mp c3; omega
          refine lv_iload hx hb dX3_balanceOf_75 (lv_at hl 3 rfl) ?_
          exact W.iret (v := (iI a)) hx hb hr (fun t9 ht9 hW9 => ⟨⟨_, (), rfl, (by unfold blF; rw [if_neg (le_nlt64 c1), hv, bs_end hab]), ht9⟩, hS.F ht9⟩) hS.2.2 dX3_balanceOf_77
        · have hab : a < b := by rcases Int.lt_or_le a b with h9 | h9; exact h9; exact absurd ((iI_le (by omega) (by omega) (by omega) (by omega)).mpr h9) c3
          have hu : 0 < u := by
            rcases Nat.eq_zero_or_pos u with h9 | h9
            · rw [h9] at h3; have h8 : (2 : Int) ^ 0 = 1 := rfl; omega
            · exact h9
          obtain ⟨v, rfl⟩ : ∃ v, u = v + 1 := ⟨u - 1, by omega⟩
          rw [Int.pow_succ] at h3
          refine lv_iload hx hb dX3_balanceOf_34 (lv_at hl 3 rfl) ?_
          refine lv_iload hx hb dX3_balanceOf_36 (lv_at hl 4 rfl) ?_
          refine lv_iload hx hb dX3_balanceOf_38 (lv_at hl 3 rfl) ?_
          refine lv_isub hx hb dX3_balanceOf_40 ?_
          refine lv_iconst (v := 2) hx hb dX3_balanceOf_41 (by decide) ?_
          refine lv_idiv hx hb dX3_balanceOf_42 (by decide) ?_
          refine lv_iadd hx hb dX3_balanceOf_43 ?_
          refine tp_i (v := iI ((a + b) / 2)) (midR a1 a2 b1 b2 hab) ?_
          refine lv_istore (lv' := [(6, .int (iI ((a + b) / 2))), (0, .ref (Z 0)), (1, .long fr), (3, .int kb), (4, .int (iI a)), (5, .int (iI b))]) hx hb dX3_balanceOf_44 hl (by decide) rfl (fun ls hl => ?_)
          refine lv_aload_n hx hb dX3_balanceOf_46 rfl (lv_at hl 1 rfl) ?_
          refine lv_iload hx hb dX3_balanceOf_47 (lv_at hl 0 rfl) ?_
          refine lv_iload_n hx hb dX3_balanceOf_49 rfl (lv_at hl 3 rfl) ?_
          refine lv_iconst (v := 0) hx hb dX3_balanceOf_50 (by decide) ?_
          refine rd_l (va_runV (As := [.int (iI ((a + b) / 2)), .int kb, .int 0]) (rest := []) ⟨hx, hb, hml, hown, hts⟩ (c_X3_sum l dC dI cA s.heap Z g n th hs pe pk fo mo fE fK hP hg hn (iI ((a + b) / 2)) kb (rgI (by omega) (by omega)) hkb false 0 (by decide)) (cwV 3 hts gX3_balanceOf_X3_sum rfl rfl rfl (by decide +kernel) ⟨Nat.le_of_ble_eq_true rfl, Nat.le_of_ble_eq_true rfl⟩) ⟨rd_bl, va_recv hK hP (ci := 4) (q0 := 0) rfl rfl, rd_pre hK hN⟩ rfl rfl hl.1 rfl (lv_room (Nat.le_of_ble_eq_true rfl)) dX3_balanceOf_51 ⟨Nat.zero_le _, Nat.zero_le _⟩) hS (fun r3 locs hq4 hS => ?_)
          have hq4 : r3 = smF g false (iI ((a + b) / 2)) kb n := hq4
          subst hq4
          refine lv_lload_n hx hb dX3_balanceOf_54 rfl (lv_at hl 2 rfl) ?_
          refine W.lcmp hx hb dX3_balanceOf_55 ?_
          refine lv_if_lt (tgt := 66) hx hb dX3_balanceOf_56 (by decide) (fun c4 => ?_) (fun c4 => ?_)
          · have c4 := (lg_cmp_lt _ _).mp c4
            refine lv_iload hx hb dX3_balanceOf_66 (lv_at hl 0 rfl) ?_
            refine lv_iconst (v := 1) hx hb dX3_balanceOf_68 (by decide) ?_
            refine lv_iadd hx hb dX3_balanceOf_69 ?_
            refine tp_i (v := iI ((a + b) / 2 + 1)) (by rw [← iI_ad]; rfl) ?_
            refine lv_istore (lv' := [(4, .int (iI ((a + b) / 2 + 1))), (6, .int (iI ((a + b) / 2))), (0, .ref (Z 0)), (1, .long fr), (3, .int kb), (5, .int (iI b))]) hx hb dX3_balanceOf_70 hl (by decide) rfl (fun ls hl => ?_)
            refine lv_goto (tgt := 27) hx hb dX3_balanceOf_72 (by decide) ?_
            exact ih ((a + b) / 2 + 1) b v _ _ (by omega) (by omega) b1 b2 (by omega) (by omega) (by omega) (by rw [hv, bs_f hab (lt_nle64 c4)]) hS (lv_sub hl [2, 3, 4, 0, 5] rfl)
          · have c4 := mt (lg_cmp_lt _ _).mpr c4
            refine lv_iload hx hb dX3_balanceOf_59 (lv_at hl 0 rfl) ?_
            refine lv_istore (lv' := [(5, .int (iI ((a + b) / 2))), (6, .int (iI ((a + b) / 2))), (0, .ref (Z 0)), (1, .long fr), (3, .int kb), (4, .int (iI a))]) hx hb dX3_balanceOf_61 hl (by decide) rfl (fun ls hl => ?_)
            refine lv_goto (tgt := 72) hx hb dX3_balanceOf_63 (by decide) ?_
            refine lv_goto (tgt := 27) hx hb dX3_balanceOf_72 (by decide) ?_
            exact ih a ((a + b) / 2) v _ _ a1 a2 (by omega) (by omega) (by omega) (by omega) (by omega) (by rw [hv, bs_t hab (nlt_le64 c4)]) hS (lv_sub hl [2, 3, 4, 5, 0] rfl)
    exact lp 40001 (-20000) 20000 32 _ _ (by omega) (by omega) (by omega) (by omega) (by omega) (by omega) (by decide) rfl hS (lv_sub hl [2, 3, 4, 1, 0] rfl)
  · have c1 := mt (lg_cmp_ge _ _).mpr c1
    refine lv_ldc hx hb hown (hts (.constant RX3 64 (-1000000)) mbX3_balanceOf_0) dX3_balanceOf_14 ?_
    exact W.iret (v := (-1000000)) hx hb hr (fun t9 ht9 hW9 => ⟨⟨_, (), rfl, (by unfold blF; rw [if_pos (nle_lt64 c1)]), ht9⟩, hS.F ht9⟩) hS.2.2 dX3_balanceOf_16
end
section
/-- the class's cells hold the state u -/
abbrev bC (dC : Nat → ClassId) (dI : Nat → Nat → Nat) (cA : ClassId) (A : Nat → Nat) (u : St) (H : Heap) : Prop := va_P (dC, dI) vwCl (wC cA A u.1 u.2.1 u.2.2.1 u.2.2.2.1 u.2.2.2.2.1 u.2.2.2.2.2.1 u.2.2.2.2.2.2) H

set_option maxRecDepth 20000 in
theorem miX1_add_X1 : ∀ w ∈ u_ws RX1 TX1 7, w ∈ wsX1_add := by decide +kernel
set_option maxRecDepth 20000 in
theorem mbX1_add_1 : (.fieldLink RX1 34 "SectionFibres$Section" "size" "I" : Cond) ∈ wsX1_add := by decide +kernel
set_option maxRecDepth 20000 in
theorem mbX1_add_2 : (.fieldLink RX1 18 "SectionFibres$Section" "areas" "[I" : Cond) ∈ wsX1_add := by decide +kernel
set_option maxRecDepth 20000 in
theorem mbX1_add_3 : (.fieldLink RX1 22 "SectionFibres$Section" "places" "[I" : Cond) ∈ wsX1_add := by decide +kernel
set_option maxRecDepth 20000 in
theorem mbX1_add_4 : (.fieldLink RX1 25 "SectionFibres$Section" "kindOf" "[I" : Cond) ∈ wsX1_add := by decide +kernel
set_option maxRecDepth 20000 in
theorem mbX1_add_5 : (.fieldLink RX1 28 "SectionFibres$Section" "births" "[I" : Cond) ∈ wsX1_add := by decide +kernel
set_option maxRecDepth 20000 in
theorem mbX1_add_6 : (.fieldLink RX1 31 "SectionFibres$Section" "kept" "[I" : Cond) ∈ wsX1_add := by decide +kernel
set_option maxHeartbeats 4000000 in
set_option maxRecDepth 100000 in
theorem c_X1_add (l : Launch) (dC : Nat → ClassId) (dI : Nat → Nat → Nat) (cA : ClassId) (H : Heap) (A : Nat → Nat) (g : Gg) (n : Nat) (hs pe pk : Int32) (fo mo : Int64) (hP : va_P (dC, dI) vwCl (wC cA A g n hs pe pk fo mo) H) (hD : va_D (fun _ => True) (wC cA A g n hs pe pk fo mo)) (hn : n ≤ 40) (ar at_ kd : Int32) : Met l yX1_add wsX1_add ({ frames := 0, cells := 0, slots := 0, locals := 0 }) (rd_P [.ref (A 1), .int ar, .int at_, .int kd] H (dC, dI) vwCl [(cA, .int)]) (va_Qv (fun (u : St) => u = (layG g n ar at_ kd, n + 1, hs, pe, pk, fo, mo)) (fun u t => bC dC dI cA A u t.heap) (va_A (wC cA A g n hs pe pk fo mo) H.size)) 0 0 (va_A (wC cA A g n hs pe pk fo mo) H.size) := by
  refine Met.ofW (cc := cX1_add) (maxL := 4) (ret := none) (by decide) rfl ?_
  intro p e s m args below meth c s₁ B hml hv
  obtain ⟨rfl, hH, hK, hN⟩ := hv
  subst hH
  have hx := B.exec
  have hb := B.bytes
  have hr := B.returns
  have hts := atoms_spec (ws := wsX1_add) B.pre
  have hown : s.vm.findClass RX1 = some m.cls := findClass_of_methodNamed B.named
  have hlocks := B.notSynchronized
  have hD := hD.self (sz := s.heap.size)
  generalize hAe : va_A (wC cA A g n hs pe pk fo mo) s.heap.size = Av at hD ⊢
  have hA : ∀ q : Nat, s.heap.size ≤ q → Av q := fun q h => by rw [← hAe]; exact Or.inr h
  have hS : va_S Av s.heap s.heap [] := va_S.rf
  have hl := lv_entry ([.ref (A 1), .int ar, .int at_, .int kd]) (n := 4) (Nat.le_of_ble_eq_true rfl)
  rw [lg_entry_eq]
  generalize (lg_sl ([.ref (A 1), .int ar, .int at_, .int kd]) ++ List.replicate (4 - (lg_sl ([.ref (A 1), .int ar, .int at_, .int kd])).length) Slot.unset).toArray = ls at hl ⊢
  have hl : lv_has ls 4 [(0, .ref (A 1)), (1, .int ar), (2, .int at_), (3, .int kd)] := hl
  refine lv_aload_n hx hb dX1_add_0 rfl (lv_at hl 0 rfl) ?_
  refine va_get (D := (dC, dI)) (ci := 2) (v := .int (nI n)) (C := RX1) (T := TX1) (N := 7) hx hb hts miX1_add_X1 hown hK hP 1 rfl rfl 6 (by decide) (hts (.fieldLink RX1 34 "SectionFibres$Section" "size" "I") mbX1_add_1) (fun _ h9 => h9) rfl dX1_add_1 ?_
  refine lv_bipush (v := 41) hx hb dX1_add_4 (by decide) ?_
  refine lv_icmp_lt (tgt := 10) hx hb dX1_add_6 (by decide) (fun _ => ?_) (fun h9 => absurd h9 (fun h8 => h8 (nI_lt (b := 41) (by omega) (by omega))))
  refine lv_aload_n hx hb dX1_add_10 rfl (lv_at hl 0 rfl) ?_
  refine va_get (D := (dC, dI)) (ci := 2) (v := .ref (A 3)) (C := RX1) (T := TX1) (N := 7) hx hb hts miX1_add_X1 hown hK hP 1 rfl rfl 1 (by decide) (hts (.fieldLink RX1 18 "SectionFibres$Section" "areas" "[I") mbX1_add_2) (fun _ h9 => h9) rfl dX1_add_11 ?_
  refine lv_aload_n hx hb dX1_add_14 rfl (lv_at hl 0 rfl) ?_
  refine va_get (D := (dC, dI)) (ci := 2) (v := .int (nI n)) (C := RX1) (T := TX1) (N := 7) hx hb hts miX1_add_X1 hown hK hP 1 rfl rfl 6 (by decide) (hts (.fieldLink RX1 34 "SectionFibres$Section" "size" "I") mbX1_add_1) (fun _ h9 => h9) rfl dX1_add_15 ?_
  refine lv_iload_n hx hb dX1_add_18 rfl (lv_at hl 1 rfl) ?_
  refine iasn hx hb hK hP hD hS 3 0 rfl rfl n (rfl) (by omega) (by decide) dX1_add_19 (fun H locs hP hD hS => ?_)
  have hP : va_P (dC, dI) vwCl (wC cA A (setG g 0 n ar) n hs pe pk fo mo) H := hP
  have hD : va_D Av (wC cA A (setG g 0 n ar) n hs pe pk fo mo) := hD
  refine lv_aload_n hx hb dX1_add_20 rfl (lv_at hl 0 rfl) ?_
  refine va_get (D := (dC, dI)) (ci := 2) (v := .ref (A 4)) (C := RX1) (T := TX1) (N := 7) hx hb hts miX1_add_X1 hown hK hP 1 rfl rfl 2 (by decide) (hts (.fieldLink RX1 22 "SectionFibres$Section" "places" "[I") mbX1_add_3) (fun _ h9 => h9) rfl dX1_add_21 ?_
  refine lv_aload_n hx hb dX1_add_24 rfl (lv_at hl 0 rfl) ?_
  refine va_get (D := (dC, dI)) (ci := 2) (v := .int (nI n)) (C := RX1) (T := TX1) (N := 7) hx hb hts miX1_add_X1 hown hK hP 1 rfl rfl 6 (by decide) (hts (.fieldLink RX1 34 "SectionFibres$Section" "size" "I") mbX1_add_1) (fun _ h9 => h9) rfl dX1_add_25 ?_
  refine lv_iload_n hx hb dX1_add_28 rfl (lv_at hl 2 rfl) ?_
  refine iasn hx hb hK hP hD hS 4 0 rfl rfl n (rfl) (by omega) (by decide) dX1_add_29 (fun H locs hP hD hS => ?_)
  have hP : va_P (dC, dI) vwCl (wC cA A (setG (setG g 0 n ar) 1 n at_) n hs pe pk fo mo) H := hP
  have hD : va_D Av (wC cA A (setG (setG g 0 n ar) 1 n at_) n hs pe pk fo mo) := hD
  refine lv_aload_n hx hb dX1_add_30 rfl (lv_at hl 0 rfl) ?_
  refine va_get (D := (dC, dI)) (ci := 2) (v := .ref (A 5)) (C := RX1) (T := TX1) (N := 7) hx hb hts miX1_add_X1 hown hK hP 1 rfl rfl 3 (by decide) (hts (.fieldLink RX1 25 "SectionFibres$Section" "kindOf" "[I") mbX1_add_4) (fun _ h9 => h9) rfl dX1_add_31 ?_
  refine lv_aload_n hx hb dX1_add_34 rfl (lv_at hl 0 rfl) ?_
  refine va_get (D := (dC, dI)) (ci := 2) (v := .int (nI n)) (C := RX1) (T := TX1) (N := 7) hx hb hts miX1_add_X1 hown hK hP 1 rfl rfl 6 (by decide) (hts (.fieldLink RX1 34 "SectionFibres$Section" "size" "I") mbX1_add_1) (fun _ h9 => h9) rfl dX1_add_35 ?_
  refine lv_iload_n hx hb dX1_add_38 rfl (lv_at hl 3 rfl) ?_
  refine iasn hx hb hK hP hD hS 5 0 rfl rfl n (rfl) (by omega) (by decide) dX1_add_39 (fun H locs hP hD hS => ?_)
  have hP : va_P (dC, dI) vwCl (wC cA A (setG (setG (setG g 0 n ar) 1 n at_) 2 n kd) n hs pe pk fo mo) H := hP
  have hD : va_D Av (wC cA A (setG (setG (setG g 0 n ar) 1 n at_) 2 n kd) n hs pe pk fo mo) := hD
  refine lv_aload_n hx hb dX1_add_40 rfl (lv_at hl 0 rfl) ?_
  refine va_get (D := (dC, dI)) (ci := 2) (v := .ref (A 6)) (C := RX1) (T := TX1) (N := 7) hx hb hts miX1_add_X1 hown hK hP 1 rfl rfl 4 (by decide) (hts (.fieldLink RX1 28 "SectionFibres$Section" "births" "[I") mbX1_add_5) (fun _ h9 => h9) rfl dX1_add_41 ?_
  refine lv_aload_n hx hb dX1_add_44 rfl (lv_at hl 0 rfl) ?_
  refine va_get (D := (dC, dI)) (ci := 2) (v := .int (nI n)) (C := RX1) (T := TX1) (N := 7) hx hb hts miX1_add_X1 hown hK hP 1 rfl rfl 6 (by decide) (hts (.fieldLink RX1 34 "SectionFibres$Section" "size" "I") mbX1_add_1) (fun _ h9 => h9) rfl dX1_add_45 ?_
  refine lv_iconst (v := 0) hx hb dX1_add_48 (by decide) ?_
  refine iasn hx hb hK hP hD hS 6 0 rfl rfl n (rfl) (by omega) (by decide) dX1_add_49 (fun H locs hP hD hS => ?_)
  have hP : va_P (dC, dI) vwCl (wC cA A (setG (setG (setG (setG g 0 n ar) 1 n at_) 2 n kd) 3 n 0) n hs pe pk fo mo) H := hP
  have hD : va_D Av (wC cA A (setG (setG (setG (setG g 0 n ar) 1 n at_) 2 n kd) 3 n 0) n hs pe pk fo mo) := hD
  refine lv_aload_n hx hb dX1_add_50 rfl (lv_at hl 0 rfl) ?_
  refine va_get (D := (dC, dI)) (ci := 2) (v := .ref (A 7)) (C := RX1) (T := TX1) (N := 7) hx hb hts miX1_add_X1 hown hK hP 1 rfl rfl 5 (by decide) (hts (.fieldLink RX1 31 "SectionFibres$Section" "kept" "[I") mbX1_add_6) (fun _ h9 => h9) rfl dX1_add_51 ?_
  refine lv_aload_n hx hb dX1_add_54 rfl (lv_at hl 0 rfl) ?_
  refine va_get (D := (dC, dI)) (ci := 2) (v := .int (nI n)) (C := RX1) (T := TX1) (N := 7) hx hb hts miX1_add_X1 hown hK hP 1 rfl rfl 6 (by decide) (hts (.fieldLink RX1 34 "SectionFibres$Section" "size" "I") mbX1_add_1) (fun _ h9 => h9) rfl dX1_add_55 ?_
  refine lv_bipush (v := 100) hx hb dX1_add_58 (by decide) ?_
  refine iasn hx hb hK hP hD hS 7 0 rfl rfl n (rfl) (by omega) (by decide) dX1_add_60 (fun H locs hP hD hS => ?_)
  have hP : va_P (dC, dI) vwCl (wC cA A (setG (setG (setG (setG (setG g 0 n ar) 1 n at_) 2 n kd) 3 n 0) 4 n 100) n hs pe pk fo mo) H := hP
  have hD : va_D Av (wC cA A (setG (setG (setG (setG (setG g 0 n ar) 1 n at_) 2 n kd) 3 n 0) 4 n 100) n hs pe pk fo mo) := hD
  refine lv_aload_n hx hb dX1_add_61 rfl (lv_at hl 0 rfl) ?_
  refine lv_dup hx hb dX1_add_62 rfl ?_
  refine va_get (D := (dC, dI)) (ci := 2) (v := .int (nI n)) (C := RX1) (T := TX1) (N := 7) hx hb hts miX1_add_X1 hown hK hP 1 rfl rfl 6 (by decide) (hts (.fieldLink RX1 34 "SectionFibres$Section" "size" "I") mbX1_add_1) (fun _ h9 => h9) rfl dX1_add_63 ?_
  refine lv_iconst (v := 1) hx hb dX1_add_66 (by decide) ?_
  refine lv_iadd hx hb dX1_add_67 ?_
  refine tp_i (v := nI (n + 1)) (nI_1 n) ?_
  refine va_put (D := (dC, dI)) (ci := 2) (v := .int (nI (n + 1))) (ty := .int) (C := RX1) (T := TX1) (N := 7) hx hb hts miX1_add_X1 tyX1 tyX1_ok nmX1 hown hK hP hD hS 1 rfl rfl 6 (by decide) (hts (.fieldLink RX1 34 "SectionFibres$Section" "size" "I") mbX1_add_1) (fun _ h9 => h9) rfl (by decide +kernel) rfl rfl (Nat.le_of_ble_eq_true rfl) dX1_add_68 (fun H locs hP hD hS => ?_)
  have hP : va_P (dC, dI) vwCl (wC cA A (setG (setG (setG (setG (setG g 0 n ar) 1 n at_) 2 n kd) 3 n 0) 4 n 100) (n + 1) hs pe pk fo mo) H := hP
  have hD : va_D Av (wC cA A (setG (setG (setG (setG (setG g 0 n ar) 1 n at_) 2 n kd) 3 n 0) 4 n 100) (n + 1) hs pe pk fo mo) := hD
  exact W.vret hx hb hr (fun t9 ht9 hW9 => ⟨⟨((setG (setG (setG (setG (setG g 0 n ar) 1 n at_) 2 n kd) 3 n 0) 4 n 100), n + 1, hs, pe, pk, fo, mo), rfl, rfl, by dsimp only; rw [ht9]; exact hP⟩, hS.F ht9⟩) hS.2.2 dX1_add_71

set_option maxRecDepth 20000 in
theorem miX1_setLastArea_X1 : ∀ w ∈ u_ws RX1 TX1 7, w ∈ wsX1_setLastArea := by decide +kernel
set_option maxRecDepth 20000 in
theorem mbX1_setLastArea_1 : (.fieldLink RX1 34 "SectionFibres$Section" "size" "I" : Cond) ∈ wsX1_setLastArea := by decide +kernel
set_option maxRecDepth 20000 in
theorem mbX1_setLastArea_2 : (.fieldLink RX1 18 "SectionFibres$Section" "areas" "[I" : Cond) ∈ wsX1_setLastArea := by decide +kernel
set_option maxHeartbeats 4000000 in
set_option maxRecDepth 100000 in
theorem c_X1_setLastArea (l : Launch) (dC : Nat → ClassId) (dI : Nat → Nat → Nat) (cA : ClassId) (H : Heap) (A : Nat → Nat) (g : Gg) (n : Nat) (hs pe pk : Int32) (fo mo : Int64) (hP : va_P (dC, dI) vwCl (wC cA A g n hs pe pk fo mo) H) (hD : va_D (fun _ => True) (wC cA A g n hs pe pk fo mo)) (hn : n ≤ 41) (hn1 : 1 ≤ n) (ar : Int32) : Met l yX1_setLastArea wsX1_setLastArea ({ frames := 0, cells := 0, slots := 0, locals := 0 }) (rd_P [.ref (A 1), .int ar] H (dC, dI) vwCl [(cA, .int)]) (va_Qv (fun (u : St) => u = (setG g 0 (n - 1) ar, n, hs, pe, pk, fo, mo)) (fun u t => bC dC dI cA A u t.heap) (va_A (wC cA A g n hs pe pk fo mo) H.size)) 0 0 (va_A (wC cA A g n hs pe pk fo mo) H.size) := by
  refine Met.ofW (cc := cX1_setLastArea) (maxL := 2) (ret := none) (by decide) rfl ?_
  intro p e s m args below meth c s₁ B hml hv
  obtain ⟨rfl, hH, hK, hN⟩ := hv
  subst hH
  have hx := B.exec
  have hb := B.bytes
  have hr := B.returns
  have hts := atoms_spec (ws := wsX1_setLastArea) B.pre
  have hown : s.vm.findClass RX1 = some m.cls := findClass_of_methodNamed B.named
  have hlocks := B.notSynchronized
  have hD := hD.self (sz := s.heap.size)
  generalize hAe : va_A (wC cA A g n hs pe pk fo mo) s.heap.size = Av at hD ⊢
  have hA : ∀ q : Nat, s.heap.size ≤ q → Av q := fun q h => by rw [← hAe]; exact Or.inr h
  have hS : va_S Av s.heap s.heap [] := va_S.rf
  have hl := lv_entry ([.ref (A 1), .int ar]) (n := 2) (Nat.le_of_ble_eq_true rfl)
  rw [lg_entry_eq]
  generalize (lg_sl ([.ref (A 1), .int ar]) ++ List.replicate (2 - (lg_sl ([.ref (A 1), .int ar])).length) Slot.unset).toArray = ls at hl ⊢
  have hl : lv_has ls 2 [(0, .ref (A 1)), (1, .int ar)] := hl
  refine lv_aload_n hx hb dX1_setLastArea_0 rfl (lv_at hl 0 rfl) ?_
  refine va_get (D := (dC, dI)) (ci := 2) (v := .int (nI n)) (C := RX1) (T := TX1) (N := 7) hx hb hts miX1_setLastArea_X1 hown hK hP 1 rfl rfl 6 (by decide) (hts (.fieldLink RX1 34 "SectionFibres$Section" "size" "I") mbX1_setLastArea_1) (fun _ h9 => h9) rfl dX1_setLastArea_1 ?_
  refine lv_if_le (tgt := 19) hx hb dX1_setLastArea_4 (by decide) (fun h9 => absurd h9 (nI_nle (by omega) (by omega))) (fun _ => ?_)
  refine lv_aload_n hx hb dX1_setLastArea_7 rfl (lv_at hl 0 rfl) ?_
  refine va_get (D := (dC, dI)) (ci := 2) (v := .ref (A 3)) (C := RX1) (T := TX1) (N := 7) hx hb hts miX1_setLastArea_X1 hown hK hP 1 rfl rfl 1 (by decide) (hts (.fieldLink RX1 18 "SectionFibres$Section" "areas" "[I") mbX1_setLastArea_2) (fun _ h9 => h9) rfl dX1_setLastArea_8 ?_
  refine lv_aload_n hx hb dX1_setLastArea_11 rfl (lv_at hl 0 rfl) ?_
  refine va_get (D := (dC, dI)) (ci := 2) (v := .int (nI n)) (C := RX1) (T := TX1) (N := 7) hx hb hts miX1_setLastArea_X1 hown hK hP 1 rfl rfl 6 (by decide) (hts (.fieldLink RX1 34 "SectionFibres$Section" "size" "I") mbX1_setLastArea_1) (fun _ h9 => h9) rfl dX1_setLastArea_12 ?_
  refine lv_iconst (v := 1) hx hb dX1_setLastArea_15 (by decide) ?_
  refine lv_isub hx hb dX1_setLastArea_16 ?_
  refine tp_i (v := nI (n - 1)) (by have h9 := nI_pred (n - 1); rwa [show n - 1 + 1 = n by omega] at h9) ?_
  refine lv_iload_n hx hb dX1_setLastArea_17 rfl (lv_at hl 1 rfl) ?_
  refine iasn hx hb hK hP hD hS 3 0 rfl rfl (n - 1) (rfl) (by omega) (by decide) dX1_setLastArea_18 (fun H locs hP hD hS => ?_)
  have hP : va_P (dC, dI) vwCl (wC cA A (setG g 0 (n - 1) ar) n hs pe pk fo mo) H := hP
  have hD : va_D Av (wC cA A (setG g 0 (n - 1) ar) n hs pe pk fo mo) := hD
  exact W.vret hx hb hr (fun t9 ht9 hW9 => ⟨⟨((setG g 0 (n - 1) ar), n, hs, pe, pk, fo, mo), rfl, rfl, by dsimp only; rw [ht9]; exact hP⟩, hS.F ht9⟩) hS.2.2 dX1_setLastArea_19

set_option maxRecDepth 20000 in
theorem miX1_dropLast_X1 : ∀ w ∈ u_ws RX1 TX1 7, w ∈ wsX1_dropLast := by decide +kernel
set_option maxRecDepth 20000 in
theorem mbX1_dropLast_1 : (.fieldLink RX1 34 "SectionFibres$Section" "size" "I" : Cond) ∈ wsX1_dropLast := by decide +kernel
set_option maxHeartbeats 4000000 in
set_option maxRecDepth 100000 in
theorem c_X1_dropLast (l : Launch) (dC : Nat → ClassId) (dI : Nat → Nat → Nat) (cA : ClassId) (H : Heap) (A : Nat → Nat) (g : Gg) (n : Nat) (hs pe pk : Int32) (fo mo : Int64) (hP : va_P (dC, dI) vwCl (wC cA A g n hs pe pk fo mo) H) (hD : va_D (fun _ => True) (wC cA A g n hs pe pk fo mo)) (hn : n ≤ 41) (hn1 : 1 ≤ n) : Met l yX1_dropLast wsX1_dropLast ({ frames := 0, cells := 0, slots := 0, locals := 0 }) (rd_P [.ref (A 1)] H (dC, dI) vwCl [(cA, .int)]) (va_Qv (fun (u : St) => u = (g, n - 1, hs, pe, pk, fo, mo)) (fun u t => bC dC dI cA A u t.heap) (va_A (wC cA A g n hs pe pk fo mo) H.size)) 0 0 (va_A (wC cA A g n hs pe pk fo mo) H.size) := by
  refine Met.ofW (cc := cX1_dropLast) (maxL := 1) (ret := none) (by decide) rfl ?_
  intro p e s m args below meth c s₁ B hml hv
  obtain ⟨rfl, hH, hK, hN⟩ := hv
  subst hH
  have hx := B.exec
  have hb := B.bytes
  have hr := B.returns
  have hts := atoms_spec (ws := wsX1_dropLast) B.pre
  have hown : s.vm.findClass RX1 = some m.cls := findClass_of_methodNamed B.named
  have hlocks := B.notSynchronized
  have hD := hD.self (sz := s.heap.size)
  generalize hAe : va_A (wC cA A g n hs pe pk fo mo) s.heap.size = Av at hD ⊢
  have hA : ∀ q : Nat, s.heap.size ≤ q → Av q := fun q h => by rw [← hAe]; exact Or.inr h
  have hS : va_S Av s.heap s.heap [] := va_S.rf
  have hl := lv_entry ([.ref (A 1)]) (n := 1) (Nat.le_of_ble_eq_true rfl)
  rw [lg_entry_eq]
  generalize (lg_sl ([.ref (A 1)]) ++ List.replicate (1 - (lg_sl ([.ref (A 1)])).length) Slot.unset).toArray = ls at hl ⊢
  have hl : lv_has ls 1 [(0, .ref (A 1))] := hl
  refine lv_aload_n hx hb dX1_dropLast_0 rfl (lv_at hl 0 rfl) ?_
  refine va_get (D := (dC, dI)) (ci := 2) (v := .int (nI n)) (C := RX1) (T := TX1) (N := 7) hx hb hts miX1_dropLast_X1 hown hK hP 1 rfl rfl 6 (by decide) (hts (.fieldLink RX1 34 "SectionFibres$Section" "size" "I") mbX1_dropLast_1) (fun _ h9 => h9) rfl dX1_dropLast_1 ?_
  refine lv_if_le (tgt := 17) hx hb dX1_dropLast_4 (by decide) (fun h9 => absurd h9 (nI_nle (by omega) (by omega))) (fun _ => ?_)
  refine lv_aload_n hx hb dX1_dropLast_7 rfl (lv_at hl 0 rfl) ?_
  refine lv_dup hx hb dX1_dropLast_8 rfl ?_
  refine va_get (D := (dC, dI)) (ci := 2) (v := .int (nI n)) (C := RX1) (T := TX1) (N := 7) hx hb hts miX1_dropLast_X1 hown hK hP 1 rfl rfl 6 (by decide) (hts (.fieldLink RX1 34 "SectionFibres$Section" "size" "I") mbX1_dropLast_1) (fun _ h9 => h9) rfl dX1_dropLast_9 ?_
  refine lv_iconst (v := 1) hx hb dX1_dropLast_12 (by decide) ?_
  refine lv_isub hx hb dX1_dropLast_13 ?_
  refine tp_i (v := nI (n - 1)) (by have h9 := nI_pred (n - 1); rwa [show n - 1 + 1 = n by omega] at h9) ?_
  refine va_put (D := (dC, dI)) (ci := 2) (v := .int (nI (n - 1))) (ty := .int) (C := RX1) (T := TX1) (N := 7) hx hb hts miX1_dropLast_X1 tyX1 tyX1_ok nmX1 hown hK hP hD hS 1 rfl rfl 6 (by decide) (hts (.fieldLink RX1 34 "SectionFibres$Section" "size" "I") mbX1_dropLast_1) (fun _ h9 => h9) rfl (by decide +kernel) rfl rfl (Nat.le_of_ble_eq_true rfl) dX1_dropLast_14 (fun H locs hP hD hS => ?_)
  have hP : va_P (dC, dI) vwCl (wC cA A g (n - 1) hs pe pk fo mo) H := hP
  have hD : va_D Av (wC cA A g (n - 1) hs pe pk fo mo) := hD
  exact W.vret hx hb hr (fun t9 ht9 hW9 => ⟨⟨(g, n - 1, hs, pe, pk, fo, mo), rfl, rfl, by dsimp only; rw [ht9]; exact hP⟩, hS.F ht9⟩) hS.2.2 dX1_dropLast_17

set_option maxRecDepth 20000 in
theorem miX0_addPoint_X0 : ∀ w ∈ u_ws RX0 TX0 5, w ∈ wsX0_addPoint := by decide +kernel
set_option maxRecDepth 20000 in
theorem mbX0_addPoint_1 : (.fieldLink RX0 18 "SectionFibres$Kinds" "points" "[I" : Cond) ∈ wsX0_addPoint := by decide +kernel
set_option maxRecDepth 20000 in
theorem mbX0_addPoint_2 : (.fieldLink RX0 9 "SectionFibres$Kinds" "strains" "[I" : Cond) ∈ wsX0_addPoint := by decide +kernel
set_option maxRecDepth 20000 in
theorem mbX0_addPoint_3 : (.fieldLink RX0 15 "SectionFibres$Kinds" "stresses" "[I" : Cond) ∈ wsX0_addPoint := by decide +kernel
set_option maxHeartbeats 4000000 in
set_option maxRecDepth 100000 in
theorem c_X0_addPoint (l : Launch) (dC : Nat → ClassId) (dI : Nat → Nat → Nat) (cA : ClassId) (H : Heap) (A : Nat → Nat) (g : Gg) (n : Nat) (hs pe pk : Int32) (fo mo : Int64) (hP : va_P (dC, dI) vwCl (wC cA A g n hs pe pk fo mo) H) (hD : va_D (fun _ => True) (wC cA A g n hs pe pk fo mo)) (hg : InvG g) (kd x y : Int32) (hkd : vp_in kd 4) : Met l yX0_addPoint wsX0_addPoint ({ frames := 0, cells := 0, slots := 0, locals := 0 }) (rd_P [.ref (A 2), .int kd, .int x, .int y] H (dC, dI) vwCl [(cA, .int)]) (va_Qi (fun (r : Int32) (u : St) => (apC g kd x y ∧ r = 1 ∧ u = (ptG g kd.toNatClampNeg (g 7 kd.toNatClampNeg).toNatClampNeg x y, n, hs, pe, pk, fo, mo)) ∨ (¬ apC g kd x y ∧ r = 0 ∧ u = (g, n, hs, pe, pk, fo, mo))) (fun u t => bC dC dI cA A u t.heap) (va_A (wC cA A g n hs pe pk fo mo) H.size)) 0 0 (va_A (wC cA A g n hs pe pk fo mo) H.size) := by
  obtain ⟨k, hk, rfl⟩ := vp_in_of hkd (by decide)
  obtain ⟨q, hq, hqe⟩ := vp_in_of (hg.2.2.2.2.2.1 k hk) (by decide)
  refine Met.ofW (cc := cX0_addPoint) (maxL := 6) (ret := (some .boolean)) (by decide) rfl ?_
  intro p e s m args below meth c s₁ B hml hv
  obtain ⟨rfl, hH, hK, hN⟩ := hv
  subst hH
  have hx := B.exec
  have hb := B.bytes
  have hr := B.returns
  have hts := atoms_spec (ws := wsX0_addPoint) B.pre
  have hown : s.vm.findClass RX0 = some m.cls := findClass_of_methodNamed B.named
  have hlocks := B.notSynchronized
  have hD := hD.self (sz := s.heap.size)
  generalize hAe : va_A (wC cA A g n hs pe pk fo mo) s.heap.size = Av at hD ⊢
  have hA : ∀ q : Nat, s.heap.size ≤ q → Av q := fun q h => by rw [← hAe]; exact Or.inr h
  have hS : va_S Av s.heap s.heap [] := va_S.rf
  have hl := lv_entry ([.ref (A 2), .int (nI k), .int x, .int y]) (n := 6) (Nat.le_of_ble_eq_true rfl)
  rw [lg_entry_eq]
  generalize (lg_sl ([.ref (A 2), .int (nI k), .int x, .int y]) ++ List.replicate (6 - (lg_sl ([.ref (A 2), .int (nI k), .int x, .int y])).length) Slot.unset).toArray = ls at hl ⊢
  have hl : lv_has ls 6 [(0, .ref (A 2)), (1, .int (nI k)), (2, .int x), (3, .int y)] := hl
  refine lv_aload_n hx hb dX0_addPoint_0 rfl (lv_at hl 0 rfl) ?_
  refine va_get (D := (dC, dI)) (ci := 1) (v := .ref (A 10)) (C := RX0) (T := TX0) (N := 5) hx hb hts miX0_addPoint_X0 hown hK hP 2 rfl rfl 2 (by decide) (hts (.fieldLink RX0 18 "SectionFibres$Kinds" "points" "[I") mbX0_addPoint_1) (fun _ h9 => h9) rfl dX0_addPoint_1 ?_
  refine lv_iload_n hx hb dX0_addPoint_4 rfl (lv_at hl 1 rfl) ?_
  refine ialn hx hb hK hP 10 0 rfl rfl k (rfl) (by omega) (by decide) dX0_addPoint_5 ?_
  refine tp_i (v := nI q) (hqe) ?_
  refine lv_istore (lv' := [(4, .int (nI q)), (0, .ref (A 2)), (1, .int (nI k)), (2, .int x), (3, .int y)]) hx hb dX0_addPoint_6 hl (by decide) rfl (fun ls hl => ?_)
  refine lv_iload hx hb dX0_addPoint_8 (lv_at hl 0 rfl) ?_
  refine lv_bipush (v := 8) hx hb dX0_addPoint_10 (by decide) ?_
  refine lv_icmp_lt (tgt := 17) hx hb dX0_addPoint_12 (by decide) (fun c1 => ?_) (fun c1 => ?_)
  · have hq8 : q < 8 := (nI_ltI (b := 8) (by omega) (by omega)).mp c1
    refine lv_iload_n hx hb dX0_addPoint_17 rfl (lv_at hl 2 rfl) ?_
    refine lv_bipush (v := 8) hx hb dX0_addPoint_18 (by decide) ?_
    refine lv_imul hx hb dX0_addPoint_20 ?_
    refine tp_i (v := nI (8 * k)) ((pk_mul k 8).trans (by rw [Nat.mul_comm k 8])) ?_
    refine lv_iload hx hb dX0_addPoint_21 (lv_at hl 0 rfl) ?_
    refine lv_iadd hx hb dX0_addPoint_23 ?_
    refine tp_i (v := nI (8 * k + q)) (nI_add _ _) ?_
    refine lv_istore (lv' := [(5, .int (nI (8 * k + q))), (4, .int (nI q)), (0, .ref (A 2)), (1, .int (nI k)), (2, .int x), (3, .int y)]) hx hb dX0_addPoint_24 hl (by decide) rfl (fun ls hl => ?_)
    refine lv_iload hx hb dX0_addPoint_26 (lv_at hl 1 rfl) ?_
    refine lv_if_le (tgt := 59) hx hb dX0_addPoint_28 (by decide) (fun c2 => ?_) (fun c2 => ?_)
    · refine lv_aload_n hx hb dX0_addPoint_59 rfl (lv_at hl 2 rfl) ?_
      refine va_get (D := (dC, dI)) (ci := 1) (v := .ref (A 8)) (C := RX0) (T := TX0) (N := 5) hx hb hts miX0_addPoint_X0 hown hK hP 2 rfl rfl 0 (by decide) (hts (.fieldLink RX0 9 "SectionFibres$Kinds" "strains" "[I") mbX0_addPoint_2) (fun _ h9 => h9) rfl dX0_addPoint_60 ?_
      refine lv_iload hx hb dX0_addPoint_63 (lv_at hl 0 rfl) ?_
      refine lv_iload_n hx hb dX0_addPoint_65 rfl (lv_at hl 4 rfl) ?_
      refine iasn hx hb hK hP hD hS 8 0 rfl rfl (8 * k + q) (rfl) (by omega) (by decide) dX0_addPoint_66 (fun H locs hP hD hS => ?_)
      have hP : va_P (dC, dI) vwCl (wC cA A (setG g 5 (8 * k + q) x) n hs pe pk fo mo) H := hP
      have hD : va_D Av (wC cA A (setG g 5 (8 * k + q) x) n hs pe pk fo mo) := hD
      refine lv_aload_n hx hb dX0_addPoint_67 rfl (lv_at hl 2 rfl) ?_
      refine va_get (D := (dC, dI)) (ci := 1) (v := .ref (A 9)) (C := RX0) (T := TX0) (N := 5) hx hb hts miX0_addPoint_X0 hown hK hP 2 rfl rfl 1 (by decide) (hts (.fieldLink RX0 15 "SectionFibres$Kinds" "stresses" "[I") mbX0_addPoint_3) (fun _ h9 => h9) rfl dX0_addPoint_68 ?_
      refine lv_iload hx hb dX0_addPoint_71 (lv_at hl 0 rfl) ?_
      refine lv_iload_n hx hb dX0_addPoint_73 rfl (lv_at hl 5 rfl) ?_
      refine iasn hx hb hK hP hD hS 9 0 rfl rfl (8 * k + q) (rfl) (by omega) (by decide) dX0_addPoint_74 (fun H locs hP hD hS => ?_)
      have hP : va_P (dC, dI) vwCl (wC cA A (setG (setG g 5 (8 * k + q) x) 6 (8 * k + q) y) n hs pe pk fo mo) H := hP
      have hD : va_D Av (wC cA A (setG (setG g 5 (8 * k + q) x) 6 (8 * k + q) y) n hs pe pk fo mo) := hD
      refine lv_aload_n hx hb dX0_addPoint_75 rfl (lv_at hl 2 rfl) ?_
      refine va_get (D := (dC, dI)) (ci := 1) (v := .ref (A 10)) (C := RX0) (T := TX0) (N := 5) hx hb hts miX0_addPoint_X0 hown hK hP 2 rfl rfl 2 (by decide) (hts (.fieldLink RX0 18 "SectionFibres$Kinds" "points" "[I") mbX0_addPoint_1) (fun _ h9 => h9) rfl dX0_addPoint_76 ?_
      refine lv_iload_n hx hb dX0_addPoint_79 rfl (lv_at hl 3 rfl) ?_
      refine lv_iload hx hb dX0_addPoint_80 (lv_at hl 1 rfl) ?_
      refine lv_iconst (v := 1) hx hb dX0_addPoint_82 (by decide) ?_
      refine lv_iadd hx hb dX0_addPoint_83 ?_
      refine tp_i (v := nI (q + 1)) (nI_1 q) ?_
      refine iasn hx hb hK hP hD hS 10 0 rfl rfl k (rfl) (by omega) (by decide) dX0_addPoint_84 (fun H locs hP hD hS => ?_)
      have hP : va_P (dC, dI) vwCl (wC cA A (setG (setG (setG g 5 (8 * k + q) x) 6 (8 * k + q) y) 7 k (nI (q + 1))) n hs pe pk fo mo) H := hP
      have hD : va_D Av (wC cA A (setG (setG (setG g 5 (8 * k + q) x) 6 (8 * k + q) y) 7 k (nI (q + 1))) n hs pe pk fo mo) := hD
      refine lv_iconst (v := 1) hx hb dX0_addPoint_85 (by decide) ?_
      exact W.zret (ty := .boolean) (v := 1) hx hb hr (by decide) (fun t9 ht9 hW9 => ⟨⟨_, ((setG (setG (setG g 5 (8 * k + q) x) 6 (8 * k + q) y) 7 k (nI (q + 1))), n, hs, pe, pk, fo, mo), rfl, (Or.inl ⟨(apC_k hk hq hqe).mpr ⟨hq8, fun h9 => absurd h9.1 (by have h8 := (nI_leI (b := 0) (by omega) (by omega)).mp c2; omega)⟩, rfl, by rw [nI_clamp (n := k) (by omega), hqe, nI_clamp (n := q) (by omega)]; rfl⟩), by dsimp only; rw [ht9]; exact hP⟩, hS.F ht9⟩) hS.2.2 dX0_addPoint_86
    · have hq0 : 0 < q := Nat.pos_of_ne_zero (fun h9 => c2 (by rw [h9]; decide))
      refine lv_iload_n hx hb dX0_addPoint_31 rfl (lv_at hl 4 rfl) ?_
      refine lv_aload_n hx hb dX0_addPoint_32 rfl (lv_at hl 2 rfl) ?_
      refine va_get (D := (dC, dI)) (ci := 1) (v := .ref (A 8)) (C := RX0) (T := TX0) (N := 5) hx hb hts miX0_addPoint_X0 hown hK hP 2 rfl rfl 0 (by decide) (hts (.fieldLink RX0 9 "SectionFibres$Kinds" "strains" "[I") mbX0_addPoint_2) (fun _ h9 => h9) rfl dX0_addPoint_33 ?_
      refine lv_iload hx hb dX0_addPoint_36 (lv_at hl 0 rfl) ?_
      refine lv_iconst (v := 1) hx hb dX0_addPoint_38 (by decide) ?_
      refine lv_isub hx hb dX0_addPoint_39 ?_
      refine tp_i (v := nI (8 * k + q - 1)) (by have h9 := nI_pred (8 * k + q - 1); rwa [show 8 * k + q - 1 + 1 = 8 * k + q by omega] at h9) ?_
      refine ialn hx hb hK hP 8 0 rfl rfl (8 * k + q - 1) (rfl) (by omega) (by decide) dX0_addPoint_40 ?_
      refine lv_icmp_le (tgt := 57) hx hb dX0_addPoint_41 (by decide) (fun c3 => ?_) (fun c3 => ?_)
      · refine lv_iconst (v := 0) hx hb dX0_addPoint_57 (by decide) ?_
        exact W.zret (ty := .boolean) (v := 0) hx hb hr (by decide) (fun t9 ht9 hW9 => ⟨⟨_, (g, n, hs, pe, pk, fo, mo), rfl, (Or.inr ⟨fun h9 => ((apC_k hk hq hqe).mp h9).2 ⟨hq0, Or.inl c3⟩, rfl, rfl⟩), by dsimp only; rw [ht9]; exact hP⟩, hS.F ht9⟩) hS.2.2 dX0_addPoint_58
      · refine lv_iload_n hx hb dX0_addPoint_44 rfl (lv_at hl 5 rfl) ?_
        refine lv_aload_n hx hb dX0_addPoint_45 rfl (lv_at hl 2 rfl) ?_
        refine va_get (D := (dC, dI)) (ci := 1) (v := .ref (A 9)) (C := RX0) (T := TX0) (N := 5) hx hb hts miX0_addPoint_X0 hown hK hP 2 rfl rfl 1 (by decide) (hts (.fieldLink RX0 15 "SectionFibres$Kinds" "stresses" "[I") mbX0_addPoint_3) (fun _ h9 => h9) rfl dX0_addPoint_46 ?_
        refine lv_iload hx hb dX0_addPoint_49 (lv_at hl 0 rfl) ?_
        refine lv_iconst (v := 1) hx hb dX0_addPoint_51 (by decide) ?_
        refine lv_isub hx hb dX0_addPoint_52 ?_
        refine tp_i (v := nI (8 * k + q - 1)) (by have h9 := nI_pred (8 * k + q - 1); rwa [show 8 * k + q - 1 + 1 = 8 * k + q by omega] at h9) ?_
        refine ialn hx hb hK hP 9 0 rfl rfl (8 * k + q - 1) (rfl) (by omega) (by decide) dX0_addPoint_53 ?_
        refine lv_icmp_ge (tgt := 59) hx hb dX0_addPoint_54 (by decide) (fun c4 => ?_) (fun c4 => ?_)
        · refine lv_aload_n hx hb dX0_addPoint_59 rfl (lv_at hl 2 rfl) ?_
          refine va_get (D := (dC, dI)) (ci := 1) (v := .ref (A 8)) (C := RX0) (T := TX0) (N := 5) hx hb hts miX0_addPoint_X0 hown hK hP 2 rfl rfl 0 (by decide) (hts (.fieldLink RX0 9 "SectionFibres$Kinds" "strains" "[I") mbX0_addPoint_2) (fun _ h9 => h9) rfl dX0_addPoint_60 ?_
          refine lv_iload hx hb dX0_addPoint_63 (lv_at hl 0 rfl) ?_
          refine lv_iload_n hx hb dX0_addPoint_65 rfl (lv_at hl 4 rfl) ?_
          refine iasn hx hb hK hP hD hS 8 0 rfl rfl (8 * k + q) (rfl) (by omega) (by decide) dX0_addPoint_66 (fun H locs hP hD hS => ?_)
          have hP : va_P (dC, dI) vwCl (wC cA A (setG g 5 (8 * k + q) x) n hs pe pk fo mo) H := hP
          have hD : va_D Av (wC cA A (setG g 5 (8 * k + q) x) n hs pe pk fo mo) := hD
          refine lv_aload_n hx hb dX0_addPoint_67 rfl (lv_at hl 2 rfl) ?_
          refine va_get (D := (dC, dI)) (ci := 1) (v := .ref (A 9)) (C := RX0) (T := TX0) (N := 5) hx hb hts miX0_addPoint_X0 hown hK hP 2 rfl rfl 1 (by decide) (hts (.fieldLink RX0 15 "SectionFibres$Kinds" "stresses" "[I") mbX0_addPoint_3) (fun _ h9 => h9) rfl dX0_addPoint_68 ?_
          refine lv_iload hx hb dX0_addPoint_71 (lv_at hl 0 rfl) ?_
          refine lv_iload_n hx hb dX0_addPoint_73 rfl (lv_at hl 5 rfl) ?_
          refine iasn hx hb hK hP hD hS 9 0 rfl rfl (8 * k + q) (rfl) (by omega) (by decide) dX0_addPoint_74 (fun H locs hP hD hS => ?_)
          have hP : va_P (dC, dI) vwCl (wC cA A (setG (setG g 5 (8 * k + q) x) 6 (8 * k + q) y) n hs pe pk fo mo) H := hP
          have hD : va_D Av (wC cA A (setG (setG g 5 (8 * k + q) x) 6 (8 * k + q) y) n hs pe pk fo mo) := hD
          refine lv_aload_n hx hb dX0_addPoint_75 rfl (lv_at hl 2 rfl) ?_
          refine va_get (D := (dC, dI)) (ci := 1) (v := .ref (A 10)) (C := RX0) (T := TX0) (N := 5) hx hb hts miX0_addPoint_X0 hown hK hP 2 rfl rfl 2 (by decide) (hts (.fieldLink RX0 18 "SectionFibres$Kinds" "points" "[I") mbX0_addPoint_1) (fun _ h9 => h9) rfl dX0_addPoint_76 ?_
          refine lv_iload_n hx hb dX0_addPoint_79 rfl (lv_at hl 3 rfl) ?_
          refine lv_iload hx hb dX0_addPoint_80 (lv_at hl 1 rfl) ?_
          refine lv_iconst (v := 1) hx hb dX0_addPoint_82 (by decide) ?_
          refine lv_iadd hx hb dX0_addPoint_83 ?_
          refine tp_i (v := nI (q + 1)) (nI_1 q) ?_
          refine iasn hx hb hK hP hD hS 10 0 rfl rfl k (rfl) (by omega) (by decide) dX0_addPoint_84 (fun H locs hP hD hS => ?_)
          have hP : va_P (dC, dI) vwCl (wC cA A (setG (setG (setG g 5 (8 * k + q) x) 6 (8 * k + q) y) 7 k (nI (q + 1))) n hs pe pk fo mo) H := hP
          have hD : va_D Av (wC cA A (setG (setG (setG g 5 (8 * k + q) x) 6 (8 * k + q) y) 7 k (nI (q + 1))) n hs pe pk fo mo) := hD
          refine lv_iconst (v := 1) hx hb dX0_addPoint_85 (by decide) ?_
          exact W.zret (ty := .boolean) (v := 1) hx hb hr (by decide) (fun t9 ht9 hW9 => ⟨⟨_, ((setG (setG (setG g 5 (8 * k + q) x) 6 (8 * k + q) y) 7 k (nI (q + 1))), n, hs, pe, pk, fo, mo), rfl, (Or.inl ⟨(apC_k hk hq hqe).mpr ⟨hq8, fun h9 => h9.2.elim c3 (le_nlt c4)⟩, rfl, by rw [nI_clamp (n := k) (by omega), hqe, nI_clamp (n := q) (by omega)]; rfl⟩), by dsimp only; rw [ht9]; exact hP⟩, hS.F ht9⟩) hS.2.2 dX0_addPoint_86
        · refine lv_iconst (v := 0) hx hb dX0_addPoint_57 (by decide) ?_
          exact W.zret (ty := .boolean) (v := 0) hx hb hr (by decide) (fun t9 ht9 hW9 => ⟨⟨_, (g, n, hs, pe, pk, fo, mo), rfl, (Or.inr ⟨fun h9 => ((apC_k hk hq hqe).mp h9).2 ⟨hq0, Or.inr (nle_lt c4)⟩, rfl, rfl⟩), by dsimp only; rw [ht9]; exact hP⟩, hS.F ht9⟩) hS.2.2 dX0_addPoint_58
  · refine lv_iconst (v := 0) hx hb dX0_addPoint_15 (by decide) ?_
    exact W.zret (ty := .boolean) (v := 0) hx hb hr (by decide) (fun t9 ht9 hW9 => ⟨⟨_, (g, n, hs, pe, pk, fo, mo), rfl, (Or.inr ⟨fun h9 => by have h8 := ((apC_k hk hq hqe).mp h9).1; exact c1 (nI_lt (b := 8) h8 (by omega)), rfl, rfl⟩), by dsimp only; rw [ht9]; exact hP⟩, hS.F ht9⟩) hS.2.2 dX0_addPoint_16

set_option maxRecDepth 20000 in
theorem mbX2_fibre_0 : (.constant RX2 16 (100000) : Cond) ∈ wsX2_fibre := by decide +kernel
set_option maxRecDepth 20000 in
theorem miX2_fibre_X2 : ∀ w ∈ u_ws RX2 TX2 6, w ∈ wsX2_fibre := by decide +kernel
set_option maxRecDepth 20000 in
theorem mbX2_fibre_2 : (.fieldLink RX2 10 "SectionFibres" "section" "LSectionFibres$Section;" : Cond) ∈ wsX2_fibre := by decide +kernel
set_option maxRecDepth 20000 in
theorem miX2_fibre_X1 : ∀ w ∈ u_ws RX1 TX1 7, w ∈ wsX2_fibre := by decide +kernel
set_option maxRecDepth 20000 in
theorem mbX2_fibre_4 : (.initialized RX1 : Cond) ∈ wsX2_fibre := by decide +kernel
set_option maxRecDepth 20000 in
theorem mbX2_fibre_5 : (.instanceMethod yX1_add : Cond) ∈ wsX2_fibre := by decide +kernel
set_option maxRecDepth 20000 in
theorem mbX2_fibre_6 : (.selects RX1 yX1_add yX1_add : Cond) ∈ wsX2_fibre := by decide +kernel
set_option maxRecDepth 20000 in
theorem mbX2_fibre_7 : (.fieldLink RX2 36 "SectionFibres" "planeAtHand" "Z" : Cond) ∈ wsX2_fibre := by decide +kernel
set_option maxHeartbeats 4000000 in
set_option maxRecDepth 100000 in
theorem c_X2_fibre (l : Launch) (dC : Nat → ClassId) (dI : Nat → Nat → Nat) (cA : ClassId) (H : Heap) (A : Nat → Nat) (g : Gg) (n : Nat) (hs pe pk : Int32) (fo mo : Int64) (hP : va_P (dC, dI) vwCl (wC cA A g n hs pe pk fo mo) H) (hD : va_D (fun _ => True) (wC cA A g n hs pe pk fo mo)) (hn : n ≤ 40) (a b d : Int32) : Met l yX2_fibre wsX2_fibre ({ frames := 2, cells := 0, slots := 0, locals := 42 }) (rd_P [.ref (A 0), .int a, .int b, .int d] H (dC, dI) vwCl [(cA, .int)]) (va_Qi (fun (r : Int32) (u : St) => (r, u) = fibF (g, n, hs, pe, pk, fo, mo) a b d) (fun u t => bC dC dI cA A u t.heap) (va_A (wC cA A g n hs pe pk fo mo) H.size)) 0 0 (va_A (wC cA A g n hs pe pk fo mo) H.size) := by
  refine Met.ofW (cc := cX2_fibre) (maxL := 4) (ret := (some .int)) (by decide) rfl ?_
  intro p e s m args below meth c s₁ B hml hv
  obtain ⟨rfl, hH, hK, hN⟩ := hv
  subst hH
  have hx := B.exec
  have hb := B.bytes
  have hr := B.returns
  have hts := atoms_spec (ws := wsX2_fibre) B.pre
  have hown : s.vm.findClass RX2 = some m.cls := findClass_of_methodNamed B.named
  have hlocks := B.notSynchronized
  have hD := hD.self (sz := s.heap.size)
  generalize hAe : va_A (wC cA A g n hs pe pk fo mo) s.heap.size = Av at hD ⊢
  have hA : ∀ q : Nat, s.heap.size ≤ q → Av q := fun q h => by rw [← hAe]; exact Or.inr h
  have hS : va_S Av s.heap s.heap [] := va_S.rf
  have hl := lv_entry ([.ref (A 0), .int a, .int b, .int d]) (n := 4) (Nat.le_of_ble_eq_true rfl)
  rw [lg_entry_eq]
  generalize (lg_sl ([.ref (A 0), .int a, .int b, .int d]) ++ List.replicate (4 - (lg_sl ([.ref (A 0), .int a, .int b, .int d])).length) Slot.unset).toArray = ls at hl ⊢
  have hl : lv_has ls 4 [(0, .ref (A 0)), (1, .int a), (2, .int b), (3, .int d)] := hl
  refine lv_iload_n hx hb dX2_fibre_0 rfl (lv_at hl 1 rfl) ?_
  refine lv_iconst (v := 0) hx hb dX2_fibre_1 (by decide) ?_
  refine lv_ldc hx hb hown (hts (.constant RX2 16 (100000)) mbX2_fibre_0) dX2_fibre_2 ?_
  refine rd_i (va_runS (As := [.int a, .int 0, .int 100000]) (rest := []) ⟨hx, hb, hml, hown, hts⟩ (c_X2_within l dC dI cA s.heap a 0 100000 0 100000 (by decide) (by decide)) (va_cwS 3 hts gX2_fibre_X2_within rfl rfl rfl (by decide +kernel) ⟨Nat.le_of_ble_eq_true rfl, Nat.le_of_ble_eq_true rfl⟩) ⟨rd_bl, rd_pre hK hN⟩ rfl rfl hl.1 rfl (lv_room (Nat.le_of_ble_eq_true rfl)) dX2_fibre_4 ⟨Nat.zero_le _, Nat.zero_le _⟩) hS (fun r1 locs hq2 hS => ?_)
  rcases hq2 with ⟨hq2, rfl⟩ | ⟨hq2, rfl⟩
  · have q1 : rg a 0 100000 := hq2
    refine lv_if_eq (tgt := 24) hx hb dX2_fibre_7 (by decide) (fun h9 => absurd h9 (by decide)) (fun _ => ?_)
    refine lv_iload_n hx hb dX2_fibre_10 rfl (lv_at hl 2 rfl) ?_
    refine rd_i (va_runS (As := [.int b]) (rest := []) ⟨hx, hb, hml, hown, hts⟩ (c_X2_isPlace l dC dI cA s.heap b) (va_cwS 1 hts gX2_fibre_X2_isPlace rfl rfl rfl (by decide +kernel) ⟨Nat.le_of_ble_eq_true rfl, Nat.le_of_ble_eq_true rfl⟩) ⟨rd_bl, rd_pre hK hN⟩ rfl rfl hl.1 rfl (lv_room (Nat.le_of_ble_eq_true rfl)) dX2_fibre_11 ⟨Nat.zero_le _, Nat.zero_le _⟩) hS (fun r3 locs hq4 hS => ?_)
    rcases hq4 with ⟨hq4, rfl⟩ | ⟨hq4, rfl⟩
    · have q2 : rg b (-2000) 2000 := hq4
      refine lv_if_eq (tgt := 24) hx hb dX2_fibre_14 (by decide) (fun h9 => absurd h9 (by decide)) (fun _ => ?_)
      refine lv_iload_n hx hb dX2_fibre_17 rfl (lv_at hl 3 rfl) ?_
      refine rd_i (va_runS (As := [.int d]) (rest := []) ⟨hx, hb, hml, hown, hts⟩ (c_X2_isKind l dC dI cA s.heap d) (va_cwS 1 hts gX2_fibre_X2_isKind rfl rfl rfl (by decide +kernel) ⟨Nat.le_of_ble_eq_true rfl, Nat.le_of_ble_eq_true rfl⟩) ⟨rd_bl, rd_pre hK hN⟩ rfl rfl hl.1 rfl (lv_room (Nat.le_of_ble_eq_true rfl)) dX2_fibre_18 ⟨Nat.zero_le _, Nat.zero_le _⟩) hS (fun r5 locs hq6 hS => ?_)
      rcases hq6 with ⟨hq6, rfl⟩ | ⟨hq6, rfl⟩
      · have q3 : rg d 0 3 := hq6
        refine lv_if_ne (tgt := 26) hx hb dX2_fibre_21 (by decide) (fun _ => ?_) (fun h9 => absurd h9 (by decide))
        refine lv_aload_n hx hb dX2_fibre_26 rfl (lv_at hl 0 rfl) ?_
        refine va_get (D := (dC, dI)) (ci := 3) (v := .ref (A 1)) (C := RX2) (T := TX2) (N := 6) hx hb hts miX2_fibre_X2 hown hK hP 0 rfl rfl 0 (by decide) (hts (.fieldLink RX2 10 "SectionFibres" "section" "LSectionFibres$Section;") mbX2_fibre_2) (fun _ h9 => h9) rfl dX2_fibre_27 ?_
        refine va_getN (D := (dC, dI)) (ci := 2) (v := .int (nI n)) (C := RX1) (T := TX1) (N := 7) hx hb hts miX2_fibre_X1 hown hK hP 1 rfl rfl 6 (by decide) (va_Nw.use rfl (hN (.fieldLinkNest RX2 28 "SectionFibres$Section" "size" "I" "SectionFibres") (List.mem_of_getElem? (i := 28) rfl))) (fun _ h9 => h9) rfl dX2_fibre_30 ?_
        refine lv_bipush (v := 40) hx hb dX2_fibre_33 (by decide) ?_
        refine lv_icmp_lt (tgt := 40) hx hb dX2_fibre_35 (by decide) (fun c1 => ?_) (fun c1 => ?_)
        · have hlt : n < 40 := (nI_ltI (b := 40) (by omega) (by omega)).mp c1
          refine lv_aload_n hx hb dX2_fibre_40 rfl (lv_at hl 0 rfl) ?_
          refine va_get (D := (dC, dI)) (ci := 3) (v := .ref (A 1)) (C := RX2) (T := TX2) (N := 6) hx hb hts miX2_fibre_X2 hown hK hP 0 rfl rfl 0 (by decide) (hts (.fieldLink RX2 10 "SectionFibres" "section" "LSectionFibres$Section;") mbX2_fibre_2) (fun _ h9 => h9) rfl dX2_fibre_41 ?_
          refine lv_iload_n hx hb dX2_fibre_44 rfl (lv_at hl 1 rfl) ?_
          refine lv_iload_n hx hb dX2_fibre_45 rfl (lv_at hl 2 rfl) ?_
          refine lv_iload_n hx hb dX2_fibre_46 rfl (lv_at hl 3 rfl) ?_
          have hFc := va_free (wc := (wC cA A g n hs pe pk fo mo)) hD hS hA [0, 1, 2, 3, 4, 5, 6, 7, 8, 9, 10, 11, 12] rfl
          refine mu_v (va_runVN (As := [.int a, .int b, .int d]) (rest := []) ⟨hx, hb, hml, hown, hts⟩ (c_X1_add l dC dI cA s.heap A g n hs pe pk fo mo hP (hD.weaken (fun _ _ _ _ => trivial)) (by omega) a b d) ⟨(va_cnB 3 hts gX2_fibre_X1_add_n32 rfl rfl rfl (hN (.methodLinkNest RX2 32 yX1_add "SectionFibres") (List.mem_of_getElem? (i := 2) rfl)) (hts (.initialized RX1) mbX2_fibre_4) (by decide +kernel) ⟨Nat.le_of_ble_eq_true rfl, Nat.le_of_ble_eq_true rfl⟩), hts (.instanceMethod yX1_add) mbX2_fibre_5, hts (.selects RX1 yX1_add yX1_add) mbX2_fibre_6⟩ ⟨rd_bl, va_recv hK hP (ci := 2) (q0 := 1) rfl rfl, rd_pre hK hN⟩ rfl rfl hl.1 rfl (lv_room (Nat.le_of_ble_eq_true rfl)) dX2_fibre_47 ⟨Nat.zero_le _, Nat.zero_le _⟩) hS hFc (fun u H locs hq hB hk hz hS => ?_)
          subst hq
          have hP : va_P (dC, dI) vwCl (wC cA A (layG g n a b d) (n + 1) hs pe pk fo mo) H := hB
          have hD : va_D Av (wC cA A (layG g n a b d) (n + 1) hs pe pk fo mo) := va_Dsame (by rfl) hD
          refine lv_aload_n hx hb dX2_fibre_50 rfl (lv_at hl 0 rfl) ?_
          refine lv_iconst (v := 0) hx hb dX2_fibre_51 (by decide) ?_
          refine va_put (D := (dC, dI)) (ci := 3) (v := .int 0) (ty := .boolean) (C := RX2) (T := TX2) (N := 6) hx hb hts miX2_fibre_X2 tyX2 tyX2_ok nmX2 hown hK hP hD hS 0 rfl rfl 1 (by decide) (hts (.fieldLink RX2 36 "SectionFibres" "planeAtHand" "Z") mbX2_fibre_7) (fun _ h9 => h9) rfl (by decide +kernel) rfl rfl (Nat.le_of_ble_eq_true rfl) dX2_fibre_52 (fun H locs hP hD hS => ?_)
          have hP : va_P (dC, dI) vwCl (wC cA A (layG g n a b d) (n + 1) 0 pe pk fo mo) H := hP
          have hD : va_D Av (wC cA A (layG g n a b d) (n + 1) 0 pe pk fo mo) := hD
          refine lv_aload_n hx hb dX2_fibre_55 rfl (lv_at hl 0 rfl) ?_
          refine va_get (D := (dC, dI)) (ci := 3) (v := .ref (A 1)) (C := RX2) (T := TX2) (N := 6) hx hb hts miX2_fibre_X2 hown hK hP 0 rfl rfl 0 (by decide) (hts (.fieldLink RX2 10 "SectionFibres" "section" "LSectionFibres$Section;") mbX2_fibre_2) (fun _ h9 => h9) rfl dX2_fibre_56 ?_
          refine va_getN (D := (dC, dI)) (ci := 2) (v := .int (nI (n + 1))) (C := RX1) (T := TX1) (N := 7) hx hb hts miX2_fibre_X1 hown hK hP 1 rfl rfl 6 (by decide) (va_Nw.use rfl (hN (.fieldLinkNest RX2 28 "SectionFibres$Section" "size" "I" "SectionFibres") (List.mem_of_getElem? (i := 28) rfl))) (fun _ h9 => h9) rfl dX2_fibre_59 ?_
          refine lv_iconst (v := 1) hx hb dX2_fibre_62 (by decide) ?_
          refine lv_isub hx hb dX2_fibre_63 ?_
          refine tp_i (v := nI n) (nI_pred n) ?_
          exact W.iret (v := (nI n)) hx hb hr (fun t9 ht9 hW9 => ⟨⟨_, ((layG g n a b d), n + 1, 0, pe, pk, fo, mo), rfl, ((fib_t ⟨q1, q2, q3, hlt⟩).symm), by dsimp only; rw [ht9]; exact hP⟩, hS.F ht9⟩) hS.2.2 dX2_fibre_64
        · refine lv_iconst (v := (-1)) hx hb dX2_fibre_38 (by decide) ?_
          exact W.iret (v := (-1)) hx hb hr (fun t9 ht9 hW9 => ⟨⟨_, (g, n, hs, pe, pk, fo, mo), rfl, ((fib_f (fun h9 => c1 (nI_lt (b := 40) h9.2.2.2 (by omega)))).symm), by dsimp only; rw [ht9]; exact hP⟩, hS.F ht9⟩) hS.2.2 dX2_fibre_39
      · have q3 : ¬ (rg d 0 3) := hq6
        refine lv_if_ne (tgt := 26) hx hb dX2_fibre_21 (by decide) (fun h9 => absurd h9 (by decide)) (fun _ => ?_)
        refine lv_iconst (v := (-1)) hx hb dX2_fibre_24 (by decide) ?_
        exact W.iret (v := (-1)) hx hb hr (fun t9 ht9 hW9 => ⟨⟨_, (g, n, hs, pe, pk, fo, mo), rfl, ((fib_f (fun h9 => q3 h9.2.2.1)).symm), by dsimp only; rw [ht9]; exact hP⟩, hS.F ht9⟩) hS.2.2 dX2_fibre_25
    · have q2 : ¬ (rg b (-2000) 2000) := hq4
      refine lv_if_eq (tgt := 24) hx hb dX2_fibre_14 (by decide) (fun _ => ?_) (fun h9 => absurd h9 (by decide))
      refine lv_iconst (v := (-1)) hx hb dX2_fibre_24 (by decide) ?_
      exact W.iret (v := (-1)) hx hb hr (fun t9 ht9 hW9 => ⟨⟨_, (g, n, hs, pe, pk, fo, mo), rfl, ((fib_f (fun h9 => q2 h9.2.1)).symm), by dsimp only; rw [ht9]; exact hP⟩, hS.F ht9⟩) hS.2.2 dX2_fibre_25
  · have q1 : ¬ (rg a 0 100000) := hq2
    refine lv_if_eq (tgt := 24) hx hb dX2_fibre_7 (by decide) (fun _ => ?_) (fun h9 => absurd h9 (by decide))
    refine lv_iconst (v := (-1)) hx hb dX2_fibre_24 (by decide) ?_
    exact W.iret (v := (-1)) hx hb hr (fun t9 ht9 hW9 => ⟨⟨_, (g, n, hs, pe, pk, fo, mo), rfl, ((fib_f (fun h9 => q1 h9.1)).symm), by dsimp only; rw [ht9]; exact hP⟩, hS.F ht9⟩) hS.2.2 dX2_fibre_25

set_option maxRecDepth 20000 in
theorem mbX2_point_0 : (.constant RX2 43 (-1000000) : Cond) ∈ wsX2_point := by decide +kernel
set_option maxRecDepth 20000 in
theorem mbX2_point_1 : (.constant RX2 44 (1000000) : Cond) ∈ wsX2_point := by decide +kernel
set_option maxRecDepth 20000 in
theorem miX2_point_X2 : ∀ w ∈ u_ws RX2 TX2 6, w ∈ wsX2_point := by decide +kernel
set_option maxRecDepth 20000 in
theorem mbX2_point_3 : (.fieldLink RX2 10 "SectionFibres" "section" "LSectionFibres$Section;" : Cond) ∈ wsX2_point := by decide +kernel
set_option maxRecDepth 20000 in
theorem miX2_point_X1 : ∀ w ∈ u_ws RX1 TX1 7, w ∈ wsX2_point := by decide +kernel
set_option maxRecDepth 20000 in
theorem mbX2_point_5 : (.initialized RX0 : Cond) ∈ wsX2_point := by decide +kernel
set_option maxRecDepth 20000 in
theorem mbX2_point_6 : (.instanceMethod yX0_addPoint : Cond) ∈ wsX2_point := by decide +kernel
set_option maxRecDepth 20000 in
theorem mbX2_point_7 : (.selects RX0 yX0_addPoint yX0_addPoint : Cond) ∈ wsX2_point := by decide +kernel
set_option maxRecDepth 20000 in
theorem mbX2_point_8 : (.fieldLink RX2 36 "SectionFibres" "planeAtHand" "Z" : Cond) ∈ wsX2_point := by decide +kernel
set_option maxHeartbeats 4000000 in
set_option maxRecDepth 100000 in
theorem c_X2_point (l : Launch) (dC : Nat → ClassId) (dI : Nat → Nat → Nat) (cA : ClassId) (H : Heap) (A : Nat → Nat) (g : Gg) (n : Nat) (hs pe pk : Int32) (fo mo : Int64) (hP : va_P (dC, dI) vwCl (wC cA A g n hs pe pk fo mo) H) (hD : va_D (fun _ => True) (wC cA A g n hs pe pk fo mo)) (hg : InvG g) (a b d : Int32) : Met l yX2_point wsX2_point ({ frames := 2, cells := 0, slots := 0, locals := 42 }) (rd_P [.ref (A 0), .int a, .int b, .int d] H (dC, dI) vwCl [(cA, .int)]) (va_Qi (fun (r : Int32) (u : St) => (r, u) = poiF (g, n, hs, pe, pk, fo, mo) a b d) (fun u t => bC dC dI cA A u t.heap) (va_A (wC cA A g n hs pe pk fo mo) H.size)) 0 0 (va_A (wC cA A g n hs pe pk fo mo) H.size) := by
  refine Met.ofW (cc := cX2_point) (maxL := 4) (ret := (some .boolean)) (by decide) rfl ?_
  intro p e s m args below meth c s₁ B hml hv
  obtain ⟨rfl, hH, hK, hN⟩ := hv
  subst hH
  have hx := B.exec
  have hb := B.bytes
  have hr := B.returns
  have hts := atoms_spec (ws := wsX2_point) B.pre
  have hown : s.vm.findClass RX2 = some m.cls := findClass_of_methodNamed B.named
  have hlocks := B.notSynchronized
  have hD := hD.self (sz := s.heap.size)
  generalize hAe : va_A (wC cA A g n hs pe pk fo mo) s.heap.size = Av at hD ⊢
  have hA : ∀ q : Nat, s.heap.size ≤ q → Av q := fun q h => by rw [← hAe]; exact Or.inr h
  have hS : va_S Av s.heap s.heap [] := va_S.rf
  have hl := lv_entry ([.ref (A 0), .int a, .int b, .int d]) (n := 4) (Nat.le_of_ble_eq_true rfl)
  rw [lg_entry_eq]
  generalize (lg_sl ([.ref (A 0), .int a, .int b, .int d]) ++ List.replicate (4 - (lg_sl ([.ref (A 0), .int a, .int b, .int d])).length) Slot.unset).toArray = ls at hl ⊢
  have hl : lv_has ls 4 [(0, .ref (A 0)), (1, .int a), (2, .int b), (3, .int d)] := hl
  refine lv_iload_n hx hb dX2_point_0 rfl (lv_at hl 1 rfl) ?_
  refine rd_i (va_runS (As := [.int a]) (rest := []) ⟨hx, hb, hml, hown, hts⟩ (c_X2_isKind l dC dI cA s.heap a) (va_cwS 1 hts gX2_point_X2_isKind rfl rfl rfl (by decide +kernel) ⟨Nat.le_of_ble_eq_true rfl, Nat.le_of_ble_eq_true rfl⟩) ⟨rd_bl, rd_pre hK hN⟩ rfl rfl hl.1 rfl (lv_room (Nat.le_of_ble_eq_true rfl)) dX2_point_1 ⟨Nat.zero_le _, Nat.zero_le _⟩) hS (fun r1 locs hq2 hS => ?_)
  rcases hq2 with ⟨hq2, rfl⟩ | ⟨hq2, rfl⟩
  · have q1 : rg a 0 3 := hq2
    refine lv_if_eq (tgt := 25) hx hb dX2_point_4 (by decide) (fun h9 => absurd h9 (by decide)) (fun _ => ?_)
    refine lv_iload_n hx hb dX2_point_7 rfl (lv_at hl 2 rfl) ?_
    refine rd_i (va_runS (As := [.int b]) (rest := []) ⟨hx, hb, hml, hown, hts⟩ (c_X2_isToldStrain l dC dI cA s.heap b) (va_cwS 1 hts gX2_point_X2_isToldStrain rfl rfl rfl (by decide +kernel) ⟨Nat.le_of_ble_eq_true rfl, Nat.le_of_ble_eq_true rfl⟩) ⟨rd_bl, rd_pre hK hN⟩ rfl rfl hl.1 rfl (lv_room (Nat.le_of_ble_eq_true rfl)) dX2_point_8 ⟨Nat.zero_le _, Nat.zero_le _⟩) hS (fun r3 locs hq4 hS => ?_)
    rcases hq4 with ⟨hq4, rfl⟩ | ⟨hq4, rfl⟩
    · have q2 : rg b (-30000) 30000 := hq4
      refine lv_if_eq (tgt := 25) hx hb dX2_point_11 (by decide) (fun h9 => absurd h9 (by decide)) (fun _ => ?_)
      refine lv_iload_n hx hb dX2_point_14 rfl (lv_at hl 3 rfl) ?_
      refine lv_ldc hx hb hown (hts (.constant RX2 43 (-1000000)) mbX2_point_0) dX2_point_15 ?_
      refine lv_ldc hx hb hown (hts (.constant RX2 44 (1000000)) mbX2_point_1) dX2_point_17 ?_
      refine rd_i (va_runS (As := [.int d, .int (-1000000), .int 1000000]) (rest := []) ⟨hx, hb, hml, hown, hts⟩ (c_X2_within l dC dI cA s.heap d (-1000000) 1000000 (-1000000) 1000000 (by decide) (by decide)) (va_cwS 3 hts gX2_point_X2_within rfl rfl rfl (by decide +kernel) ⟨Nat.le_of_ble_eq_true rfl, Nat.le_of_ble_eq_true rfl⟩) ⟨rd_bl, rd_pre hK hN⟩ rfl rfl hl.1 rfl (lv_room (Nat.le_of_ble_eq_true rfl)) dX2_point_19 ⟨Nat.zero_le _, Nat.zero_le _⟩) hS (fun r5 locs hq6 hS => ?_)
      rcases hq6 with ⟨hq6, rfl⟩ | ⟨hq6, rfl⟩
      · have q3 : rg d (-1000000) 1000000 := hq6
        refine lv_if_ne (tgt := 27) hx hb dX2_point_22 (by decide) (fun _ => ?_) (fun h9 => absurd h9 (by decide))
        refine lv_aload_n hx hb dX2_point_27 rfl (lv_at hl 0 rfl) ?_
        refine va_get (D := (dC, dI)) (ci := 3) (v := .ref (A 1)) (C := RX2) (T := TX2) (N := 6) hx hb hts miX2_point_X2 hown hK hP 0 rfl rfl 0 (by decide) (hts (.fieldLink RX2 10 "SectionFibres" "section" "LSectionFibres$Section;") mbX2_point_3) (fun _ h9 => h9) rfl dX2_point_28 ?_
        refine va_getN (D := (dC, dI)) (ci := 2) (v := .ref (A 2)) (C := RX1) (T := TX1) (N := 7) hx hb hts miX2_point_X1 hown hK hP 1 rfl rfl 0 (by decide) (va_Nw.use rfl (hN (.fieldLinkNest RX2 45 "SectionFibres$Section" "kinds" "LSectionFibres$Kinds;" "SectionFibres") (List.mem_of_getElem? (i := 25) rfl))) (fun _ h9 => h9) rfl dX2_point_31 ?_
        refine lv_iload_n hx hb dX2_point_34 rfl (lv_at hl 1 rfl) ?_
        refine lv_iload_n hx hb dX2_point_35 rfl (lv_at hl 2 rfl) ?_
        refine lv_iload_n hx hb dX2_point_36 rfl (lv_at hl 3 rfl) ?_
        have hFc := va_free (wc := (wC cA A g n hs pe pk fo mo)) hD hS hA [0, 1, 2, 3, 4, 5, 6, 7, 8, 9, 10, 11, 12] rfl
        refine mu_i (va_runVN (As := [.int a, .int b, .int d]) (rest := []) ⟨hx, hb, hml, hown, hts⟩ (c_X0_addPoint l dC dI cA s.heap A g n hs pe pk fo mo hP (hD.weaken (fun _ _ _ _ => trivial)) hg a b d (rg_in q1)) ⟨(va_cnB 3 hts gX2_point_X0_addPoint_n49 rfl rfl rfl (hN (.methodLinkNest RX2 49 yX0_addPoint "SectionFibres") (List.mem_of_getElem? (i := 3) rfl)) (hts (.initialized RX0) mbX2_point_5) (by decide +kernel) ⟨Nat.le_of_ble_eq_true rfl, Nat.le_of_ble_eq_true rfl⟩), hts (.instanceMethod yX0_addPoint) mbX2_point_6, hts (.selects RX0 yX0_addPoint yX0_addPoint) mbX2_point_7⟩ ⟨rd_bl, va_recv hK hP (ci := 1) (q0 := 2) rfl rfl, rd_pre hK hN⟩ rfl rfl hl.1 rfl (lv_room (Nat.le_of_ble_eq_true rfl)) dX2_point_37 ⟨Nat.zero_le _, Nat.zero_le _⟩) hS hFc (fun r7 u H locs hq hB hk hz hS => ?_)
        rcases hq with ⟨hq9, rfl, rfl⟩ | ⟨hq9, rfl, rfl⟩
        · have hP : va_P (dC, dI) vwCl (wC cA A (ptG g a.toNatClampNeg (g 7 a.toNatClampNeg).toNatClampNeg b d) n hs pe pk fo mo) H := hB
          have hD : va_D Av (wC cA A (ptG g a.toNatClampNeg (g 7 a.toNatClampNeg).toNatClampNeg b d) n hs pe pk fo mo) := va_Dsame (by rfl) hD
          refine lv_if_ne (tgt := 45) hx hb dX2_point_40 (by decide) (fun _ => ?_) (fun h9 => absurd h9 (by decide))
          refine lv_aload_n hx hb dX2_point_45 rfl (lv_at hl 0 rfl) ?_
          refine lv_iconst (v := 0) hx hb dX2_point_46 (by decide) ?_
          refine va_put (D := (dC, dI)) (ci := 3) (v := .int 0) (ty := .boolean) (C := RX2) (T := TX2) (N := 6) hx hb hts miX2_point_X2 tyX2 tyX2_ok nmX2 hown hK hP hD hS 0 rfl rfl 1 (by decide) (hts (.fieldLink RX2 36 "SectionFibres" "planeAtHand" "Z") mbX2_point_8) (fun _ h9 => h9) rfl (by decide +kernel) rfl rfl (Nat.le_of_ble_eq_true rfl) dX2_point_47 (fun H locs hP hD hS => ?_)
          have hP : va_P (dC, dI) vwCl (wC cA A (ptG g a.toNatClampNeg (g 7 a.toNatClampNeg).toNatClampNeg b d) n 0 pe pk fo mo) H := hP
          have hD : va_D Av (wC cA A (ptG g a.toNatClampNeg (g 7 a.toNatClampNeg).toNatClampNeg b d) n 0 pe pk fo mo) := hD
          refine lv_iconst (v := 1) hx hb dX2_point_50 (by decide) ?_
          exact W.zret (ty := .boolean) (v := 1) hx hb hr (by decide) (fun t9 ht9 hW9 => ⟨⟨_, ((ptG g a.toNatClampNeg (g 7 a.toNatClampNeg).toNatClampNeg b d), n, 0, pe, pk, fo, mo), rfl, ((poi_t ⟨q1, q2, q3, hq9.1, hq9.2⟩).symm), by dsimp only; rw [ht9]; exact hP⟩, hS.F ht9⟩) hS.2.2 dX2_point_51
        · have hP : va_P (dC, dI) vwCl (wC cA A g n hs pe pk fo mo) H := hB
          have hD : va_D Av (wC cA A g n hs pe pk fo mo) := va_Dsame (by rfl) hD
          refine lv_if_ne (tgt := 45) hx hb dX2_point_40 (by decide) (fun h9 => absurd h9 (by decide)) (fun _ => ?_)
          refine lv_iconst (v := 0) hx hb dX2_point_43 (by decide) ?_
          exact W.zret (ty := .boolean) (v := 0) hx hb hr (by decide) (fun t9 ht9 hW9 => ⟨⟨_, (g, n, hs, pe, pk, fo, mo), rfl, ((poi_f (fun h9 => hq9 ⟨h9.2.2.2.1, h9.2.2.2.2⟩)).symm), by dsimp only; rw [ht9]; exact hP⟩, hS.F ht9⟩) hS.2.2 dX2_point_44
      · have q3 : ¬ (rg d (-1000000) 1000000) := hq6
        refine lv_if_ne (tgt := 27) hx hb dX2_point_22 (by decide) (fun h9 => absurd h9 (by decide)) (fun _ => ?_)
        refine lv_iconst (v := 0) hx hb dX2_point_25 (by decide) ?_
        exact W.zret (ty := .boolean) (v := 0) hx hb hr (by decide) (fun t9 ht9 hW9 => ⟨⟨_, (g, n, hs, pe, pk, fo, mo), rfl, ((poi_f (fun h9 => q3 h9.2.2.1)).symm), by dsimp only; rw [ht9]; exact hP⟩, hS.F ht9⟩) hS.2.2 dX2_point_26
    · have q2 : ¬ (rg b (-30000) 30000) := hq4
      refine lv_if_eq (tgt := 25) hx hb dX2_point_11 (by decide) (fun _ => ?_) (fun h9 => absurd h9 (by decide))
      refine lv_iconst (v := 0) hx hb dX2_point_25 (by decide) ?_
      exact W.zret (ty := .boolean) (v := 0) hx hb hr (by decide) (fun t9 ht9 hW9 => ⟨⟨_, (g, n, hs, pe, pk, fo, mo), rfl, ((poi_f (fun h9 => q2 h9.2.1)).symm), by dsimp only; rw [ht9]; exact hP⟩, hS.F ht9⟩) hS.2.2 dX2_point_26
  · have q1 : ¬ (rg a 0 3) := hq2
    refine lv_if_eq (tgt := 25) hx hb dX2_point_4 (by decide) (fun _ => ?_) (fun h9 => absurd h9 (by decide))
    refine lv_iconst (v := 0) hx hb dX2_point_25 (by decide) ?_
    exact W.zret (ty := .boolean) (v := 0) hx hb hr (by decide) (fun t9 ht9 hW9 => ⟨⟨_, (g, n, hs, pe, pk, fo, mo), rfl, ((poi_f (fun h9 => q1 h9.1)).symm), by dsimp only; rw [ht9]; exact hP⟩, hS.F ht9⟩) hS.2.2 dX2_point_26

set_option maxRecDepth 20000 in
theorem miX2_born_X2 : ∀ w ∈ u_ws RX2 TX2 6, w ∈ wsX2_born := by decide +kernel
set_option maxRecDepth 20000 in
theorem mbX2_born_1 : (.fieldLink RX2 10 "SectionFibres" "section" "LSectionFibres$Section;" : Cond) ∈ wsX2_born := by decide +kernel
set_option maxRecDepth 20000 in
theorem mbX2_born_2 : (.initialized RX1 : Cond) ∈ wsX2_born := by decide +kernel
set_option maxRecDepth 20000 in
theorem mbX2_born_3 : (.instanceMethod yX1_has : Cond) ∈ wsX2_born := by decide +kernel
set_option maxRecDepth 20000 in
theorem mbX2_born_4 : (.selects RX1 yX1_has yX1_has : Cond) ∈ wsX2_born := by decide +kernel
set_option maxRecDepth 20000 in
theorem miX2_born_X1 : ∀ w ∈ u_ws RX1 TX1 7, w ∈ wsX2_born := by decide +kernel
set_option maxRecDepth 20000 in
theorem mbX2_born_6 : (.fieldLink RX2 36 "SectionFibres" "planeAtHand" "Z" : Cond) ∈ wsX2_born := by decide +kernel
set_option maxHeartbeats 4000000 in
set_option maxRecDepth 100000 in
theorem c_X2_born (l : Launch) (dC : Nat → ClassId) (dI : Nat → Nat → Nat) (cA : ClassId) (H : Heap) (A : Nat → Nat) (g : Gg) (n : Nat) (hs pe pk : Int32) (fo mo : Int64) (hP : va_P (dC, dI) vwCl (wC cA A g n hs pe pk fo mo) H) (hD : va_D (fun _ => True) (wC cA A g n hs pe pk fo mo)) (hn : n ≤ 40) (a b : Int32) : Met l yX2_born wsX2_born ({ frames := 2, cells := 0, slots := 0, locals := 43 }) (rd_P [.ref (A 0), .int a, .int b] H (dC, dI) vwCl [(cA, .int)]) (va_Qi (fun (r : Int32) (u : St) => (r, u) = borF (g, n, hs, pe, pk, fo, mo) a b) (fun u t => bC dC dI cA A u t.heap) (va_A (wC cA A g n hs pe pk fo mo) H.size)) 0 0 (va_A (wC cA A g n hs pe pk fo mo) H.size) := by
  refine Met.ofW (cc := cX2_born) (maxL := 3) (ret := (some .boolean)) (by decide) rfl ?_
  intro p e s m args below meth c s₁ B hml hv
  obtain ⟨rfl, hH, hK, hN⟩ := hv
  subst hH
  have hx := B.exec
  have hb := B.bytes
  have hr := B.returns
  have hts := atoms_spec (ws := wsX2_born) B.pre
  have hown : s.vm.findClass RX2 = some m.cls := findClass_of_methodNamed B.named
  have hlocks := B.notSynchronized
  have hD := hD.self (sz := s.heap.size)
  generalize hAe : va_A (wC cA A g n hs pe pk fo mo) s.heap.size = Av at hD ⊢
  have hA : ∀ q : Nat, s.heap.size ≤ q → Av q := fun q h => by rw [← hAe]; exact Or.inr h
  have hS : va_S Av s.heap s.heap [] := va_S.rf
  have hl := lv_entry ([.ref (A 0), .int a, .int b]) (n := 3) (Nat.le_of_ble_eq_true rfl)
  rw [lg_entry_eq]
  generalize (lg_sl ([.ref (A 0), .int a, .int b]) ++ List.replicate (3 - (lg_sl ([.ref (A 0), .int a, .int b])).length) Slot.unset).toArray = ls at hl ⊢
  have hl : lv_has ls 3 [(0, .ref (A 0)), (1, .int a), (2, .int b)] := hl
  refine lv_aload_n hx hb dX2_born_0 rfl (lv_at hl 0 rfl) ?_
  refine va_get (D := (dC, dI)) (ci := 3) (v := .ref (A 1)) (C := RX2) (T := TX2) (N := 6) hx hb hts miX2_born_X2 hown hK hP 0 rfl rfl 0 (by decide) (hts (.fieldLink RX2 10 "SectionFibres" "section" "LSectionFibres$Section;") mbX2_born_1) (fun _ h9 => h9) rfl dX2_born_1 ?_
  refine lv_iload_n hx hb dX2_born_4 rfl (lv_at hl 1 rfl) ?_
  refine rd_i (va_runVN (As := [.int a]) (rest := []) ⟨hx, hb, hml, hown, hts⟩ (c_X1_has l dC dI cA s.heap A g n hs pe pk fo mo hP (by omega) a) ⟨(va_cnB 1 hts gX2_born_X1_has_n54 rfl rfl rfl (hN (.methodLinkNest RX2 54 yX1_has "SectionFibres") (List.mem_of_getElem? (i := 4) rfl)) (hts (.initialized RX1) mbX2_born_2) (by decide +kernel) ⟨Nat.le_of_ble_eq_true rfl, Nat.le_of_ble_eq_true rfl⟩), hts (.instanceMethod yX1_has) mbX2_born_3, hts (.selects RX1 yX1_has yX1_has) mbX2_born_4⟩ ⟨rd_bl, va_recv hK hP (ci := 2) (q0 := 1) rfl rfl, rd_pre hK hN⟩ rfl rfl hl.1 rfl (lv_room (Nat.le_of_ble_eq_true rfl)) dX2_born_5 ⟨Nat.zero_le _, Nat.zero_le _⟩) hS (fun r1 locs hq2 hS => ?_)
  rcases hq2 with ⟨hq2, rfl⟩ | ⟨hq2, rfl⟩
  · have q1 : rg a 0 ((n : Int) - 1) := hq2
    refine lv_if_eq (tgt := 18) hx hb dX2_born_8 (by decide) (fun h9 => absurd h9 (by decide)) (fun _ => ?_)
    refine lv_iload_n hx hb dX2_born_11 rfl (lv_at hl 2 rfl) ?_
    refine rd_i (va_runS (As := [.int b]) (rest := []) ⟨hx, hb, hml, hown, hts⟩ (c_X2_isToldStrain l dC dI cA s.heap b) (va_cwS 1 hts gX2_born_X2_isToldStrain rfl rfl rfl (by decide +kernel) ⟨Nat.le_of_ble_eq_true rfl, Nat.le_of_ble_eq_true rfl⟩) ⟨rd_bl, rd_pre hK hN⟩ rfl rfl hl.1 rfl (lv_room (Nat.le_of_ble_eq_true rfl)) dX2_born_12 ⟨Nat.zero_le _, Nat.zero_le _⟩) hS (fun r3 locs hq4 hS => ?_)
    rcases hq4 with ⟨hq4, rfl⟩ | ⟨hq4, rfl⟩
    · have q2 : rg b (-30000) 30000 := hq4
      refine lv_if_ne (tgt := 20) hx hb dX2_born_15 (by decide) (fun _ => ?_) (fun h9 => absurd h9 (by decide))
      refine lv_aload_n hx hb dX2_born_20 rfl (lv_at hl 0 rfl) ?_
      refine va_get (D := (dC, dI)) (ci := 3) (v := .ref (A 1)) (C := RX2) (T := TX2) (N := 6) hx hb hts miX2_born_X2 hown hK hP 0 rfl rfl 0 (by decide) (hts (.fieldLink RX2 10 "SectionFibres" "section" "LSectionFibres$Section;") mbX2_born_1) (fun _ h9 => h9) rfl dX2_born_21 ?_
      refine va_getN (D := (dC, dI)) (ci := 2) (v := .ref (A 6)) (C := RX1) (T := TX1) (N := 7) hx hb hts miX2_born_X1 hown hK hP 1 rfl rfl 4 (by decide) (va_Nw.use rfl (hN (.fieldLinkNest RX2 57 "SectionFibres$Section" "births" "[I" "SectionFibres") (List.mem_of_getElem? (i := 26) rfl))) (fun _ h9 => h9) rfl dX2_born_24 ?_
      refine lv_iload_n hx hb dX2_born_27 rfl (lv_at hl 1 rfl) ?_
      refine lv_iload_n hx hb dX2_born_28 rfl (lv_at hl 2 rfl) ?_
      refine iasn hx hb hK hP hD hS 6 0 rfl rfl a.toNatClampNeg (rg_nI q1) (by have h9 := rg_lt q1; omega) (by decide) dX2_born_29 (fun H locs hP hD hS => ?_)
      have hP : va_P (dC, dI) vwCl (wC cA A (setG g 3 a.toNatClampNeg b) n hs pe pk fo mo) H := hP
      have hD : va_D Av (wC cA A (setG g 3 a.toNatClampNeg b) n hs pe pk fo mo) := hD
      refine lv_aload_n hx hb dX2_born_30 rfl (lv_at hl 0 rfl) ?_
      refine lv_iconst (v := 0) hx hb dX2_born_31 (by decide) ?_
      refine va_put (D := (dC, dI)) (ci := 3) (v := .int 0) (ty := .boolean) (C := RX2) (T := TX2) (N := 6) hx hb hts miX2_born_X2 tyX2 tyX2_ok nmX2 hown hK hP hD hS 0 rfl rfl 1 (by decide) (hts (.fieldLink RX2 36 "SectionFibres" "planeAtHand" "Z") mbX2_born_6) (fun _ h9 => h9) rfl (by decide +kernel) rfl rfl (Nat.le_of_ble_eq_true rfl) dX2_born_32 (fun H locs hP hD hS => ?_)
      have hP : va_P (dC, dI) vwCl (wC cA A (setG g 3 a.toNatClampNeg b) n 0 pe pk fo mo) H := hP
      have hD : va_D Av (wC cA A (setG g 3 a.toNatClampNeg b) n 0 pe pk fo mo) := hD
      refine lv_iconst (v := 1) hx hb dX2_born_35 (by decide) ?_
      exact W.zret (ty := .boolean) (v := 1) hx hb hr (by decide) (fun t9 ht9 hW9 => ⟨⟨_, ((setG g 3 a.toNatClampNeg b), n, 0, pe, pk, fo, mo), rfl, ((bor_t ⟨q1, q2⟩).symm), by dsimp only; rw [ht9]; exact hP⟩, hS.F ht9⟩) hS.2.2 dX2_born_36
    · have q2 : ¬ (rg b (-30000) 30000) := hq4
      refine lv_if_ne (tgt := 20) hx hb dX2_born_15 (by decide) (fun h9 => absurd h9 (by decide)) (fun _ => ?_)
      refine lv_iconst (v := 0) hx hb dX2_born_18 (by decide) ?_
      exact W.zret (ty := .boolean) (v := 0) hx hb hr (by decide) (fun t9 ht9 hW9 => ⟨⟨_, (g, n, hs, pe, pk, fo, mo), rfl, ((bor_f (fun h9 => q2 h9.2)).symm), by dsimp only; rw [ht9]; exact hP⟩, hS.F ht9⟩) hS.2.2 dX2_born_19
  · have q1 : ¬ (rg a 0 ((n : Int) - 1)) := hq2
    refine lv_if_eq (tgt := 18) hx hb dX2_born_8 (by decide) (fun _ => ?_) (fun h9 => absurd h9 (by decide))
    refine lv_iconst (v := 0) hx hb dX2_born_18 (by decide) ?_
    exact W.zret (ty := .boolean) (v := 0) hx hb hr (by decide) (fun t9 ht9 hW9 => ⟨⟨_, (g, n, hs, pe, pk, fo, mo), rfl, ((bor_f (fun h9 => q1 h9.1)).symm), by dsimp only; rw [ht9]; exact hP⟩, hS.F ht9⟩) hS.2.2 dX2_born_19

set_option maxRecDepth 20000 in
theorem miX2_keeps_X2 : ∀ w ∈ u_ws RX2 TX2 6, w ∈ wsX2_keeps := by decide +kernel
set_option maxRecDepth 20000 in
theorem mbX2_keeps_1 : (.fieldLink RX2 10 "SectionFibres" "section" "LSectionFibres$Section;" : Cond) ∈ wsX2_keeps := by decide +kernel
set_option maxRecDepth 20000 in
theorem mbX2_keeps_2 : (.initialized RX1 : Cond) ∈ wsX2_keeps := by decide +kernel
set_option maxRecDepth 20000 in
theorem mbX2_keeps_3 : (.instanceMethod yX1_has : Cond) ∈ wsX2_keeps := by decide +kernel
set_option maxRecDepth 20000 in
theorem mbX2_keeps_4 : (.selects RX1 yX1_has yX1_has : Cond) ∈ wsX2_keeps := by decide +kernel
set_option maxRecDepth 20000 in
theorem miX2_keeps_X1 : ∀ w ∈ u_ws RX1 TX1 7, w ∈ wsX2_keeps := by decide +kernel
set_option maxRecDepth 20000 in
theorem mbX2_keeps_6 : (.fieldLink RX2 36 "SectionFibres" "planeAtHand" "Z" : Cond) ∈ wsX2_keeps := by decide +kernel
set_option maxHeartbeats 4000000 in
set_option maxRecDepth 100000 in
theorem c_X2_keeps (l : Launch) (dC : Nat → ClassId) (dI : Nat → Nat → Nat) (cA : ClassId) (H : Heap) (A : Nat → Nat) (g : Gg) (n : Nat) (hs pe pk : Int32) (fo mo : Int64) (hP : va_P (dC, dI) vwCl (wC cA A g n hs pe pk fo mo) H) (hD : va_D (fun _ => True) (wC cA A g n hs pe pk fo mo)) (hn : n ≤ 40) (a b : Int32) : Met l yX2_keeps wsX2_keeps ({ frames := 2, cells := 0, slots := 0, locals := 43 }) (rd_P [.ref (A 0), .int a, .int b] H (dC, dI) vwCl [(cA, .int)]) (va_Qi (fun (r : Int32) (u : St) => (r, u) = keeF (g, n, hs, pe, pk, fo, mo) a b) (fun u t => bC dC dI cA A u t.heap) (va_A (wC cA A g n hs pe pk fo mo) H.size)) 0 0 (va_A (wC cA A g n hs pe pk fo mo) H.size) := by
  refine Met.ofW (cc := cX2_keeps) (maxL := 3) (ret := (some .boolean)) (by decide) rfl ?_
  intro p e s m args below meth c s₁ B hml hv
  obtain ⟨rfl, hH, hK, hN⟩ := hv
  subst hH
  have hx := B.exec
  have hb := B.bytes
  have hr := B.returns
  have hts := atoms_spec (ws := wsX2_keeps) B.pre
  have hown : s.vm.findClass RX2 = some m.cls := findClass_of_methodNamed B.named
  have hlocks := B.notSynchronized
  have hD := hD.self (sz := s.heap.size)
  generalize hAe : va_A (wC cA A g n hs pe pk fo mo) s.heap.size = Av at hD ⊢
  have hA : ∀ q : Nat, s.heap.size ≤ q → Av q := fun q h => by rw [← hAe]; exact Or.inr h
  have hS : va_S Av s.heap s.heap [] := va_S.rf
  have hl := lv_entry ([.ref (A 0), .int a, .int b]) (n := 3) (Nat.le_of_ble_eq_true rfl)
  rw [lg_entry_eq]
  generalize (lg_sl ([.ref (A 0), .int a, .int b]) ++ List.replicate (3 - (lg_sl ([.ref (A 0), .int a, .int b])).length) Slot.unset).toArray = ls at hl ⊢
  have hl : lv_has ls 3 [(0, .ref (A 0)), (1, .int a), (2, .int b)] := hl
  refine lv_aload_n hx hb dX2_keeps_0 rfl (lv_at hl 0 rfl) ?_
  refine va_get (D := (dC, dI)) (ci := 3) (v := .ref (A 1)) (C := RX2) (T := TX2) (N := 6) hx hb hts miX2_keeps_X2 hown hK hP 0 rfl rfl 0 (by decide) (hts (.fieldLink RX2 10 "SectionFibres" "section" "LSectionFibres$Section;") mbX2_keeps_1) (fun _ h9 => h9) rfl dX2_keeps_1 ?_
  refine lv_iload_n hx hb dX2_keeps_4 rfl (lv_at hl 1 rfl) ?_
  refine rd_i (va_runVN (As := [.int a]) (rest := []) ⟨hx, hb, hml, hown, hts⟩ (c_X1_has l dC dI cA s.heap A g n hs pe pk fo mo hP (by omega) a) ⟨(va_cnB 1 hts gX2_keeps_X1_has_n54 rfl rfl rfl (hN (.methodLinkNest RX2 54 yX1_has "SectionFibres") (List.mem_of_getElem? (i := 4) rfl)) (hts (.initialized RX1) mbX2_keeps_2) (by decide +kernel) ⟨Nat.le_of_ble_eq_true rfl, Nat.le_of_ble_eq_true rfl⟩), hts (.instanceMethod yX1_has) mbX2_keeps_3, hts (.selects RX1 yX1_has yX1_has) mbX2_keeps_4⟩ ⟨rd_bl, va_recv hK hP (ci := 2) (q0 := 1) rfl rfl, rd_pre hK hN⟩ rfl rfl hl.1 rfl (lv_room (Nat.le_of_ble_eq_true rfl)) dX2_keeps_5 ⟨Nat.zero_le _, Nat.zero_le _⟩) hS (fun r1 locs hq2 hS => ?_)
  rcases hq2 with ⟨hq2, rfl⟩ | ⟨hq2, rfl⟩
  · have q1 : rg a 0 ((n : Int) - 1) := hq2
    refine lv_if_eq (tgt := 21) hx hb dX2_keeps_8 (by decide) (fun h9 => absurd h9 (by decide)) (fun _ => ?_)
    refine lv_iload_n hx hb dX2_keeps_11 rfl (lv_at hl 2 rfl) ?_
    refine lv_iconst (v := 0) hx hb dX2_keeps_12 (by decide) ?_
    refine lv_bipush (v := 100) hx hb dX2_keeps_13 (by decide) ?_
    refine rd_i (va_runS (As := [.int b, .int 0, .int 100]) (rest := []) ⟨hx, hb, hml, hown, hts⟩ (c_X2_within l dC dI cA s.heap b 0 100 0 100 (by decide) (by decide)) (va_cwS 3 hts gX2_keeps_X2_within rfl rfl rfl (by decide +kernel) ⟨Nat.le_of_ble_eq_true rfl, Nat.le_of_ble_eq_true rfl⟩) ⟨rd_bl, rd_pre hK hN⟩ rfl rfl hl.1 rfl (lv_room (Nat.le_of_ble_eq_true rfl)) dX2_keeps_15 ⟨Nat.zero_le _, Nat.zero_le _⟩) hS (fun r3 locs hq4 hS => ?_)
    rcases hq4 with ⟨hq4, rfl⟩ | ⟨hq4, rfl⟩
    · have q2 : rg b 0 100 := hq4
      refine lv_if_ne (tgt := 23) hx hb dX2_keeps_18 (by decide) (fun _ => ?_) (fun h9 => absurd h9 (by decide))
      refine lv_aload_n hx hb dX2_keeps_23 rfl (lv_at hl 0 rfl) ?_
      refine va_get (D := (dC, dI)) (ci := 3) (v := .ref (A 1)) (C := RX2) (T := TX2) (N := 6) hx hb hts miX2_keeps_X2 hown hK hP 0 rfl rfl 0 (by decide) (hts (.fieldLink RX2 10 "SectionFibres" "section" "LSectionFibres$Section;") mbX2_keeps_1) (fun _ h9 => h9) rfl dX2_keeps_24 ?_
      refine va_getN (D := (dC, dI)) (ci := 2) (v := .ref (A 7)) (C := RX1) (T := TX1) (N := 7) hx hb hts miX2_keeps_X1 hown hK hP 1 rfl rfl 5 (by decide) (va_Nw.use rfl (hN (.fieldLinkNest RX2 67 "SectionFibres$Section" "kept" "[I" "SectionFibres") (List.mem_of_getElem? (i := 27) rfl))) (fun _ h9 => h9) rfl dX2_keeps_27 ?_
      refine lv_iload_n hx hb dX2_keeps_30 rfl (lv_at hl 1 rfl) ?_
      refine lv_iload_n hx hb dX2_keeps_31 rfl (lv_at hl 2 rfl) ?_
      refine iasn hx hb hK hP hD hS 7 0 rfl rfl a.toNatClampNeg (rg_nI q1) (by have h9 := rg_lt q1; omega) (by decide) dX2_keeps_32 (fun H locs hP hD hS => ?_)
      have hP : va_P (dC, dI) vwCl (wC cA A (setG g 4 a.toNatClampNeg b) n hs pe pk fo mo) H := hP
      have hD : va_D Av (wC cA A (setG g 4 a.toNatClampNeg b) n hs pe pk fo mo) := hD
      refine lv_aload_n hx hb dX2_keeps_33 rfl (lv_at hl 0 rfl) ?_
      refine lv_iconst (v := 0) hx hb dX2_keeps_34 (by decide) ?_
      refine va_put (D := (dC, dI)) (ci := 3) (v := .int 0) (ty := .boolean) (C := RX2) (T := TX2) (N := 6) hx hb hts miX2_keeps_X2 tyX2 tyX2_ok nmX2 hown hK hP hD hS 0 rfl rfl 1 (by decide) (hts (.fieldLink RX2 36 "SectionFibres" "planeAtHand" "Z") mbX2_keeps_6) (fun _ h9 => h9) rfl (by decide +kernel) rfl rfl (Nat.le_of_ble_eq_true rfl) dX2_keeps_35 (fun H locs hP hD hS => ?_)
      have hP : va_P (dC, dI) vwCl (wC cA A (setG g 4 a.toNatClampNeg b) n 0 pe pk fo mo) H := hP
      have hD : va_D Av (wC cA A (setG g 4 a.toNatClampNeg b) n 0 pe pk fo mo) := hD
      refine lv_iconst (v := 1) hx hb dX2_keeps_38 (by decide) ?_
      exact W.zret (ty := .boolean) (v := 1) hx hb hr (by decide) (fun t9 ht9 hW9 => ⟨⟨_, ((setG g 4 a.toNatClampNeg b), n, 0, pe, pk, fo, mo), rfl, ((kee_t ⟨q1, q2⟩).symm), by dsimp only; rw [ht9]; exact hP⟩, hS.F ht9⟩) hS.2.2 dX2_keeps_39
    · have q2 : ¬ (rg b 0 100) := hq4
      refine lv_if_ne (tgt := 23) hx hb dX2_keeps_18 (by decide) (fun h9 => absurd h9 (by decide)) (fun _ => ?_)
      refine lv_iconst (v := 0) hx hb dX2_keeps_21 (by decide) ?_
      exact W.zret (ty := .boolean) (v := 0) hx hb hr (by decide) (fun t9 ht9 hW9 => ⟨⟨_, (g, n, hs, pe, pk, fo, mo), rfl, ((kee_f (fun h9 => q2 h9.2)).symm), by dsimp only; rw [ht9]; exact hP⟩, hS.F ht9⟩) hS.2.2 dX2_keeps_22
  · have q1 : ¬ (rg a 0 ((n : Int) - 1)) := hq2
    refine lv_if_eq (tgt := 21) hx hb dX2_keeps_8 (by decide) (fun _ => ?_) (fun h9 => absurd h9 (by decide))
    refine lv_iconst (v := 0) hx hb dX2_keeps_21 (by decide) ?_
    exact W.zret (ty := .boolean) (v := 0) hx hb hr (by decide) (fun t9 ht9 hW9 => ⟨⟨_, (g, n, hs, pe, pk, fo, mo), rfl, ((kee_f (fun h9 => q1 h9.1)).symm), by dsimp only; rw [ht9]; exact hP⟩, hS.F ht9⟩) hS.2.2 dX2_keeps_22

set_option maxRecDepth 20000 in
theorem miX2_creeps_X2 : ∀ w ∈ u_ws RX2 TX2 6, w ∈ wsX2_creeps := by decide +kernel
set_option maxRecDepth 20000 in
theorem mbX2_creeps_1 : (.fieldLink RX2 10 "SectionFibres" "section" "LSectionFibres$Section;" : Cond) ∈ wsX2_creeps := by decide +kernel
set_option maxRecDepth 20000 in
theorem miX2_creeps_X1 : ∀ w ∈ u_ws RX1 TX1 7, w ∈ wsX2_creeps := by decide +kernel
set_option maxRecDepth 20000 in
theorem miX2_creeps_X0 : ∀ w ∈ u_ws RX0 TX0 5, w ∈ wsX2_creeps := by decide +kernel
set_option maxRecDepth 20000 in
theorem mbX2_creeps_4 : (.fieldLink RX2 36 "SectionFibres" "planeAtHand" "Z" : Cond) ∈ wsX2_creeps := by decide +kernel
set_option maxHeartbeats 4000000 in
set_option maxRecDepth 100000 in
theorem c_X2_creeps (l : Launch) (dC : Nat → ClassId) (dI : Nat → Nat → Nat) (cA : ClassId) (H : Heap) (A : Nat → Nat) (g : Gg) (n : Nat) (hs pe pk : Int32) (fo mo : Int64) (hP : va_P (dC, dI) vwCl (wC cA A g n hs pe pk fo mo) H) (hD : va_D (fun _ => True) (wC cA A g n hs pe pk fo mo)) (a b : Int32) : Met l yX2_creeps wsX2_creeps ({ frames := 2, cells := 0, slots := 0, locals := 42 }) (rd_P [.ref (A 0), .int a, .int b] H (dC, dI) vwCl [(cA, .int)]) (va_Qi (fun (r : Int32) (u : St) => (r, u) = creF (g, n, hs, pe, pk, fo, mo) a b) (fun u t => bC dC dI cA A u t.heap) (va_A (wC cA A g n hs pe pk fo mo) H.size)) 0 0 (va_A (wC cA A g n hs pe pk fo mo) H.size) := by
  refine Met.ofW (cc := cX2_creeps) (maxL := 3) (ret := (some .boolean)) (by decide) rfl ?_
  intro p e s m args below meth c s₁ B hml hv
  obtain ⟨rfl, hH, hK, hN⟩ := hv
  subst hH
  have hx := B.exec
  have hb := B.bytes
  have hr := B.returns
  have hts := atoms_spec (ws := wsX2_creeps) B.pre
  have hown : s.vm.findClass RX2 = some m.cls := findClass_of_methodNamed B.named
  have hlocks := B.notSynchronized
  have hD := hD.self (sz := s.heap.size)
  generalize hAe : va_A (wC cA A g n hs pe pk fo mo) s.heap.size = Av at hD ⊢
  have hA : ∀ q : Nat, s.heap.size ≤ q → Av q := fun q h => by rw [← hAe]; exact Or.inr h
  have hS : va_S Av s.heap s.heap [] := va_S.rf
  have hl := lv_entry ([.ref (A 0), .int a, .int b]) (n := 3) (Nat.le_of_ble_eq_true rfl)
  rw [lg_entry_eq]
  generalize (lg_sl ([.ref (A 0), .int a, .int b]) ++ List.replicate (3 - (lg_sl ([.ref (A 0), .int a, .int b])).length) Slot.unset).toArray = ls at hl ⊢
  have hl : lv_has ls 3 [(0, .ref (A 0)), (1, .int a), (2, .int b)] := hl
  refine lv_iload_n hx hb dX2_creeps_0 rfl (lv_at hl 1 rfl) ?_
  refine rd_i (va_runS (As := [.int a]) (rest := []) ⟨hx, hb, hml, hown, hts⟩ (c_X2_isKind l dC dI cA s.heap a) (va_cwS 1 hts gX2_creeps_X2_isKind rfl rfl rfl (by decide +kernel) ⟨Nat.le_of_ble_eq_true rfl, Nat.le_of_ble_eq_true rfl⟩) ⟨rd_bl, rd_pre hK hN⟩ rfl rfl hl.1 rfl (lv_room (Nat.le_of_ble_eq_true rfl)) dX2_creeps_1 ⟨Nat.zero_le _, Nat.zero_le _⟩) hS (fun r1 locs hq2 hS => ?_)
  rcases hq2 with ⟨hq2, rfl⟩ | ⟨hq2, rfl⟩
  · have q1 : rg a 0 3 := hq2
    refine lv_if_eq (tgt := 18) hx hb dX2_creeps_4 (by decide) (fun h9 => absurd h9 (by decide)) (fun _ => ?_)
    refine lv_iload_n hx hb dX2_creeps_7 rfl (lv_at hl 2 rfl) ?_
    refine lv_iconst (v := 0) hx hb dX2_creeps_8 (by decide) ?_
    refine lv_sipush (v := 500) hx hb dX2_creeps_9 (by decide) ?_
    refine rd_i (va_runS (As := [.int b, .int 0, .int 500]) (rest := []) ⟨hx, hb, hml, hown, hts⟩ (c_X2_within l dC dI cA s.heap b 0 500 0 500 (by decide) (by decide)) (va_cwS 3 hts gX2_creeps_X2_within rfl rfl rfl (by decide +kernel) ⟨Nat.le_of_ble_eq_true rfl, Nat.le_of_ble_eq_true rfl⟩) ⟨rd_bl, rd_pre hK hN⟩ rfl rfl hl.1 rfl (lv_room (Nat.le_of_ble_eq_true rfl)) dX2_creeps_12 ⟨Nat.zero_le _, Nat.zero_le _⟩) hS (fun r3 locs hq4 hS => ?_)
    rcases hq4 with ⟨hq4, rfl⟩ | ⟨hq4, rfl⟩
    · have q2 : rg b 0 500 := hq4
      refine lv_if_ne (tgt := 20) hx hb dX2_creeps_15 (by decide) (fun _ => ?_) (fun h9 => absurd h9 (by decide))
      refine lv_aload_n hx hb dX2_creeps_20 rfl (lv_at hl 0 rfl) ?_
      refine va_get (D := (dC, dI)) (ci := 3) (v := .ref (A 1)) (C := RX2) (T := TX2) (N := 6) hx hb hts miX2_creeps_X2 hown hK hP 0 rfl rfl 0 (by decide) (hts (.fieldLink RX2 10 "SectionFibres" "section" "LSectionFibres$Section;") mbX2_creeps_1) (fun _ h9 => h9) rfl dX2_creeps_21 ?_
      refine va_getN (D := (dC, dI)) (ci := 2) (v := .ref (A 2)) (C := RX1) (T := TX1) (N := 7) hx hb hts miX2_creeps_X1 hown hK hP 1 rfl rfl 0 (by decide) (va_Nw.use rfl (hN (.fieldLinkNest RX2 45 "SectionFibres$Section" "kinds" "LSectionFibres$Kinds;" "SectionFibres") (List.mem_of_getElem? (i := 25) rfl))) (fun _ h9 => h9) rfl dX2_creeps_24 ?_
      refine va_getN (D := (dC, dI)) (ci := 1) (v := .ref (A 11)) (C := RX0) (T := TX0) (N := 5) hx hb hts miX2_creeps_X0 hown hK hP 2 rfl rfl 3 (by decide) (va_Nw.use rfl (hN (.fieldLinkNest RX2 61 "SectionFibres$Kinds" "creep" "[I" "SectionFibres") (List.mem_of_getElem? (i := 21) rfl))) (fun _ h9 => h9) rfl dX2_creeps_27 ?_
      refine lv_iload_n hx hb dX2_creeps_30 rfl (lv_at hl 1 rfl) ?_
      refine lv_iload_n hx hb dX2_creeps_31 rfl (lv_at hl 2 rfl) ?_
      refine iasn hx hb hK hP hD hS 11 0 rfl rfl a.toNatClampNeg (rg_nI q1) (by have h9 := rg_lt q1; omega) (by decide) dX2_creeps_32 (fun H locs hP hD hS => ?_)
      have hP : va_P (dC, dI) vwCl (wC cA A (setG g 8 a.toNatClampNeg b) n hs pe pk fo mo) H := hP
      have hD : va_D Av (wC cA A (setG g 8 a.toNatClampNeg b) n hs pe pk fo mo) := hD
      refine lv_aload_n hx hb dX2_creeps_33 rfl (lv_at hl 0 rfl) ?_
      refine lv_iconst (v := 0) hx hb dX2_creeps_34 (by decide) ?_
      refine va_put (D := (dC, dI)) (ci := 3) (v := .int 0) (ty := .boolean) (C := RX2) (T := TX2) (N := 6) hx hb hts miX2_creeps_X2 tyX2 tyX2_ok nmX2 hown hK hP hD hS 0 rfl rfl 1 (by decide) (hts (.fieldLink RX2 36 "SectionFibres" "planeAtHand" "Z") mbX2_creeps_4) (fun _ h9 => h9) rfl (by decide +kernel) rfl rfl (Nat.le_of_ble_eq_true rfl) dX2_creeps_35 (fun H locs hP hD hS => ?_)
      have hP : va_P (dC, dI) vwCl (wC cA A (setG g 8 a.toNatClampNeg b) n 0 pe pk fo mo) H := hP
      have hD : va_D Av (wC cA A (setG g 8 a.toNatClampNeg b) n 0 pe pk fo mo) := hD
      refine lv_iconst (v := 1) hx hb dX2_creeps_38 (by decide) ?_
      exact W.zret (ty := .boolean) (v := 1) hx hb hr (by decide) (fun t9 ht9 hW9 => ⟨⟨_, ((setG g 8 a.toNatClampNeg b), n, 0, pe, pk, fo, mo), rfl, ((cre_t ⟨q1, q2⟩).symm), by dsimp only; rw [ht9]; exact hP⟩, hS.F ht9⟩) hS.2.2 dX2_creeps_39
    · have q2 : ¬ (rg b 0 500) := hq4
      refine lv_if_ne (tgt := 20) hx hb dX2_creeps_15 (by decide) (fun h9 => absurd h9 (by decide)) (fun _ => ?_)
      refine lv_iconst (v := 0) hx hb dX2_creeps_18 (by decide) ?_
      exact W.zret (ty := .boolean) (v := 0) hx hb hr (by decide) (fun t9 ht9 hW9 => ⟨⟨_, (g, n, hs, pe, pk, fo, mo), rfl, ((cre_f (fun h9 => q2 h9.2)).symm), by dsimp only; rw [ht9]; exact hP⟩, hS.F ht9⟩) hS.2.2 dX2_creeps_19
  · have q1 : ¬ (rg a 0 3) := hq2
    refine lv_if_eq (tgt := 18) hx hb dX2_creeps_4 (by decide) (fun _ => ?_) (fun h9 => absurd h9 (by decide))
    refine lv_iconst (v := 0) hx hb dX2_creeps_18 (by decide) ?_
    exact W.zret (ty := .boolean) (v := 0) hx hb hr (by decide) (fun t9 ht9 hW9 => ⟨⟨_, (g, n, hs, pe, pk, fo, mo), rfl, ((cre_f (fun h9 => q1 h9.1)).symm), by dsimp only; rw [ht9]; exact hP⟩, hS.F ht9⟩) hS.2.2 dX2_creeps_19

set_option maxRecDepth 20000 in
theorem miX2_shrinks_X2 : ∀ w ∈ u_ws RX2 TX2 6, w ∈ wsX2_shrinks := by decide +kernel
set_option maxRecDepth 20000 in
theorem mbX2_shrinks_1 : (.fieldLink RX2 10 "SectionFibres" "section" "LSectionFibres$Section;" : Cond) ∈ wsX2_shrinks := by decide +kernel
set_option maxRecDepth 20000 in
theorem miX2_shrinks_X1 : ∀ w ∈ u_ws RX1 TX1 7, w ∈ wsX2_shrinks := by decide +kernel
set_option maxRecDepth 20000 in
theorem miX2_shrinks_X0 : ∀ w ∈ u_ws RX0 TX0 5, w ∈ wsX2_shrinks := by decide +kernel
set_option maxRecDepth 20000 in
theorem mbX2_shrinks_4 : (.fieldLink RX2 36 "SectionFibres" "planeAtHand" "Z" : Cond) ∈ wsX2_shrinks := by decide +kernel
set_option maxHeartbeats 4000000 in
set_option maxRecDepth 100000 in
theorem c_X2_shrinks (l : Launch) (dC : Nat → ClassId) (dI : Nat → Nat → Nat) (cA : ClassId) (H : Heap) (A : Nat → Nat) (g : Gg) (n : Nat) (hs pe pk : Int32) (fo mo : Int64) (hP : va_P (dC, dI) vwCl (wC cA A g n hs pe pk fo mo) H) (hD : va_D (fun _ => True) (wC cA A g n hs pe pk fo mo)) (a b : Int32) : Met l yX2_shrinks wsX2_shrinks ({ frames := 2, cells := 0, slots := 0, locals := 42 }) (rd_P [.ref (A 0), .int a, .int b] H (dC, dI) vwCl [(cA, .int)]) (va_Qi (fun (r : Int32) (u : St) => (r, u) = shrF (g, n, hs, pe, pk, fo, mo) a b) (fun u t => bC dC dI cA A u t.heap) (va_A (wC cA A g n hs pe pk fo mo) H.size)) 0 0 (va_A (wC cA A g n hs pe pk fo mo) H.size) := by
  refine Met.ofW (cc := cX2_shrinks) (maxL := 3) (ret := (some .boolean)) (by decide) rfl ?_
  intro p e s m args below meth c s₁ B hml hv
  obtain ⟨rfl, hH, hK, hN⟩ := hv
  subst hH
  have hx := B.exec
  have hb := B.bytes
  have hr := B.returns
  have hts := atoms_spec (ws := wsX2_shrinks) B.pre
  have hown : s.vm.findClass RX2 = some m.cls := findClass_of_methodNamed B.named
  have hlocks := B.notSynchronized
  have hD := hD.self (sz := s.heap.size)
  generalize hAe : va_A (wC cA A g n hs pe pk fo mo) s.heap.size = Av at hD ⊢
  have hA : ∀ q : Nat, s.heap.size ≤ q → Av q := fun q h => by rw [← hAe]; exact Or.inr h
  have hS : va_S Av s.heap s.heap [] := va_S.rf
  have hl := lv_entry ([.ref (A 0), .int a, .int b]) (n := 3) (Nat.le_of_ble_eq_true rfl)
  rw [lg_entry_eq]
  generalize (lg_sl ([.ref (A 0), .int a, .int b]) ++ List.replicate (3 - (lg_sl ([.ref (A 0), .int a, .int b])).length) Slot.unset).toArray = ls at hl ⊢
  have hl : lv_has ls 3 [(0, .ref (A 0)), (1, .int a), (2, .int b)] := hl
  refine lv_iload_n hx hb dX2_shrinks_0 rfl (lv_at hl 1 rfl) ?_
  refine rd_i (va_runS (As := [.int a]) (rest := []) ⟨hx, hb, hml, hown, hts⟩ (c_X2_isKind l dC dI cA s.heap a) (va_cwS 1 hts gX2_shrinks_X2_isKind rfl rfl rfl (by decide +kernel) ⟨Nat.le_of_ble_eq_true rfl, Nat.le_of_ble_eq_true rfl⟩) ⟨rd_bl, rd_pre hK hN⟩ rfl rfl hl.1 rfl (lv_room (Nat.le_of_ble_eq_true rfl)) dX2_shrinks_1 ⟨Nat.zero_le _, Nat.zero_le _⟩) hS (fun r1 locs hq2 hS => ?_)
  rcases hq2 with ⟨hq2, rfl⟩ | ⟨hq2, rfl⟩
  · have q1 : rg a 0 3 := hq2
    refine lv_if_eq (tgt := 20) hx hb dX2_shrinks_4 (by decide) (fun h9 => absurd h9 (by decide)) (fun _ => ?_)
    refine lv_iload_n hx hb dX2_shrinks_7 rfl (lv_at hl 2 rfl) ?_
    refine lv_sipush (v := (-5000)) hx hb dX2_shrinks_8 (by decide) ?_
    refine lv_sipush (v := 5000) hx hb dX2_shrinks_11 (by decide) ?_
    refine rd_i (va_runS (As := [.int b, .int (-5000), .int 5000]) (rest := []) ⟨hx, hb, hml, hown, hts⟩ (c_X2_within l dC dI cA s.heap b (-5000) 5000 (-5000) 5000 (by decide) (by decide)) (va_cwS 3 hts gX2_shrinks_X2_within rfl rfl rfl (by decide +kernel) ⟨Nat.le_of_ble_eq_true rfl, Nat.le_of_ble_eq_true rfl⟩) ⟨rd_bl, rd_pre hK hN⟩ rfl rfl hl.1 rfl (lv_room (Nat.le_of_ble_eq_true rfl)) dX2_shrinks_14 ⟨Nat.zero_le _, Nat.zero_le _⟩) hS (fun r3 locs hq4 hS => ?_)
    rcases hq4 with ⟨hq4, rfl⟩ | ⟨hq4, rfl⟩
    · have q2 : rg b (-5000) 5000 := hq4
      refine lv_if_ne (tgt := 22) hx hb dX2_shrinks_17 (by decide) (fun _ => ?_) (fun h9 => absurd h9 (by decide))
      refine lv_aload_n hx hb dX2_shrinks_22 rfl (lv_at hl 0 rfl) ?_
      refine va_get (D := (dC, dI)) (ci := 3) (v := .ref (A 1)) (C := RX2) (T := TX2) (N := 6) hx hb hts miX2_shrinks_X2 hown hK hP 0 rfl rfl 0 (by decide) (hts (.fieldLink RX2 10 "SectionFibres" "section" "LSectionFibres$Section;") mbX2_shrinks_1) (fun _ h9 => h9) rfl dX2_shrinks_23 ?_
      refine va_getN (D := (dC, dI)) (ci := 2) (v := .ref (A 2)) (C := RX1) (T := TX1) (N := 7) hx hb hts miX2_shrinks_X1 hown hK hP 1 rfl rfl 0 (by decide) (va_Nw.use rfl (hN (.fieldLinkNest RX2 45 "SectionFibres$Section" "kinds" "LSectionFibres$Kinds;" "SectionFibres") (List.mem_of_getElem? (i := 25) rfl))) (fun _ h9 => h9) rfl dX2_shrinks_26 ?_
      refine va_getN (D := (dC, dI)) (ci := 1) (v := .ref (A 12)) (C := RX0) (T := TX0) (N := 5) hx hb hts miX2_shrinks_X0 hown hK hP 2 rfl rfl 4 (by decide) (va_Nw.use rfl (hN (.fieldLinkNest RX2 64 "SectionFibres$Kinds" "shrunk" "[I" "SectionFibres") (List.mem_of_getElem? (i := 23) rfl))) (fun _ h9 => h9) rfl dX2_shrinks_29 ?_
      refine lv_iload_n hx hb dX2_shrinks_32 rfl (lv_at hl 1 rfl) ?_
      refine lv_iload_n hx hb dX2_shrinks_33 rfl (lv_at hl 2 rfl) ?_
      refine iasn hx hb hK hP hD hS 12 0 rfl rfl a.toNatClampNeg (rg_nI q1) (by have h9 := rg_lt q1; omega) (by decide) dX2_shrinks_34 (fun H locs hP hD hS => ?_)
      have hP : va_P (dC, dI) vwCl (wC cA A (setG g 9 a.toNatClampNeg b) n hs pe pk fo mo) H := hP
      have hD : va_D Av (wC cA A (setG g 9 a.toNatClampNeg b) n hs pe pk fo mo) := hD
      refine lv_aload_n hx hb dX2_shrinks_35 rfl (lv_at hl 0 rfl) ?_
      refine lv_iconst (v := 0) hx hb dX2_shrinks_36 (by decide) ?_
      refine va_put (D := (dC, dI)) (ci := 3) (v := .int 0) (ty := .boolean) (C := RX2) (T := TX2) (N := 6) hx hb hts miX2_shrinks_X2 tyX2 tyX2_ok nmX2 hown hK hP hD hS 0 rfl rfl 1 (by decide) (hts (.fieldLink RX2 36 "SectionFibres" "planeAtHand" "Z") mbX2_shrinks_4) (fun _ h9 => h9) rfl (by decide +kernel) rfl rfl (Nat.le_of_ble_eq_true rfl) dX2_shrinks_37 (fun H locs hP hD hS => ?_)
      have hP : va_P (dC, dI) vwCl (wC cA A (setG g 9 a.toNatClampNeg b) n 0 pe pk fo mo) H := hP
      have hD : va_D Av (wC cA A (setG g 9 a.toNatClampNeg b) n 0 pe pk fo mo) := hD
      refine lv_iconst (v := 1) hx hb dX2_shrinks_40 (by decide) ?_
      exact W.zret (ty := .boolean) (v := 1) hx hb hr (by decide) (fun t9 ht9 hW9 => ⟨⟨_, ((setG g 9 a.toNatClampNeg b), n, 0, pe, pk, fo, mo), rfl, ((shr_t ⟨q1, q2⟩).symm), by dsimp only; rw [ht9]; exact hP⟩, hS.F ht9⟩) hS.2.2 dX2_shrinks_41
    · have q2 : ¬ (rg b (-5000) 5000) := hq4
      refine lv_if_ne (tgt := 22) hx hb dX2_shrinks_17 (by decide) (fun h9 => absurd h9 (by decide)) (fun _ => ?_)
      refine lv_iconst (v := 0) hx hb dX2_shrinks_20 (by decide) ?_
      exact W.zret (ty := .boolean) (v := 0) hx hb hr (by decide) (fun t9 ht9 hW9 => ⟨⟨_, (g, n, hs, pe, pk, fo, mo), rfl, ((shr_f (fun h9 => q2 h9.2)).symm), by dsimp only; rw [ht9]; exact hP⟩, hS.F ht9⟩) hS.2.2 dX2_shrinks_21
  · have q1 : ¬ (rg a 0 3) := hq2
    refine lv_if_eq (tgt := 20) hx hb dX2_shrinks_4 (by decide) (fun _ => ?_) (fun h9 => absurd h9 (by decide))
    refine lv_iconst (v := 0) hx hb dX2_shrinks_20 (by decide) ?_
    exact W.zret (ty := .boolean) (v := 0) hx hb hr (by decide) (fun t9 ht9 hW9 => ⟨⟨_, (g, n, hs, pe, pk, fo, mo), rfl, ((shr_f (fun h9 => q1 h9.1)).symm), by dsimp only; rw [ht9]; exact hP⟩, hS.F ht9⟩) hS.2.2 dX2_shrinks_21

set_option maxRecDepth 20000 in
theorem miX2_run_X2 : ∀ w ∈ u_ws RX2 TX2 6, w ∈ wsX2_run := by decide +kernel
set_option maxRecDepth 20000 in
theorem mbX2_run_1 : (.fieldLink RX2 10 "SectionFibres" "section" "LSectionFibres$Section;" : Cond) ∈ wsX2_run := by decide +kernel
set_option maxRecDepth 20000 in
theorem mbX2_run_2 : (.initialized RX1 : Cond) ∈ wsX2_run := by decide +kernel
set_option maxRecDepth 20000 in
theorem mbX2_run_3 : (.instanceMethod yX1_bendFor : Cond) ∈ wsX2_run := by decide +kernel
set_option maxRecDepth 20000 in
theorem mbX2_run_4 : (.selects RX1 yX1_bendFor yX1_bendFor : Cond) ∈ wsX2_run := by decide +kernel
set_option maxRecDepth 20000 in
theorem mbX2_run_5 : (.constant RX2 101 (1000001) : Cond) ∈ wsX2_run := by decide +kernel
set_option maxRecDepth 20000 in
theorem mbX2_run_6 : (.constant RX2 102 (1000002) : Cond) ∈ wsX2_run := by decide +kernel
set_option maxRecDepth 20000 in
theorem mbX2_run_7 : (.fieldLink RX2 36 "SectionFibres" "planeAtHand" "Z" : Cond) ∈ wsX2_run := by decide +kernel
set_option maxRecDepth 20000 in
theorem mbX2_run_8 : (.instanceMethod yX1_balanceOf : Cond) ∈ wsX2_run := by decide +kernel
set_option maxRecDepth 20000 in
theorem mbX2_run_9 : (.selects RX1 yX1_balanceOf yX1_balanceOf : Cond) ∈ wsX2_run := by decide +kernel
set_option maxRecDepth 20000 in
theorem mbX2_run_10 : (.fieldLink RX2 103 "SectionFibres" "planeE" "I" : Cond) ∈ wsX2_run := by decide +kernel
set_option maxRecDepth 20000 in
theorem mbX2_run_11 : (.fieldLink RX2 106 "SectionFibres" "planeK" "I" : Cond) ∈ wsX2_run := by decide +kernel
set_option maxRecDepth 20000 in
theorem mbX2_run_12 : (.fieldLink RX2 109 "SectionFibres" "solvedForce" "J" : Cond) ∈ wsX2_run := by decide +kernel
set_option maxRecDepth 20000 in
theorem mbX2_run_13 : (.fieldLink RX2 113 "SectionFibres" "solvedMoment" "J" : Cond) ∈ wsX2_run := by decide +kernel
set_option maxHeartbeats 4000000 in
set_option maxRecDepth 100000 in
theorem c_X2_run (l : Launch) (dC : Nat → ClassId) (dI : Nat → Nat → Nat) (cA : ClassId) (H : Heap) (A : Nat → Nat) (g : Gg) (n : Nat) (hs pe pk : Int32) (fo mo : Int64) (hP : va_P (dC, dI) vwCl (wC cA A g n hs pe pk fo mo) H) (hD : va_D (fun _ => True) (wC cA A g n hs pe pk fo mo)) (hg : InvG g) (hn : n ≤ 41) (fr mv : Int64) : Met l yX2_run wsX2_run ({ frames := 6, cells := 0, slots := 0, locals := 158 }) (rd_P [.ref (A 0), .long fr, .long mv] H (dC, dI) vwCl [(cA, .int)]) (va_Qi (fun (r : Int32) (u : St) => (r, u) = runF (g, n, hs, pe, pk, fo, mo) fr mv) (fun u t => bC dC dI cA A u t.heap) (va_A (wC cA A g n hs pe pk fo mo) H.size)) 0 0 (va_A (wC cA A g n hs pe pk fo mo) H.size) := by
  refine Met.ofW (cc := cX2_run) (maxL := 6) (ret := (some .int)) (by decide) rfl ?_
  intro p e s m args below meth c s₁ B hml hv
  obtain ⟨rfl, hH, hK, hN⟩ := hv
  subst hH
  have hx := B.exec
  have hb := B.bytes
  have hr := B.returns
  have hts := atoms_spec (ws := wsX2_run) B.pre
  have hown : s.vm.findClass RX2 = some m.cls := findClass_of_methodNamed B.named
  have hlocks := B.notSynchronized
  have hD := hD.self (sz := s.heap.size)
  generalize hAe : va_A (wC cA A g n hs pe pk fo mo) s.heap.size = Av at hD ⊢
  have hA : ∀ q : Nat, s.heap.size ≤ q → Av q := fun q h => by rw [← hAe]; exact Or.inr h
  have hS : va_S Av s.heap s.heap [] := va_S.rf
  have hl := lv_entry ([.ref (A 0), .long fr, .long mv]) (n := 6) (Nat.le_of_ble_eq_true rfl)
  rw [lg_entry_eq]
  generalize (lg_sl ([.ref (A 0), .long fr, .long mv]) ++ List.replicate (6 - (lg_sl ([.ref (A 0), .long fr, .long mv])).length) Slot.unset).toArray = ls at hl ⊢
  have hl : lv_has ls 6 [(0, .ref (A 0)), (1, .long fr), (3, .long mv)] := hl
  refine lv_aload_n hx hb dX2_run_0 rfl (lv_at hl 0 rfl) ?_
  refine va_get (D := (dC, dI)) (ci := 3) (v := .ref (A 1)) (C := RX2) (T := TX2) (N := 6) hx hb hts miX2_run_X2 hown hK hP 0 rfl rfl 0 (by decide) (hts (.fieldLink RX2 10 "SectionFibres" "section" "LSectionFibres$Section;") mbX2_run_1) (fun _ h9 => h9) rfl dX2_run_1 ?_
  refine lv_lload_n hx hb dX2_run_4 rfl (lv_at hl 1 rfl) ?_
  refine lv_lload_n hx hb dX2_run_5 rfl (lv_at hl 2 rfl) ?_
  refine rd_i (va_runVN (As := [.long fr, .long mv]) (rest := []) ⟨hx, hb, hml, hown, hts⟩ (c_X1_bendFor l dC dI cA s.heap A g n hs pe pk fo mo hP hg hn fr mv) ⟨(va_cnB 2 hts gX2_run_X1_bendFor_n97 rfl rfl rfl (hN (.methodLinkNest RX2 97 yX1_bendFor "SectionFibres") (List.mem_of_getElem? (i := 11) rfl)) (hts (.initialized RX1) mbX2_run_2) (by decide +kernel) ⟨Nat.le_of_ble_eq_true rfl, Nat.le_of_ble_eq_true rfl⟩), hts (.instanceMethod yX1_bendFor) mbX2_run_3, hts (.selects RX1 yX1_bendFor yX1_bendFor) mbX2_run_4⟩ ⟨rd_bl, va_recv hK hP (ci := 2) (q0 := 1) rfl rfl, rd_pre hK hN⟩ rfl rfl hl.1 rfl (lv_room (Nat.le_of_ble_eq_true rfl)) dX2_run_6 ⟨Nat.zero_le _, Nat.zero_le _⟩) hS (fun r1 locs hq2 hS => ?_)
  have hq2 : r1 = enF (slF g n fr mv) := hq2
  subst hq2
  rcases sl_cases (g := g) (n := n) (fo := fr) (mo := mv) with ⟨k1, k2⟩ | ⟨k1, k2⟩ | ⟨k1, k2, k3⟩
  · refine lv_istore (lv' := [(5, .int (enF (slF g n fr mv))), (0, .ref (A 0)), (1, .long fr), (3, .long mv)]) hx hb dX2_run_9 hl (by decide) rfl (fun ls hl => ?_)
    refine lv_iload hx hb dX2_run_11 (lv_at hl 0 rfl) ?_
    refine lv_ldc hx hb hown (hts (.constant RX2 101 (1000001)) mbX2_run_5) dX2_run_13 ?_
    refine lv_icmp_ne (tgt := 20) hx hb dX2_run_15 (by decide) (fun h9 => absurd h9 (fun h8 => h8 k2)) (fun _ => ?_)
    refine lv_iconst (v := 1) hx hb dX2_run_18 (by decide) ?_
    exact W.iret (v := 1) hx hb hr (fun t9 ht9 hW9 => ⟨⟨_, (g, n, hs, pe, pk, fo, mo), rfl, (((run_f (fun h9 => absurd (k1.symm.trans h9) (by decide))).trans (by rw [k1])).symm), by dsimp only; rw [ht9]; exact hP⟩, hS.F ht9⟩) hS.2.2 dX2_run_19
  · refine lv_istore (lv' := [(5, .int (enF (slF g n fr mv))), (0, .ref (A 0)), (1, .long fr), (3, .long mv)]) hx hb dX2_run_9 hl (by decide) rfl (fun ls hl => ?_)
    refine lv_iload hx hb dX2_run_11 (lv_at hl 0 rfl) ?_
    refine lv_ldc hx hb hown (hts (.constant RX2 101 (1000001)) mbX2_run_5) dX2_run_13 ?_
    refine lv_icmp_ne (tgt := 20) hx hb dX2_run_15 (by decide) (fun _ => ?_) (fun h9 => absurd h9 (fun h8 => absurd (k2.symm.trans h8) (by decide)))
    refine lv_iload hx hb dX2_run_20 (lv_at hl 0 rfl) ?_
    refine lv_ldc hx hb hown (hts (.constant RX2 102 (1000002)) mbX2_run_6) dX2_run_22 ?_
    refine lv_icmp_ne (tgt := 29) hx hb dX2_run_24 (by decide) (fun h9 => absurd h9 (fun h8 => h8 k2)) (fun _ => ?_)
    refine lv_iconst (v := 2) hx hb dX2_run_27 (by decide) ?_
    exact W.iret (v := 2) hx hb hr (fun t9 ht9 hW9 => ⟨⟨_, (g, n, hs, pe, pk, fo, mo), rfl, (((run_f (fun h9 => absurd (k1.symm.trans h9) (by decide))).trans (by rw [k1])).symm), by dsimp only; rw [ht9]; exact hP⟩, hS.F ht9⟩) hS.2.2 dX2_run_28
  · refine tp_i (v := iI (slF g n fr mv).2) k2 ?_
    refine lv_istore (lv' := [(5, .int (iI (slF g n fr mv).2)), (0, .ref (A 0)), (1, .long fr), (3, .long mv)]) hx hb dX2_run_9 hl (by decide) rfl (fun ls hl => ?_)
    refine lv_iload hx hb dX2_run_11 (lv_at hl 0 rfl) ?_
    refine lv_ldc hx hb hown (hts (.constant RX2 101 (1000001)) mbX2_run_5) dX2_run_13 ?_
    refine lv_icmp_ne (tgt := 20) hx hb dX2_run_15 (by decide) (fun _ => ?_) (fun h9 => absurd h9 ((rg_big k3).1))
    refine lv_iload hx hb dX2_run_20 (lv_at hl 0 rfl) ?_
    refine lv_ldc hx hb hown (hts (.constant RX2 102 (1000002)) mbX2_run_6) dX2_run_22 ?_
    refine lv_icmp_ne (tgt := 29) hx hb dX2_run_24 (by decide) (fun _ => ?_) (fun h9 => absurd h9 ((rg_big k3).2))
    refine lv_aload_n hx hb dX2_run_29 rfl (lv_at hl 1 rfl) ?_
    refine lv_iconst (v := 1) hx hb dX2_run_30 (by decide) ?_
    refine va_put (D := (dC, dI)) (ci := 3) (v := .int 1) (ty := .boolean) (C := RX2) (T := TX2) (N := 6) hx hb hts miX2_run_X2 tyX2 tyX2_ok nmX2 hown hK hP hD hS 0 rfl rfl 1 (by decide) (hts (.fieldLink RX2 36 "SectionFibres" "planeAtHand" "Z") mbX2_run_7) (fun _ h9 => h9) rfl (by decide +kernel) rfl rfl (Nat.le_of_ble_eq_true rfl) dX2_run_31 (fun H locs hP hD hS => ?_)
    have hP : va_P (dC, dI) vwCl (wC cA A g n 1 pe pk fo mo) H := hP
    have hD : va_D Av (wC cA A g n 1 pe pk fo mo) := hD
    refine lv_aload_n hx hb dX2_run_34 rfl (lv_at hl 1 rfl) ?_
    refine lv_aload_n hx hb dX2_run_35 rfl (lv_at hl 1 rfl) ?_
    refine va_get (D := (dC, dI)) (ci := 3) (v := .ref (A 1)) (C := RX2) (T := TX2) (N := 6) hx hb hts miX2_run_X2 hown hK hP 0 rfl rfl 0 (by decide) (hts (.fieldLink RX2 10 "SectionFibres" "section" "LSectionFibres$Section;") mbX2_run_1) (fun _ h9 => h9) rfl dX2_run_36 ?_
    refine lv_lload_n hx hb dX2_run_39 rfl (lv_at hl 2 rfl) ?_
    refine lv_iload hx hb dX2_run_40 (lv_at hl 0 rfl) ?_
    refine rd_i (va_runVN (As := [.long fr, .int (iI (slF g n fr mv).2)]) (rest := [.ref (A 0)]) ⟨hx, hb, hml, hown, hts⟩ (c_X1_balanceOf l dC dI cA H A g n 1 pe pk fo mo hP hg hn fr (iI (slF g n fr mv).2)) ⟨(va_cnB 2 hts gX2_run_X1_balanceOf_n93 rfl rfl rfl (hN (.methodLinkNest RX2 93 yX1_balanceOf "SectionFibres") (List.mem_of_getElem? (i := 10) rfl)) (hts (.initialized RX1) mbX2_run_2) (by decide +kernel) ⟨Nat.le_of_ble_eq_true rfl, Nat.le_of_ble_eq_true rfl⟩), hts (.instanceMethod yX1_balanceOf) mbX2_run_8, hts (.selects RX1 yX1_balanceOf yX1_balanceOf) mbX2_run_9⟩ ⟨rd_bl, va_recv hK hP (ci := 2) (q0 := 1) rfl rfl, rd_pre hK hN⟩ rfl rfl hl.1 rfl (lv_room (Nat.le_of_ble_eq_true rfl)) dX2_run_42 ⟨Nat.zero_le _, Nat.zero_le _⟩) hS (fun r3 locs hq4 hS => ?_)
    have hq4 : r3 = blF g n fr (iI (slF g n fr mv).2) := hq4
    subst hq4
    refine va_put (D := (dC, dI)) (ci := 3) (v := .int (blF g n fr (iI (slF g n fr mv).2))) (ty := .int) (C := RX2) (T := TX2) (N := 6) hx hb hts miX2_run_X2 tyX2 tyX2_ok nmX2 hown hK hP hD hS 0 rfl rfl 2 (by decide) (hts (.fieldLink RX2 103 "SectionFibres" "planeE" "I") mbX2_run_10) (fun _ h9 => h9) rfl (by decide +kernel) rfl rfl (Nat.le_of_ble_eq_true rfl) dX2_run_45 (fun H locs hP hD hS => ?_)
    have hP : va_P (dC, dI) vwCl (wC cA A g n 1 (blF g n fr (iI (slF g n fr mv).2)) pk fo mo) H := hP
    have hD : va_D Av (wC cA A g n 1 (blF g n fr (iI (slF g n fr mv).2)) pk fo mo) := hD
    refine lv_aload_n hx hb dX2_run_48 rfl (lv_at hl 1 rfl) ?_
    refine lv_iload hx hb dX2_run_49 (lv_at hl 0 rfl) ?_
    refine va_put (D := (dC, dI)) (ci := 3) (v := .int (iI (slF g n fr mv).2)) (ty := .int) (C := RX2) (T := TX2) (N := 6) hx hb hts miX2_run_X2 tyX2 tyX2_ok nmX2 hown hK hP hD hS 0 rfl rfl 3 (by decide) (hts (.fieldLink RX2 106 "SectionFibres" "planeK" "I") mbX2_run_11) (fun _ h9 => h9) rfl (by decide +kernel) rfl rfl (Nat.le_of_ble_eq_true rfl) dX2_run_51 (fun H locs hP hD hS => ?_)
    have hP : va_P (dC, dI) vwCl (wC cA A g n 1 (blF g n fr (iI (slF g n fr mv).2)) (iI (slF g n fr mv).2) fo mo) H := hP
    have hD : va_D Av (wC cA A g n 1 (blF g n fr (iI (slF g n fr mv).2)) (iI (slF g n fr mv).2) fo mo) := hD
    refine lv_aload_n hx hb dX2_run_54 rfl (lv_at hl 1 rfl) ?_
    refine lv_lload_n hx hb dX2_run_55 rfl (lv_at hl 2 rfl) ?_
    refine va_put (D := (dC, dI)) (ci := 3) (v := .long fr) (ty := .long) (C := RX2) (T := TX2) (N := 6) hx hb hts miX2_run_X2 tyX2 tyX2_ok nmX2 hown hK hP hD hS 0 rfl rfl 4 (by decide) (hts (.fieldLink RX2 109 "SectionFibres" "solvedForce" "J") mbX2_run_12) (fun _ h9 => h9) rfl (by decide +kernel) rfl rfl (Nat.le_of_ble_eq_true rfl) dX2_run_56 (fun H locs hP hD hS => ?_)
    have hP : va_P (dC, dI) vwCl (wC cA A g n 1 (blF g n fr (iI (slF g n fr mv).2)) (iI (slF g n fr mv).2) fr mo) H := hP
    have hD : va_D Av (wC cA A g n 1 (blF g n fr (iI (slF g n fr mv).2)) (iI (slF g n fr mv).2) fr mo) := hD
    refine lv_aload_n hx hb dX2_run_59 rfl (lv_at hl 1 rfl) ?_
    refine lv_lload_n hx hb dX2_run_60 rfl (lv_at hl 3 rfl) ?_
    refine va_put (D := (dC, dI)) (ci := 3) (v := .long mv) (ty := .long) (C := RX2) (T := TX2) (N := 6) hx hb hts miX2_run_X2 tyX2 tyX2_ok nmX2 hown hK hP hD hS 0 rfl rfl 5 (by decide) (hts (.fieldLink RX2 113 "SectionFibres" "solvedMoment" "J") mbX2_run_13) (fun _ h9 => h9) rfl (by decide +kernel) rfl rfl (Nat.le_of_ble_eq_true rfl) dX2_run_61 (fun H locs hP hD hS => ?_)
    have hP : va_P (dC, dI) vwCl (wC cA A g n 1 (blF g n fr (iI (slF g n fr mv).2)) (iI (slF g n fr mv).2) fr mv) H := hP
    have hD : va_D Av (wC cA A g n 1 (blF g n fr (iI (slF g n fr mv).2)) (iI (slF g n fr mv).2) fr mv) := hD
    refine lv_iconst (v := 0) hx hb dX2_run_64 (by decide) ?_
    exact W.iret (v := 0) hx hb hr (fun t9 ht9 hW9 => ⟨⟨_, (g, n, 1, blF g n fr (iI (slF g n fr mv).2), iI (slF g n fr mv).2, fr, mv), rfl, ((run_t k1).symm), by dsimp only; rw [ht9]; exact hP⟩, hS.F ht9⟩) hS.2.2 dX2_run_65
end
section
set_option maxRecDepth 20000 in
theorem miX2_of_X2 : ∀ w ∈ u_ws RX2 TX2 6, w ∈ wsX2_of := by decide +kernel
set_option maxRecDepth 20000 in
theorem mbX2_of_1 : (.fieldLink RX2 10 "SectionFibres" "section" "LSectionFibres$Section;" : Cond) ∈ wsX2_of := by decide +kernel
set_option maxRecDepth 20000 in
theorem mbX2_of_2 : (.initialized RX1 : Cond) ∈ wsX2_of := by decide +kernel
set_option maxRecDepth 20000 in
theorem mbX2_of_3 : (.instanceMethod yX1_sumOf : Cond) ∈ wsX2_of := by decide +kernel
set_option maxRecDepth 20000 in
theorem mbX2_of_4 : (.selects RX1 yX1_sumOf yX1_sumOf : Cond) ∈ wsX2_of := by decide +kernel
set_option maxRecDepth 20000 in
theorem mbX2_of_5 : (.constantLong RX2 87 (-4611686018427387904) : Cond) ∈ wsX2_of := by decide +kernel
set_option maxHeartbeats 4000000 in
set_option maxRecDepth 100000 in
theorem c_X2_of (l : Launch) (dC : Nat → ClassId) (dI : Nat → Nat → Nat) (cA : ClassId) (H : Heap) (A : Nat → Nat) (g : Gg) (n : Nat) (hs pe pk : Int32) (fo mo : Int64) (hP : va_P (dC, dI) vwCl (wC cA A g n hs pe pk fo mo) H) (hg : InvG g) (hn : n ≤ 41) (ee kb wh : Int32) : Met l yX2_of wsX2_of ({ frames := 4, cells := 0, slots := 0, locals := 102 }) (rd_P [.ref (A 0), .int ee, .int kb, .int wh] H (dC, dI) vwCl [(cA, .int)]) (rd_Ql H (fun r => r = ofF g n ee kb wh)) 0 0 nF := by
  refine Met.ofW (cc := cX2_of) (maxL := 4) (ret := (some .long)) (by decide) rfl ?_
  intro p e s m args below meth c s₁ B hml hv
  obtain ⟨rfl, hH, hK, hN⟩ := hv
  subst hH
  have hx := B.exec
  have hb := B.bytes
  have hr := B.returns
  have hts := atoms_spec (ws := wsX2_of) B.pre
  have hown : s.vm.findClass RX2 = some m.cls := findClass_of_methodNamed B.named
  have hlocks := B.notSynchronized
  have hS : va_S nF s.heap s.heap [] := va_S.rf
  have hl := lv_entry ([.ref (A 0), .int ee, .int kb, .int wh]) (n := 4) (Nat.le_of_ble_eq_true rfl)
  rw [lg_entry_eq]
  generalize (lg_sl ([.ref (A 0), .int ee, .int kb, .int wh]) ++ List.replicate (4 - (lg_sl ([.ref (A 0), .int ee, .int kb, .int wh])).length) Slot.unset).toArray = ls at hl ⊢
  have hl : lv_has ls 4 [(0, .ref (A 0)), (1, .int ee), (2, .int kb), (3, .int wh)] := hl
  refine lv_iload_n hx hb dX2_of_0 rfl (lv_at hl 1 rfl) ?_
  refine rd_i (va_runS (As := [.int ee]) (rest := []) ⟨hx, hb, hml, hown, hts⟩ (c_X2_isOfPlane l dC dI cA s.heap ee) (va_cwS 1 hts gX2_of_X2_isOfPlane rfl rfl rfl (by decide +kernel) ⟨Nat.le_of_ble_eq_true rfl, Nat.le_of_ble_eq_true rfl⟩) ⟨rd_bl, rd_pre hK hN⟩ rfl rfl hl.1 rfl (lv_room (Nat.le_of_ble_eq_true rfl)) dX2_of_1 ⟨Nat.zero_le _, Nat.zero_le _⟩) hS (fun r1 locs hq2 hS => ?_)
  rcases hq2 with ⟨hq2, rfl⟩ | ⟨hq2, rfl⟩
  · have q1 : rg ee (-20000) 20000 := hq2
    refine lv_if_eq (tgt := 21) hx hb dX2_of_4 (by decide) (fun h9 => absurd h9 (by decide)) (fun _ => ?_)
    refine lv_iload_n hx hb dX2_of_7 rfl (lv_at hl 2 rfl) ?_
    refine rd_i (va_runS (As := [.int kb]) (rest := []) ⟨hx, hb, hml, hown, hts⟩ (c_X2_isOfPlane l dC dI cA s.heap kb) (va_cwS 1 hts gX2_of_X2_isOfPlane rfl rfl rfl (by decide +kernel) ⟨Nat.le_of_ble_eq_true rfl, Nat.le_of_ble_eq_true rfl⟩) ⟨rd_bl, rd_pre hK hN⟩ rfl rfl hl.1 rfl (lv_room (Nat.le_of_ble_eq_true rfl)) dX2_of_8 ⟨Nat.zero_le _, Nat.zero_le _⟩) hS (fun r3 locs hq4 hS => ?_)
    rcases hq4 with ⟨hq4, rfl⟩ | ⟨hq4, rfl⟩
    · have q2 : rg kb (-20000) 20000 := hq4
      refine lv_if_eq (tgt := 21) hx hb dX2_of_11 (by decide) (fun h9 => absurd h9 (by decide)) (fun _ => ?_)
      refine lv_iload_n hx hb dX2_of_14 rfl (lv_at hl 3 rfl) ?_
      refine rd_i (va_runS (As := [.int wh]) (rest := []) ⟨hx, hb, hml, hown, hts⟩ (c_X2_isSum l dC dI cA s.heap wh) (va_cwS 1 hts gX2_of_X2_isSum rfl rfl rfl (by decide +kernel) ⟨Nat.le_of_ble_eq_true rfl, Nat.le_of_ble_eq_true rfl⟩) ⟨rd_bl, rd_pre hK hN⟩ rfl rfl hl.1 rfl (lv_room (Nat.le_of_ble_eq_true rfl)) dX2_of_15 ⟨Nat.zero_le _, Nat.zero_le _⟩) hS (fun r5 locs hq6 hS => ?_)
      rcases hq6 with ⟨hq6, rfl⟩ | ⟨hq6, rfl⟩
      · have q3 : (wh = 0 ∨ wh = 1) := hq6
        refine lv_if_ne (tgt := 25) hx hb dX2_of_18 (by decide) (fun _ => ?_) (fun h9 => absurd h9 (by decide))
        refine lv_aload_n hx hb dX2_of_25 rfl (lv_at hl 0 rfl) ?_
        refine va_get (D := (dC, dI)) (ci := 3) (v := .ref (A 1)) (C := RX2) (T := TX2) (N := 6) hx hb hts miX2_of_X2 hown hK hP 0 rfl rfl 0 (by decide) (hts (.fieldLink RX2 10 "SectionFibres" "section" "LSectionFibres$Section;") mbX2_of_1) (fun _ h9 => h9) rfl dX2_of_26 ?_
        refine lv_iload_n hx hb dX2_of_29 rfl (lv_at hl 3 rfl) ?_
        refine lv_iload_n hx hb dX2_of_30 rfl (lv_at hl 1 rfl) ?_
        refine lv_iload_n hx hb dX2_of_31 rfl (lv_at hl 2 rfl) ?_
        refine rd_l (va_runVN (As := [.int wh, .int ee, .int kb]) (rest := []) ⟨hx, hb, hml, hown, hts⟩ (c_X1_sumOf l dC dI cA s.heap A g n hs pe pk fo mo hP hg hn (decide (wh = 1)) wh (decide_eq_true_iff.symm) ee kb) ⟨(va_cnB 3 hts gX2_of_X1_sumOf_n89 rfl rfl rfl (hN (.methodLinkNest RX2 89 yX1_sumOf "SectionFibres") (List.mem_of_getElem? (i := 6) rfl)) (hts (.initialized RX1) mbX2_of_2) (by decide +kernel) ⟨Nat.le_of_ble_eq_true rfl, Nat.le_of_ble_eq_true rfl⟩), hts (.instanceMethod yX1_sumOf) mbX2_of_3, hts (.selects RX1 yX1_sumOf yX1_sumOf) mbX2_of_4⟩ ⟨rd_bl, va_recv hK hP (ci := 2) (q0 := 1) rfl rfl, rd_pre hK hN⟩ rfl rfl hl.1 rfl (lv_room (Nat.le_of_ble_eq_true rfl)) dX2_of_32 ⟨Nat.zero_le _, Nat.zero_le _⟩) hS (fun r7 locs hq8 hS => ?_)
        have hq8 : r7 = smF g (decide (wh = 1)) ee kb n := hq8
        subst hq8
        exact W.lret (v := (smF g (decide (wh = 1)) ee kb n)) hx hb hr (fun t9 ht9 hW9 => ⟨⟨_, (), rfl, (by unfold ofF; rw [if_pos ⟨q1, q2, q3⟩]), ht9⟩, hS.F ht9⟩) hS.2.2 dX2_of_35
      · have q3 : ¬ (wh = 0 ∨ wh = 1) := hq6
        refine lv_if_ne (tgt := 25) hx hb dX2_of_18 (by decide) (fun h9 => absurd h9 (by decide)) (fun _ => ?_)
        refine lv_ldc2 hx hb hown (hts (.constantLong RX2 87 (-4611686018427387904)) mbX2_of_5) dX2_of_21 ?_
        exact W.lret (v := (-4611686018427387904)) hx hb hr (fun t9 ht9 hW9 => ⟨⟨_, (), rfl, (by unfold ofF; rw [if_neg (fun h9 => q3 h9.2.2)]), ht9⟩, hS.F ht9⟩) hS.2.2 dX2_of_24
    · have q2 : ¬ (rg kb (-20000) 20000) := hq4
      refine lv_if_eq (tgt := 21) hx hb dX2_of_11 (by decide) (fun _ => ?_) (fun h9 => absurd h9 (by decide))
      refine lv_ldc2 hx hb hown (hts (.constantLong RX2 87 (-4611686018427387904)) mbX2_of_5) dX2_of_21 ?_
      exact W.lret (v := (-4611686018427387904)) hx hb hr (fun t9 ht9 hW9 => ⟨⟨_, (), rfl, (by unfold ofF; rw [if_neg (fun h9 => q2 h9.2.1)]), ht9⟩, hS.F ht9⟩) hS.2.2 dX2_of_24
  · have q1 : ¬ (rg ee (-20000) 20000) := hq2
    refine lv_if_eq (tgt := 21) hx hb dX2_of_4 (by decide) (fun _ => ?_) (fun h9 => absurd h9 (by decide))
    refine lv_ldc2 hx hb hown (hts (.constantLong RX2 87 (-4611686018427387904)) mbX2_of_5) dX2_of_21 ?_
    exact W.lret (v := (-4611686018427387904)) hx hb hr (fun t9 ht9 hW9 => ⟨⟨_, (), rfl, (by unfold ofF; rw [if_neg (fun h9 => q1 h9.1)]), ht9⟩, hS.F ht9⟩) hS.2.2 dX2_of_24

set_option maxRecDepth 20000 in
theorem miX2_balance_X2 : ∀ w ∈ u_ws RX2 TX2 6, w ∈ wsX2_balance := by decide +kernel
set_option maxRecDepth 20000 in
theorem mbX2_balance_1 : (.fieldLink RX2 10 "SectionFibres" "section" "LSectionFibres$Section;" : Cond) ∈ wsX2_balance := by decide +kernel
set_option maxRecDepth 20000 in
theorem mbX2_balance_2 : (.initialized RX1 : Cond) ∈ wsX2_balance := by decide +kernel
set_option maxRecDepth 20000 in
theorem mbX2_balance_3 : (.instanceMethod yX1_balanceOf : Cond) ∈ wsX2_balance := by decide +kernel
set_option maxRecDepth 20000 in
theorem mbX2_balance_4 : (.selects RX1 yX1_balanceOf yX1_balanceOf : Cond) ∈ wsX2_balance := by decide +kernel
set_option maxRecDepth 20000 in
theorem mbX2_balance_5 : (.constant RX2 43 (-1000000) : Cond) ∈ wsX2_balance := by decide +kernel
set_option maxHeartbeats 4000000 in
set_option maxRecDepth 100000 in
theorem c_X2_balance (l : Launch) (dC : Nat → ClassId) (dI : Nat → Nat → Nat) (cA : ClassId) (H : Heap) (A : Nat → Nat) (g : Gg) (n : Nat) (hs pe pk : Int32) (fo mo : Int64) (hP : va_P (dC, dI) vwCl (wC cA A g n hs pe pk fo mo) H) (hg : InvG g) (hn : n ≤ 41) (fr : Int64) (kb : Int32) : Met l yX2_balance wsX2_balance ({ frames := 5, cells := 0, slots := 0, locals := 129 }) (rd_P [.ref (A 0), .long fr, .int kb] H (dC, dI) vwCl [(cA, .int)]) (rd_Qi H (fun r => r = balF g n fr kb)) 0 0 nF := by
  refine Met.ofW (cc := cX2_balance) (maxL := 4) (ret := (some .int)) (by decide) rfl ?_
  intro p e s m args below meth c s₁ B hml hv
  obtain ⟨rfl, hH, hK, hN⟩ := hv
  subst hH
  have hx := B.exec
  have hb := B.bytes
  have hr := B.returns
  have hts := atoms_spec (ws := wsX2_balance) B.pre
  have hown : s.vm.findClass RX2 = some m.cls := findClass_of_methodNamed B.named
  have hlocks := B.notSynchronized
  have hS : va_S nF s.heap s.heap [] := va_S.rf
  have hl := lv_entry ([.ref (A 0), .long fr, .int kb]) (n := 4) (Nat.le_of_ble_eq_true rfl)
  rw [lg_entry_eq]
  generalize (lg_sl ([.ref (A 0), .long fr, .int kb]) ++ List.replicate (4 - (lg_sl ([.ref (A 0), .long fr, .int kb])).length) Slot.unset).toArray = ls at hl ⊢
  have hl : lv_has ls 4 [(0, .ref (A 0)), (1, .long fr), (3, .int kb)] := hl
  refine lv_iload_n hx hb dX2_balance_0 rfl (lv_at hl 2 rfl) ?_
  refine rd_i (va_runS (As := [.int kb]) (rest := []) ⟨hx, hb, hml, hown, hts⟩ (c_X2_isOfPlane l dC dI cA s.heap kb) (va_cwS 1 hts gX2_balance_X2_isOfPlane rfl rfl rfl (by decide +kernel) ⟨Nat.le_of_ble_eq_true rfl, Nat.le_of_ble_eq_true rfl⟩) ⟨rd_bl, rd_pre hK hN⟩ rfl rfl hl.1 rfl (lv_room (Nat.le_of_ble_eq_true rfl)) dX2_balance_1 ⟨Nat.zero_le _, Nat.zero_le _⟩) hS (fun r1 locs hq2 hS => ?_)
  rcases hq2 with ⟨hq2, rfl⟩ | ⟨hq2, rfl⟩
  · have q1 : rg kb (-20000) 20000 := hq2
    refine lv_if_ne (tgt := 10) hx hb dX2_balance_4 (by decide) (fun _ => ?_) (fun h9 => absurd h9 (by decide))
    refine lv_aload_n hx hb dX2_balance_10 rfl (lv_at hl 0 rfl) ?_
    refine va_get (D := (dC, dI)) (ci := 3) (v := .ref (A 1)) (C := RX2) (T := TX2) (N := 6) hx hb hts miX2_balance_X2 hown hK hP 0 rfl rfl 0 (by decide) (hts (.fieldLink RX2 10 "SectionFibres" "section" "LSectionFibres$Section;") mbX2_balance_1) (fun _ h9 => h9) rfl dX2_balance_11 ?_
    refine lv_lload_n hx hb dX2_balance_14 rfl (lv_at hl 1 rfl) ?_
    refine lv_iload_n hx hb dX2_balance_15 rfl (lv_at hl 2 rfl) ?_
    refine rd_i (va_runVN (As := [.long fr, .int kb]) (rest := []) ⟨hx, hb, hml, hown, hts⟩ (c_X1_balanceOf l dC dI cA s.heap A g n hs pe pk fo mo hP hg hn fr kb) ⟨(va_cnB 2 hts gX2_balance_X1_balanceOf_n93 rfl rfl rfl (hN (.methodLinkNest RX2 93 yX1_balanceOf "SectionFibres") (List.mem_of_getElem? (i := 10) rfl)) (hts (.initialized RX1) mbX2_balance_2) (by decide +kernel) ⟨Nat.le_of_ble_eq_true rfl, Nat.le_of_ble_eq_true rfl⟩), hts (.instanceMethod yX1_balanceOf) mbX2_balance_3, hts (.selects RX1 yX1_balanceOf yX1_balanceOf) mbX2_balance_4⟩ ⟨rd_bl, va_recv hK hP (ci := 2) (q0 := 1) rfl rfl, rd_pre hK hN⟩ rfl rfl hl.1 rfl (lv_room (Nat.le_of_ble_eq_true rfl)) dX2_balance_16 ⟨Nat.zero_le _, Nat.zero_le _⟩) hS (fun r3 locs hq4 hS => ?_)
    have hq4 : r3 = blF g n fr kb := hq4
    subst hq4
    exact W.iret (v := (blF g n fr kb)) hx hb hr (fun t9 ht9 hW9 => ⟨⟨_, (), rfl, (by unfold balF; rw [if_pos q1]), ht9⟩, hS.F ht9⟩) hS.2.2 dX2_balance_19
  · have q1 : ¬ (rg kb (-20000) 20000) := hq2
    refine lv_if_ne (tgt := 10) hx hb dX2_balance_4 (by decide) (fun h9 => absurd h9 (by decide)) (fun _ => ?_)
    refine lv_ldc hx hb hown (hts (.constant RX2 43 (-1000000)) mbX2_balance_5) dX2_balance_7 ?_
    exact W.iret (v := (-1000000)) hx hb hr (fun t9 ht9 hW9 => ⟨⟨_, (), rfl, (by unfold balF; rw [if_neg q1]), ht9⟩, hS.F ht9⟩) hS.2.2 dX2_balance_9

set_option maxRecDepth 20000 in
theorem miX2_told_X2 : ∀ w ∈ u_ws RX2 TX2 6, w ∈ wsX2_told := by decide +kernel
set_option maxRecDepth 20000 in
theorem mbX2_told_1 : (.fieldLink RX2 36 "SectionFibres" "planeAtHand" "Z" : Cond) ∈ wsX2_told := by decide +kernel
set_option maxRecDepth 20000 in
theorem mbX2_told_2 : (.fieldLink RX2 103 "SectionFibres" "planeE" "I" : Cond) ∈ wsX2_told := by decide +kernel
set_option maxRecDepth 20000 in
theorem mbX2_told_3 : (.fieldLink RX2 106 "SectionFibres" "planeK" "I" : Cond) ∈ wsX2_told := by decide +kernel
set_option maxRecDepth 20000 in
theorem mbX2_told_4 : (.fieldLink RX2 10 "SectionFibres" "section" "LSectionFibres$Section;" : Cond) ∈ wsX2_told := by decide +kernel
set_option maxRecDepth 20000 in
theorem mbX2_told_5 : (.initialized RX1 : Cond) ∈ wsX2_told := by decide +kernel
set_option maxRecDepth 20000 in
theorem mbX2_told_6 : (.instanceMethod yX1_firstBeyond : Cond) ∈ wsX2_told := by decide +kernel
set_option maxRecDepth 20000 in
theorem mbX2_told_7 : (.selects RX1 yX1_firstBeyond yX1_firstBeyond : Cond) ∈ wsX2_told := by decide +kernel
set_option maxHeartbeats 4000000 in
set_option maxRecDepth 100000 in
theorem c_X2_told (l : Launch) (dC : Nat → ClassId) (dI : Nat → Nat → Nat) (cA : ClassId) (H : Heap) (A : Nat → Nat) (g : Gg) (n : Nat) (hs pe pk : Int32) (fo mo : Int64) (hP : va_P (dC, dI) vwCl (wC cA A g n hs pe pk fo mo) H) (hg : InvG g) (hn : n ≤ 41) (wh : Int32) : Met l yX2_told wsX2_told ({ frames := 3, cells := 0, slots := 0, locals := 73 }) (rd_P [.ref (A 0), .int wh] H (dC, dI) vwCl [(cA, .int)]) (rd_Qi H (fun r => r = tolF g n hs pe pk wh)) 0 0 nF := by
  refine Met.ofW (cc := cX2_told) (maxL := 2) (ret := (some .int)) (by decide) rfl ?_
  intro p e s m args below meth c s₁ B hml hv
  obtain ⟨rfl, hH, hK, hN⟩ := hv
  subst hH
  have hx := B.exec
  have hb := B.bytes
  have hr := B.returns
  have hts := atoms_spec (ws := wsX2_told) B.pre
  have hown : s.vm.findClass RX2 = some m.cls := findClass_of_methodNamed B.named
  have hlocks := B.notSynchronized
  have hS : va_S nF s.heap s.heap [] := va_S.rf
  have hl := lv_entry ([.ref (A 0), .int wh]) (n := 2) (Nat.le_of_ble_eq_true rfl)
  rw [lg_entry_eq]
  generalize (lg_sl ([.ref (A 0), .int wh]) ++ List.replicate (2 - (lg_sl ([.ref (A 0), .int wh])).length) Slot.unset).toArray = ls at hl ⊢
  have hl : lv_has ls 2 [(0, .ref (A 0)), (1, .int wh)] := hl
  refine lv_aload_n hx hb dX2_told_0 rfl (lv_at hl 0 rfl) ?_
  refine va_get (D := (dC, dI)) (ci := 3) (v := .int hs) (C := RX2) (T := TX2) (N := 6) hx hb hts miX2_told_X2 hown hK hP 0 rfl rfl 1 (by decide) (hts (.fieldLink RX2 36 "SectionFibres" "planeAtHand" "Z") mbX2_told_1) (fun _ h9 => h9) rfl dX2_told_1 ?_
  refine lv_if_ne (tgt := 9) hx hb dX2_told_4 (by decide) (fun c1 => ?_) (fun c1 => ?_)
  · refine lv_iload_n hx hb dX2_told_9 rfl (lv_at hl 1 rfl) ?_
    by_cases k0 : wh = 0
    · refine lv_tableIn (tgt := 36) hx hb dX2_told_10 (by rw [k0]; decide) (by rw [k0]; decide) (by rw [k0]; rfl) (by decide) ?_
      refine lv_aload_n hx hb dX2_told_36 rfl (lv_at hl 0 rfl) ?_
      refine va_get (D := (dC, dI)) (ci := 3) (v := .int pe) (C := RX2) (T := TX2) (N := 6) hx hb hts miX2_told_X2 hown hK hP 0 rfl rfl 2 (by decide) (hts (.fieldLink RX2 103 "SectionFibres" "planeE" "I") mbX2_told_2) (fun _ h9 => h9) rfl dX2_told_37 ?_
      exact W.iret (v := pe) hx hb hr (fun t9 ht9 hW9 => ⟨⟨_, (), rfl, (by unfold tolF; rw [if_neg c1, if_pos k0]), ht9⟩, hS.F ht9⟩) hS.2.2 dX2_told_40
    · by_cases k1 : wh = 1
      · refine lv_tableIn (tgt := 41) hx hb dX2_told_10 (by rw [k1]; decide) (by rw [k1]; decide) (by rw [k1]; rfl) (by decide) ?_
        refine lv_aload_n hx hb dX2_told_41 rfl (lv_at hl 0 rfl) ?_
        refine va_get (D := (dC, dI)) (ci := 3) (v := .int pk) (C := RX2) (T := TX2) (N := 6) hx hb hts miX2_told_X2 hown hK hP 0 rfl rfl 3 (by decide) (hts (.fieldLink RX2 106 "SectionFibres" "planeK" "I") mbX2_told_3) (fun _ h9 => h9) rfl dX2_told_42 ?_
        exact W.iret (v := pk) hx hb hr (fun t9 ht9 hW9 => ⟨⟨_, (), rfl, (by unfold tolF; rw [if_neg c1, if_neg k0, if_pos k1]), ht9⟩, hS.F ht9⟩) hS.2.2 dX2_told_45
      · by_cases k2 : wh = 2
        · refine lv_tableIn (tgt := 46) hx hb dX2_told_10 (by rw [k2]; decide) (by rw [k2]; decide) (by rw [k2]; rfl) (by decide) ?_
          refine lv_aload_n hx hb dX2_told_46 rfl (lv_at hl 0 rfl) ?_
          refine va_get (D := (dC, dI)) (ci := 3) (v := .ref (A 1)) (C := RX2) (T := TX2) (N := 6) hx hb hts miX2_told_X2 hown hK hP 0 rfl rfl 0 (by decide) (hts (.fieldLink RX2 10 "SectionFibres" "section" "LSectionFibres$Section;") mbX2_told_4) (fun _ h9 => h9) rfl dX2_told_47 ?_
          refine lv_aload_n hx hb dX2_told_50 rfl (lv_at hl 0 rfl) ?_
          refine va_get (D := (dC, dI)) (ci := 3) (v := .int pe) (C := RX2) (T := TX2) (N := 6) hx hb hts miX2_told_X2 hown hK hP 0 rfl rfl 2 (by decide) (hts (.fieldLink RX2 103 "SectionFibres" "planeE" "I") mbX2_told_2) (fun _ h9 => h9) rfl dX2_told_51 ?_
          refine lv_aload_n hx hb dX2_told_54 rfl (lv_at hl 0 rfl) ?_
          refine va_get (D := (dC, dI)) (ci := 3) (v := .int pk) (C := RX2) (T := TX2) (N := 6) hx hb hts miX2_told_X2 hown hK hP 0 rfl rfl 3 (by decide) (hts (.fieldLink RX2 106 "SectionFibres" "planeK" "I") mbX2_told_3) (fun _ h9 => h9) rfl dX2_told_55 ?_
          refine rd_i (va_runVN (As := [.int pe, .int pk]) (rest := []) ⟨hx, hb, hml, hown, hts⟩ (c_X1_firstBeyond l dC dI cA s.heap A g n hs pe pk fo mo hP hg hn pe pk) ⟨(va_cnB 2 hts gX2_told_X1_firstBeyond_n116 rfl rfl rfl (hN (.methodLinkNest RX2 116 yX1_firstBeyond "SectionFibres") (List.mem_of_getElem? (i := 12) rfl)) (hts (.initialized RX1) mbX2_told_5) (by decide +kernel) ⟨Nat.le_of_ble_eq_true rfl, Nat.le_of_ble_eq_true rfl⟩), hts (.instanceMethod yX1_firstBeyond) mbX2_told_6, hts (.selects RX1 yX1_firstBeyond yX1_firstBeyond) mbX2_told_7⟩ ⟨rd_bl, va_recv hK hP (ci := 2) (q0 := 1) rfl rfl, rd_pre hK hN⟩ rfl rfl hl.1 rfl (lv_room (Nat.le_of_ble_eq_true rfl)) dX2_told_58 ⟨Nat.zero_le _, Nat.zero_le _⟩) hS (fun r1 locs hq2 hS => ?_)
          have hq2 : r1 = fbF g pe pk n 0 := hq2
          subst hq2
          exact W.iret (v := (fbF g pe pk n 0)) hx hb hr (fun t9 ht9 hW9 => ⟨⟨_, (), rfl, (by unfold tolF; rw [if_neg c1, if_neg k0, if_neg k1, if_pos k2]), ht9⟩, hS.F ht9⟩) hS.2.2 dX2_told_61
        · refine lv_tableOut (tgt := 62) hx hb dX2_told_10 (by have h6 : wh.toInt ≠ 0 := fun h9 => k0 (Int32.toInt_inj.1 h9); have h7 : wh.toInt ≠ 1 := fun h9 => k1 (Int32.toInt_inj.1 h9); have h8 : wh.toInt ≠ 2 := fun h9 => k2 (Int32.toInt_inj.1 h9); omega) (by decide) ?_
          refine lv_iconst (v := (-1)) hx hb dX2_told_62 (by decide) ?_
          exact W.iret (v := (-1)) hx hb hr (fun t9 ht9 hW9 => ⟨⟨_, (), rfl, (by unfold tolF; rw [if_neg c1, if_neg k0, if_neg k1, if_neg k2]), ht9⟩, hS.F ht9⟩) hS.2.2 dX2_told_63
  · refine lv_iconst (v := (-1)) hx hb dX2_told_7 (by decide) ?_
    exact W.iret (v := (-1)) hx hb hr (fun t9 ht9 hW9 => ⟨⟨_, (), rfl, (by unfold tolF; rw [if_pos c1]), ht9⟩, hS.F ht9⟩) hS.2.2 dX2_told_8

set_option maxRecDepth 20000 in
theorem miX2_residual_X2 : ∀ w ∈ u_ws RX2 TX2 6, w ∈ wsX2_residual := by decide +kernel
set_option maxRecDepth 20000 in
theorem mbX2_residual_1 : (.fieldLink RX2 36 "SectionFibres" "planeAtHand" "Z" : Cond) ∈ wsX2_residual := by decide +kernel
set_option maxRecDepth 20000 in
theorem mbX2_residual_2 : (.constantLong RX2 87 (-4611686018427387904) : Cond) ∈ wsX2_residual := by decide +kernel
set_option maxRecDepth 20000 in
theorem mbX2_residual_3 : (.fieldLink RX2 10 "SectionFibres" "section" "LSectionFibres$Section;" : Cond) ∈ wsX2_residual := by decide +kernel
set_option maxRecDepth 20000 in
theorem mbX2_residual_4 : (.fieldLink RX2 103 "SectionFibres" "planeE" "I" : Cond) ∈ wsX2_residual := by decide +kernel
set_option maxRecDepth 20000 in
theorem mbX2_residual_5 : (.fieldLink RX2 106 "SectionFibres" "planeK" "I" : Cond) ∈ wsX2_residual := by decide +kernel
set_option maxRecDepth 20000 in
theorem mbX2_residual_6 : (.initialized RX1 : Cond) ∈ wsX2_residual := by decide +kernel
set_option maxRecDepth 20000 in
theorem mbX2_residual_7 : (.instanceMethod yX1_sumOf : Cond) ∈ wsX2_residual := by decide +kernel
set_option maxRecDepth 20000 in
theorem mbX2_residual_8 : (.selects RX1 yX1_sumOf yX1_sumOf : Cond) ∈ wsX2_residual := by decide +kernel
set_option maxRecDepth 20000 in
theorem mbX2_residual_9 : (.fieldLink RX2 113 "SectionFibres" "solvedMoment" "J" : Cond) ∈ wsX2_residual := by decide +kernel
set_option maxRecDepth 20000 in
theorem mbX2_residual_10 : (.fieldLink RX2 109 "SectionFibres" "solvedForce" "J" : Cond) ∈ wsX2_residual := by decide +kernel
set_option maxHeartbeats 4000000 in
set_option maxRecDepth 100000 in
theorem c_X2_residual (l : Launch) (dC : Nat → ClassId) (dI : Nat → Nat → Nat) (cA : ClassId) (H : Heap) (A : Nat → Nat) (g : Gg) (n : Nat) (hs pe pk : Int32) (fo mo : Int64) (hP : va_P (dC, dI) vwCl (wC cA A g n hs pe pk fo mo) H) (hg : InvG g) (hn : n ≤ 41) (wh : Int32) : Met l yX2_residual wsX2_residual ({ frames := 4, cells := 0, slots := 0, locals := 102 }) (rd_P [.ref (A 0), .int wh] H (dC, dI) vwCl [(cA, .int)]) (rd_Ql H (fun r => r = resF g n hs pe pk fo mo wh)) 0 0 nF := by
  refine Met.ofW (cc := cX2_residual) (maxL := 2) (ret := (some .long)) (by decide) rfl ?_
  intro p e s m args below meth c s₁ B hml hv
  obtain ⟨rfl, hH, hK, hN⟩ := hv
  subst hH
  have hx := B.exec
  have hb := B.bytes
  have hr := B.returns
  have hts := atoms_spec (ws := wsX2_residual) B.pre
  have hown : s.vm.findClass RX2 = some m.cls := findClass_of_methodNamed B.named
  have hlocks := B.notSynchronized
  have hS : va_S nF s.heap s.heap [] := va_S.rf
  have hl := lv_entry ([.ref (A 0), .int wh]) (n := 2) (Nat.le_of_ble_eq_true rfl)
  rw [lg_entry_eq]
  generalize (lg_sl ([.ref (A 0), .int wh]) ++ List.replicate (2 - (lg_sl ([.ref (A 0), .int wh])).length) Slot.unset).toArray = ls at hl ⊢
  have hl : lv_has ls 2 [(0, .ref (A 0)), (1, .int wh)] := hl
  refine lv_aload_n hx hb dX2_residual_0 rfl (lv_at hl 0 rfl) ?_
  refine va_get (D := (dC, dI)) (ci := 3) (v := .int hs) (C := RX2) (T := TX2) (N := 6) hx hb hts miX2_residual_X2 hown hK hP 0 rfl rfl 1 (by decide) (hts (.fieldLink RX2 36 "SectionFibres" "planeAtHand" "Z") mbX2_residual_1) (fun _ h9 => h9) rfl dX2_residual_1 ?_
  refine lv_if_eq (tgt := 14) hx hb dX2_residual_4 (by decide) (fun c1 => ?_) (fun c1 => ?_)
  · refine lv_ldc2 hx hb hown (hts (.constantLong RX2 87 (-4611686018427387904)) mbX2_residual_2) dX2_residual_14 ?_
    exact W.lret (v := (-4611686018427387904)) hx hb hr (fun t9 ht9 hW9 => ⟨⟨_, (), rfl, (by unfold resF; rw [if_pos c1]), ht9⟩, hS.F ht9⟩) hS.2.2 dX2_residual_17
  · refine lv_iload_n hx hb dX2_residual_7 rfl (lv_at hl 1 rfl) ?_
    refine rd_i (va_runS (As := [.int wh]) (rest := []) ⟨hx, hb, hml, hown, hts⟩ (c_X2_isSum l dC dI cA s.heap wh) (va_cwS 1 hts gX2_residual_X2_isSum rfl rfl rfl (by decide +kernel) ⟨Nat.le_of_ble_eq_true rfl, Nat.le_of_ble_eq_true rfl⟩) ⟨rd_bl, rd_pre hK hN⟩ rfl rfl hl.1 rfl (lv_room (Nat.le_of_ble_eq_true rfl)) dX2_residual_8 ⟨Nat.zero_le _, Nat.zero_le _⟩) hS (fun r1 locs hq2 hS => ?_)
    rcases hq2 with ⟨hq2, rfl⟩ | ⟨hq2, rfl⟩
    · have q1 : (wh = 0 ∨ wh = 1) := hq2
      refine lv_if_ne (tgt := 18) hx hb dX2_residual_11 (by decide) (fun _ => ?_) (fun h9 => absurd h9 (by decide))
      refine lv_aload_n hx hb dX2_residual_18 rfl (lv_at hl 0 rfl) ?_
      refine va_get (D := (dC, dI)) (ci := 3) (v := .ref (A 1)) (C := RX2) (T := TX2) (N := 6) hx hb hts miX2_residual_X2 hown hK hP 0 rfl rfl 0 (by decide) (hts (.fieldLink RX2 10 "SectionFibres" "section" "LSectionFibres$Section;") mbX2_residual_3) (fun _ h9 => h9) rfl dX2_residual_19 ?_
      refine lv_iload_n hx hb dX2_residual_22 rfl (lv_at hl 1 rfl) ?_
      refine lv_aload_n hx hb dX2_residual_23 rfl (lv_at hl 0 rfl) ?_
      refine va_get (D := (dC, dI)) (ci := 3) (v := .int pe) (C := RX2) (T := TX2) (N := 6) hx hb hts miX2_residual_X2 hown hK hP 0 rfl rfl 2 (by decide) (hts (.fieldLink RX2 103 "SectionFibres" "planeE" "I") mbX2_residual_4) (fun _ h9 => h9) rfl dX2_residual_24 ?_
      refine lv_aload_n hx hb dX2_residual_27 rfl (lv_at hl 0 rfl) ?_
      refine va_get (D := (dC, dI)) (ci := 3) (v := .int pk) (C := RX2) (T := TX2) (N := 6) hx hb hts miX2_residual_X2 hown hK hP 0 rfl rfl 3 (by decide) (hts (.fieldLink RX2 106 "SectionFibres" "planeK" "I") mbX2_residual_5) (fun _ h9 => h9) rfl dX2_residual_28 ?_
      refine rd_l (va_runVN (As := [.int wh, .int pe, .int pk]) (rest := []) ⟨hx, hb, hml, hown, hts⟩ (c_X1_sumOf l dC dI cA s.heap A g n hs pe pk fo mo hP hg hn (decide (wh = 1)) wh (decide_eq_true_iff.symm) pe pk) ⟨(va_cnB 3 hts gX2_residual_X1_sumOf_n89 rfl rfl rfl (hN (.methodLinkNest RX2 89 yX1_sumOf "SectionFibres") (List.mem_of_getElem? (i := 6) rfl)) (hts (.initialized RX1) mbX2_residual_6) (by decide +kernel) ⟨Nat.le_of_ble_eq_true rfl, Nat.le_of_ble_eq_true rfl⟩), hts (.instanceMethod yX1_sumOf) mbX2_residual_7, hts (.selects RX1 yX1_sumOf yX1_sumOf) mbX2_residual_8⟩ ⟨rd_bl, va_recv hK hP (ci := 2) (q0 := 1) rfl rfl, rd_pre hK hN⟩ rfl rfl hl.1 rfl (lv_room (Nat.le_of_ble_eq_true rfl)) dX2_residual_31 ⟨Nat.zero_le _, Nat.zero_le _⟩) hS (fun r3 locs hq4 hS => ?_)
      have hq4 : r3 = smF g (decide (wh = 1)) pe pk n := hq4
      subst hq4
      refine lv_iload_n hx hb dX2_residual_34 rfl (lv_at hl 1 rfl) ?_
      refine lv_if_ne (tgt := 45) hx hb dX2_residual_35 (by decide) (fun c2 => ?_) (fun c2 => ?_)
      · refine lv_aload_n hx hb dX2_residual_45 rfl (lv_at hl 0 rfl) ?_
        refine va_get (D := (dC, dI)) (ci := 3) (v := .long mo) (C := RX2) (T := TX2) (N := 6) hx hb hts miX2_residual_X2 hown hK hP 0 rfl rfl 5 (by decide) (hts (.fieldLink RX2 113 "SectionFibres" "solvedMoment" "J") mbX2_residual_9) (fun _ h9 => h9) rfl dX2_residual_46 ?_
        refine lv_lsub hx hb dX2_residual_49 ?_
        exact W.lret (v := ((smF g (decide (wh = 1)) pe pk n) - mo)) hx hb hr (fun t9 ht9 hW9 => ⟨⟨_, (), rfl, (by unfold resF; rw [if_neg c1, if_neg c2, if_pos (q1.resolve_left c2), decide_eq_true (q1.resolve_left c2)]), ht9⟩, hS.F ht9⟩) hS.2.2 dX2_residual_50
      · refine lv_aload_n hx hb dX2_residual_38 rfl (lv_at hl 0 rfl) ?_
        refine va_get (D := (dC, dI)) (ci := 3) (v := .long fo) (C := RX2) (T := TX2) (N := 6) hx hb hts miX2_residual_X2 hown hK hP 0 rfl rfl 4 (by decide) (hts (.fieldLink RX2 109 "SectionFibres" "solvedForce" "J") mbX2_residual_10) (fun _ h9 => h9) rfl dX2_residual_39 ?_
        refine lv_goto (tgt := 49) hx hb dX2_residual_42 (by decide) ?_
        refine lv_lsub hx hb dX2_residual_49 ?_
        exact W.lret (v := ((smF g (decide (wh = 1)) pe pk n) - fo)) hx hb hr (fun t9 ht9 hW9 => ⟨⟨_, (), rfl, (by unfold resF; rw [if_neg c1, if_pos c2, decide_eq_false (fun h9 => absurd (c2.symm.trans h9) (by decide))]), ht9⟩, hS.F ht9⟩) hS.2.2 dX2_residual_50
    · have q1 : ¬ (wh = 0 ∨ wh = 1) := hq2
      refine lv_if_ne (tgt := 18) hx hb dX2_residual_11 (by decide) (fun h9 => absurd h9 (by decide)) (fun _ => ?_)
      refine lv_ldc2 hx hb hown (hts (.constantLong RX2 87 (-4611686018427387904)) mbX2_residual_2) dX2_residual_14 ?_
      exact W.lret (v := (-4611686018427387904)) hx hb hr (fun t9 ht9 hW9 => ⟨⟨_, (), rfl, (by unfold resF; rw [if_neg c1, if_neg (fun h9 => q1 (Or.inl h9)), if_neg (fun h9 => q1 (Or.inr h9))]), ht9⟩, hS.F ht9⟩) hS.2.2 dX2_residual_17

set_option maxRecDepth 20000 in
theorem miX2_curve_X2 : ∀ w ∈ u_ws RX2 TX2 6, w ∈ wsX2_curve := by decide +kernel
set_option maxRecDepth 20000 in
theorem mbX2_curve_1 : (.fieldLink RX2 10 "SectionFibres" "section" "LSectionFibres$Section;" : Cond) ∈ wsX2_curve := by decide +kernel
set_option maxRecDepth 20000 in
theorem mbX2_curve_2 : (.initialized RX1 : Cond) ∈ wsX2_curve := by decide +kernel
set_option maxRecDepth 20000 in
theorem mbX2_curve_3 : (.instanceMethod yX1_balanceOf : Cond) ∈ wsX2_curve := by decide +kernel
set_option maxRecDepth 20000 in
theorem mbX2_curve_4 : (.selects RX1 yX1_balanceOf yX1_balanceOf : Cond) ∈ wsX2_curve := by decide +kernel
set_option maxRecDepth 20000 in
theorem mbX2_curve_5 : (.constant RX2 43 (-1000000) : Cond) ∈ wsX2_curve := by decide +kernel
set_option maxRecDepth 20000 in
theorem mbX2_curve_6 : (.instanceMethod yX1_sumOf : Cond) ∈ wsX2_curve := by decide +kernel
set_option maxRecDepth 20000 in
theorem mbX2_curve_7 : (.selects RX1 yX1_sumOf yX1_sumOf : Cond) ∈ wsX2_curve := by decide +kernel
set_option maxRecDepth 20000 in
theorem mbX2_curve_8 : (.constantLong RX2 87 (-4611686018427387904) : Cond) ∈ wsX2_curve := by decide +kernel
set_option maxHeartbeats 4000000 in
set_option maxRecDepth 100000 in
theorem c_X2_curve (l : Launch) (dC : Nat → ClassId) (dI : Nat → Nat → Nat) (cA : ClassId) (H : Heap) (A : Nat → Nat) (g : Gg) (n : Nat) (hs pe pk : Int32) (fo mo : Int64) (hP : va_P (dC, dI) vwCl (wC cA A g n hs pe pk fo mo) H) (hg : InvG g) (hn : n ≤ 41) (fr : Int64) (sp kq : Int32) : Met l yX2_curve wsX2_curve ({ frames := 5, cells := 0, slots := 0, locals := 129 }) (rd_P [.ref (A 0), .long fr, .int sp, .int kq] H (dC, dI) vwCl [(cA, .int)]) (rd_Ql H (fun r => r = curF g n fr sp kq)) 0 0 nF := by
  refine Met.ofW (cc := cX2_curve) (maxL := 6) (ret := (some .long)) (by decide) rfl ?_
  intro p e s m args below meth c s₁ B hml hv
  obtain ⟨rfl, hH, hK, hN⟩ := hv
  subst hH
  have hx := B.exec
  have hb := B.bytes
  have hr := B.returns
  have hts := atoms_spec (ws := wsX2_curve) B.pre
  have hown : s.vm.findClass RX2 = some m.cls := findClass_of_methodNamed B.named
  have hlocks := B.notSynchronized
  have hS : va_S nF s.heap s.heap [] := va_S.rf
  have hl := lv_entry ([.ref (A 0), .long fr, .int sp, .int kq]) (n := 6) (Nat.le_of_ble_eq_true rfl)
  rw [lg_entry_eq]
  generalize (lg_sl ([.ref (A 0), .long fr, .int sp, .int kq]) ++ List.replicate (6 - (lg_sl ([.ref (A 0), .long fr, .int sp, .int kq])).length) Slot.unset).toArray = ls at hl ⊢
  have hl : lv_has ls 6 [(0, .ref (A 0)), (1, .long fr), (3, .int sp), (4, .int kq)] := hl
  refine lv_iload_n hx hb dX2_curve_0 rfl (lv_at hl 2 rfl) ?_
  refine rd_i (va_runS (As := [.int sp]) (rest := []) ⟨hx, hb, hml, hown, hts⟩ (c_X2_isBendStep l dC dI cA s.heap sp) (va_cwS 1 hts gX2_curve_X2_isBendStep rfl rfl rfl (by decide +kernel) ⟨Nat.le_of_ble_eq_true rfl, Nat.le_of_ble_eq_true rfl⟩) ⟨rd_bl, rd_pre hK hN⟩ rfl rfl hl.1 rfl (lv_room (Nat.le_of_ble_eq_true rfl)) dX2_curve_1 ⟨Nat.zero_le _, Nat.zero_le _⟩) hS (fun r1 locs hq2 hS => ?_)
  rcases hq2 with ⟨hq2, rfl⟩ | ⟨hq2, rfl⟩
  · have q1 : rg sp 1 1000 := hq2
    refine lv_if_eq (tgt := 18) hx hb dX2_curve_4 (by decide) (fun h9 => absurd h9 (by decide)) (fun _ => ?_)
    refine lv_iload hx hb dX2_curve_7 (lv_at hl 3 rfl) ?_
    refine lv_iconst (v := 0) hx hb dX2_curve_9 (by decide) ?_
    refine lv_bipush (v := 20) hx hb dX2_curve_10 (by decide) ?_
    refine rd_i (va_runS (As := [.int kq, .int 0, .int 20]) (rest := []) ⟨hx, hb, hml, hown, hts⟩ (c_X2_within l dC dI cA s.heap kq 0 20 0 20 (by decide) (by decide)) (va_cwS 3 hts gX2_curve_X2_within rfl rfl rfl (by decide +kernel) ⟨Nat.le_of_ble_eq_true rfl, Nat.le_of_ble_eq_true rfl⟩) ⟨rd_bl, rd_pre hK hN⟩ rfl rfl hl.1 rfl (lv_room (Nat.le_of_ble_eq_true rfl)) dX2_curve_12 ⟨Nat.zero_le _, Nat.zero_le _⟩) hS (fun r3 locs hq4 hS => ?_)
    rcases hq4 with ⟨hq4, rfl⟩ | ⟨hq4, rfl⟩
    · have q2 : rg kq 0 20 := hq4
      refine lv_if_ne (tgt := 22) hx hb dX2_curve_15 (by decide) (fun _ => ?_) (fun h9 => absurd h9 (by decide))
      refine lv_aload_n hx hb dX2_curve_22 rfl (lv_at hl 0 rfl) ?_
      refine va_get (D := (dC, dI)) (ci := 3) (v := .ref (A 1)) (C := RX2) (T := TX2) (N := 6) hx hb hts miX2_curve_X2 hown hK hP 0 rfl rfl 0 (by decide) (hts (.fieldLink RX2 10 "SectionFibres" "section" "LSectionFibres$Section;") mbX2_curve_1) (fun _ h9 => h9) rfl dX2_curve_23 ?_
      refine lv_lload_n hx hb dX2_curve_26 rfl (lv_at hl 1 rfl) ?_
      refine lv_iload hx hb dX2_curve_27 (lv_at hl 3 rfl) ?_
      refine lv_iload_n hx hb dX2_curve_29 rfl (lv_at hl 2 rfl) ?_
      refine lv_imul hx hb dX2_curve_30 ?_
      refine rd_i (va_runVN (As := [.long fr, .int (kq * sp)]) (rest := []) ⟨hx, hb, hml, hown, hts⟩ (c_X1_balanceOf l dC dI cA s.heap A g n hs pe pk fo mo hP hg hn fr (kq * sp)) ⟨(va_cnB 2 hts gX2_curve_X1_balanceOf_n93 rfl rfl rfl (hN (.methodLinkNest RX2 93 yX1_balanceOf "SectionFibres") (List.mem_of_getElem? (i := 10) rfl)) (hts (.initialized RX1) mbX2_curve_2) (by decide +kernel) ⟨Nat.le_of_ble_eq_true rfl, Nat.le_of_ble_eq_true rfl⟩), hts (.instanceMethod yX1_balanceOf) mbX2_curve_3, hts (.selects RX1 yX1_balanceOf yX1_balanceOf) mbX2_curve_4⟩ ⟨rd_bl, va_recv hK hP (ci := 2) (q0 := 1) rfl rfl, rd_pre hK hN⟩ rfl rfl hl.1 rfl (lv_room (Nat.le_of_ble_eq_true rfl)) dX2_curve_31 ⟨Nat.zero_le _, Nat.zero_le _⟩) hS (fun r5 locs hq6 hS => ?_)
      have hq6 : r5 = blF g n fr (kq * sp) := hq6
      subst hq6
      refine lv_istore (lv' := [(5, .int (blF g n fr (kq * sp))), (0, .ref (A 0)), (1, .long fr), (3, .int sp), (4, .int kq)]) hx hb dX2_curve_34 hl (by decide) rfl (fun ls hl => ?_)
      refine lv_iload hx hb dX2_curve_36 (lv_at hl 0 rfl) ?_
      refine lv_ldc hx hb hown (hts (.constant RX2 43 (-1000000)) mbX2_curve_5) dX2_curve_38 ?_
      refine lv_icmp_ne (tgt := 49) hx hb dX2_curve_40 (by decide) (fun c1 => ?_) (fun c1 => ?_)
      · refine lv_aload_n hx hb dX2_curve_49 rfl (lv_at hl 1 rfl) ?_
        refine va_get (D := (dC, dI)) (ci := 3) (v := .ref (A 1)) (C := RX2) (T := TX2) (N := 6) hx hb hts miX2_curve_X2 hown hK hP 0 rfl rfl 0 (by decide) (hts (.fieldLink RX2 10 "SectionFibres" "section" "LSectionFibres$Section;") mbX2_curve_1) (fun _ h9 => h9) rfl dX2_curve_50 ?_
        refine lv_iconst (v := 1) hx hb dX2_curve_53 (by decide) ?_
        refine lv_iload hx hb dX2_curve_54 (lv_at hl 0 rfl) ?_
        refine lv_iload hx hb dX2_curve_56 (lv_at hl 4 rfl) ?_
        refine lv_iload_n hx hb dX2_curve_58 rfl (lv_at hl 3 rfl) ?_
        refine lv_imul hx hb dX2_curve_59 ?_
        refine rd_l (va_runVN (As := [.int 1, .int (blF g n fr (kq * sp)), .int (kq * sp)]) (rest := []) ⟨hx, hb, hml, hown, hts⟩ (c_X1_sumOf l dC dI cA s.heap A g n hs pe pk fo mo hP hg hn true 1 (by decide) (blF g n fr (kq * sp)) (kq * sp)) ⟨(va_cnB 3 hts gX2_curve_X1_sumOf_n89 rfl rfl rfl (hN (.methodLinkNest RX2 89 yX1_sumOf "SectionFibres") (List.mem_of_getElem? (i := 6) rfl)) (hts (.initialized RX1) mbX2_curve_2) (by decide +kernel) ⟨Nat.le_of_ble_eq_true rfl, Nat.le_of_ble_eq_true rfl⟩), hts (.instanceMethod yX1_sumOf) mbX2_curve_6, hts (.selects RX1 yX1_sumOf yX1_sumOf) mbX2_curve_7⟩ ⟨rd_bl, va_recv hK hP (ci := 2) (q0 := 1) rfl rfl, rd_pre hK hN⟩ rfl rfl hl.1 rfl (lv_room (Nat.le_of_ble_eq_true rfl)) dX2_curve_60 ⟨Nat.zero_le _, Nat.zero_le _⟩) hS (fun r7 locs hq8 hS => ?_)
        have hq8 : r7 = smF g true (blF g n fr (kq * sp)) (kq * sp) n := hq8
        subst hq8
        exact W.lret (v := (smF g true (blF g n fr (kq * sp)) (kq * sp) n)) hx hb hr (fun t9 ht9 hW9 => ⟨⟨_, (), rfl, (by unfold curF cvF; rw [if_pos ⟨q1, q2⟩, if_neg c1]), ht9⟩, hS.F ht9⟩) hS.2.2 dX2_curve_63
      · refine lv_ldc2 hx hb hown (hts (.constantLong RX2 87 (-4611686018427387904)) mbX2_curve_8) dX2_curve_43 ?_
        refine lv_goto (tgt := 63) hx hb dX2_curve_46 (by decide) ?_
        exact W.lret (v := (-4611686018427387904)) hx hb hr (fun t9 ht9 hW9 => ⟨⟨_, (), rfl, (by unfold curF cvF; rw [if_pos ⟨q1, q2⟩, if_pos c1]), ht9⟩, hS.F ht9⟩) hS.2.2 dX2_curve_63
    · have q2 : ¬ (rg kq 0 20) := hq4
      refine lv_if_ne (tgt := 22) hx hb dX2_curve_15 (by decide) (fun h9 => absurd h9 (by decide)) (fun _ => ?_)
      refine lv_ldc2 hx hb hown (hts (.constantLong RX2 87 (-4611686018427387904)) mbX2_curve_8) dX2_curve_18 ?_
      exact W.lret (v := (-4611686018427387904)) hx hb hr (fun t9 ht9 hW9 => ⟨⟨_, (), rfl, (by unfold curF; rw [if_neg (fun h9 => q2 h9.2)]), ht9⟩, hS.F ht9⟩) hS.2.2 dX2_curve_21
  · have q1 : ¬ (rg sp 1 1000) := hq2
    refine lv_if_eq (tgt := 18) hx hb dX2_curve_4 (by decide) (fun _ => ?_) (fun h9 => absurd h9 (by decide))
    refine lv_ldc2 hx hb hown (hts (.constantLong RX2 87 (-4611686018427387904)) mbX2_curve_8) dX2_curve_18 ?_
    exact W.lret (v := (-4611686018427387904)) hx hb hr (fun t9 ht9 hW9 => ⟨⟨_, (), rfl, (by unfold curF; rw [if_neg (fun h9 => q1 h9.1)]), ht9⟩, hS.F ht9⟩) hS.2.2 dX2_curve_21

set_option maxRecDepth 20000 in
theorem miX2_last_X2 : ∀ w ∈ u_ws RX2 TX2 6, w ∈ wsX2_last := by decide +kernel
set_option maxRecDepth 20000 in
theorem mbX2_last_1 : (.fieldLink RX2 10 "SectionFibres" "section" "LSectionFibres$Section;" : Cond) ∈ wsX2_last := by decide +kernel
set_option maxRecDepth 20000 in
theorem mbX2_last_2 : (.initialized RX1 : Cond) ∈ wsX2_last := by decide +kernel
set_option maxRecDepth 20000 in
theorem mbX2_last_3 : (.instanceMethod yX1_balanceOf : Cond) ∈ wsX2_last := by decide +kernel
set_option maxRecDepth 20000 in
theorem mbX2_last_4 : (.selects RX1 yX1_balanceOf yX1_balanceOf : Cond) ∈ wsX2_last := by decide +kernel
set_option maxRecDepth 20000 in
theorem mbX2_last_5 : (.constant RX2 43 (-1000000) : Cond) ∈ wsX2_last := by decide +kernel
set_option maxRecDepth 20000 in
theorem mbX2_last_6 : (.instanceMethod yX1_firstBeyond : Cond) ∈ wsX2_last := by decide +kernel
set_option maxRecDepth 20000 in
theorem mbX2_last_7 : (.selects RX1 yX1_firstBeyond yX1_firstBeyond : Cond) ∈ wsX2_last := by decide +kernel
set_option maxHeartbeats 4000000 in
set_option maxRecDepth 100000 in
theorem c_X2_last (l : Launch) (dC : Nat → ClassId) (dI : Nat → Nat → Nat) (cA : ClassId) (H : Heap) (A : Nat → Nat) (g : Gg) (n : Nat) (hs pe pk : Int32) (fo mo : Int64) (hP : va_P (dC, dI) vwCl (wC cA A g n hs pe pk fo mo) H) (hg : InvG g) (hn : n ≤ 41) (fr : Int64) (sp : Int32) : Met l yX2_last wsX2_last ({ frames := 5, cells := 0, slots := 0, locals := 129 }) (rd_P [.ref (A 0), .long fr, .int sp] H (dC, dI) vwCl [(cA, .int)]) (rd_Qi H (fun r => r = lasF g n fr sp)) 0 0 nF := by
  refine Met.ofW (cc := cX2_last) (maxL := 6) (ret := (some .int)) (by decide) rfl ?_
  intro p e s m args below meth c s₁ B hml hv
  obtain ⟨rfl, hH, hK, hN⟩ := hv
  subst hH
  have hx := B.exec
  have hb := B.bytes
  have hr := B.returns
  have hts := atoms_spec (ws := wsX2_last) B.pre
  have hown : s.vm.findClass RX2 = some m.cls := findClass_of_methodNamed B.named
  have hlocks := B.notSynchronized
  have hS : va_S nF s.heap s.heap [] := va_S.rf
  have hl := lv_entry ([.ref (A 0), .long fr, .int sp]) (n := 6) (Nat.le_of_ble_eq_true rfl)
  rw [lg_entry_eq]
  generalize (lg_sl ([.ref (A 0), .long fr, .int sp]) ++ List.replicate (6 - (lg_sl ([.ref (A 0), .long fr, .int sp])).length) Slot.unset).toArray = ls at hl ⊢
  have hl : lv_has ls 6 [(0, .ref (A 0)), (1, .long fr), (3, .int sp)] := hl
  refine lv_iload_n hx hb dX2_last_0 rfl (lv_at hl 2 rfl) ?_
  refine rd_i (va_runS (As := [.int sp]) (rest := []) ⟨hx, hb, hml, hown, hts⟩ (c_X2_isBendStep l dC dI cA s.heap sp) (va_cwS 1 hts gX2_last_X2_isBendStep rfl rfl rfl (by decide +kernel) ⟨Nat.le_of_ble_eq_true rfl, Nat.le_of_ble_eq_true rfl⟩) ⟨rd_bl, rd_pre hK hN⟩ rfl rfl hl.1 rfl (lv_room (Nat.le_of_ble_eq_true rfl)) dX2_last_1 ⟨Nat.zero_le _, Nat.zero_le _⟩) hS (fun r1 locs hq2 hS => ?_)
  rcases hq2 with ⟨hq2, rfl⟩ | ⟨hq2, rfl⟩
  · have q1 : rg sp 1 1000 := hq2
    refine lv_if_ne (tgt := 9) hx hb dX2_last_4 (by decide) (fun _ => ?_) (fun h9 => absurd h9 (by decide))
    refine lv_iconst (v := 0) hx hb dX2_last_9 (by decide) ?_
    refine tp_i (v := nI 0) (rfl) ?_
    refine lv_istore (lv' := [(4, .int (nI 0)), (0, .ref (A 0)), (1, .long fr), (3, .int sp)]) hx hb dX2_last_10 hl (by decide) rfl (fun ls hl => ?_)
    have lp : ∀ (z : Nat) (i : Nat) (locs : List Loc) (ls : Array Slot), i ≤ 21 → 22 ≤ i + z → lasF g n fr sp = laF g n fr sp (21 - i) i → va_S nF s.heap s.heap locs → lv_has ls 6 [(0, .ref (A 0)), (1, .long fr), (3, .int sp), (4, .int (nI i))] → W p l e (headSpec wsX2_last ({ frames := 5, cells := 0, slots := 0, locals := 129 })).room s m ([.ref (A 0), .long fr, .int sp]).toArray below meth c s.heap locs 0 0 (MQ below (rd_Qi s.heap (fun r => r = lasF g n fr sp)) ([.ref (A 0), .long fr, .int sp]).toArray s 0 0 nF) (F0 m 12 ls []) := by
      intro z
      induction z with
      | zero =>
        intro i locs ls h1 h2 hv hS hl
        exact absurd h2 (by omega)
      | succ z ih =>
        intro i locs ls h1 h2 hv hS hl
        refine lv_iload hx hb dX2_last_12 (lv_at hl 3 rfl) ?_
        refine lv_bipush (v := 20) hx hb dX2_last_14 (by decide) ?_
        refine tp_i (v := nI 20) (rfl) ?_
        refine lv_icmp_gt (tgt := 68) hx hb dX2_last_16 (by decide) (fun c2 => ?_) (fun c2 => ?_)
        · have hi : i = 21 := by have h9 := (nI_ltI (by omega) (by omega)).mp c2; omega
          refine lv_iconst (v := (-1)) hx hb dX2_last_68 (by decide) ?_
          exact W.iret (v := (-1)) hx hb hr (fun t9 ht9 hW9 => ⟨⟨_, (), rfl, (by rw [hv, hi]; rfl), ht9⟩, hS.F ht9⟩) hS.2.2 dX2_last_69
        · have hi : i ≤ 20 := by rcases Nat.lt_or_ge 20 i with h9 | h9; exact absurd (nI_lt h9 (by omega)) c2; exact h9
          refine lv_aload_n hx hb dX2_last_19 rfl (lv_at hl 0 rfl) ?_
          refine va_get (D := (dC, dI)) (ci := 3) (v := .ref (A 1)) (C := RX2) (T := TX2) (N := 6) hx hb hts miX2_last_X2 hown hK hP 0 rfl rfl 0 (by decide) (hts (.fieldLink RX2 10 "SectionFibres" "section" "LSectionFibres$Section;") mbX2_last_1) (fun _ h9 => h9) rfl dX2_last_20 ?_
          refine lv_lload_n hx hb dX2_last_23 rfl (lv_at hl 1 rfl) ?_
          refine lv_iload hx hb dX2_last_24 (lv_at hl 3 rfl) ?_
          refine lv_iload_n hx hb dX2_last_26 rfl (lv_at hl 2 rfl) ?_
          refine lv_imul hx hb dX2_last_27 ?_
          refine rd_i (va_runVN (As := [.long fr, .int ((nI i) * sp)]) (rest := []) ⟨hx, hb, hml, hown, hts⟩ (c_X1_balanceOf l dC dI cA s.heap A g n hs pe pk fo mo hP hg hn fr ((nI i) * sp)) ⟨(va_cnB 2 hts gX2_last_X1_balanceOf_n93 rfl rfl rfl (hN (.methodLinkNest RX2 93 yX1_balanceOf "SectionFibres") (List.mem_of_getElem? (i := 10) rfl)) (hts (.initialized RX1) mbX2_last_2) (by decide +kernel) ⟨Nat.le_of_ble_eq_true rfl, Nat.le_of_ble_eq_true rfl⟩), hts (.instanceMethod yX1_balanceOf) mbX2_last_3, hts (.selects RX1 yX1_balanceOf yX1_balanceOf) mbX2_last_4⟩ ⟨rd_bl, va_recv hK hP (ci := 2) (q0 := 1) rfl rfl, rd_pre hK hN⟩ rfl rfl hl.1 rfl (lv_room (Nat.le_of_ble_eq_true rfl)) dX2_last_28 ⟨Nat.zero_le _, Nat.zero_le _⟩) hS (fun r3 locs hq4 hS => ?_)
          have hq4 : r3 = blF g n fr ((nI i) * sp) := hq4
          subst hq4
          refine lv_istore (lv' := [(5, .int (blF g n fr ((nI i) * sp))), (0, .ref (A 0)), (1, .long fr), (3, .int sp), (4, .int (nI i))]) hx hb dX2_last_31 hl (by decide) rfl (fun ls hl => ?_)
          refine lv_iload hx hb dX2_last_33 (lv_at hl 0 rfl) ?_
          refine lv_ldc hx hb hown (hts (.constant RX2 43 (-1000000)) mbX2_last_5) dX2_last_35 ?_
          refine lv_icmp_ne (tgt := 42) hx hb dX2_last_37 (by decide) (fun c3 => ?_) (fun c3 => ?_)
          · refine lv_aload_n hx hb dX2_last_42 rfl (lv_at hl 1 rfl) ?_
            refine va_get (D := (dC, dI)) (ci := 3) (v := .ref (A 1)) (C := RX2) (T := TX2) (N := 6) hx hb hts miX2_last_X2 hown hK hP 0 rfl rfl 0 (by decide) (hts (.fieldLink RX2 10 "SectionFibres" "section" "LSectionFibres$Section;") mbX2_last_1) (fun _ h9 => h9) rfl dX2_last_43 ?_
            refine lv_iload hx hb dX2_last_46 (lv_at hl 0 rfl) ?_
            refine lv_iload hx hb dX2_last_48 (lv_at hl 4 rfl) ?_
            refine lv_iload_n hx hb dX2_last_50 rfl (lv_at hl 3 rfl) ?_
            refine lv_imul hx hb dX2_last_51 ?_
            refine rd_i (va_runVN (As := [.int (blF g n fr ((nI i) * sp)), .int ((nI i) * sp)]) (rest := []) ⟨hx, hb, hml, hown, hts⟩ (c_X1_firstBeyond l dC dI cA s.heap A g n hs pe pk fo mo hP hg hn (blF g n fr ((nI i) * sp)) ((nI i) * sp)) ⟨(va_cnB 2 hts gX2_last_X1_firstBeyond_n116 rfl rfl rfl (hN (.methodLinkNest RX2 116 yX1_firstBeyond "SectionFibres") (List.mem_of_getElem? (i := 12) rfl)) (hts (.initialized RX1) mbX2_last_2) (by decide +kernel) ⟨Nat.le_of_ble_eq_true rfl, Nat.le_of_ble_eq_true rfl⟩), hts (.instanceMethod yX1_firstBeyond) mbX2_last_6, hts (.selects RX1 yX1_firstBeyond yX1_firstBeyond) mbX2_last_7⟩ ⟨rd_bl, va_recv hK hP (ci := 2) (q0 := 1) rfl rfl, rd_pre hK hN⟩ rfl rfl hl.1 rfl (lv_room (Nat.le_of_ble_eq_true rfl)) dX2_last_52 ⟨Nat.zero_le _, Nat.zero_le _⟩) hS (fun r5 locs hq6 hS => ?_)
            have hq6 : r5 = fbF g (blF g n fr ((nI i) * sp)) ((nI i) * sp) n 0 := hq6
            subst hq6
            refine lv_iconst (v := (-1)) hx hb dX2_last_55 (by decide) ?_
            refine lv_icmp_eq (tgt := 62) hx hb dX2_last_56 (by decide) (fun c4 => ?_) (fun c4 => ?_)
            · refine lv_iinc (v := nI (i + 1)) (lv' := [(4, .int (nI (i + 1))), (5, .int (blF g n fr ((nI i) * sp))), (0, .ref (A 0)), (1, .long fr), (3, .int sp)]) hx hb dX2_last_62 hl (k := 4) rfl (nI_1 i) (by decide) rfl (fun ls hl => ?_)
              refine lv_goto (tgt := 12) hx hb dX2_last_65 (by decide) ?_
              exact ih (i + 1) _ _ (by omega) (by omega) (by rw [hv, show 21 - i = (21 - (i + 1)) + 1 by omega, la_f c3 c4]) hS (lv_sub hl [2, 3, 4, 0] rfl)
            · refine lv_iload hx hb dX2_last_59 (lv_at hl 4 rfl) ?_
              exact W.iret (v := (nI i)) hx hb hr (fun t9 ht9 hW9 => ⟨⟨_, (), rfl, (by rw [hv, show 21 - i = (21 - (i + 1)) + 1 by omega, la_t c3 c4]), ht9⟩, hS.F ht9⟩) hS.2.2 dX2_last_61
          · refine lv_iconst (v := (-1)) hx hb dX2_last_40 (by decide) ?_
            exact W.iret (v := (-1)) hx hb hr (fun t9 ht9 hW9 => ⟨⟨_, (), rfl, (by rw [hv, show 21 - i = (21 - (i + 1)) + 1 by omega, la_0 c3]), ht9⟩, hS.F ht9⟩) hS.2.2 dX2_last_41
    exact lp 22 0 _ _ (by omega) (by omega) (by unfold lasF; rw [if_pos q1]) hS (lv_sub hl [1, 2, 3, 0] rfl)
  · have q1 : ¬ (rg sp 1 1000) := hq2
    refine lv_if_ne (tgt := 9) hx hb dX2_last_4 (by decide) (fun h9 => absurd h9 (by decide)) (fun _ => ?_)
    refine lv_iconst (v := (-1)) hx hb dX2_last_7 (by decide) ?_
    exact W.iret (v := (-1)) hx hb hr (fun t9 ht9 hW9 => ⟨⟨_, (), rfl, (by unfold lasF; rw [if_neg q1]), ht9⟩, hS.F ht9⟩) hS.2.2 dX2_last_8

theorem wh_2 {w : Int32} (h : rg w 2 5) : w - 2 = nI (w.toNatClampNeg - 2) := by
  have h1 := h.1
  have h2 := h.2
  have h3 : w.toInt.toNat = w.toNatClampNeg := rfl
  apply Int32.toInt_inj.1
  rw [sb32 (by rw [show (2 : Int32).toInt = 2 by decide]; omega) (by rw [show (2 : Int32).toInt = 2 by decide]; omega), show (2 : Int32).toInt = 2 by decide, nI_toInt (by omega)]
  omega

set_option maxRecDepth 20000 in
theorem miX2_count_X2 : ∀ w ∈ u_ws RX2 TX2 6, w ∈ wsX2_count := by decide +kernel
set_option maxRecDepth 20000 in
theorem mbX2_count_1 : (.fieldLink RX2 10 "SectionFibres" "section" "LSectionFibres$Section;" : Cond) ∈ wsX2_count := by decide +kernel
set_option maxRecDepth 20000 in
theorem miX2_count_X1 : ∀ w ∈ u_ws RX1 TX1 7, w ∈ wsX2_count := by decide +kernel
set_option maxRecDepth 20000 in
theorem miX2_count_X0 : ∀ w ∈ u_ws RX0 TX0 5, w ∈ wsX2_count := by decide +kernel
set_option maxRecDepth 20000 in
theorem mbX2_count_4 : (.initialized RX1 : Cond) ∈ wsX2_count := by decide +kernel
set_option maxRecDepth 20000 in
theorem mbX2_count_5 : (.instanceMethod yX1_allAreas : Cond) ∈ wsX2_count := by decide +kernel
set_option maxRecDepth 20000 in
theorem mbX2_count_6 : (.selects RX1 yX1_allAreas yX1_allAreas : Cond) ∈ wsX2_count := by decide +kernel
set_option maxHeartbeats 4000000 in
set_option maxRecDepth 100000 in
theorem c_X2_count (l : Launch) (dC : Nat → ClassId) (dI : Nat → Nat → Nat) (cA : ClassId) (H : Heap) (A : Nat → Nat) (g : Gg) (n : Nat) (hs pe pk : Int32) (fo mo : Int64) (hP : va_P (dC, dI) vwCl (wC cA A g n hs pe pk fo mo) H) (hg : InvG g) (hn : n ≤ 41) (wh : Int32) : Met l yX2_count wsX2_count ({ frames := 1, cells := 0, slots := 0, locals := 22 }) (rd_P [.ref (A 0), .int wh] H (dC, dI) vwCl [(cA, .int)]) (rd_Qi H (fun r => r = couF g n wh)) 0 0 nF := by
  refine Met.ofW (cc := cX2_count) (maxL := 2) (ret := (some .int)) (by decide) rfl ?_
  intro p e s m args below meth c s₁ B hml hv
  obtain ⟨rfl, hH, hK, hN⟩ := hv
  subst hH
  have hx := B.exec
  have hb := B.bytes
  have hr := B.returns
  have hts := atoms_spec (ws := wsX2_count) B.pre
  have hown : s.vm.findClass RX2 = some m.cls := findClass_of_methodNamed B.named
  have hlocks := B.notSynchronized
  have hS : va_S nF s.heap s.heap [] := va_S.rf
  have hl := lv_entry ([.ref (A 0), .int wh]) (n := 2) (Nat.le_of_ble_eq_true rfl)
  rw [lg_entry_eq]
  generalize (lg_sl ([.ref (A 0), .int wh]) ++ List.replicate (2 - (lg_sl ([.ref (A 0), .int wh])).length) Slot.unset).toArray = ls at hl ⊢
  have hl : lv_has ls 2 [(0, .ref (A 0)), (1, .int wh)] := hl
  refine lv_iload_n hx hb dX2_count_0 rfl (lv_at hl 1 rfl) ?_
  refine lv_if_ne (tgt := 12) hx hb dX2_count_1 (by decide) (fun c1 => ?_) (fun c1 => ?_)
  · refine lv_iload_n hx hb dX2_count_12 rfl (lv_at hl 1 rfl) ?_
    refine lv_iconst (v := 1) hx hb dX2_count_13 (by decide) ?_
    refine lv_icmp_ne (tgt := 25) hx hb dX2_count_14 (by decide) (fun c2 => ?_) (fun c2 => ?_)
    · refine lv_iload_n hx hb dX2_count_25 rfl (lv_at hl 1 rfl) ?_
      refine lv_iconst (v := 2) hx hb dX2_count_26 (by decide) ?_
      refine lv_iconst (v := 5) hx hb dX2_count_27 (by decide) ?_
      refine rd_i (va_runS (As := [.int wh, .int 2, .int 5]) (rest := []) ⟨hx, hb, hml, hown, hts⟩ (c_X2_within l dC dI cA s.heap wh 2 5 2 5 (by decide) (by decide)) (va_cwS 3 hts gX2_count_X2_within rfl rfl rfl (by decide +kernel) ⟨Nat.le_of_ble_eq_true rfl, Nat.le_of_ble_eq_true rfl⟩) ⟨rd_bl, rd_pre hK hN⟩ rfl rfl hl.1 rfl (lv_room (Nat.le_of_ble_eq_true rfl)) dX2_count_28 ⟨Nat.zero_le _, Nat.zero_le _⟩) hS (fun r1 locs hq2 hS => ?_)
      rcases hq2 with ⟨hq2, rfl⟩ | ⟨hq2, rfl⟩
      · have q1 : rg wh 2 5 := hq2
        refine lv_if_eq (tgt := 51) hx hb dX2_count_31 (by decide) (fun h9 => absurd h9 (by decide)) (fun _ => ?_)
        refine lv_aload_n hx hb dX2_count_34 rfl (lv_at hl 0 rfl) ?_
        refine va_get (D := (dC, dI)) (ci := 3) (v := .ref (A 1)) (C := RX2) (T := TX2) (N := 6) hx hb hts miX2_count_X2 hown hK hP 0 rfl rfl 0 (by decide) (hts (.fieldLink RX2 10 "SectionFibres" "section" "LSectionFibres$Section;") mbX2_count_1) (fun _ h9 => h9) rfl dX2_count_35 ?_
        refine va_getN (D := (dC, dI)) (ci := 2) (v := .ref (A 2)) (C := RX1) (T := TX1) (N := 7) hx hb hts miX2_count_X1 hown hK hP 1 rfl rfl 0 (by decide) (va_Nw.use rfl (hN (.fieldLinkNest RX2 45 "SectionFibres$Section" "kinds" "LSectionFibres$Kinds;" "SectionFibres") (List.mem_of_getElem? (i := 25) rfl))) (fun _ h9 => h9) rfl dX2_count_38 ?_
        refine va_getN (D := (dC, dI)) (ci := 1) (v := .ref (A 10)) (C := RX0) (T := TX0) (N := 5) hx hb hts miX2_count_X0 hown hK hP 2 rfl rfl 2 (by decide) (va_Nw.use rfl (hN (.fieldLinkNest RX2 142 "SectionFibres$Kinds" "points" "[I" "SectionFibres") (List.mem_of_getElem? (i := 20) rfl))) (fun _ h9 => h9) rfl dX2_count_41 ?_
        refine lv_iload_n hx hb dX2_count_44 rfl (lv_at hl 1 rfl) ?_
        refine lv_iconst (v := 2) hx hb dX2_count_45 (by decide) ?_
        refine lv_isub hx hb dX2_count_46 ?_
        refine tp_i (v := nI (wh.toNatClampNeg - 2)) (wh_2 q1) ?_
        refine ialn hx hb hK hP 10 0 rfl rfl (wh.toNatClampNeg - 2) (rfl) (by have h9 := q1.1; have h8 := q1.2; have h7 : wh.toInt.toNat = wh.toNatClampNeg := rfl; omega) (by decide) dX2_count_47 ?_
        refine lv_goto (tgt := 52) hx hb dX2_count_48 (by decide) ?_
        exact W.iret (v := (g 7 (wh.toNatClampNeg - 2))) hx hb hr (fun t9 ht9 hW9 => ⟨⟨_, (), rfl, (by unfold couF; rw [if_neg c1, if_neg c2, if_pos q1]), ht9⟩, hS.F ht9⟩) hS.2.2 dX2_count_52
      · have q1 : ¬ (rg wh 2 5) := hq2
        refine lv_if_eq (tgt := 51) hx hb dX2_count_31 (by decide) (fun _ => ?_) (fun h9 => absurd h9 (by decide))
        refine lv_iconst (v := (-1)) hx hb dX2_count_51 (by decide) ?_
        exact W.iret (v := (-1)) hx hb hr (fun t9 ht9 hW9 => ⟨⟨_, (), rfl, (by unfold couF; rw [if_neg c1, if_neg c2, if_neg q1]), ht9⟩, hS.F ht9⟩) hS.2.2 dX2_count_52
    · refine lv_aload_n hx hb dX2_count_17 rfl (lv_at hl 0 rfl) ?_
      refine va_get (D := (dC, dI)) (ci := 3) (v := .ref (A 1)) (C := RX2) (T := TX2) (N := 6) hx hb hts miX2_count_X2 hown hK hP 0 rfl rfl 0 (by decide) (hts (.fieldLink RX2 10 "SectionFibres" "section" "LSectionFibres$Section;") mbX2_count_1) (fun _ h9 => h9) rfl dX2_count_18 ?_
      refine rd_i (va_runVN (As := []) (rest := []) ⟨hx, hb, hml, hown, hts⟩ (c_X1_allAreas l dC dI cA s.heap A g n hs pe pk fo mo hP hn) ⟨(va_cnB 0 hts gX2_count_X1_allAreas_n138 rfl rfl rfl (hN (.methodLinkNest RX2 138 yX1_allAreas "SectionFibres") (List.mem_of_getElem? (i := 16) rfl)) (hts (.initialized RX1) mbX2_count_4) (by decide +kernel) ⟨Nat.le_of_ble_eq_true rfl, Nat.le_of_ble_eq_true rfl⟩), hts (.instanceMethod yX1_allAreas) mbX2_count_5, hts (.selects RX1 yX1_allAreas yX1_allAreas) mbX2_count_6⟩ ⟨rd_bl, va_recv hK hP (ci := 2) (q0 := 1) rfl rfl, rd_pre hK hN⟩ rfl rfl hl.1 rfl (lv_room (Nat.le_of_ble_eq_true rfl)) dX2_count_21 ⟨Nat.zero_le _, Nat.zero_le _⟩) hS (fun r3 locs hq4 hS => ?_)
      have hq4 : r3 = arF g n := hq4
      subst hq4
      exact W.iret (v := (arF g n)) hx hb hr (fun t9 ht9 hW9 => ⟨⟨_, (), rfl, (by unfold couF; rw [if_neg c1, if_pos c2]), ht9⟩, hS.F ht9⟩) hS.2.2 dX2_count_24
  · refine lv_aload_n hx hb dX2_count_4 rfl (lv_at hl 0 rfl) ?_
    refine va_get (D := (dC, dI)) (ci := 3) (v := .ref (A 1)) (C := RX2) (T := TX2) (N := 6) hx hb hts miX2_count_X2 hown hK hP 0 rfl rfl 0 (by decide) (hts (.fieldLink RX2 10 "SectionFibres" "section" "LSectionFibres$Section;") mbX2_count_1) (fun _ h9 => h9) rfl dX2_count_5 ?_
    refine va_getN (D := (dC, dI)) (ci := 2) (v := .int (nI n)) (C := RX1) (T := TX1) (N := 7) hx hb hts miX2_count_X1 hown hK hP 1 rfl rfl 6 (by decide) (va_Nw.use rfl (hN (.fieldLinkNest RX2 28 "SectionFibres$Section" "size" "I" "SectionFibres") (List.mem_of_getElem? (i := 28) rfl))) (fun _ h9 => h9) rfl dX2_count_8 ?_
    exact W.iret (v := (nI n)) hx hb hr (fun t9 ht9 hW9 => ⟨⟨_, (), rfl, (by unfold couF; rw [if_pos c1]), ht9⟩, hS.F ht9⟩) hS.2.2 dX2_count_11
end
section
set_option maxRecDepth 20000 in
theorem miX2_needed_X2 : ∀ w ∈ u_ws RX2 TX2 6, w ∈ wsX2_needed := by decide +kernel
set_option maxRecDepth 20000 in
theorem mbX2_needed_1 : (.fieldLink RX2 10 "SectionFibres" "section" "LSectionFibres$Section;" : Cond) ∈ wsX2_needed := by decide +kernel
set_option maxRecDepth 20000 in
theorem mbX2_needed_2 : (.initialized RX1 : Cond) ∈ wsX2_needed := by decide +kernel
set_option maxRecDepth 20000 in
theorem mbX2_needed_3 : (.instanceMethod yX1_add : Cond) ∈ wsX2_needed := by decide +kernel
set_option maxRecDepth 20000 in
theorem mbX2_needed_4 : (.selects RX1 yX1_add yX1_add : Cond) ∈ wsX2_needed := by decide +kernel
set_option maxRecDepth 20000 in
theorem mbX2_needed_5 : (.instanceMethod yX1_dropLast : Cond) ∈ wsX2_needed := by decide +kernel
set_option maxRecDepth 20000 in
theorem mbX2_needed_6 : (.selects RX1 yX1_dropLast yX1_dropLast : Cond) ∈ wsX2_needed := by decide +kernel
set_option maxRecDepth 20000 in
theorem mbX2_needed_7 : (.instanceMethod yX1_setLastArea : Cond) ∈ wsX2_needed := by decide +kernel
set_option maxRecDepth 20000 in
theorem mbX2_needed_8 : (.selects RX1 yX1_setLastArea yX1_setLastArea : Cond) ∈ wsX2_needed := by decide +kernel
set_option maxRecDepth 20000 in
theorem mbX2_needed_9 : (.instanceMethod yX1_bendFor : Cond) ∈ wsX2_needed := by decide +kernel
set_option maxRecDepth 20000 in
theorem mbX2_needed_10 : (.selects RX1 yX1_bendFor yX1_bendFor : Cond) ∈ wsX2_needed := by decide +kernel
set_option maxHeartbeats 4000000 in
set_option maxRecDepth 100000 in
theorem c_X2_needed (l : Launch) (dC : Nat → ClassId) (dI : Nat → Nat → Nat) (cA : ClassId) (H : Heap) (A : Nat → Nat) (g : Gg) (n : Nat) (hs pe pk : Int32) (fo mo : Int64) (hP : va_P (dC, dI) vwCl (wC cA A g n hs pe pk fo mo) H) (hD : va_D (fun _ => True) (wC cA A g n hs pe pk fo mo)) (hg : InvG g) (hn : n ≤ 40) (a b d : Int32) (fr mv : Int64) : Met l yX2_needed wsX2_needed ({ frames := 6, cells := 0, slots := 0, locals := 158 }) (rd_P [.ref (A 0), .int a, .int b, .int d, .long fr, .long mv] H (dC, dI) vwCl [(cA, .int)]) (va_Qi (fun (r : Int32) (u : St) => (r, u) = nedF (g, n, hs, pe, pk, fo, mo) a b d fr mv) (fun u t => bC dC dI cA A u t.heap) (va_A (wC cA A g n hs pe pk fo mo) H.size)) 0 0 (va_A (wC cA A g n hs pe pk fo mo) H.size) := by
  refine Met.ofW (cc := cX2_needed) (maxL := 10) (ret := (some .int)) (by decide) rfl ?_
  intro p e s m args below meth c s₁ B hml hv
  obtain ⟨rfl, hH, hK, hN⟩ := hv
  subst hH
  have hx := B.exec
  have hb := B.bytes
  have hr := B.returns
  have hts := atoms_spec (ws := wsX2_needed) B.pre
  have hown : s.vm.findClass RX2 = some m.cls := findClass_of_methodNamed B.named
  have hlocks := B.notSynchronized
  have hD := hD.self (sz := s.heap.size)
  generalize hAe : va_A (wC cA A g n hs pe pk fo mo) s.heap.size = Av at hD ⊢
  have hA : ∀ q : Nat, s.heap.size ≤ q → Av q := fun q h => by rw [← hAe]; exact Or.inr h
  have hS : va_S Av s.heap s.heap [] := va_S.rf
  have hl := lv_entry ([.ref (A 0), .int a, .int b, .int d, .long fr, .long mv]) (n := 10) (Nat.le_of_ble_eq_true rfl)
  rw [lg_entry_eq]
  generalize (lg_sl ([.ref (A 0), .int a, .int b, .int d, .long fr, .long mv]) ++ List.replicate (10 - (lg_sl ([.ref (A 0), .int a, .int b, .int d, .long fr, .long mv])).length) Slot.unset).toArray = ls at hl ⊢
  have hl : lv_has ls 10 [(0, .ref (A 0)), (1, .int a), (2, .int b), (3, .int d), (4, .long fr), (6, .long mv)] := hl
  refine lv_iload_n hx hb dX2_needed_0 rfl (lv_at hl 1 rfl) ?_
  refine rd_i (va_runS (As := [.int a]) (rest := []) ⟨hx, hb, hml, hown, hts⟩ (c_X2_isPlace l dC dI cA s.heap a) (va_cwS 1 hts gX2_needed_X2_isPlace rfl rfl rfl (by decide +kernel) ⟨Nat.le_of_ble_eq_true rfl, Nat.le_of_ble_eq_true rfl⟩) ⟨rd_bl, rd_pre hK hN⟩ rfl rfl hl.1 rfl (lv_room (Nat.le_of_ble_eq_true rfl)) dX2_needed_1 ⟨Nat.zero_le _, Nat.zero_le _⟩) hS (fun r1 locs hq2 hS => ?_)
  rcases hq2 with ⟨hq2, rfl⟩ | ⟨hq2, rfl⟩
  · have q1 : rg a (-2000) 2000 := hq2
    refine lv_if_eq (tgt := 25) hx hb dX2_needed_4 (by decide) (fun h9 => absurd h9 (by decide)) (fun _ => ?_)
    refine lv_iload_n hx hb dX2_needed_7 rfl (lv_at hl 2 rfl) ?_
    refine rd_i (va_runS (As := [.int b]) (rest := []) ⟨hx, hb, hml, hown, hts⟩ (c_X2_isKind l dC dI cA s.heap b) (va_cwS 1 hts gX2_needed_X2_isKind rfl rfl rfl (by decide +kernel) ⟨Nat.le_of_ble_eq_true rfl, Nat.le_of_ble_eq_true rfl⟩) ⟨rd_bl, rd_pre hK hN⟩ rfl rfl hl.1 rfl (lv_room (Nat.le_of_ble_eq_true rfl)) dX2_needed_8 ⟨Nat.zero_le _, Nat.zero_le _⟩) hS (fun r3 locs hq4 hS => ?_)
    rcases hq4 with ⟨hq4, rfl⟩ | ⟨hq4, rfl⟩
    · have q2 : rg b 0 3 := hq4
      refine lv_if_eq (tgt := 25) hx hb dX2_needed_11 (by decide) (fun h9 => absurd h9 (by decide)) (fun _ => ?_)
      refine lv_iload_n hx hb dX2_needed_14 rfl (lv_at hl 3 rfl) ?_
      refine lv_iconst (v := 1) hx hb dX2_needed_15 (by decide) ?_
      refine lv_sipush (v := 5000) hx hb dX2_needed_16 (by decide) ?_
      refine rd_i (va_runS (As := [.int d, .int 1, .int 5000]) (rest := []) ⟨hx, hb, hml, hown, hts⟩ (c_X2_within l dC dI cA s.heap d 1 5000 1 5000 (by decide) (by decide)) (va_cwS 3 hts gX2_needed_X2_within rfl rfl rfl (by decide +kernel) ⟨Nat.le_of_ble_eq_true rfl, Nat.le_of_ble_eq_true rfl⟩) ⟨rd_bl, rd_pre hK hN⟩ rfl rfl hl.1 rfl (lv_room (Nat.le_of_ble_eq_true rfl)) dX2_needed_19 ⟨Nat.zero_le _, Nat.zero_le _⟩) hS (fun r5 locs hq6 hS => ?_)
      rcases hq6 with ⟨hq6, rfl⟩ | ⟨hq6, rfl⟩
      · have q3 : rg d 1 5000 := hq6
        refine lv_if_ne (tgt := 27) hx hb dX2_needed_22 (by decide) (fun _ => ?_) (fun h9 => absurd h9 (by decide))
        refine lv_iconst (v := (-1)) hx hb dX2_needed_27 (by decide) ?_
        refine lv_istore (lv' := [(8, .int (-1)), (0, .ref (A 0)), (1, .int a), (2, .int b), (3, .int d), (4, .long fr), (6, .long mv)]) hx hb dX2_needed_28 hl (by decide) rfl (fun ls hl => ?_)
        refine lv_aload_n hx hb dX2_needed_30 rfl (lv_at hl 1 rfl) ?_
        refine va_get (D := (dC, dI)) (ci := 3) (v := .ref (A 1)) (C := RX2) (T := TX2) (N := 6) hx hb hts miX2_needed_X2 hown hK hP 0 rfl rfl 0 (by decide) (hts (.fieldLink RX2 10 "SectionFibres" "section" "LSectionFibres$Section;") mbX2_needed_1) (fun _ h9 => h9) rfl dX2_needed_31 ?_
        refine lv_iconst (v := 0) hx hb dX2_needed_34 (by decide) ?_
        refine lv_iload_n hx hb dX2_needed_35 rfl (lv_at hl 2 rfl) ?_
        refine lv_iload_n hx hb dX2_needed_36 rfl (lv_at hl 3 rfl) ?_
        have hFc := va_free (wc := (wC cA A g n hs pe pk fo mo)) hD hS hA [0, 1, 2, 3, 4, 5, 6, 7, 8, 9, 10, 11, 12] rfl
        refine mu_v (va_runVN (As := [.int 0, .int a, .int b]) (rest := []) ⟨hx, hb, hml, hown, hts⟩ (c_X1_add l dC dI cA s.heap A g n hs pe pk fo mo hP (hD.weaken (fun _ _ _ _ => trivial)) (by omega) 0 a b) ⟨(va_cnB 3 hts gX2_needed_X1_add_n32 rfl rfl rfl (hN (.methodLinkNest RX2 32 yX1_add "SectionFibres") (List.mem_of_getElem? (i := 2) rfl)) (hts (.initialized RX1) mbX2_needed_2) (by decide +kernel) ⟨Nat.le_of_ble_eq_true rfl, Nat.le_of_ble_eq_true rfl⟩), hts (.instanceMethod yX1_add) mbX2_needed_3, hts (.selects RX1 yX1_add yX1_add) mbX2_needed_4⟩ ⟨rd_bl, va_recv hK hP (ci := 2) (q0 := 1) rfl rfl, rd_pre hK hN⟩ rfl rfl hl.1 rfl (lv_room (Nat.le_of_ble_eq_true rfl)) dX2_needed_37 ⟨Nat.zero_le _, Nat.zero_le _⟩) hS hFc (fun u H locs hq hB hk hz hS => ?_)
        subst hq
        have hP : va_P (dC, dI) vwCl (wC cA A (layG g n 0 a b) (n + 1) hs pe pk fo mo) H := hB
        have hD : va_D Av (wC cA A (layG g n 0 a b) (n + 1) hs pe pk fo mo) := va_Dsame (by rfl) hD
        refine lv_iconst (v := 0) hx hb dX2_needed_40 (by decide) ?_
        refine tp_i (v := nI 0) (rfl) ?_
        refine lv_istore (lv' := [(9, .int (nI 0)), (8, .int (-1)), (0, .ref (A 0)), (1, .int a), (2, .int b), (3, .int d), (4, .long fr), (6, .long mv)]) hx hb dX2_needed_41 hl (by decide) rfl (fun ls hl => ?_)
        have lp : ∀ (z : Nat) (i : Nat) (lv : Int32) (ar : Int32) (H : Heap) (locs : List Loc) (ls : Array Slot), i ≤ 21 → 22 ≤ i + z → (lv = -1 ∧ neF g n a b d fr mv 21 0 0 = neF g n a b d fr mv (21 - i) i ar) ∨ (¬ lv = -1 ∧ neF g n a b d fr mv 21 0 0 = (lv, ar)) → va_P (dC, dI) vwCl (wC cA A (layG g n ar a b) (n + 1) hs pe pk fo mo) H → va_D Av (wC cA A (layG g n ar a b) (n + 1) hs pe pk fo mo) → va_S Av s.heap H locs → lv_has ls 10 [(0, .ref (A 0)), (1, .int a), (2, .int b), (3, .int d), (4, .long fr), (6, .long mv), (8, .int lv), (9, .int (nI i))] → W p l e (headSpec wsX2_needed ({ frames := 6, cells := 0, slots := 0, locals := 158 })).room s m ([.ref (A 0), .int a, .int b, .int d, .long fr, .long mv]).toArray below meth c H locs 0 0 (MQ below (va_Qi (fun (r : Int32) (u : St) => (r, u) = nedF (g, n, hs, pe, pk, fo, mo) a b d fr mv) (fun u t => bC dC dI cA A u t.heap) Av) ([.ref (A 0), .int a, .int b, .int d, .long fr, .long mv]).toArray s 0 0 Av) (F0 m 43 ls []) := by
          intro z
          induction z with
          | zero =>
            intro i lv ar H locs ls h1 h2 hv hP hD hS hl
            exact absurd h2 (by omega)
          | succ z ih =>
            intro i lv ar H locs ls h1 h2 hv hP hD hS hl
            refine lv_iload hx hb dX2_needed_43 (lv_at hl 7 rfl) ?_
            refine lv_bipush (v := 20) hx hb dX2_needed_45 (by decide) ?_
            refine tp_i (v := nI 20) (rfl) ?_
            refine lv_icmp_gt (tgt := 96) hx hb dX2_needed_47 (by decide) (fun c1 => ?_) (fun c1 => ?_)
            · have hi : i = 21 := by have h9 := (nI_ltI (by omega) (by omega)).mp c1; omega
              have hv : neF g n a b d fr mv 21 0 0 = (lv, ar) := by
                rcases hv with ⟨h8, h9⟩ | ⟨-, h9⟩
                · rw [h9, hi, h8]; rfl
                · exact h9
              refine lv_aload_n hx hb dX2_needed_96 rfl (lv_at hl 0 rfl) ?_
              refine va_get (D := (dC, dI)) (ci := 3) (v := .ref (A 1)) (C := RX2) (T := TX2) (N := 6) hx hb hts miX2_needed_X2 hown hK hP 0 rfl rfl 0 (by decide) (hts (.fieldLink RX2 10 "SectionFibres" "section" "LSectionFibres$Section;") mbX2_needed_1) (fun _ h9 => h9) rfl dX2_needed_97 ?_
              have hFc := va_free (wc := (wC cA A (layG g n ar a b) (n + 1) hs pe pk fo mo)) hD hS hA [0, 1, 2, 3, 4, 5, 6, 7, 8, 9, 10, 11, 12] rfl
              refine mu_v (va_runVN (As := []) (rest := []) ⟨hx, hb, hml, hown, hts⟩ (c_X1_dropLast l dC dI cA H A (layG g n ar a b) (n + 1) hs pe pk fo mo hP (hD.weaken (fun _ _ _ _ => trivial)) (by omega) (by omega)) ⟨(va_cnB 0 hts gX2_needed_X1_dropLast_n135 rfl rfl rfl (hN (.methodLinkNest RX2 135 yX1_dropLast "SectionFibres") (List.mem_of_getElem? (i := 15) rfl)) (hts (.initialized RX1) mbX2_needed_2) (by decide +kernel) ⟨Nat.le_of_ble_eq_true rfl, Nat.le_of_ble_eq_true rfl⟩), hts (.instanceMethod yX1_dropLast) mbX2_needed_5, hts (.selects RX1 yX1_dropLast yX1_dropLast) mbX2_needed_6⟩ ⟨rd_bl, va_recv hK hP (ci := 2) (q0 := 1) rfl rfl, rd_pre hK hN⟩ rfl rfl hl.1 rfl (lv_room (Nat.le_of_ble_eq_true rfl)) dX2_needed_100 ⟨Nat.zero_le _, Nat.zero_le _⟩) hS hFc (fun u H locs hq hB hk hz hS => ?_)
              subst hq
              have hP : va_P (dC, dI) vwCl (wC cA A (layG g n ar a b) n hs pe pk fo mo) H := hB
              have hD : va_D Av (wC cA A (layG g n ar a b) n hs pe pk fo mo) := va_Dsame (by rfl) hD
              refine lv_iload hx hb dX2_needed_103 (lv_at hl 6 rfl) ?_
              exact W.iret (v := lv) hx hb hr (fun t9 ht9 hW9 => ⟨⟨_, ((layG g n ar a b), n, hs, pe, pk, fo, mo), rfl, (((ned_t ⟨q1, q2, q3⟩).trans (by rw [hv])).symm), by dsimp only; rw [ht9]; exact hP⟩, hS.F ht9⟩) hS.2.2 dX2_needed_105
            · have hi : i ≤ 20 := by rcases Nat.lt_or_ge 20 i with h9 | h9; exact absurd (nI_lt h9 (by omega)) c1; exact h9
              refine lv_iload hx hb dX2_needed_50 (lv_at hl 6 rfl) ?_
              refine lv_iconst (v := (-1)) hx hb dX2_needed_52 (by decide) ?_
              refine lv_icmp_ne (tgt := 96) hx hb dX2_needed_53 (by decide) (fun c2 => ?_) (fun c2 => ?_)
              · have hv : neF g n a b d fr mv 21 0 0 = (lv, ar) := (hv.resolve_left (fun h9 => c2 h9.1)).2
                refine lv_aload_n hx hb dX2_needed_96 rfl (lv_at hl 0 rfl) ?_
                refine va_get (D := (dC, dI)) (ci := 3) (v := .ref (A 1)) (C := RX2) (T := TX2) (N := 6) hx hb hts miX2_needed_X2 hown hK hP 0 rfl rfl 0 (by decide) (hts (.fieldLink RX2 10 "SectionFibres" "section" "LSectionFibres$Section;") mbX2_needed_1) (fun _ h9 => h9) rfl dX2_needed_97 ?_
                have hFc := va_free (wc := (wC cA A (layG g n ar a b) (n + 1) hs pe pk fo mo)) hD hS hA [0, 1, 2, 3, 4, 5, 6, 7, 8, 9, 10, 11, 12] rfl
                refine mu_v (va_runVN (As := []) (rest := []) ⟨hx, hb, hml, hown, hts⟩ (c_X1_dropLast l dC dI cA H A (layG g n ar a b) (n + 1) hs pe pk fo mo hP (hD.weaken (fun _ _ _ _ => trivial)) (by omega) (by omega)) ⟨(va_cnB 0 hts gX2_needed_X1_dropLast_n135 rfl rfl rfl (hN (.methodLinkNest RX2 135 yX1_dropLast "SectionFibres") (List.mem_of_getElem? (i := 15) rfl)) (hts (.initialized RX1) mbX2_needed_2) (by decide +kernel) ⟨Nat.le_of_ble_eq_true rfl, Nat.le_of_ble_eq_true rfl⟩), hts (.instanceMethod yX1_dropLast) mbX2_needed_5, hts (.selects RX1 yX1_dropLast yX1_dropLast) mbX2_needed_6⟩ ⟨rd_bl, va_recv hK hP (ci := 2) (q0 := 1) rfl rfl, rd_pre hK hN⟩ rfl rfl hl.1 rfl (lv_room (Nat.le_of_ble_eq_true rfl)) dX2_needed_100 ⟨Nat.zero_le _, Nat.zero_le _⟩) hS hFc (fun u H locs hq hB hk hz hS => ?_)
                subst hq
                have hP : va_P (dC, dI) vwCl (wC cA A (layG g n ar a b) n hs pe pk fo mo) H := hB
                have hD : va_D Av (wC cA A (layG g n ar a b) n hs pe pk fo mo) := va_Dsame (by rfl) hD
                refine lv_iload hx hb dX2_needed_103 (lv_at hl 6 rfl) ?_
                exact W.iret (v := lv) hx hb hr (fun t9 ht9 hW9 => ⟨⟨_, ((layG g n ar a b), n, hs, pe, pk, fo, mo), rfl, (((ned_t ⟨q1, q2, q3⟩).trans (by rw [hv])).symm), by dsimp only; rw [ht9]; exact hP⟩, hS.F ht9⟩) hS.2.2 dX2_needed_105
              · have hv : neF g n a b d fr mv 21 0 0 = neF g n a b d fr mv (21 - i) i ar := (hv.resolve_right (fun h9 => h9.1 c2)).2
                refine lv_aload_n hx hb dX2_needed_56 rfl (lv_at hl 0 rfl) ?_
                refine va_get (D := (dC, dI)) (ci := 3) (v := .ref (A 1)) (C := RX2) (T := TX2) (N := 6) hx hb hts miX2_needed_X2 hown hK hP 0 rfl rfl 0 (by decide) (hts (.fieldLink RX2 10 "SectionFibres" "section" "LSectionFibres$Section;") mbX2_needed_1) (fun _ h9 => h9) rfl dX2_needed_57 ?_
                refine lv_iload hx hb dX2_needed_60 (lv_at hl 7 rfl) ?_
                refine lv_iload_n hx hb dX2_needed_62 rfl (lv_at hl 3 rfl) ?_
                refine lv_imul hx hb dX2_needed_63 ?_
                have hFc := va_free (wc := (wC cA A (layG g n ar a b) (n + 1) hs pe pk fo mo)) hD hS hA [0, 1, 2, 3, 4, 5, 6, 7, 8, 9, 10, 11, 12] rfl
                refine mu_v (va_runVN (As := [.int ((nI i) * d)]) (rest := []) ⟨hx, hb, hml, hown, hts⟩ (c_X1_setLastArea l dC dI cA H A (layG g n ar a b) (n + 1) hs pe pk fo mo hP (hD.weaken (fun _ _ _ _ => trivial)) (by omega) (by omega) ((nI i) * d)) ⟨(va_cnB 1 hts gX2_needed_X1_setLastArea_n131 rfl rfl rfl (hN (.methodLinkNest RX2 131 yX1_setLastArea "SectionFibres") (List.mem_of_getElem? (i := 14) rfl)) (hts (.initialized RX1) mbX2_needed_2) (by decide +kernel) ⟨Nat.le_of_ble_eq_true rfl, Nat.le_of_ble_eq_true rfl⟩), hts (.instanceMethod yX1_setLastArea) mbX2_needed_7, hts (.selects RX1 yX1_setLastArea yX1_setLastArea) mbX2_needed_8⟩ ⟨rd_bl, va_recv hK hP (ci := 2) (q0 := 1) rfl rfl, rd_pre hK hN⟩ rfl rfl hl.1 rfl (lv_room (Nat.le_of_ble_eq_true rfl)) dX2_needed_64 ⟨Nat.zero_le _, Nat.zero_le _⟩) hS hFc (fun u H locs hq hB hk hz hS => ?_)
                subst hq
                have hB : va_P (dC, dI) vwCl (wC cA A (setG (layG g n ar a b) 0 n (nI i * d)) (n + 1) hs pe pk fo mo) H := hB
                rw [lay_set] at hB
                have hP : va_P (dC, dI) vwCl (wC cA A (layG g n (nI i * d) a b) (n + 1) hs pe pk fo mo) H := hB
                have hD : va_D Av (wC cA A (layG g n (nI i * d) a b) (n + 1) hs pe pk fo mo) := va_Dsame (by rfl) hD
                refine lv_aload_n hx hb dX2_needed_67 rfl (lv_at hl 0 rfl) ?_
                refine va_get (D := (dC, dI)) (ci := 3) (v := .ref (A 1)) (C := RX2) (T := TX2) (N := 6) hx hb hts miX2_needed_X2 hown hK hP 0 rfl rfl 0 (by decide) (hts (.fieldLink RX2 10 "SectionFibres" "section" "LSectionFibres$Section;") mbX2_needed_1) (fun _ h9 => h9) rfl dX2_needed_68 ?_
                refine lv_lload hx hb dX2_needed_71 (lv_at hl 4 rfl) ?_
                refine lv_lload hx hb dX2_needed_73 (lv_at hl 5 rfl) ?_
                refine rd_i (va_runVN (As := [.long fr, .long mv]) (rest := []) ⟨hx, hb, hml, hown, hts⟩ (c_X1_bendFor l dC dI cA H A (layG g n (nI i * d) a b) (n + 1) hs pe pk fo mo hP (lay_inv hg q1.1 q1.2 (rg_in q2)) (by omega) fr mv) ⟨(va_cnB 2 hts gX2_needed_X1_bendFor_n97 rfl rfl rfl (hN (.methodLinkNest RX2 97 yX1_bendFor "SectionFibres") (List.mem_of_getElem? (i := 11) rfl)) (hts (.initialized RX1) mbX2_needed_2) (by decide +kernel) ⟨Nat.le_of_ble_eq_true rfl, Nat.le_of_ble_eq_true rfl⟩), hts (.instanceMethod yX1_bendFor) mbX2_needed_9, hts (.selects RX1 yX1_bendFor yX1_bendFor) mbX2_needed_10⟩ ⟨rd_bl, va_recv hK hP (ci := 2) (q0 := 1) rfl rfl, rd_pre hK hN⟩ rfl rfl hl.1 rfl (lv_room (Nat.le_of_ble_eq_true rfl)) dX2_needed_75 ⟨Nat.zero_le _, Nat.zero_le _⟩) hS (fun r11 locs hq12 hS => ?_)
                have hq12 : r11 = enF (slF (layG g n (nI i * d) a b) (n + 1) fr mv) := hq12
                subst hq12
                refine rd_i (va_runS (As := [.int (enF (slF (layG g n (nI i * d) a b) (n + 1) fr mv))]) (rest := []) ⟨hx, hb, hml, hown, hts⟩ (c_X2_isOfPlane l dC dI cA H (enF (slF (layG g n (nI i * d) a b) (n + 1) fr mv))) (va_cwS 1 hts gX2_needed_X2_isOfPlane rfl rfl rfl (by decide +kernel) ⟨Nat.le_of_ble_eq_true rfl, Nat.le_of_ble_eq_true rfl⟩) ⟨rd_bl, rd_pre hK hN⟩ rfl rfl hl.1 rfl (lv_room (Nat.le_of_ble_eq_true rfl)) dX2_needed_78 ⟨Nat.zero_le _, Nat.zero_le _⟩) hS (fun r13 locs hq14 hS => ?_)
                rcases hq14 with ⟨hq14, rfl⟩ | ⟨hq14, rfl⟩
                · have q4 : rg (enF (slF (layG g n (nI i * d) a b) (n + 1) fr mv)) (-20000) 20000 := hq14
                  refine lv_if_eq (tgt := 90) hx hb dX2_needed_81 (by decide) (fun h9 => absurd h9 (by decide)) (fun _ => ?_)
                  refine lv_iload hx hb dX2_needed_84 (lv_at hl 7 rfl) ?_
                  refine lv_iload_n hx hb dX2_needed_86 rfl (lv_at hl 3 rfl) ?_
                  refine lv_imul hx hb dX2_needed_87 ?_
                  refine lv_istore (lv' := [(8, .int ((nI i) * d)), (0, .ref (A 0)), (1, .int a), (2, .int b), (3, .int d), (4, .long fr), (6, .long mv), (9, .int (nI i))]) hx hb dX2_needed_88 hl (by decide) rfl (fun ls hl => ?_)
                  refine lv_iinc (v := nI (i + 1)) (lv' := [(9, .int (nI (i + 1))), (8, .int ((nI i) * d)), (0, .ref (A 0)), (1, .int a), (2, .int b), (3, .int d), (4, .long fr), (6, .long mv)]) hx hb dX2_needed_90 hl (k := 7) rfl (nI_1 i) (by decide) rfl (fun ls hl => ?_)
                  refine lv_goto (tgt := 43) hx hb dX2_needed_93 (by decide) ?_
                  exact ih (i + 1) (nI i * d) (nI i * d) H _ _ (by omega) (by omega) (Or.inr ⟨nis_1 (by omega) q3, by rw [hv, show 21 - i = (21 - (i + 1)) + 1 by omega, ne_t (en_rg.mp q4)]⟩) hP hD hS (lv_sub hl [2, 3, 4, 5, 6, 7, 1, 0] rfl)
                · have q4 : ¬ (rg (enF (slF (layG g n (nI i * d) a b) (n + 1) fr mv)) (-20000) 20000) := hq14
                  refine lv_if_eq (tgt := 90) hx hb dX2_needed_81 (by decide) (fun _ => ?_) (fun h9 => absurd h9 (by decide))
                  refine lv_iinc (v := nI (i + 1)) (lv' := [(9, .int (nI (i + 1))), (0, .ref (A 0)), (1, .int a), (2, .int b), (3, .int d), (4, .long fr), (6, .long mv), (8, .int lv)]) hx hb dX2_needed_90 hl (k := 7) rfl (nI_1 i) (by decide) rfl (fun ls hl => ?_)
                  refine lv_goto (tgt := 43) hx hb dX2_needed_93 (by decide) ?_
                  exact ih (i + 1) lv (nI i * d) H _ _ (by omega) (by omega) (Or.inl ⟨c2, by rw [hv, show 21 - i = (21 - (i + 1)) + 1 by omega, ne_f (fun h9 => q4 (en_rg.mpr h9))]⟩) hP hD hS (lv_sub hl [1, 2, 3, 4, 5, 6, 7, 0] rfl)
        exact lp 22 0 (-1) 0 H _ _ (by omega) (by omega) (Or.inl ⟨rfl, rfl⟩) hP hD hS (lv_sub hl [2, 3, 4, 5, 6, 7, 1, 0] rfl)
      · have q3 : ¬ (rg d 1 5000) := hq6
        refine lv_if_ne (tgt := 27) hx hb dX2_needed_22 (by decide) (fun h9 => absurd h9 (by decide)) (fun _ => ?_)
        refine lv_iconst (v := (-1)) hx hb dX2_needed_25 (by decide) ?_
        exact W.iret (v := (-1)) hx hb hr (fun t9 ht9 hW9 => ⟨⟨_, (g, n, hs, pe, pk, fo, mo), rfl, ((ned_f (fun h9 => q3 h9.2.2)).symm), by dsimp only; rw [ht9]; exact hP⟩, hS.F ht9⟩) hS.2.2 dX2_needed_26
    · have q2 : ¬ (rg b 0 3) := hq4
      refine lv_if_eq (tgt := 25) hx hb dX2_needed_11 (by decide) (fun _ => ?_) (fun h9 => absurd h9 (by decide))
      refine lv_iconst (v := (-1)) hx hb dX2_needed_25 (by decide) ?_
      exact W.iret (v := (-1)) hx hb hr (fun t9 ht9 hW9 => ⟨⟨_, (g, n, hs, pe, pk, fo, mo), rfl, ((ned_f (fun h9 => q2 h9.2.1)).symm), by dsimp only; rw [ht9]; exact hP⟩, hS.F ht9⟩) hS.2.2 dX2_needed_26
  · have q1 : ¬ (rg a (-2000) 2000) := hq2
    refine lv_if_eq (tgt := 25) hx hb dX2_needed_4 (by decide) (fun _ => ?_) (fun h9 => absurd h9 (by decide))
    refine lv_iconst (v := (-1)) hx hb dX2_needed_25 (by decide) ?_
    exact W.iret (v := (-1)) hx hb hr (fun t9 ht9 hW9 => ⟨⟨_, (g, n, hs, pe, pk, fo, mo), rfl, ((ned_f (fun h9 => q1 h9.1)).symm), by dsimp only; rw [ht9]; exact hP⟩, hS.F ht9⟩) hS.2.2 dX2_needed_26
end
section
abbrev Su : Type := St × Int32 × Int32 × Int32
/-- the reference's cells hold the state u -/
abbrev bR (dC : Nat → ClassId) (dI : Nat → Nat → Nat) (cA : ClassId) (Z : Nat → Nat) (u : Su) (H : Heap) : Prop := va_P (dC, dI) vwCl (wR cA Z u.1.1 u.1.2.1 u.2.1 u.1.2.2.1 u.1.2.2.2.1 u.1.2.2.2.2.1 u.1.2.2.2.2.2.1 u.1.2.2.2.2.2.2 u.2.2.1 u.2.2.2) H
theorem rg01 {v : Int32} : rg v 0 1 ↔ v = 0 ∨ v = 1 := by
  constructor
  · intro h
    have h1 := h.1
    have h2 := h.2
    rcases (show v.toInt = 0 ∨ v.toInt = 1 by omega) with h9 | h9
    · exact Or.inl (Int32.toInt_inj.1 h9)
    · exact Or.inr (Int32.toInt_inj.1 h9)
  · rintro (rfl | rfl)
    · exact ⟨by decide, by decide⟩
    · exact ⟨by decide, by decide⟩
theorem rg02 {v : Int32} : rg v 0 2 ↔ v = 0 ∨ v = 1 ∨ v = 2 := by
  constructor
  · intro h
    have h1 := h.1
    have h2 := h.2
    rcases (show v.toInt = 0 ∨ v.toInt = 1 ∨ v.toInt = 2 by omega) with h9 | h9 | h9
    · exact Or.inl (Int32.toInt_inj.1 h9)
    · exact Or.inr (Or.inl (Int32.toInt_inj.1 h9))
    · exact Or.inr (Or.inr (Int32.toInt_inj.1 h9))
  · rintro (rfl | rfl | rfl)
    · exact ⟨by decide, by decide⟩
    · exact ⟨by decide, by decide⟩
    · exact ⟨by decide, by decide⟩
theorem rg05 {v : Int32} : rg v 0 5 ↔ v = 0 ∨ v = 1 ∨ rg v 2 5 := by
  constructor
  · intro h
    have h1 := h.1
    have h2 := h.2
    rcases (show v.toInt = 0 ∨ v.toInt = 1 ∨ 2 ≤ v.toInt by omega) with h9 | h9 | h9
    · exact Or.inl (Int32.toInt_inj.1 h9)
    · exact Or.inr (Or.inl (Int32.toInt_inj.1 h9))
    · exact Or.inr (Or.inr ⟨h9, h2⟩)
  · rintro (rfl | rfl | h)
    · exact ⟨by decide, by decide⟩
    · exact ⟨by decide, by decide⟩
    · have h1 := h.1
      have h2 := h.2
      exact ⟨by omega, by omega⟩
theorem fb_lt {g : Gg} {e k : Int32} {n : Nat} (hn : n ≤ 41) : fbF g e k n 0 < 0 ↔ fbF g e k n 0 = -1 := by
  rw [Int32.lt_iff_toInt_lt, show (0 : Int32).toInt = 0 by decide]
  rcases fb_val (g := g) (e := e) (k := k) n 0 (by omega) with h | h
  · rw [h]; exact ⟨fun _ => rfl, fun _ => by decide⟩
  · constructor
    · intro h9; omega
    · intro h9; rw [h9]; decide

set_option maxRecDepth 20000 in
theorem miX3_lay_X3 : ∀ w ∈ u_ws RX3 TX3 19, w ∈ wsX3_lay := by decide +kernel
set_option maxRecDepth 20000 in
theorem mbX3_lay_1 : (.fieldLink RX3 7 "SectionFibresModel" "areas" "[I" : Cond) ∈ wsX3_lay := by decide +kernel
set_option maxRecDepth 20000 in
theorem mbX3_lay_2 : (.fieldLink RX3 13 "SectionFibresModel" "places" "[I" : Cond) ∈ wsX3_lay := by decide +kernel
set_option maxRecDepth 20000 in
theorem mbX3_lay_3 : (.fieldLink RX3 16 "SectionFibresModel" "kinds" "[I" : Cond) ∈ wsX3_lay := by decide +kernel
set_option maxRecDepth 20000 in
theorem mbX3_lay_4 : (.fieldLink RX3 19 "SectionFibresModel" "borns" "[I" : Cond) ∈ wsX3_lay := by decide +kernel
set_option maxRecDepth 20000 in
theorem mbX3_lay_5 : (.fieldLink RX3 22 "SectionFibresModel" "kept" "[I" : Cond) ∈ wsX3_lay := by decide +kernel
set_option maxHeartbeats 4000000 in
set_option maxRecDepth 100000 in
theorem c_X3_lay (l : Launch) (dC : Nat → ClassId) (dI : Nat → Nat → Nat) (cA : ClassId) (H : Heap) (Z : Nat → Nat) (g : Gg) (n : Nat) (th hs pe pk : Int32) (fo mo : Int64) (fE fK : Int32) (hP : va_P (dC, dI) vwCl (wR cA Z g n th hs pe pk fo mo fE fK) H) (hD : va_D (fun _ => True) (wR cA Z g n th hs pe pk fo mo fE fK)) (f : Nat) (hf : f < 41) (ar at_ kd : Int32) : Met l yX3_lay wsX3_lay ({ frames := 0, cells := 0, slots := 0, locals := 0 }) (rd_P [.ref (Z 0), .int (nI f), .int ar, .int at_, .int kd] H (dC, dI) vwCl [(cA, .int)]) (va_Qv (fun (u : Su) => u = ((layG g f ar at_ kd, n, hs, pe, pk, fo, mo), th, fE, fK)) (fun u t => bR dC dI cA Z u t.heap) (va_A (wR cA Z g n th hs pe pk fo mo fE fK) H.size)) 0 0 (va_A (wR cA Z g n th hs pe pk fo mo fE fK) H.size) := by
  refine Met.ofW (cc := cX3_lay) (maxL := 5) (ret := none) (by decide) rfl ?_
  intro p e s m args below meth c s₁ B hml hv
  obtain ⟨rfl, hH, hK, hN⟩ := hv
  subst hH
  have hx := B.exec
  have hb := B.bytes
  have hr := B.returns
  have hts := atoms_spec (ws := wsX3_lay) B.pre
  have hown : s.vm.findClass RX3 = some m.cls := findClass_of_methodNamed B.named
  have hlocks := B.notSynchronized
  have hD := hD.self (sz := s.heap.size)
  generalize hAe : va_A (wR cA Z g n th hs pe pk fo mo fE fK) s.heap.size = Av at hD ⊢
  have hA : ∀ q : Nat, s.heap.size ≤ q → Av q := fun q h => by rw [← hAe]; exact Or.inr h
  have hS : va_S Av s.heap s.heap [] := va_S.rf
  have hl := lv_entry ([.ref (Z 0), .int (nI f), .int ar, .int at_, .int kd]) (n := 5) (Nat.le_of_ble_eq_true rfl)
  rw [lg_entry_eq]
  generalize (lg_sl ([.ref (Z 0), .int (nI f), .int ar, .int at_, .int kd]) ++ List.replicate (5 - (lg_sl ([.ref (Z 0), .int (nI f), .int ar, .int at_, .int kd])).length) Slot.unset).toArray = ls at hl ⊢
  have hl : lv_has ls 5 [(0, .ref (Z 0)), (1, .int (nI f)), (2, .int ar), (3, .int at_), (4, .int kd)] := hl
  refine lv_aload_n hx hb dX3_lay_0 rfl (lv_at hl 0 rfl) ?_
  refine va_get (D := (dC, dI)) (ci := 4) (v := .ref (Z 1)) (C := RX3) (T := TX3) (N := 19) hx hb hts miX3_lay_X3 hown hK hP 0 rfl rfl 2 (by decide) (hts (.fieldLink RX3 7 "SectionFibresModel" "areas" "[I") mbX3_lay_1) (fun _ h9 => h9) rfl dX3_lay_1 ?_
  refine lv_iload_n hx hb dX3_lay_4 rfl (lv_at hl 1 rfl) ?_
  refine lv_iload_n hx hb dX3_lay_5 rfl (lv_at hl 2 rfl) ?_
  refine iasn hx hb hK hP hD hS 1 0 rfl rfl f (rfl) (by omega) (by decide) dX3_lay_6 (fun H locs hP hD hS => ?_)
  have hP : va_P (dC, dI) vwCl (wR cA Z (setG g 0 f ar) n th hs pe pk fo mo fE fK) H := hP
  have hD : va_D Av (wR cA Z (setG g 0 f ar) n th hs pe pk fo mo fE fK) := hD
  refine lv_aload_n hx hb dX3_lay_7 rfl (lv_at hl 0 rfl) ?_
  refine va_get (D := (dC, dI)) (ci := 4) (v := .ref (Z 2)) (C := RX3) (T := TX3) (N := 19) hx hb hts miX3_lay_X3 hown hK hP 0 rfl rfl 3 (by decide) (hts (.fieldLink RX3 13 "SectionFibresModel" "places" "[I") mbX3_lay_2) (fun _ h9 => h9) rfl dX3_lay_8 ?_
  refine lv_iload_n hx hb dX3_lay_11 rfl (lv_at hl 1 rfl) ?_
  refine lv_iload_n hx hb dX3_lay_12 rfl (lv_at hl 3 rfl) ?_
  refine iasn hx hb hK hP hD hS 2 0 rfl rfl f (rfl) (by omega) (by decide) dX3_lay_13 (fun H locs hP hD hS => ?_)
  have hP : va_P (dC, dI) vwCl (wR cA Z (setG (setG g 0 f ar) 1 f at_) n th hs pe pk fo mo fE fK) H := hP
  have hD : va_D Av (wR cA Z (setG (setG g 0 f ar) 1 f at_) n th hs pe pk fo mo fE fK) := hD
  refine lv_aload_n hx hb dX3_lay_14 rfl (lv_at hl 0 rfl) ?_
  refine va_get (D := (dC, dI)) (ci := 4) (v := .ref (Z 3)) (C := RX3) (T := TX3) (N := 19) hx hb hts miX3_lay_X3 hown hK hP 0 rfl rfl 4 (by decide) (hts (.fieldLink RX3 16 "SectionFibresModel" "kinds" "[I") mbX3_lay_3) (fun _ h9 => h9) rfl dX3_lay_15 ?_
  refine lv_iload_n hx hb dX3_lay_18 rfl (lv_at hl 1 rfl) ?_
  refine lv_iload hx hb dX3_lay_19 (lv_at hl 4 rfl) ?_
  refine iasn hx hb hK hP hD hS 3 0 rfl rfl f (rfl) (by omega) (by decide) dX3_lay_21 (fun H locs hP hD hS => ?_)
  have hP : va_P (dC, dI) vwCl (wR cA Z (setG (setG (setG g 0 f ar) 1 f at_) 2 f kd) n th hs pe pk fo mo fE fK) H := hP
  have hD : va_D Av (wR cA Z (setG (setG (setG g 0 f ar) 1 f at_) 2 f kd) n th hs pe pk fo mo fE fK) := hD
  refine lv_aload_n hx hb dX3_lay_22 rfl (lv_at hl 0 rfl) ?_
  refine va_get (D := (dC, dI)) (ci := 4) (v := .ref (Z 4)) (C := RX3) (T := TX3) (N := 19) hx hb hts miX3_lay_X3 hown hK hP 0 rfl rfl 5 (by decide) (hts (.fieldLink RX3 19 "SectionFibresModel" "borns" "[I") mbX3_lay_4) (fun _ h9 => h9) rfl dX3_lay_23 ?_
  refine lv_iload_n hx hb dX3_lay_26 rfl (lv_at hl 1 rfl) ?_
  refine lv_iconst (v := 0) hx hb dX3_lay_27 (by decide) ?_
  refine iasn hx hb hK hP hD hS 4 0 rfl rfl f (rfl) (by omega) (by decide) dX3_lay_28 (fun H locs hP hD hS => ?_)
  have hP : va_P (dC, dI) vwCl (wR cA Z (setG (setG (setG (setG g 0 f ar) 1 f at_) 2 f kd) 3 f 0) n th hs pe pk fo mo fE fK) H := hP
  have hD : va_D Av (wR cA Z (setG (setG (setG (setG g 0 f ar) 1 f at_) 2 f kd) 3 f 0) n th hs pe pk fo mo fE fK) := hD
  refine lv_aload_n hx hb dX3_lay_29 rfl (lv_at hl 0 rfl) ?_
  refine va_get (D := (dC, dI)) (ci := 4) (v := .ref (Z 5)) (C := RX3) (T := TX3) (N := 19) hx hb hts miX3_lay_X3 hown hK hP 0 rfl rfl 6 (by decide) (hts (.fieldLink RX3 22 "SectionFibresModel" "kept" "[I") mbX3_lay_5) (fun _ h9 => h9) rfl dX3_lay_30 ?_
  refine lv_iload_n hx hb dX3_lay_33 rfl (lv_at hl 1 rfl) ?_
  refine lv_bipush (v := 100) hx hb dX3_lay_34 (by decide) ?_
  refine iasn hx hb hK hP hD hS 5 0 rfl rfl f (rfl) (by omega) (by decide) dX3_lay_36 (fun H locs hP hD hS => ?_)
  have hP : va_P (dC, dI) vwCl (wR cA Z (setG (setG (setG (setG (setG g 0 f ar) 1 f at_) 2 f kd) 3 f 0) 4 f 100) n th hs pe pk fo mo fE fK) H := hP
  have hD : va_D Av (wR cA Z (setG (setG (setG (setG (setG g 0 f ar) 1 f at_) 2 f kd) 3 f 0) 4 f 100) n th hs pe pk fo mo fE fK) := hD
  exact W.vret hx hb hr (fun t9 ht9 hW9 => ⟨⟨(((setG (setG (setG (setG (setG g 0 f ar) 1 f at_) 2 f kd) 3 f 0) 4 f 100), n, hs, pe, pk, fo, mo), th, fE, fK), rfl, rfl, by dsimp only; rw [ht9]; exact hP⟩, hS.F ht9⟩) hS.2.2 dX3_lay_37

set_option maxRecDepth 20000 in
theorem miX3_fibre_X3 : ∀ w ∈ u_ws RX3 TX3 19, w ∈ wsX3_fibre := by decide +kernel
set_option maxRecDepth 20000 in
theorem mbX3_fibre_1 : (.fieldLink RX3 40 "SectionFibresModel" "thrown" "I" : Cond) ∈ wsX3_fibre := by decide +kernel
set_option maxRecDepth 20000 in
theorem mbX3_fibre_2 : (.constant RX3 47 (100000) : Cond) ∈ wsX3_fibre := by decide +kernel
set_option maxRecDepth 20000 in
theorem mbX3_fibre_3 : (.fieldLink RX3 44 "SectionFibresModel" "fibres" "I" : Cond) ∈ wsX3_fibre := by decide +kernel
set_option maxRecDepth 20000 in
theorem mbX3_fibre_4 : (.fieldLink RX3 60 "SectionFibresModel" "has" "Z" : Cond) ∈ wsX3_fibre := by decide +kernel
set_option maxHeartbeats 4000000 in
set_option maxRecDepth 100000 in
theorem c_X3_fibre (l : Launch) (dC : Nat → ClassId) (dI : Nat → Nat → Nat) (cA : ClassId) (H : Heap) (Z : Nat → Nat) (g : Gg) (n : Nat) (th hs pe pk : Int32) (fo mo : Int64) (fE fK : Int32) (hP : va_P (dC, dI) vwCl (wR cA Z g n th hs pe pk fo mo fE fK) H) (hD : va_D (fun _ => True) (wR cA Z g n th hs pe pk fo mo fE fK)) (hn : n ≤ 40) (a b d : Int32) : Met l yX3_fibre wsX3_fibre ({ frames := 1, cells := 0, slots := 0, locals := 24 }) (rd_P [.ref (Z 0), .int a, .int b, .int d] H (dC, dI) vwCl [(cA, .int)]) (va_Qi (fun (r : Int32) (u : Su) => (r, u.1) = fibF (g, n, hs, pe, pk, fo, mo) a b d ∧ u.2.1 = 0) (fun u t => bR dC dI cA Z u t.heap) (va_A (wR cA Z g n th hs pe pk fo mo fE fK) H.size)) 0 0 (va_A (wR cA Z g n th hs pe pk fo mo fE fK) H.size) := by
  refine Met.ofW (cc := cX3_fibre) (maxL := 4) (ret := (some .int)) (by decide) rfl ?_
  intro p e s m args below meth c s₁ B hml hv
  obtain ⟨rfl, hH, hK, hN⟩ := hv
  subst hH
  have hx := B.exec
  have hb := B.bytes
  have hr := B.returns
  have hts := atoms_spec (ws := wsX3_fibre) B.pre
  have hown : s.vm.findClass RX3 = some m.cls := findClass_of_methodNamed B.named
  have hlocks := B.notSynchronized
  have hD := hD.self (sz := s.heap.size)
  generalize hAe : va_A (wR cA Z g n th hs pe pk fo mo fE fK) s.heap.size = Av at hD ⊢
  have hA : ∀ q : Nat, s.heap.size ≤ q → Av q := fun q h => by rw [← hAe]; exact Or.inr h
  have hS : va_S Av s.heap s.heap [] := va_S.rf
  have hl := lv_entry ([.ref (Z 0), .int a, .int b, .int d]) (n := 4) (Nat.le_of_ble_eq_true rfl)
  rw [lg_entry_eq]
  generalize (lg_sl ([.ref (Z 0), .int a, .int b, .int d]) ++ List.replicate (4 - (lg_sl ([.ref (Z 0), .int a, .int b, .int d])).length) Slot.unset).toArray = ls at hl ⊢
  have hl : lv_has ls 4 [(0, .ref (Z 0)), (1, .int a), (2, .int b), (3, .int d)] := hl
  refine lv_aload_n hx hb dX3_fibre_0 rfl (lv_at hl 0 rfl) ?_
  refine lv_iconst (v := 0) hx hb dX3_fibre_1 (by decide) ?_
  refine va_put (D := (dC, dI)) (ci := 4) (v := .int 0) (ty := .int) (C := RX3) (T := TX3) (N := 19) hx hb hts miX3_fibre_X3 tyX3 tyX3_ok nmX3 hown hK hP hD hS 0 rfl rfl 0 (by decide) (hts (.fieldLink RX3 40 "SectionFibresModel" "thrown" "I") mbX3_fibre_1) (fun _ h9 => h9) rfl (by decide +kernel) rfl rfl (Nat.le_of_ble_eq_true rfl) dX3_fibre_2 (fun H locs hP hD hS => ?_)
  have hP : va_P (dC, dI) vwCl (wR cA Z g n 0 hs pe pk fo mo fE fK) H := hP
  have hD : va_D Av (wR cA Z g n 0 hs pe pk fo mo fE fK) := hD
  refine lv_iload_n hx hb dX3_fibre_5 rfl (lv_at hl 1 rfl) ?_
  refine lv_iconst (v := 0) hx hb dX3_fibre_6 (by decide) ?_
  refine lv_ldc hx hb hown (hts (.constant RX3 47 (100000)) mbX3_fibre_2) dX3_fibre_7 ?_
  refine rd_i (va_runS (As := [.int a, .int 0, .int 100000]) (rest := []) ⟨hx, hb, hml, hown, hts⟩ (c_X3_within l dC dI cA H a 0 100000 0 100000 (by decide) (by decide)) (va_cwS 3 hts gX3_fibre_X3_within rfl rfl rfl (by decide +kernel) ⟨Nat.le_of_ble_eq_true rfl, Nat.le_of_ble_eq_true rfl⟩) ⟨rd_bl, rd_pre hK hN⟩ rfl rfl hl.1 rfl (lv_room (Nat.le_of_ble_eq_true rfl)) dX3_fibre_9 ⟨Nat.zero_le _, Nat.zero_le _⟩) hS (fun r1 locs hq2 hS => ?_)
  rcases hq2 with ⟨hq2, rfl⟩ | ⟨hq2, rfl⟩
  · have q1 : rg a 0 100000 := hq2
    refine lv_if_eq (tgt := 44) hx hb dX3_fibre_12 (by decide) (fun h9 => absurd h9 (by decide)) (fun _ => ?_)
    refine lv_iload_n hx hb dX3_fibre_15 rfl (lv_at hl 2 rfl) ?_
    refine lv_sipush (v := (-2000)) hx hb dX3_fibre_16 (by decide) ?_
    refine lv_sipush (v := 2000) hx hb dX3_fibre_19 (by decide) ?_
    refine rd_i (va_runS (As := [.int b, .int (-2000), .int 2000]) (rest := []) ⟨hx, hb, hml, hown, hts⟩ (c_X3_within l dC dI cA H b (-2000) 2000 (-2000) 2000 (by decide) (by decide)) (va_cwS 3 hts gX3_fibre_X3_within rfl rfl rfl (by decide +kernel) ⟨Nat.le_of_ble_eq_true rfl, Nat.le_of_ble_eq_true rfl⟩) ⟨rd_bl, rd_pre hK hN⟩ rfl rfl hl.1 rfl (lv_room (Nat.le_of_ble_eq_true rfl)) dX3_fibre_22 ⟨Nat.zero_le _, Nat.zero_le _⟩) hS (fun r3 locs hq4 hS => ?_)
    rcases hq4 with ⟨hq4, rfl⟩ | ⟨hq4, rfl⟩
    · have q2 : rg b (-2000) 2000 := hq4
      refine lv_if_eq (tgt := 44) hx hb dX3_fibre_25 (by decide) (fun h9 => absurd h9 (by decide)) (fun _ => ?_)
      refine lv_iload_n hx hb dX3_fibre_28 rfl (lv_at hl 3 rfl) ?_
      refine rd_i (va_runS (As := [.int d]) (rest := []) ⟨hx, hb, hml, hown, hts⟩ (c_X3_isKind l dC dI cA H d) (va_cwS 1 hts gX3_fibre_X3_isKind rfl rfl rfl (by decide +kernel) ⟨Nat.le_of_ble_eq_true rfl, Nat.le_of_ble_eq_true rfl⟩) ⟨rd_bl, rd_pre hK hN⟩ rfl rfl hl.1 rfl (lv_room (Nat.le_of_ble_eq_true rfl)) dX3_fibre_29 ⟨Nat.zero_le _, Nat.zero_le _⟩) hS (fun r5 locs hq6 hS => ?_)
      rcases hq6 with ⟨hq6, rfl⟩ | ⟨hq6, rfl⟩
      · have q3 : rg d 0 3 := hq6
        refine lv_if_eq (tgt := 44) hx hb dX3_fibre_32 (by decide) (fun h9 => absurd h9 (by decide)) (fun _ => ?_)
        refine lv_aload_n hx hb dX3_fibre_35 rfl (lv_at hl 0 rfl) ?_
        refine va_get (D := (dC, dI)) (ci := 4) (v := .int (nI n)) (C := RX3) (T := TX3) (N := 19) hx hb hts miX3_fibre_X3 hown hK hP 0 rfl rfl 1 (by decide) (hts (.fieldLink RX3 44 "SectionFibresModel" "fibres" "I") mbX3_fibre_3) (fun _ h9 => h9) rfl dX3_fibre_36 ?_
        refine lv_bipush (v := 40) hx hb dX3_fibre_39 (by decide) ?_
        refine lv_icmp_ne (tgt := 46) hx hb dX3_fibre_41 (by decide) (fun c1 => ?_) (fun c1 => ?_)
        · have hlt : n < 40 := by rcases Nat.lt_or_ge n 40 with h9 | h9; exact h9; exact absurd (by rw [show n = 40 by omega]; rfl) c1
          refine lv_aload_n hx hb dX3_fibre_46 rfl (lv_at hl 0 rfl) ?_
          refine lv_aload_n hx hb dX3_fibre_47 rfl (lv_at hl 0 rfl) ?_
          refine va_get (D := (dC, dI)) (ci := 4) (v := .int (nI n)) (C := RX3) (T := TX3) (N := 19) hx hb hts miX3_fibre_X3 hown hK hP 0 rfl rfl 1 (by decide) (hts (.fieldLink RX3 44 "SectionFibresModel" "fibres" "I") mbX3_fibre_3) (fun _ h9 => h9) rfl dX3_fibre_48 ?_
          refine lv_iload_n hx hb dX3_fibre_51 rfl (lv_at hl 1 rfl) ?_
          refine lv_iload_n hx hb dX3_fibre_52 rfl (lv_at hl 2 rfl) ?_
          refine lv_iload_n hx hb dX3_fibre_53 rfl (lv_at hl 3 rfl) ?_
          have hFc := va_free (wc := (wR cA Z g n 0 hs pe pk fo mo fE fK)) hD hS hA [0, 1, 2, 3, 4, 5, 6, 7, 8, 9, 10] rfl
          refine mu_v (va_runV (As := [.int (nI n), .int a, .int b, .int d]) (rest := []) ⟨hx, hb, hml, hown, hts⟩ (c_X3_lay l dC dI cA H Z g n 0 hs pe pk fo mo fE fK hP (hD.weaken (fun _ _ _ _ => trivial)) n (by omega) a b d) (cwV 4 hts gX3_fibre_X3_lay rfl rfl rfl (by decide +kernel) ⟨Nat.le_of_ble_eq_true rfl, Nat.le_of_ble_eq_true rfl⟩) ⟨rd_bl, va_recv hK hP (ci := 4) (q0 := 0) rfl rfl, rd_pre hK hN⟩ rfl rfl hl.1 rfl (lv_room (Nat.le_of_ble_eq_true rfl)) dX3_fibre_54 ⟨Nat.zero_le _, Nat.zero_le _⟩) hS hFc (fun u H locs hq hB hk hz hS => ?_)
          subst hq
          have hP : va_P (dC, dI) vwCl (wR cA Z (layG g n a b d) n 0 hs pe pk fo mo fE fK) H := hB
          have hD : va_D Av (wR cA Z (layG g n a b d) n 0 hs pe pk fo mo fE fK) := va_Dsame (by rfl) hD
          refine lv_aload_n hx hb dX3_fibre_57 rfl (lv_at hl 0 rfl) ?_
          refine lv_dup hx hb dX3_fibre_58 rfl ?_
          refine va_get (D := (dC, dI)) (ci := 4) (v := .int (nI n)) (C := RX3) (T := TX3) (N := 19) hx hb hts miX3_fibre_X3 hown hK hP 0 rfl rfl 1 (by decide) (hts (.fieldLink RX3 44 "SectionFibresModel" "fibres" "I") mbX3_fibre_3) (fun _ h9 => h9) rfl dX3_fibre_59 ?_
          refine lv_iconst (v := 1) hx hb dX3_fibre_62 (by decide) ?_
          refine lv_iadd hx hb dX3_fibre_63 ?_
          refine tp_i (v := nI (n + 1)) (nI_1 n) ?_
          refine va_put (D := (dC, dI)) (ci := 4) (v := .int (nI (n + 1))) (ty := .int) (C := RX3) (T := TX3) (N := 19) hx hb hts miX3_fibre_X3 tyX3 tyX3_ok nmX3 hown hK hP hD hS 0 rfl rfl 1 (by decide) (hts (.fieldLink RX3 44 "SectionFibresModel" "fibres" "I") mbX3_fibre_3) (fun _ h9 => h9) rfl (by decide +kernel) rfl rfl (Nat.le_of_ble_eq_true rfl) dX3_fibre_64 (fun H locs hP hD hS => ?_)
          have hP : va_P (dC, dI) vwCl (wR cA Z (layG g n a b d) (n + 1) 0 hs pe pk fo mo fE fK) H := hP
          have hD : va_D Av (wR cA Z (layG g n a b d) (n + 1) 0 hs pe pk fo mo fE fK) := hD
          refine lv_aload_n hx hb dX3_fibre_67 rfl (lv_at hl 0 rfl) ?_
          refine lv_iconst (v := 0) hx hb dX3_fibre_68 (by decide) ?_
          refine va_put (D := (dC, dI)) (ci := 4) (v := .int 0) (ty := .boolean) (C := RX3) (T := TX3) (N := 19) hx hb hts miX3_fibre_X3 tyX3 tyX3_ok nmX3 hown hK hP hD hS 0 rfl rfl 12 (by decide) (hts (.fieldLink RX3 60 "SectionFibresModel" "has" "Z") mbX3_fibre_4) (fun _ h9 => h9) rfl (by decide +kernel) rfl rfl (Nat.le_of_ble_eq_true rfl) dX3_fibre_69 (fun H locs hP hD hS => ?_)
          have hP : va_P (dC, dI) vwCl (wR cA Z (layG g n a b d) (n + 1) 0 0 pe pk fo mo fE fK) H := hP
          have hD : va_D Av (wR cA Z (layG g n a b d) (n + 1) 0 0 pe pk fo mo fE fK) := hD
          refine lv_aload_n hx hb dX3_fibre_72 rfl (lv_at hl 0 rfl) ?_
          refine va_get (D := (dC, dI)) (ci := 4) (v := .int (nI (n + 1))) (C := RX3) (T := TX3) (N := 19) hx hb hts miX3_fibre_X3 hown hK hP 0 rfl rfl 1 (by decide) (hts (.fieldLink RX3 44 "SectionFibresModel" "fibres" "I") mbX3_fibre_3) (fun _ h9 => h9) rfl dX3_fibre_73 ?_
          refine lv_iconst (v := 1) hx hb dX3_fibre_76 (by decide) ?_
          refine lv_isub hx hb dX3_fibre_77 ?_
          refine tp_i (v := nI n) (nI_pred n) ?_
          exact W.iret (v := (nI n)) hx hb hr (fun t9 ht9 hW9 => ⟨⟨_, (((layG g n a b d), n + 1, 0, pe, pk, fo, mo), 0, fE, fK), rfl, (⟨(fib_t ⟨q1, q2, q3, hlt⟩).symm, rfl⟩), by dsimp only; rw [ht9]; exact hP⟩, hS.F ht9⟩) hS.2.2 dX3_fibre_78
        · refine lv_iconst (v := (-1)) hx hb dX3_fibre_44 (by decide) ?_
          exact W.iret (v := (-1)) hx hb hr (fun t9 ht9 hW9 => ⟨⟨_, ((g, n, hs, pe, pk, fo, mo), 0, fE, fK), rfl, (⟨(fib_f (fun h9 => by have h8 := h9.2.2.2; have h7 := (nI_eq (b := 40) (by omega) (by omega)).mp c1; omega)).symm, rfl⟩), by dsimp only; rw [ht9]; exact hP⟩, hS.F ht9⟩) hS.2.2 dX3_fibre_45
      · have q3 : ¬ (rg d 0 3) := hq6
        refine lv_if_eq (tgt := 44) hx hb dX3_fibre_32 (by decide) (fun _ => ?_) (fun h9 => absurd h9 (by decide))
        refine lv_iconst (v := (-1)) hx hb dX3_fibre_44 (by decide) ?_
        exact W.iret (v := (-1)) hx hb hr (fun t9 ht9 hW9 => ⟨⟨_, ((g, n, hs, pe, pk, fo, mo), 0, fE, fK), rfl, (⟨(fib_f (fun h9 => q3 h9.2.2.1)).symm, rfl⟩), by dsimp only; rw [ht9]; exact hP⟩, hS.F ht9⟩) hS.2.2 dX3_fibre_45
    · have q2 : ¬ (rg b (-2000) 2000) := hq4
      refine lv_if_eq (tgt := 44) hx hb dX3_fibre_25 (by decide) (fun _ => ?_) (fun h9 => absurd h9 (by decide))
      refine lv_iconst (v := (-1)) hx hb dX3_fibre_44 (by decide) ?_
      exact W.iret (v := (-1)) hx hb hr (fun t9 ht9 hW9 => ⟨⟨_, ((g, n, hs, pe, pk, fo, mo), 0, fE, fK), rfl, (⟨(fib_f (fun h9 => q2 h9.2.1)).symm, rfl⟩), by dsimp only; rw [ht9]; exact hP⟩, hS.F ht9⟩) hS.2.2 dX3_fibre_45
  · have q1 : ¬ (rg a 0 100000) := hq2
    refine lv_if_eq (tgt := 44) hx hb dX3_fibre_12 (by decide) (fun _ => ?_) (fun h9 => absurd h9 (by decide))
    refine lv_iconst (v := (-1)) hx hb dX3_fibre_44 (by decide) ?_
    exact W.iret (v := (-1)) hx hb hr (fun t9 ht9 hW9 => ⟨⟨_, ((g, n, hs, pe, pk, fo, mo), 0, fE, fK), rfl, (⟨(fib_f (fun h9 => q1 h9.1)).symm, rfl⟩), by dsimp only; rw [ht9]; exact hP⟩, hS.F ht9⟩) hS.2.2 dX3_fibre_45

set_option maxRecDepth 20000 in
theorem miX3_point_X3 : ∀ w ∈ u_ws RX3 TX3 19, w ∈ wsX3_point := by decide +kernel
set_option maxRecDepth 20000 in
theorem mbX3_point_1 : (.fieldLink RX3 40 "SectionFibresModel" "thrown" "I" : Cond) ∈ wsX3_point := by decide +kernel
set_option maxRecDepth 20000 in
theorem mbX3_point_2 : (.constant RX3 64 (-1000000) : Cond) ∈ wsX3_point := by decide +kernel
set_option maxRecDepth 20000 in
theorem mbX3_point_3 : (.constant RX3 65 (1000000) : Cond) ∈ wsX3_point := by decide +kernel
set_option maxRecDepth 20000 in
theorem mbX3_point_4 : (.fieldLink RX3 25 "SectionFibresModel" "points" "[I" : Cond) ∈ wsX3_point := by decide +kernel
set_option maxRecDepth 20000 in
theorem mbX3_point_5 : (.fieldLink RX3 28 "SectionFibresModel" "strains" "[I" : Cond) ∈ wsX3_point := by decide +kernel
set_option maxRecDepth 20000 in
theorem mbX3_point_6 : (.fieldLink RX3 31 "SectionFibresModel" "stresses" "[I" : Cond) ∈ wsX3_point := by decide +kernel
set_option maxRecDepth 20000 in
theorem mbX3_point_7 : (.fieldLink RX3 60 "SectionFibresModel" "has" "Z" : Cond) ∈ wsX3_point := by decide +kernel
set_option maxHeartbeats 4000000 in
set_option maxRecDepth 100000 in
theorem c_X3_point (l : Launch) (dC : Nat → ClassId) (dI : Nat → Nat → Nat) (cA : ClassId) (H : Heap) (Z : Nat → Nat) (g : Gg) (n : Nat) (th hs pe pk : Int32) (fo mo : Int64) (fE fK : Int32) (hP : va_P (dC, dI) vwCl (wR cA Z g n th hs pe pk fo mo fE fK) H) (hD : va_D (fun _ => True) (wR cA Z g n th hs pe pk fo mo fE fK)) (hg : InvG g) (a b d : Int32) : Met l yX3_point wsX3_point ({ frames := 1, cells := 0, slots := 0, locals := 22 }) (rd_P [.ref (Z 0), .int a, .int b, .int d] H (dC, dI) vwCl [(cA, .int)]) (va_Qi (fun (r : Int32) (u : Su) => (r, u.1) = poiF (g, n, hs, pe, pk, fo, mo) a b d ∧ u.2.1 = 0) (fun u t => bR dC dI cA Z u t.heap) (va_A (wR cA Z g n th hs pe pk fo mo fE fK) H.size)) 0 0 (va_A (wR cA Z g n th hs pe pk fo mo fE fK) H.size) := by
  refine Met.ofW (cc := cX3_point) (maxL := 5) (ret := (some .boolean)) (by decide) rfl ?_
  intro p e s m args below meth c s₁ B hml hv
  obtain ⟨rfl, hH, hK, hN⟩ := hv
  subst hH
  have hx := B.exec
  have hb := B.bytes
  have hr := B.returns
  have hts := atoms_spec (ws := wsX3_point) B.pre
  have hown : s.vm.findClass RX3 = some m.cls := findClass_of_methodNamed B.named
  have hlocks := B.notSynchronized
  have hD := hD.self (sz := s.heap.size)
  generalize hAe : va_A (wR cA Z g n th hs pe pk fo mo fE fK) s.heap.size = Av at hD ⊢
  have hA : ∀ q : Nat, s.heap.size ≤ q → Av q := fun q h => by rw [← hAe]; exact Or.inr h
  have hS : va_S Av s.heap s.heap [] := va_S.rf
  have hl := lv_entry ([.ref (Z 0), .int a, .int b, .int d]) (n := 5) (Nat.le_of_ble_eq_true rfl)
  rw [lg_entry_eq]
  generalize (lg_sl ([.ref (Z 0), .int a, .int b, .int d]) ++ List.replicate (5 - (lg_sl ([.ref (Z 0), .int a, .int b, .int d])).length) Slot.unset).toArray = ls at hl ⊢
  have hl : lv_has ls 5 [(0, .ref (Z 0)), (1, .int a), (2, .int b), (3, .int d)] := hl
  refine lv_aload_n hx hb dX3_point_0 rfl (lv_at hl 0 rfl) ?_
  refine lv_iconst (v := 0) hx hb dX3_point_1 (by decide) ?_
  refine va_put (D := (dC, dI)) (ci := 4) (v := .int 0) (ty := .int) (C := RX3) (T := TX3) (N := 19) hx hb hts miX3_point_X3 tyX3 tyX3_ok nmX3 hown hK hP hD hS 0 rfl rfl 0 (by decide) (hts (.fieldLink RX3 40 "SectionFibresModel" "thrown" "I") mbX3_point_1) (fun _ h9 => h9) rfl (by decide +kernel) rfl rfl (Nat.le_of_ble_eq_true rfl) dX3_point_2 (fun H locs hP hD hS => ?_)
  have hP : va_P (dC, dI) vwCl (wR cA Z g n 0 hs pe pk fo mo fE fK) H := hP
  have hD : va_D Av (wR cA Z g n 0 hs pe pk fo mo fE fK) := hD
  refine lv_iload_n hx hb dX3_point_5 rfl (lv_at hl 1 rfl) ?_
  refine rd_i (va_runS (As := [.int a]) (rest := []) ⟨hx, hb, hml, hown, hts⟩ (c_X3_isKind l dC dI cA H a) (va_cwS 1 hts gX3_point_X3_isKind rfl rfl rfl (by decide +kernel) ⟨Nat.le_of_ble_eq_true rfl, Nat.le_of_ble_eq_true rfl⟩) ⟨rd_bl, rd_pre hK hN⟩ rfl rfl hl.1 rfl (lv_room (Nat.le_of_ble_eq_true rfl)) dX3_point_6 ⟨Nat.zero_le _, Nat.zero_le _⟩) hS (fun r1 locs hq2 hS => ?_)
  rcases hq2 with ⟨hq2, rfl⟩ | ⟨hq2, rfl⟩
  · have q1 : rg a 0 3 := hq2
    refine lv_if_eq (tgt := 47) hx hb dX3_point_9 (by decide) (fun h9 => absurd h9 (by decide)) (fun _ => ?_)
    refine lv_iload_n hx hb dX3_point_12 rfl (lv_at hl 2 rfl) ?_
    refine lv_sipush (v := (-30000)) hx hb dX3_point_13 (by decide) ?_
    refine lv_sipush (v := 30000) hx hb dX3_point_16 (by decide) ?_
    refine rd_i (va_runS (As := [.int b, .int (-30000), .int 30000]) (rest := []) ⟨hx, hb, hml, hown, hts⟩ (c_X3_within l dC dI cA H b (-30000) 30000 (-30000) 30000 (by decide) (by decide)) (va_cwS 3 hts gX3_point_X3_within rfl rfl rfl (by decide +kernel) ⟨Nat.le_of_ble_eq_true rfl, Nat.le_of_ble_eq_true rfl⟩) ⟨rd_bl, rd_pre hK hN⟩ rfl rfl hl.1 rfl (lv_room (Nat.le_of_ble_eq_true rfl)) dX3_point_19 ⟨Nat.zero_le _, Nat.zero_le _⟩) hS (fun r3 locs hq4 hS => ?_)
    rcases hq4 with ⟨hq4, rfl⟩ | ⟨hq4, rfl⟩
    · have q2 : rg b (-30000) 30000 := hq4
      refine lv_if_eq (tgt := 47) hx hb dX3_point_22 (by decide) (fun h9 => absurd h9 (by decide)) (fun _ => ?_)
      refine lv_iload_n hx hb dX3_point_25 rfl (lv_at hl 3 rfl) ?_
      refine lv_ldc hx hb hown (hts (.constant RX3 64 (-1000000)) mbX3_point_2) dX3_point_26 ?_
      refine lv_ldc hx hb hown (hts (.constant RX3 65 (1000000)) mbX3_point_3) dX3_point_28 ?_
      refine rd_i (va_runS (As := [.int d, .int (-1000000), .int 1000000]) (rest := []) ⟨hx, hb, hml, hown, hts⟩ (c_X3_within l dC dI cA H d (-1000000) 1000000 (-1000000) 1000000 (by decide) (by decide)) (va_cwS 3 hts gX3_point_X3_within rfl rfl rfl (by decide +kernel) ⟨Nat.le_of_ble_eq_true rfl, Nat.le_of_ble_eq_true rfl⟩) ⟨rd_bl, rd_pre hK hN⟩ rfl rfl hl.1 rfl (lv_room (Nat.le_of_ble_eq_true rfl)) dX3_point_30 ⟨Nat.zero_le _, Nat.zero_le _⟩) hS (fun r5 locs hq6 hS => ?_)
      rcases hq6 with ⟨hq6, rfl⟩ | ⟨hq6, rfl⟩
      · have q3 : rg d (-1000000) 1000000 := hq6
        refine lv_if_eq (tgt := 47) hx hb dX3_point_33 (by decide) (fun h9 => absurd h9 (by decide)) (fun _ => ?_)
        obtain ⟨k, hk, hae⟩ : ∃ k : Nat, k < 4 ∧ a = nI k := ⟨a.toNatClampNeg, by have h9 := rg_lt q1; omega, rg_nI q1⟩
        obtain ⟨q, hq, hqe⟩ := vp_in_of (hg.2.2.2.2.2.1 k hk) (by decide)
        have hap : apC g a b d ↔ q < 8 ∧ ¬ (0 < q ∧ (b ≤ g 5 (8 * k + q - 1) ∨ d < g 6 (8 * k + q - 1))) := by rw [hae]; exact apC_k hk hq hqe
        refine lv_aload_n hx hb dX3_point_36 rfl (lv_at hl 0 rfl) ?_
        refine va_get (D := (dC, dI)) (ci := 4) (v := .ref (Z 6)) (C := RX3) (T := TX3) (N := 19) hx hb hts miX3_point_X3 hown hK hP 0 rfl rfl 7 (by decide) (hts (.fieldLink RX3 25 "SectionFibresModel" "points" "[I") mbX3_point_4) (fun _ h9 => h9) rfl dX3_point_37 ?_
        refine lv_iload_n hx hb dX3_point_40 rfl (lv_at hl 1 rfl) ?_
        refine ialn hx hb hK hP 6 0 rfl rfl k (hae) (hk) (by decide) dX3_point_41 ?_
        refine tp_i (v := nI q) (hqe) ?_
        refine lv_bipush (v := 8) hx hb dX3_point_42 (by decide) ?_
        refine lv_icmp_ne (tgt := 49) hx hb dX3_point_44 (by decide) (fun c1 => ?_) (fun c1 => ?_)
        · have hq8 : q < 8 := by rcases Nat.lt_or_ge q 8 with h9 | h9; exact h9; exact absurd (by rw [show q = 8 by omega]; rfl) c1
          refine lv_bipush (v := 8) hx hb dX3_point_49 (by decide) ?_
          refine lv_iload_n hx hb dX3_point_51 rfl (lv_at hl 1 rfl) ?_
          refine lv_imul hx hb dX3_point_52 ?_
          refine tp_i (v := nI (8 * k)) (by rw [hae]; exact pk_mul 8 k) ?_
          refine lv_aload_n hx hb dX3_point_53 rfl (lv_at hl 0 rfl) ?_
          refine va_get (D := (dC, dI)) (ci := 4) (v := .ref (Z 6)) (C := RX3) (T := TX3) (N := 19) hx hb hts miX3_point_X3 hown hK hP 0 rfl rfl 7 (by decide) (hts (.fieldLink RX3 25 "SectionFibresModel" "points" "[I") mbX3_point_4) (fun _ h9 => h9) rfl dX3_point_54 ?_
          refine lv_iload_n hx hb dX3_point_57 rfl (lv_at hl 1 rfl) ?_
          refine ialn hx hb hK hP 6 0 rfl rfl k (hae) (hk) (by decide) dX3_point_58 ?_
          refine tp_i (v := nI q) (hqe) ?_
          refine lv_iadd hx hb dX3_point_59 ?_
          refine tp_i (v := nI (8 * k + q)) (nI_add _ _) ?_
          refine lv_istore (lv' := [(4, .int (nI (8 * k + q))), (0, .ref (Z 0)), (1, .int a), (2, .int b), (3, .int d)]) hx hb dX3_point_60 hl (by decide) rfl (fun ls hl => ?_)
          refine lv_aload_n hx hb dX3_point_62 rfl (lv_at hl 1 rfl) ?_
          refine va_get (D := (dC, dI)) (ci := 4) (v := .ref (Z 6)) (C := RX3) (T := TX3) (N := 19) hx hb hts miX3_point_X3 hown hK hP 0 rfl rfl 7 (by decide) (hts (.fieldLink RX3 25 "SectionFibresModel" "points" "[I") mbX3_point_4) (fun _ h9 => h9) rfl dX3_point_63 ?_
          refine lv_iload_n hx hb dX3_point_66 rfl (lv_at hl 2 rfl) ?_
          refine ialn hx hb hK hP 6 0 rfl rfl k (hae) (hk) (by decide) dX3_point_67 ?_
          refine tp_i (v := nI q) (hqe) ?_
          refine lv_if_le (tgt := 99) hx hb dX3_point_68 (by decide) (fun c2 => ?_) (fun c2 => ?_)
          · refine lv_aload_n hx hb dX3_point_99 rfl (lv_at hl 1 rfl) ?_
            refine va_get (D := (dC, dI)) (ci := 4) (v := .ref (Z 7)) (C := RX3) (T := TX3) (N := 19) hx hb hts miX3_point_X3 hown hK hP 0 rfl rfl 8 (by decide) (hts (.fieldLink RX3 28 "SectionFibresModel" "strains" "[I") mbX3_point_5) (fun _ h9 => h9) rfl dX3_point_100 ?_
            refine lv_iload hx hb dX3_point_103 (lv_at hl 0 rfl) ?_
            refine lv_iload_n hx hb dX3_point_105 rfl (lv_at hl 3 rfl) ?_
            refine iasn hx hb hK hP hD hS 7 0 rfl rfl (8 * k + q) (rfl) (by omega) (by decide) dX3_point_106 (fun H locs hP hD hS => ?_)
            have hP : va_P (dC, dI) vwCl (wR cA Z (setG g 5 (8 * k + q) b) n 0 hs pe pk fo mo fE fK) H := hP
            have hD : va_D Av (wR cA Z (setG g 5 (8 * k + q) b) n 0 hs pe pk fo mo fE fK) := hD
            refine lv_aload_n hx hb dX3_point_107 rfl (lv_at hl 1 rfl) ?_
            refine va_get (D := (dC, dI)) (ci := 4) (v := .ref (Z 8)) (C := RX3) (T := TX3) (N := 19) hx hb hts miX3_point_X3 hown hK hP 0 rfl rfl 9 (by decide) (hts (.fieldLink RX3 31 "SectionFibresModel" "stresses" "[I") mbX3_point_6) (fun _ h9 => h9) rfl dX3_point_108 ?_
            refine lv_iload hx hb dX3_point_111 (lv_at hl 0 rfl) ?_
            refine lv_iload_n hx hb dX3_point_113 rfl (lv_at hl 4 rfl) ?_
            refine iasn hx hb hK hP hD hS 8 0 rfl rfl (8 * k + q) (rfl) (by omega) (by decide) dX3_point_114 (fun H locs hP hD hS => ?_)
            have hP : va_P (dC, dI) vwCl (wR cA Z (setG (setG g 5 (8 * k + q) b) 6 (8 * k + q) d) n 0 hs pe pk fo mo fE fK) H := hP
            have hD : va_D Av (wR cA Z (setG (setG g 5 (8 * k + q) b) 6 (8 * k + q) d) n 0 hs pe pk fo mo fE fK) := hD
            refine lv_aload_n hx hb dX3_point_115 rfl (lv_at hl 1 rfl) ?_
            refine va_get (D := (dC, dI)) (ci := 4) (v := .ref (Z 6)) (C := RX3) (T := TX3) (N := 19) hx hb hts miX3_point_X3 hown hK hP 0 rfl rfl 7 (by decide) (hts (.fieldLink RX3 25 "SectionFibresModel" "points" "[I") mbX3_point_4) (fun _ h9 => h9) rfl dX3_point_116 ?_
            refine lv_iload_n hx hb dX3_point_119 rfl (lv_at hl 2 rfl) ?_
            refine lv_dup2_11 hx hb dX3_point_120 rfl rfl ?_
            refine ialn hx hb hK hP 6 0 rfl rfl k (hae) (hk) (by decide) dX3_point_121 ?_
            refine tp_i (v := nI q) (hqe) ?_
            refine lv_iconst (v := 1) hx hb dX3_point_122 (by decide) ?_
            refine lv_iadd hx hb dX3_point_123 ?_
            refine tp_i (v := nI (q + 1)) (nI_1 q) ?_
            refine iasn hx hb hK hP hD hS 6 0 rfl rfl k (hae) (hk) (by decide) dX3_point_124 (fun H locs hP hD hS => ?_)
            have hP : va_P (dC, dI) vwCl (wR cA Z (setG (setG (setG g 5 (8 * k + q) b) 6 (8 * k + q) d) 7 k (nI (q + 1))) n 0 hs pe pk fo mo fE fK) H := hP
            have hD : va_D Av (wR cA Z (setG (setG (setG g 5 (8 * k + q) b) 6 (8 * k + q) d) 7 k (nI (q + 1))) n 0 hs pe pk fo mo fE fK) := hD
            refine lv_aload_n hx hb dX3_point_125 rfl (lv_at hl 1 rfl) ?_
            refine lv_iconst (v := 0) hx hb dX3_point_126 (by decide) ?_
            refine va_put (D := (dC, dI)) (ci := 4) (v := .int 0) (ty := .boolean) (C := RX3) (T := TX3) (N := 19) hx hb hts miX3_point_X3 tyX3 tyX3_ok nmX3 hown hK hP hD hS 0 rfl rfl 12 (by decide) (hts (.fieldLink RX3 60 "SectionFibresModel" "has" "Z") mbX3_point_7) (fun _ h9 => h9) rfl (by decide +kernel) rfl rfl (Nat.le_of_ble_eq_true rfl) dX3_point_127 (fun H locs hP hD hS => ?_)
            have hP : va_P (dC, dI) vwCl (wR cA Z (setG (setG (setG g 5 (8 * k + q) b) 6 (8 * k + q) d) 7 k (nI (q + 1))) n 0 0 pe pk fo mo fE fK) H := hP
            have hD : va_D Av (wR cA Z (setG (setG (setG g 5 (8 * k + q) b) 6 (8 * k + q) d) 7 k (nI (q + 1))) n 0 0 pe pk fo mo fE fK) := hD
            refine lv_iconst (v := 1) hx hb dX3_point_130 (by decide) ?_
            exact W.zret (ty := .boolean) (v := 1) hx hb hr (by decide) (fun t9 ht9 hW9 => ⟨⟨_, (((setG (setG (setG g 5 (8 * k + q) b) 6 (8 * k + q) d) 7 k (nI (q + 1))), n, 0, pe, pk, fo, mo), 0, fE, fK), rfl, (⟨by have h6 := hap.mpr ⟨hq8, fun h9 => absurd h9.1 (by have h8 := (nI_leI (b := 0) (by omega) (by omega)).mp c2; omega)⟩; rw [poi_t ⟨q1, q2, q3, h6.1, h6.2⟩, hae, nI_clamp (n := k) (by omega), hqe, nI_clamp (n := q) (by omega)]; rfl, rfl⟩), by dsimp only; rw [ht9]; exact hP⟩, hS.F ht9⟩) hS.2.2 dX3_point_131
          · have hq0 : 0 < q := Nat.pos_of_ne_zero (fun h9 => c2 (by rw [h9]; decide))
            refine lv_iload_n hx hb dX3_point_71 rfl (lv_at hl 3 rfl) ?_
            refine lv_aload_n hx hb dX3_point_72 rfl (lv_at hl 1 rfl) ?_
            refine va_get (D := (dC, dI)) (ci := 4) (v := .ref (Z 7)) (C := RX3) (T := TX3) (N := 19) hx hb hts miX3_point_X3 hown hK hP 0 rfl rfl 8 (by decide) (hts (.fieldLink RX3 28 "SectionFibresModel" "strains" "[I") mbX3_point_5) (fun _ h9 => h9) rfl dX3_point_73 ?_
            refine lv_iload hx hb dX3_point_76 (lv_at hl 0 rfl) ?_
            refine lv_iconst (v := 1) hx hb dX3_point_78 (by decide) ?_
            refine lv_isub hx hb dX3_point_79 ?_
            refine tp_i (v := nI (8 * k + q - 1)) (by have h9 := nI_pred (8 * k + q - 1); rwa [show 8 * k + q - 1 + 1 = 8 * k + q by omega] at h9) ?_
            refine ialn hx hb hK hP 7 0 rfl rfl (8 * k + q - 1) (rfl) (by omega) (by decide) dX3_point_80 ?_
            refine lv_icmp_le (tgt := 97) hx hb dX3_point_81 (by decide) (fun c3 => ?_) (fun c3 => ?_)
            · refine lv_iconst (v := 0) hx hb dX3_point_97 (by decide) ?_
              exact W.zret (ty := .boolean) (v := 0) hx hb hr (by decide) (fun t9 ht9 hW9 => ⟨⟨_, ((g, n, hs, pe, pk, fo, mo), 0, fE, fK), rfl, (⟨(poi_f (fun h9 => (hap.mp ⟨h9.2.2.2.1, h9.2.2.2.2⟩).2 ⟨hq0, Or.inl c3⟩)).symm, rfl⟩), by dsimp only; rw [ht9]; exact hP⟩, hS.F ht9⟩) hS.2.2 dX3_point_98
            · refine lv_iload_n hx hb dX3_point_84 rfl (lv_at hl 4 rfl) ?_
              refine lv_aload_n hx hb dX3_point_85 rfl (lv_at hl 1 rfl) ?_
              refine va_get (D := (dC, dI)) (ci := 4) (v := .ref (Z 8)) (C := RX3) (T := TX3) (N := 19) hx hb hts miX3_point_X3 hown hK hP 0 rfl rfl 9 (by decide) (hts (.fieldLink RX3 31 "SectionFibresModel" "stresses" "[I") mbX3_point_6) (fun _ h9 => h9) rfl dX3_point_86 ?_
              refine lv_iload hx hb dX3_point_89 (lv_at hl 0 rfl) ?_
              refine lv_iconst (v := 1) hx hb dX3_point_91 (by decide) ?_
              refine lv_isub hx hb dX3_point_92 ?_
              refine tp_i (v := nI (8 * k + q - 1)) (by have h9 := nI_pred (8 * k + q - 1); rwa [show 8 * k + q - 1 + 1 = 8 * k + q by omega] at h9) ?_
              refine ialn hx hb hK hP 8 0 rfl rfl (8 * k + q - 1) (rfl) (by omega) (by decide) dX3_point_93 ?_
              refine lv_icmp_ge (tgt := 99) hx hb dX3_point_94 (by decide) (fun c4 => ?_) (fun c4 => ?_)
              · refine lv_aload_n hx hb dX3_point_99 rfl (lv_at hl 1 rfl) ?_
                refine va_get (D := (dC, dI)) (ci := 4) (v := .ref (Z 7)) (C := RX3) (T := TX3) (N := 19) hx hb hts miX3_point_X3 hown hK hP 0 rfl rfl 8 (by decide) (hts (.fieldLink RX3 28 "SectionFibresModel" "strains" "[I") mbX3_point_5) (fun _ h9 => h9) rfl dX3_point_100 ?_
                refine lv_iload hx hb dX3_point_103 (lv_at hl 0 rfl) ?_
                refine lv_iload_n hx hb dX3_point_105 rfl (lv_at hl 3 rfl) ?_
                refine iasn hx hb hK hP hD hS 7 0 rfl rfl (8 * k + q) (rfl) (by omega) (by decide) dX3_point_106 (fun H locs hP hD hS => ?_)
                have hP : va_P (dC, dI) vwCl (wR cA Z (setG g 5 (8 * k + q) b) n 0 hs pe pk fo mo fE fK) H := hP
                have hD : va_D Av (wR cA Z (setG g 5 (8 * k + q) b) n 0 hs pe pk fo mo fE fK) := hD
                refine lv_aload_n hx hb dX3_point_107 rfl (lv_at hl 1 rfl) ?_
                refine va_get (D := (dC, dI)) (ci := 4) (v := .ref (Z 8)) (C := RX3) (T := TX3) (N := 19) hx hb hts miX3_point_X3 hown hK hP 0 rfl rfl 9 (by decide) (hts (.fieldLink RX3 31 "SectionFibresModel" "stresses" "[I") mbX3_point_6) (fun _ h9 => h9) rfl dX3_point_108 ?_
                refine lv_iload hx hb dX3_point_111 (lv_at hl 0 rfl) ?_
                refine lv_iload_n hx hb dX3_point_113 rfl (lv_at hl 4 rfl) ?_
                refine iasn hx hb hK hP hD hS 8 0 rfl rfl (8 * k + q) (rfl) (by omega) (by decide) dX3_point_114 (fun H locs hP hD hS => ?_)
                have hP : va_P (dC, dI) vwCl (wR cA Z (setG (setG g 5 (8 * k + q) b) 6 (8 * k + q) d) n 0 hs pe pk fo mo fE fK) H := hP
                have hD : va_D Av (wR cA Z (setG (setG g 5 (8 * k + q) b) 6 (8 * k + q) d) n 0 hs pe pk fo mo fE fK) := hD
                refine lv_aload_n hx hb dX3_point_115 rfl (lv_at hl 1 rfl) ?_
                refine va_get (D := (dC, dI)) (ci := 4) (v := .ref (Z 6)) (C := RX3) (T := TX3) (N := 19) hx hb hts miX3_point_X3 hown hK hP 0 rfl rfl 7 (by decide) (hts (.fieldLink RX3 25 "SectionFibresModel" "points" "[I") mbX3_point_4) (fun _ h9 => h9) rfl dX3_point_116 ?_
                refine lv_iload_n hx hb dX3_point_119 rfl (lv_at hl 2 rfl) ?_
                refine lv_dup2_11 hx hb dX3_point_120 rfl rfl ?_
                refine ialn hx hb hK hP 6 0 rfl rfl k (hae) (hk) (by decide) dX3_point_121 ?_
                refine tp_i (v := nI q) (hqe) ?_
                refine lv_iconst (v := 1) hx hb dX3_point_122 (by decide) ?_
                refine lv_iadd hx hb dX3_point_123 ?_
                refine tp_i (v := nI (q + 1)) (nI_1 q) ?_
                refine iasn hx hb hK hP hD hS 6 0 rfl rfl k (hae) (hk) (by decide) dX3_point_124 (fun H locs hP hD hS => ?_)
                have hP : va_P (dC, dI) vwCl (wR cA Z (setG (setG (setG g 5 (8 * k + q) b) 6 (8 * k + q) d) 7 k (nI (q + 1))) n 0 hs pe pk fo mo fE fK) H := hP
                have hD : va_D Av (wR cA Z (setG (setG (setG g 5 (8 * k + q) b) 6 (8 * k + q) d) 7 k (nI (q + 1))) n 0 hs pe pk fo mo fE fK) := hD
                refine lv_aload_n hx hb dX3_point_125 rfl (lv_at hl 1 rfl) ?_
                refine lv_iconst (v := 0) hx hb dX3_point_126 (by decide) ?_
                refine va_put (D := (dC, dI)) (ci := 4) (v := .int 0) (ty := .boolean) (C := RX3) (T := TX3) (N := 19) hx hb hts miX3_point_X3 tyX3 tyX3_ok nmX3 hown hK hP hD hS 0 rfl rfl 12 (by decide) (hts (.fieldLink RX3 60 "SectionFibresModel" "has" "Z") mbX3_point_7) (fun _ h9 => h9) rfl (by decide +kernel) rfl rfl (Nat.le_of_ble_eq_true rfl) dX3_point_127 (fun H locs hP hD hS => ?_)
                have hP : va_P (dC, dI) vwCl (wR cA Z (setG (setG (setG g 5 (8 * k + q) b) 6 (8 * k + q) d) 7 k (nI (q + 1))) n 0 0 pe pk fo mo fE fK) H := hP
                have hD : va_D Av (wR cA Z (setG (setG (setG g 5 (8 * k + q) b) 6 (8 * k + q) d) 7 k (nI (q + 1))) n 0 0 pe pk fo mo fE fK) := hD
                refine lv_iconst (v := 1) hx hb dX3_point_130 (by decide) ?_
                exact W.zret (ty := .boolean) (v := 1) hx hb hr (by decide) (fun t9 ht9 hW9 => ⟨⟨_, (((setG (setG (setG g 5 (8 * k + q) b) 6 (8 * k + q) d) 7 k (nI (q + 1))), n, 0, pe, pk, fo, mo), 0, fE, fK), rfl, (⟨by have h6 := hap.mpr ⟨hq8, fun h9 => h9.2.elim c3 (le_nlt c4)⟩; rw [poi_t ⟨q1, q2, q3, h6.1, h6.2⟩, hae, nI_clamp (n := k) (by omega), hqe, nI_clamp (n := q) (by omega)]; rfl, rfl⟩), by dsimp only; rw [ht9]; exact hP⟩, hS.F ht9⟩) hS.2.2 dX3_point_131
              · refine lv_iconst (v := 0) hx hb dX3_point_97 (by decide) ?_
                exact W.zret (ty := .boolean) (v := 0) hx hb hr (by decide) (fun t9 ht9 hW9 => ⟨⟨_, ((g, n, hs, pe, pk, fo, mo), 0, fE, fK), rfl, (⟨(poi_f (fun h9 => (hap.mp ⟨h9.2.2.2.1, h9.2.2.2.2⟩).2 ⟨hq0, Or.inr (nle_lt c4)⟩)).symm, rfl⟩), by dsimp only; rw [ht9]; exact hP⟩, hS.F ht9⟩) hS.2.2 dX3_point_98
        · refine lv_iconst (v := 0) hx hb dX3_point_47 (by decide) ?_
          exact W.zret (ty := .boolean) (v := 0) hx hb hr (by decide) (fun t9 ht9 hW9 => ⟨⟨_, ((g, n, hs, pe, pk, fo, mo), 0, fE, fK), rfl, (⟨(poi_f (fun h9 => by have h8 := (hap.mp ⟨h9.2.2.2.1, h9.2.2.2.2⟩).1; have h7 := (nI_eq (b := 8) (by omega) (by omega)).mp c1; omega)).symm, rfl⟩), by dsimp only; rw [ht9]; exact hP⟩, hS.F ht9⟩) hS.2.2 dX3_point_48
      · have q3 : ¬ (rg d (-1000000) 1000000) := hq6
        refine lv_if_eq (tgt := 47) hx hb dX3_point_33 (by decide) (fun _ => ?_) (fun h9 => absurd h9 (by decide))
        refine lv_iconst (v := 0) hx hb dX3_point_47 (by decide) ?_
        exact W.zret (ty := .boolean) (v := 0) hx hb hr (by decide) (fun t9 ht9 hW9 => ⟨⟨_, ((g, n, hs, pe, pk, fo, mo), 0, fE, fK), rfl, (⟨(poi_f (fun h9 => q3 h9.2.2.1)).symm, rfl⟩), by dsimp only; rw [ht9]; exact hP⟩, hS.F ht9⟩) hS.2.2 dX3_point_48
    · have q2 : ¬ (rg b (-30000) 30000) := hq4
      refine lv_if_eq (tgt := 47) hx hb dX3_point_22 (by decide) (fun _ => ?_) (fun h9 => absurd h9 (by decide))
      refine lv_iconst (v := 0) hx hb dX3_point_47 (by decide) ?_
      exact W.zret (ty := .boolean) (v := 0) hx hb hr (by decide) (fun t9 ht9 hW9 => ⟨⟨_, ((g, n, hs, pe, pk, fo, mo), 0, fE, fK), rfl, (⟨(poi_f (fun h9 => q2 h9.2.1)).symm, rfl⟩), by dsimp only; rw [ht9]; exact hP⟩, hS.F ht9⟩) hS.2.2 dX3_point_48
  · have q1 : ¬ (rg a 0 3) := hq2
    refine lv_if_eq (tgt := 47) hx hb dX3_point_9 (by decide) (fun _ => ?_) (fun h9 => absurd h9 (by decide))
    refine lv_iconst (v := 0) hx hb dX3_point_47 (by decide) ?_
    exact W.zret (ty := .boolean) (v := 0) hx hb hr (by decide) (fun t9 ht9 hW9 => ⟨⟨_, ((g, n, hs, pe, pk, fo, mo), 0, fE, fK), rfl, (⟨(poi_f (fun h9 => q1 h9.1)).symm, rfl⟩), by dsimp only; rw [ht9]; exact hP⟩, hS.F ht9⟩) hS.2.2 dX3_point_48

set_option maxRecDepth 20000 in
theorem miX3_born_X3 : ∀ w ∈ u_ws RX3 TX3 19, w ∈ wsX3_born := by decide +kernel
set_option maxRecDepth 20000 in
theorem mbX3_born_1 : (.fieldLink RX3 40 "SectionFibresModel" "thrown" "I" : Cond) ∈ wsX3_born := by decide +kernel
set_option maxRecDepth 20000 in
theorem mbX3_born_2 : (.fieldLink RX3 19 "SectionFibresModel" "borns" "[I" : Cond) ∈ wsX3_born := by decide +kernel
set_option maxRecDepth 20000 in
theorem mbX3_born_3 : (.fieldLink RX3 60 "SectionFibresModel" "has" "Z" : Cond) ∈ wsX3_born := by decide +kernel
set_option maxHeartbeats 4000000 in
set_option maxRecDepth 100000 in
theorem c_X3_born (l : Launch) (dC : Nat → ClassId) (dI : Nat → Nat → Nat) (cA : ClassId) (H : Heap) (Z : Nat → Nat) (g : Gg) (n : Nat) (th hs pe pk : Int32) (fo mo : Int64) (fE fK : Int32) (hP : va_P (dC, dI) vwCl (wR cA Z g n th hs pe pk fo mo fE fK) H) (hD : va_D (fun _ => True) (wR cA Z g n th hs pe pk fo mo fE fK)) (hn : n ≤ 40) (a b : Int32) : Met l yX3_born wsX3_born ({ frames := 1, cells := 0, slots := 0, locals := 22 }) (rd_P [.ref (Z 0), .int a, .int b] H (dC, dI) vwCl [(cA, .int)]) (va_Qi (fun (r : Int32) (u : Su) => (r, u.1) = borF (g, n, hs, pe, pk, fo, mo) a b ∧ u.2.1 = 0) (fun u t => bR dC dI cA Z u t.heap) (va_A (wR cA Z g n th hs pe pk fo mo fE fK) H.size)) 0 0 (va_A (wR cA Z g n th hs pe pk fo mo fE fK) H.size) := by
  refine Met.ofW (cc := cX3_born) (maxL := 3) (ret := (some .boolean)) (by decide) rfl ?_
  intro p e s m args below meth c s₁ B hml hv
  obtain ⟨rfl, hH, hK, hN⟩ := hv
  subst hH
  have hx := B.exec
  have hb := B.bytes
  have hr := B.returns
  have hts := atoms_spec (ws := wsX3_born) B.pre
  have hown : s.vm.findClass RX3 = some m.cls := findClass_of_methodNamed B.named
  have hlocks := B.notSynchronized
  have hD := hD.self (sz := s.heap.size)
  generalize hAe : va_A (wR cA Z g n th hs pe pk fo mo fE fK) s.heap.size = Av at hD ⊢
  have hA : ∀ q : Nat, s.heap.size ≤ q → Av q := fun q h => by rw [← hAe]; exact Or.inr h
  have hS : va_S Av s.heap s.heap [] := va_S.rf
  have hl := lv_entry ([.ref (Z 0), .int a, .int b]) (n := 3) (Nat.le_of_ble_eq_true rfl)
  rw [lg_entry_eq]
  generalize (lg_sl ([.ref (Z 0), .int a, .int b]) ++ List.replicate (3 - (lg_sl ([.ref (Z 0), .int a, .int b])).length) Slot.unset).toArray = ls at hl ⊢
  have hl : lv_has ls 3 [(0, .ref (Z 0)), (1, .int a), (2, .int b)] := hl
  refine lv_aload_n hx hb dX3_born_0 rfl (lv_at hl 0 rfl) ?_
  refine lv_iconst (v := 0) hx hb dX3_born_1 (by decide) ?_
  refine va_put (D := (dC, dI)) (ci := 4) (v := .int 0) (ty := .int) (C := RX3) (T := TX3) (N := 19) hx hb hts miX3_born_X3 tyX3 tyX3_ok nmX3 hown hK hP hD hS 0 rfl rfl 0 (by decide) (hts (.fieldLink RX3 40 "SectionFibresModel" "thrown" "I") mbX3_born_1) (fun _ h9 => h9) rfl (by decide +kernel) rfl rfl (Nat.le_of_ble_eq_true rfl) dX3_born_2 (fun H locs hP hD hS => ?_)
  have hP : va_P (dC, dI) vwCl (wR cA Z g n 0 hs pe pk fo mo fE fK) H := hP
  have hD : va_D Av (wR cA Z g n 0 hs pe pk fo mo fE fK) := hD
  refine lv_aload_n hx hb dX3_born_5 rfl (lv_at hl 0 rfl) ?_
  refine lv_iload_n hx hb dX3_born_6 rfl (lv_at hl 1 rfl) ?_
  refine rd_i (va_runV (As := [.int a]) (rest := []) ⟨hx, hb, hml, hown, hts⟩ (c_X3_isFibre l dC dI cA H Z g n 0 hs pe pk fo mo fE fK hP (by omega) a) (cwV 1 hts gX3_born_X3_isFibre rfl rfl rfl (by decide +kernel) ⟨Nat.le_of_ble_eq_true rfl, Nat.le_of_ble_eq_true rfl⟩) ⟨rd_bl, va_recv hK hP (ci := 4) (q0 := 0) rfl rfl, rd_pre hK hN⟩ rfl rfl hl.1 rfl (lv_room (Nat.le_of_ble_eq_true rfl)) dX3_born_7 ⟨Nat.zero_le _, Nat.zero_le _⟩) hS (fun r1 locs hq2 hS => ?_)
  rcases hq2 with ⟨hq2, rfl⟩ | ⟨hq2, rfl⟩
  · have q1 : rg a 0 ((n : Int) - 1) := hq2
    refine lv_if_eq (tgt := 26) hx hb dX3_born_10 (by decide) (fun h9 => absurd h9 (by decide)) (fun _ => ?_)
    refine lv_iload_n hx hb dX3_born_13 rfl (lv_at hl 2 rfl) ?_
    refine lv_sipush (v := (-30000)) hx hb dX3_born_14 (by decide) ?_
    refine lv_sipush (v := 30000) hx hb dX3_born_17 (by decide) ?_
    refine rd_i (va_runS (As := [.int b, .int (-30000), .int 30000]) (rest := []) ⟨hx, hb, hml, hown, hts⟩ (c_X3_within l dC dI cA H b (-30000) 30000 (-30000) 30000 (by decide) (by decide)) (va_cwS 3 hts gX3_born_X3_within rfl rfl rfl (by decide +kernel) ⟨Nat.le_of_ble_eq_true rfl, Nat.le_of_ble_eq_true rfl⟩) ⟨rd_bl, rd_pre hK hN⟩ rfl rfl hl.1 rfl (lv_room (Nat.le_of_ble_eq_true rfl)) dX3_born_20 ⟨Nat.zero_le _, Nat.zero_le _⟩) hS (fun r3 locs hq4 hS => ?_)
    rcases hq4 with ⟨hq4, rfl⟩ | ⟨hq4, rfl⟩
    · have q2 : rg b (-30000) 30000 := hq4
      refine lv_if_ne (tgt := 28) hx hb dX3_born_23 (by decide) (fun _ => ?_) (fun h9 => absurd h9 (by decide))
      refine lv_aload_n hx hb dX3_born_28 rfl (lv_at hl 0 rfl) ?_
      refine va_get (D := (dC, dI)) (ci := 4) (v := .ref (Z 4)) (C := RX3) (T := TX3) (N := 19) hx hb hts miX3_born_X3 hown hK hP 0 rfl rfl 5 (by decide) (hts (.fieldLink RX3 19 "SectionFibresModel" "borns" "[I") mbX3_born_2) (fun _ h9 => h9) rfl dX3_born_29 ?_
      refine lv_iload_n hx hb dX3_born_32 rfl (lv_at hl 1 rfl) ?_
      refine lv_iload_n hx hb dX3_born_33 rfl (lv_at hl 2 rfl) ?_
      refine iasn hx hb hK hP hD hS 4 0 rfl rfl a.toNatClampNeg (rg_nI q1) (by have h9 := rg_lt q1; omega) (by decide) dX3_born_34 (fun H locs hP hD hS => ?_)
      have hP : va_P (dC, dI) vwCl (wR cA Z (setG g 3 a.toNatClampNeg b) n 0 hs pe pk fo mo fE fK) H := hP
      have hD : va_D Av (wR cA Z (setG g 3 a.toNatClampNeg b) n 0 hs pe pk fo mo fE fK) := hD
      refine lv_aload_n hx hb dX3_born_35 rfl (lv_at hl 0 rfl) ?_
      refine lv_iconst (v := 0) hx hb dX3_born_36 (by decide) ?_
      refine va_put (D := (dC, dI)) (ci := 4) (v := .int 0) (ty := .boolean) (C := RX3) (T := TX3) (N := 19) hx hb hts miX3_born_X3 tyX3 tyX3_ok nmX3 hown hK hP hD hS 0 rfl rfl 12 (by decide) (hts (.fieldLink RX3 60 "SectionFibresModel" "has" "Z") mbX3_born_3) (fun _ h9 => h9) rfl (by decide +kernel) rfl rfl (Nat.le_of_ble_eq_true rfl) dX3_born_37 (fun H locs hP hD hS => ?_)
      have hP : va_P (dC, dI) vwCl (wR cA Z (setG g 3 a.toNatClampNeg b) n 0 0 pe pk fo mo fE fK) H := hP
      have hD : va_D Av (wR cA Z (setG g 3 a.toNatClampNeg b) n 0 0 pe pk fo mo fE fK) := hD
      refine lv_iconst (v := 1) hx hb dX3_born_40 (by decide) ?_
      exact W.zret (ty := .boolean) (v := 1) hx hb hr (by decide) (fun t9 ht9 hW9 => ⟨⟨_, (((setG g 3 a.toNatClampNeg b), n, 0, pe, pk, fo, mo), 0, fE, fK), rfl, (⟨(bor_t ⟨q1, q2⟩).symm, rfl⟩), by dsimp only; rw [ht9]; exact hP⟩, hS.F ht9⟩) hS.2.2 dX3_born_41
    · have q2 : ¬ (rg b (-30000) 30000) := hq4
      refine lv_if_ne (tgt := 28) hx hb dX3_born_23 (by decide) (fun h9 => absurd h9 (by decide)) (fun _ => ?_)
      refine lv_iconst (v := 0) hx hb dX3_born_26 (by decide) ?_
      exact W.zret (ty := .boolean) (v := 0) hx hb hr (by decide) (fun t9 ht9 hW9 => ⟨⟨_, ((g, n, hs, pe, pk, fo, mo), 0, fE, fK), rfl, (⟨(bor_f (fun h9 => q2 h9.2)).symm, rfl⟩), by dsimp only; rw [ht9]; exact hP⟩, hS.F ht9⟩) hS.2.2 dX3_born_27
  · have q1 : ¬ (rg a 0 ((n : Int) - 1)) := hq2
    refine lv_if_eq (tgt := 26) hx hb dX3_born_10 (by decide) (fun _ => ?_) (fun h9 => absurd h9 (by decide))
    refine lv_iconst (v := 0) hx hb dX3_born_26 (by decide) ?_
    exact W.zret (ty := .boolean) (v := 0) hx hb hr (by decide) (fun t9 ht9 hW9 => ⟨⟨_, ((g, n, hs, pe, pk, fo, mo), 0, fE, fK), rfl, (⟨(bor_f (fun h9 => q1 h9.1)).symm, rfl⟩), by dsimp only; rw [ht9]; exact hP⟩, hS.F ht9⟩) hS.2.2 dX3_born_27

set_option maxRecDepth 20000 in
theorem miX3_keeps_X3 : ∀ w ∈ u_ws RX3 TX3 19, w ∈ wsX3_keeps := by decide +kernel
set_option maxRecDepth 20000 in
theorem mbX3_keeps_1 : (.fieldLink RX3 40 "SectionFibresModel" "thrown" "I" : Cond) ∈ wsX3_keeps := by decide +kernel
set_option maxRecDepth 20000 in
theorem mbX3_keeps_2 : (.fieldLink RX3 22 "SectionFibresModel" "kept" "[I" : Cond) ∈ wsX3_keeps := by decide +kernel
set_option maxRecDepth 20000 in
theorem mbX3_keeps_3 : (.fieldLink RX3 60 "SectionFibresModel" "has" "Z" : Cond) ∈ wsX3_keeps := by decide +kernel
set_option maxHeartbeats 4000000 in
set_option maxRecDepth 100000 in
theorem c_X3_keeps (l : Launch) (dC : Nat → ClassId) (dI : Nat → Nat → Nat) (cA : ClassId) (H : Heap) (Z : Nat → Nat) (g : Gg) (n : Nat) (th hs pe pk : Int32) (fo mo : Int64) (fE fK : Int32) (hP : va_P (dC, dI) vwCl (wR cA Z g n th hs pe pk fo mo fE fK) H) (hD : va_D (fun _ => True) (wR cA Z g n th hs pe pk fo mo fE fK)) (hn : n ≤ 40) (a b : Int32) : Met l yX3_keeps wsX3_keeps ({ frames := 1, cells := 0, slots := 0, locals := 22 }) (rd_P [.ref (Z 0), .int a, .int b] H (dC, dI) vwCl [(cA, .int)]) (va_Qi (fun (r : Int32) (u : Su) => (r, u.1) = keeF (g, n, hs, pe, pk, fo, mo) a b ∧ u.2.1 = 0) (fun u t => bR dC dI cA Z u t.heap) (va_A (wR cA Z g n th hs pe pk fo mo fE fK) H.size)) 0 0 (va_A (wR cA Z g n th hs pe pk fo mo fE fK) H.size) := by
  refine Met.ofW (cc := cX3_keeps) (maxL := 3) (ret := (some .boolean)) (by decide) rfl ?_
  intro p e s m args below meth c s₁ B hml hv
  obtain ⟨rfl, hH, hK, hN⟩ := hv
  subst hH
  have hx := B.exec
  have hb := B.bytes
  have hr := B.returns
  have hts := atoms_spec (ws := wsX3_keeps) B.pre
  have hown : s.vm.findClass RX3 = some m.cls := findClass_of_methodNamed B.named
  have hlocks := B.notSynchronized
  have hD := hD.self (sz := s.heap.size)
  generalize hAe : va_A (wR cA Z g n th hs pe pk fo mo fE fK) s.heap.size = Av at hD ⊢
  have hA : ∀ q : Nat, s.heap.size ≤ q → Av q := fun q h => by rw [← hAe]; exact Or.inr h
  have hS : va_S Av s.heap s.heap [] := va_S.rf
  have hl := lv_entry ([.ref (Z 0), .int a, .int b]) (n := 3) (Nat.le_of_ble_eq_true rfl)
  rw [lg_entry_eq]
  generalize (lg_sl ([.ref (Z 0), .int a, .int b]) ++ List.replicate (3 - (lg_sl ([.ref (Z 0), .int a, .int b])).length) Slot.unset).toArray = ls at hl ⊢
  have hl : lv_has ls 3 [(0, .ref (Z 0)), (1, .int a), (2, .int b)] := hl
  refine lv_aload_n hx hb dX3_keeps_0 rfl (lv_at hl 0 rfl) ?_
  refine lv_iconst (v := 0) hx hb dX3_keeps_1 (by decide) ?_
  refine va_put (D := (dC, dI)) (ci := 4) (v := .int 0) (ty := .int) (C := RX3) (T := TX3) (N := 19) hx hb hts miX3_keeps_X3 tyX3 tyX3_ok nmX3 hown hK hP hD hS 0 rfl rfl 0 (by decide) (hts (.fieldLink RX3 40 "SectionFibresModel" "thrown" "I") mbX3_keeps_1) (fun _ h9 => h9) rfl (by decide +kernel) rfl rfl (Nat.le_of_ble_eq_true rfl) dX3_keeps_2 (fun H locs hP hD hS => ?_)
  have hP : va_P (dC, dI) vwCl (wR cA Z g n 0 hs pe pk fo mo fE fK) H := hP
  have hD : va_D Av (wR cA Z g n 0 hs pe pk fo mo fE fK) := hD
  refine lv_aload_n hx hb dX3_keeps_5 rfl (lv_at hl 0 rfl) ?_
  refine lv_iload_n hx hb dX3_keeps_6 rfl (lv_at hl 1 rfl) ?_
  refine rd_i (va_runV (As := [.int a]) (rest := []) ⟨hx, hb, hml, hown, hts⟩ (c_X3_isFibre l dC dI cA H Z g n 0 hs pe pk fo mo fE fK hP (by omega) a) (cwV 1 hts gX3_keeps_X3_isFibre rfl rfl rfl (by decide +kernel) ⟨Nat.le_of_ble_eq_true rfl, Nat.le_of_ble_eq_true rfl⟩) ⟨rd_bl, va_recv hK hP (ci := 4) (q0 := 0) rfl rfl, rd_pre hK hN⟩ rfl rfl hl.1 rfl (lv_room (Nat.le_of_ble_eq_true rfl)) dX3_keeps_7 ⟨Nat.zero_le _, Nat.zero_le _⟩) hS (fun r1 locs hq2 hS => ?_)
  rcases hq2 with ⟨hq2, rfl⟩ | ⟨hq2, rfl⟩
  · have q1 : rg a 0 ((n : Int) - 1) := hq2
    refine lv_if_eq (tgt := 23) hx hb dX3_keeps_10 (by decide) (fun h9 => absurd h9 (by decide)) (fun _ => ?_)
    refine lv_iload_n hx hb dX3_keeps_13 rfl (lv_at hl 2 rfl) ?_
    refine lv_iconst (v := 0) hx hb dX3_keeps_14 (by decide) ?_
    refine lv_bipush (v := 100) hx hb dX3_keeps_15 (by decide) ?_
    refine rd_i (va_runS (As := [.int b, .int 0, .int 100]) (rest := []) ⟨hx, hb, hml, hown, hts⟩ (c_X3_within l dC dI cA H b 0 100 0 100 (by decide) (by decide)) (va_cwS 3 hts gX3_keeps_X3_within rfl rfl rfl (by decide +kernel) ⟨Nat.le_of_ble_eq_true rfl, Nat.le_of_ble_eq_true rfl⟩) ⟨rd_bl, rd_pre hK hN⟩ rfl rfl hl.1 rfl (lv_room (Nat.le_of_ble_eq_true rfl)) dX3_keeps_17 ⟨Nat.zero_le _, Nat.zero_le _⟩) hS (fun r3 locs hq4 hS => ?_)
    rcases hq4 with ⟨hq4, rfl⟩ | ⟨hq4, rfl⟩
    · have q2 : rg b 0 100 := hq4
      refine lv_if_ne (tgt := 25) hx hb dX3_keeps_20 (by decide) (fun _ => ?_) (fun h9 => absurd h9 (by decide))
      refine lv_aload_n hx hb dX3_keeps_25 rfl (lv_at hl 0 rfl) ?_
      refine va_get (D := (dC, dI)) (ci := 4) (v := .ref (Z 5)) (C := RX3) (T := TX3) (N := 19) hx hb hts miX3_keeps_X3 hown hK hP 0 rfl rfl 6 (by decide) (hts (.fieldLink RX3 22 "SectionFibresModel" "kept" "[I") mbX3_keeps_2) (fun _ h9 => h9) rfl dX3_keeps_26 ?_
      refine lv_iload_n hx hb dX3_keeps_29 rfl (lv_at hl 1 rfl) ?_
      refine lv_iload_n hx hb dX3_keeps_30 rfl (lv_at hl 2 rfl) ?_
      refine iasn hx hb hK hP hD hS 5 0 rfl rfl a.toNatClampNeg (rg_nI q1) (by have h9 := rg_lt q1; omega) (by decide) dX3_keeps_31 (fun H locs hP hD hS => ?_)
      have hP : va_P (dC, dI) vwCl (wR cA Z (setG g 4 a.toNatClampNeg b) n 0 hs pe pk fo mo fE fK) H := hP
      have hD : va_D Av (wR cA Z (setG g 4 a.toNatClampNeg b) n 0 hs pe pk fo mo fE fK) := hD
      refine lv_aload_n hx hb dX3_keeps_32 rfl (lv_at hl 0 rfl) ?_
      refine lv_iconst (v := 0) hx hb dX3_keeps_33 (by decide) ?_
      refine va_put (D := (dC, dI)) (ci := 4) (v := .int 0) (ty := .boolean) (C := RX3) (T := TX3) (N := 19) hx hb hts miX3_keeps_X3 tyX3 tyX3_ok nmX3 hown hK hP hD hS 0 rfl rfl 12 (by decide) (hts (.fieldLink RX3 60 "SectionFibresModel" "has" "Z") mbX3_keeps_3) (fun _ h9 => h9) rfl (by decide +kernel) rfl rfl (Nat.le_of_ble_eq_true rfl) dX3_keeps_34 (fun H locs hP hD hS => ?_)
      have hP : va_P (dC, dI) vwCl (wR cA Z (setG g 4 a.toNatClampNeg b) n 0 0 pe pk fo mo fE fK) H := hP
      have hD : va_D Av (wR cA Z (setG g 4 a.toNatClampNeg b) n 0 0 pe pk fo mo fE fK) := hD
      refine lv_iconst (v := 1) hx hb dX3_keeps_37 (by decide) ?_
      exact W.zret (ty := .boolean) (v := 1) hx hb hr (by decide) (fun t9 ht9 hW9 => ⟨⟨_, (((setG g 4 a.toNatClampNeg b), n, 0, pe, pk, fo, mo), 0, fE, fK), rfl, (⟨(kee_t ⟨q1, q2⟩).symm, rfl⟩), by dsimp only; rw [ht9]; exact hP⟩, hS.F ht9⟩) hS.2.2 dX3_keeps_38
    · have q2 : ¬ (rg b 0 100) := hq4
      refine lv_if_ne (tgt := 25) hx hb dX3_keeps_20 (by decide) (fun h9 => absurd h9 (by decide)) (fun _ => ?_)
      refine lv_iconst (v := 0) hx hb dX3_keeps_23 (by decide) ?_
      exact W.zret (ty := .boolean) (v := 0) hx hb hr (by decide) (fun t9 ht9 hW9 => ⟨⟨_, ((g, n, hs, pe, pk, fo, mo), 0, fE, fK), rfl, (⟨(kee_f (fun h9 => q2 h9.2)).symm, rfl⟩), by dsimp only; rw [ht9]; exact hP⟩, hS.F ht9⟩) hS.2.2 dX3_keeps_24
  · have q1 : ¬ (rg a 0 ((n : Int) - 1)) := hq2
    refine lv_if_eq (tgt := 23) hx hb dX3_keeps_10 (by decide) (fun _ => ?_) (fun h9 => absurd h9 (by decide))
    refine lv_iconst (v := 0) hx hb dX3_keeps_23 (by decide) ?_
    exact W.zret (ty := .boolean) (v := 0) hx hb hr (by decide) (fun t9 ht9 hW9 => ⟨⟨_, ((g, n, hs, pe, pk, fo, mo), 0, fE, fK), rfl, (⟨(kee_f (fun h9 => q1 h9.1)).symm, rfl⟩), by dsimp only; rw [ht9]; exact hP⟩, hS.F ht9⟩) hS.2.2 dX3_keeps_24

set_option maxRecDepth 20000 in
theorem miX3_creeps_X3 : ∀ w ∈ u_ws RX3 TX3 19, w ∈ wsX3_creeps := by decide +kernel
set_option maxRecDepth 20000 in
theorem mbX3_creeps_1 : (.fieldLink RX3 40 "SectionFibresModel" "thrown" "I" : Cond) ∈ wsX3_creeps := by decide +kernel
set_option maxRecDepth 20000 in
theorem mbX3_creeps_2 : (.fieldLink RX3 34 "SectionFibresModel" "creep" "[I" : Cond) ∈ wsX3_creeps := by decide +kernel
set_option maxRecDepth 20000 in
theorem mbX3_creeps_3 : (.fieldLink RX3 60 "SectionFibresModel" "has" "Z" : Cond) ∈ wsX3_creeps := by decide +kernel
set_option maxHeartbeats 4000000 in
set_option maxRecDepth 100000 in
theorem c_X3_creeps (l : Launch) (dC : Nat → ClassId) (dI : Nat → Nat → Nat) (cA : ClassId) (H : Heap) (Z : Nat → Nat) (g : Gg) (n : Nat) (th hs pe pk : Int32) (fo mo : Int64) (fE fK : Int32) (hP : va_P (dC, dI) vwCl (wR cA Z g n th hs pe pk fo mo fE fK) H) (hD : va_D (fun _ => True) (wR cA Z g n th hs pe pk fo mo fE fK)) (a b : Int32) : Met l yX3_creeps wsX3_creeps ({ frames := 1, cells := 0, slots := 0, locals := 22 }) (rd_P [.ref (Z 0), .int a, .int b] H (dC, dI) vwCl [(cA, .int)]) (va_Qi (fun (r : Int32) (u : Su) => (r, u.1) = creF (g, n, hs, pe, pk, fo, mo) a b ∧ u.2.1 = 0) (fun u t => bR dC dI cA Z u t.heap) (va_A (wR cA Z g n th hs pe pk fo mo fE fK) H.size)) 0 0 (va_A (wR cA Z g n th hs pe pk fo mo fE fK) H.size) := by
  refine Met.ofW (cc := cX3_creeps) (maxL := 3) (ret := (some .boolean)) (by decide) rfl ?_
  intro p e s m args below meth c s₁ B hml hv
  obtain ⟨rfl, hH, hK, hN⟩ := hv
  subst hH
  have hx := B.exec
  have hb := B.bytes
  have hr := B.returns
  have hts := atoms_spec (ws := wsX3_creeps) B.pre
  have hown : s.vm.findClass RX3 = some m.cls := findClass_of_methodNamed B.named
  have hlocks := B.notSynchronized
  have hD := hD.self (sz := s.heap.size)
  generalize hAe : va_A (wR cA Z g n th hs pe pk fo mo fE fK) s.heap.size = Av at hD ⊢
  have hA : ∀ q : Nat, s.heap.size ≤ q → Av q := fun q h => by rw [← hAe]; exact Or.inr h
  have hS : va_S Av s.heap s.heap [] := va_S.rf
  have hl := lv_entry ([.ref (Z 0), .int a, .int b]) (n := 3) (Nat.le_of_ble_eq_true rfl)
  rw [lg_entry_eq]
  generalize (lg_sl ([.ref (Z 0), .int a, .int b]) ++ List.replicate (3 - (lg_sl ([.ref (Z 0), .int a, .int b])).length) Slot.unset).toArray = ls at hl ⊢
  have hl : lv_has ls 3 [(0, .ref (Z 0)), (1, .int a), (2, .int b)] := hl
  refine lv_aload_n hx hb dX3_creeps_0 rfl (lv_at hl 0 rfl) ?_
  refine lv_iconst (v := 0) hx hb dX3_creeps_1 (by decide) ?_
  refine va_put (D := (dC, dI)) (ci := 4) (v := .int 0) (ty := .int) (C := RX3) (T := TX3) (N := 19) hx hb hts miX3_creeps_X3 tyX3 tyX3_ok nmX3 hown hK hP hD hS 0 rfl rfl 0 (by decide) (hts (.fieldLink RX3 40 "SectionFibresModel" "thrown" "I") mbX3_creeps_1) (fun _ h9 => h9) rfl (by decide +kernel) rfl rfl (Nat.le_of_ble_eq_true rfl) dX3_creeps_2 (fun H locs hP hD hS => ?_)
  have hP : va_P (dC, dI) vwCl (wR cA Z g n 0 hs pe pk fo mo fE fK) H := hP
  have hD : va_D Av (wR cA Z g n 0 hs pe pk fo mo fE fK) := hD
  refine lv_iload_n hx hb dX3_creeps_5 rfl (lv_at hl 1 rfl) ?_
  refine rd_i (va_runS (As := [.int a]) (rest := []) ⟨hx, hb, hml, hown, hts⟩ (c_X3_isKind l dC dI cA H a) (va_cwS 1 hts gX3_creeps_X3_isKind rfl rfl rfl (by decide +kernel) ⟨Nat.le_of_ble_eq_true rfl, Nat.le_of_ble_eq_true rfl⟩) ⟨rd_bl, rd_pre hK hN⟩ rfl rfl hl.1 rfl (lv_room (Nat.le_of_ble_eq_true rfl)) dX3_creeps_6 ⟨Nat.zero_le _, Nat.zero_le _⟩) hS (fun r1 locs hq2 hS => ?_)
  rcases hq2 with ⟨hq2, rfl⟩ | ⟨hq2, rfl⟩
  · have q1 : rg a 0 3 := hq2
    refine lv_if_eq (tgt := 23) hx hb dX3_creeps_9 (by decide) (fun h9 => absurd h9 (by decide)) (fun _ => ?_)
    refine lv_iload_n hx hb dX3_creeps_12 rfl (lv_at hl 2 rfl) ?_
    refine lv_iconst (v := 0) hx hb dX3_creeps_13 (by decide) ?_
    refine lv_sipush (v := 500) hx hb dX3_creeps_14 (by decide) ?_
    refine rd_i (va_runS (As := [.int b, .int 0, .int 500]) (rest := []) ⟨hx, hb, hml, hown, hts⟩ (c_X3_within l dC dI cA H b 0 500 0 500 (by decide) (by decide)) (va_cwS 3 hts gX3_creeps_X3_within rfl rfl rfl (by decide +kernel) ⟨Nat.le_of_ble_eq_true rfl, Nat.le_of_ble_eq_true rfl⟩) ⟨rd_bl, rd_pre hK hN⟩ rfl rfl hl.1 rfl (lv_room (Nat.le_of_ble_eq_true rfl)) dX3_creeps_17 ⟨Nat.zero_le _, Nat.zero_le _⟩) hS (fun r3 locs hq4 hS => ?_)
    rcases hq4 with ⟨hq4, rfl⟩ | ⟨hq4, rfl⟩
    · have q2 : rg b 0 500 := hq4
      refine lv_if_ne (tgt := 25) hx hb dX3_creeps_20 (by decide) (fun _ => ?_) (fun h9 => absurd h9 (by decide))
      refine lv_aload_n hx hb dX3_creeps_25 rfl (lv_at hl 0 rfl) ?_
      refine va_get (D := (dC, dI)) (ci := 4) (v := .ref (Z 9)) (C := RX3) (T := TX3) (N := 19) hx hb hts miX3_creeps_X3 hown hK hP 0 rfl rfl 10 (by decide) (hts (.fieldLink RX3 34 "SectionFibresModel" "creep" "[I") mbX3_creeps_2) (fun _ h9 => h9) rfl dX3_creeps_26 ?_
      refine lv_iload_n hx hb dX3_creeps_29 rfl (lv_at hl 1 rfl) ?_
      refine lv_iload_n hx hb dX3_creeps_30 rfl (lv_at hl 2 rfl) ?_
      refine iasn hx hb hK hP hD hS 9 0 rfl rfl a.toNatClampNeg (rg_nI q1) (by have h9 := rg_lt q1; omega) (by decide) dX3_creeps_31 (fun H locs hP hD hS => ?_)
      have hP : va_P (dC, dI) vwCl (wR cA Z (setG g 8 a.toNatClampNeg b) n 0 hs pe pk fo mo fE fK) H := hP
      have hD : va_D Av (wR cA Z (setG g 8 a.toNatClampNeg b) n 0 hs pe pk fo mo fE fK) := hD
      refine lv_aload_n hx hb dX3_creeps_32 rfl (lv_at hl 0 rfl) ?_
      refine lv_iconst (v := 0) hx hb dX3_creeps_33 (by decide) ?_
      refine va_put (D := (dC, dI)) (ci := 4) (v := .int 0) (ty := .boolean) (C := RX3) (T := TX3) (N := 19) hx hb hts miX3_creeps_X3 tyX3 tyX3_ok nmX3 hown hK hP hD hS 0 rfl rfl 12 (by decide) (hts (.fieldLink RX3 60 "SectionFibresModel" "has" "Z") mbX3_creeps_3) (fun _ h9 => h9) rfl (by decide +kernel) rfl rfl (Nat.le_of_ble_eq_true rfl) dX3_creeps_34 (fun H locs hP hD hS => ?_)
      have hP : va_P (dC, dI) vwCl (wR cA Z (setG g 8 a.toNatClampNeg b) n 0 0 pe pk fo mo fE fK) H := hP
      have hD : va_D Av (wR cA Z (setG g 8 a.toNatClampNeg b) n 0 0 pe pk fo mo fE fK) := hD
      refine lv_iconst (v := 1) hx hb dX3_creeps_37 (by decide) ?_
      exact W.zret (ty := .boolean) (v := 1) hx hb hr (by decide) (fun t9 ht9 hW9 => ⟨⟨_, (((setG g 8 a.toNatClampNeg b), n, 0, pe, pk, fo, mo), 0, fE, fK), rfl, (⟨(cre_t ⟨q1, q2⟩).symm, rfl⟩), by dsimp only; rw [ht9]; exact hP⟩, hS.F ht9⟩) hS.2.2 dX3_creeps_38
    · have q2 : ¬ (rg b 0 500) := hq4
      refine lv_if_ne (tgt := 25) hx hb dX3_creeps_20 (by decide) (fun h9 => absurd h9 (by decide)) (fun _ => ?_)
      refine lv_iconst (v := 0) hx hb dX3_creeps_23 (by decide) ?_
      exact W.zret (ty := .boolean) (v := 0) hx hb hr (by decide) (fun t9 ht9 hW9 => ⟨⟨_, ((g, n, hs, pe, pk, fo, mo), 0, fE, fK), rfl, (⟨(cre_f (fun h9 => q2 h9.2)).symm, rfl⟩), by dsimp only; rw [ht9]; exact hP⟩, hS.F ht9⟩) hS.2.2 dX3_creeps_24
  · have q1 : ¬ (rg a 0 3) := hq2
    refine lv_if_eq (tgt := 23) hx hb dX3_creeps_9 (by decide) (fun _ => ?_) (fun h9 => absurd h9 (by decide))
    refine lv_iconst (v := 0) hx hb dX3_creeps_23 (by decide) ?_
    exact W.zret (ty := .boolean) (v := 0) hx hb hr (by decide) (fun t9 ht9 hW9 => ⟨⟨_, ((g, n, hs, pe, pk, fo, mo), 0, fE, fK), rfl, (⟨(cre_f (fun h9 => q1 h9.1)).symm, rfl⟩), by dsimp only; rw [ht9]; exact hP⟩, hS.F ht9⟩) hS.2.2 dX3_creeps_24

set_option maxRecDepth 20000 in
theorem miX3_shrinks_X3 : ∀ w ∈ u_ws RX3 TX3 19, w ∈ wsX3_shrinks := by decide +kernel
set_option maxRecDepth 20000 in
theorem mbX3_shrinks_1 : (.fieldLink RX3 40 "SectionFibresModel" "thrown" "I" : Cond) ∈ wsX3_shrinks := by decide +kernel
set_option maxRecDepth 20000 in
theorem mbX3_shrinks_2 : (.fieldLink RX3 37 "SectionFibresModel" "shrunk" "[I" : Cond) ∈ wsX3_shrinks := by decide +kernel
set_option maxRecDepth 20000 in
theorem mbX3_shrinks_3 : (.fieldLink RX3 60 "SectionFibresModel" "has" "Z" : Cond) ∈ wsX3_shrinks := by decide +kernel
set_option maxHeartbeats 4000000 in
set_option maxRecDepth 100000 in
theorem c_X3_shrinks (l : Launch) (dC : Nat → ClassId) (dI : Nat → Nat → Nat) (cA : ClassId) (H : Heap) (Z : Nat → Nat) (g : Gg) (n : Nat) (th hs pe pk : Int32) (fo mo : Int64) (fE fK : Int32) (hP : va_P (dC, dI) vwCl (wR cA Z g n th hs pe pk fo mo fE fK) H) (hD : va_D (fun _ => True) (wR cA Z g n th hs pe pk fo mo fE fK)) (a b : Int32) : Met l yX3_shrinks wsX3_shrinks ({ frames := 1, cells := 0, slots := 0, locals := 22 }) (rd_P [.ref (Z 0), .int a, .int b] H (dC, dI) vwCl [(cA, .int)]) (va_Qi (fun (r : Int32) (u : Su) => (r, u.1) = shrF (g, n, hs, pe, pk, fo, mo) a b ∧ u.2.1 = 0) (fun u t => bR dC dI cA Z u t.heap) (va_A (wR cA Z g n th hs pe pk fo mo fE fK) H.size)) 0 0 (va_A (wR cA Z g n th hs pe pk fo mo fE fK) H.size) := by
  refine Met.ofW (cc := cX3_shrinks) (maxL := 3) (ret := (some .boolean)) (by decide) rfl ?_
  intro p e s m args below meth c s₁ B hml hv
  obtain ⟨rfl, hH, hK, hN⟩ := hv
  subst hH
  have hx := B.exec
  have hb := B.bytes
  have hr := B.returns
  have hts := atoms_spec (ws := wsX3_shrinks) B.pre
  have hown : s.vm.findClass RX3 = some m.cls := findClass_of_methodNamed B.named
  have hlocks := B.notSynchronized
  have hD := hD.self (sz := s.heap.size)
  generalize hAe : va_A (wR cA Z g n th hs pe pk fo mo fE fK) s.heap.size = Av at hD ⊢
  have hA : ∀ q : Nat, s.heap.size ≤ q → Av q := fun q h => by rw [← hAe]; exact Or.inr h
  have hS : va_S Av s.heap s.heap [] := va_S.rf
  have hl := lv_entry ([.ref (Z 0), .int a, .int b]) (n := 3) (Nat.le_of_ble_eq_true rfl)
  rw [lg_entry_eq]
  generalize (lg_sl ([.ref (Z 0), .int a, .int b]) ++ List.replicate (3 - (lg_sl ([.ref (Z 0), .int a, .int b])).length) Slot.unset).toArray = ls at hl ⊢
  have hl : lv_has ls 3 [(0, .ref (Z 0)), (1, .int a), (2, .int b)] := hl
  refine lv_aload_n hx hb dX3_shrinks_0 rfl (lv_at hl 0 rfl) ?_
  refine lv_iconst (v := 0) hx hb dX3_shrinks_1 (by decide) ?_
  refine va_put (D := (dC, dI)) (ci := 4) (v := .int 0) (ty := .int) (C := RX3) (T := TX3) (N := 19) hx hb hts miX3_shrinks_X3 tyX3 tyX3_ok nmX3 hown hK hP hD hS 0 rfl rfl 0 (by decide) (hts (.fieldLink RX3 40 "SectionFibresModel" "thrown" "I") mbX3_shrinks_1) (fun _ h9 => h9) rfl (by decide +kernel) rfl rfl (Nat.le_of_ble_eq_true rfl) dX3_shrinks_2 (fun H locs hP hD hS => ?_)
  have hP : va_P (dC, dI) vwCl (wR cA Z g n 0 hs pe pk fo mo fE fK) H := hP
  have hD : va_D Av (wR cA Z g n 0 hs pe pk fo mo fE fK) := hD
  refine lv_iload_n hx hb dX3_shrinks_5 rfl (lv_at hl 1 rfl) ?_
  refine rd_i (va_runS (As := [.int a]) (rest := []) ⟨hx, hb, hml, hown, hts⟩ (c_X3_isKind l dC dI cA H a) (va_cwS 1 hts gX3_shrinks_X3_isKind rfl rfl rfl (by decide +kernel) ⟨Nat.le_of_ble_eq_true rfl, Nat.le_of_ble_eq_true rfl⟩) ⟨rd_bl, rd_pre hK hN⟩ rfl rfl hl.1 rfl (lv_room (Nat.le_of_ble_eq_true rfl)) dX3_shrinks_6 ⟨Nat.zero_le _, Nat.zero_le _⟩) hS (fun r1 locs hq2 hS => ?_)
  rcases hq2 with ⟨hq2, rfl⟩ | ⟨hq2, rfl⟩
  · have q1 : rg a 0 3 := hq2
    refine lv_if_eq (tgt := 25) hx hb dX3_shrinks_9 (by decide) (fun h9 => absurd h9 (by decide)) (fun _ => ?_)
    refine lv_iload_n hx hb dX3_shrinks_12 rfl (lv_at hl 2 rfl) ?_
    refine lv_sipush (v := (-5000)) hx hb dX3_shrinks_13 (by decide) ?_
    refine lv_sipush (v := 5000) hx hb dX3_shrinks_16 (by decide) ?_
    refine rd_i (va_runS (As := [.int b, .int (-5000), .int 5000]) (rest := []) ⟨hx, hb, hml, hown, hts⟩ (c_X3_within l dC dI cA H b (-5000) 5000 (-5000) 5000 (by decide) (by decide)) (va_cwS 3 hts gX3_shrinks_X3_within rfl rfl rfl (by decide +kernel) ⟨Nat.le_of_ble_eq_true rfl, Nat.le_of_ble_eq_true rfl⟩) ⟨rd_bl, rd_pre hK hN⟩ rfl rfl hl.1 rfl (lv_room (Nat.le_of_ble_eq_true rfl)) dX3_shrinks_19 ⟨Nat.zero_le _, Nat.zero_le _⟩) hS (fun r3 locs hq4 hS => ?_)
    rcases hq4 with ⟨hq4, rfl⟩ | ⟨hq4, rfl⟩
    · have q2 : rg b (-5000) 5000 := hq4
      refine lv_if_ne (tgt := 27) hx hb dX3_shrinks_22 (by decide) (fun _ => ?_) (fun h9 => absurd h9 (by decide))
      refine lv_aload_n hx hb dX3_shrinks_27 rfl (lv_at hl 0 rfl) ?_
      refine va_get (D := (dC, dI)) (ci := 4) (v := .ref (Z 10)) (C := RX3) (T := TX3) (N := 19) hx hb hts miX3_shrinks_X3 hown hK hP 0 rfl rfl 11 (by decide) (hts (.fieldLink RX3 37 "SectionFibresModel" "shrunk" "[I") mbX3_shrinks_2) (fun _ h9 => h9) rfl dX3_shrinks_28 ?_
      refine lv_iload_n hx hb dX3_shrinks_31 rfl (lv_at hl 1 rfl) ?_
      refine lv_iload_n hx hb dX3_shrinks_32 rfl (lv_at hl 2 rfl) ?_
      refine iasn hx hb hK hP hD hS 10 0 rfl rfl a.toNatClampNeg (rg_nI q1) (by have h9 := rg_lt q1; omega) (by decide) dX3_shrinks_33 (fun H locs hP hD hS => ?_)
      have hP : va_P (dC, dI) vwCl (wR cA Z (setG g 9 a.toNatClampNeg b) n 0 hs pe pk fo mo fE fK) H := hP
      have hD : va_D Av (wR cA Z (setG g 9 a.toNatClampNeg b) n 0 hs pe pk fo mo fE fK) := hD
      refine lv_aload_n hx hb dX3_shrinks_34 rfl (lv_at hl 0 rfl) ?_
      refine lv_iconst (v := 0) hx hb dX3_shrinks_35 (by decide) ?_
      refine va_put (D := (dC, dI)) (ci := 4) (v := .int 0) (ty := .boolean) (C := RX3) (T := TX3) (N := 19) hx hb hts miX3_shrinks_X3 tyX3 tyX3_ok nmX3 hown hK hP hD hS 0 rfl rfl 12 (by decide) (hts (.fieldLink RX3 60 "SectionFibresModel" "has" "Z") mbX3_shrinks_3) (fun _ h9 => h9) rfl (by decide +kernel) rfl rfl (Nat.le_of_ble_eq_true rfl) dX3_shrinks_36 (fun H locs hP hD hS => ?_)
      have hP : va_P (dC, dI) vwCl (wR cA Z (setG g 9 a.toNatClampNeg b) n 0 0 pe pk fo mo fE fK) H := hP
      have hD : va_D Av (wR cA Z (setG g 9 a.toNatClampNeg b) n 0 0 pe pk fo mo fE fK) := hD
      refine lv_iconst (v := 1) hx hb dX3_shrinks_39 (by decide) ?_
      exact W.zret (ty := .boolean) (v := 1) hx hb hr (by decide) (fun t9 ht9 hW9 => ⟨⟨_, (((setG g 9 a.toNatClampNeg b), n, 0, pe, pk, fo, mo), 0, fE, fK), rfl, (⟨(shr_t ⟨q1, q2⟩).symm, rfl⟩), by dsimp only; rw [ht9]; exact hP⟩, hS.F ht9⟩) hS.2.2 dX3_shrinks_40
    · have q2 : ¬ (rg b (-5000) 5000) := hq4
      refine lv_if_ne (tgt := 27) hx hb dX3_shrinks_22 (by decide) (fun h9 => absurd h9 (by decide)) (fun _ => ?_)
      refine lv_iconst (v := 0) hx hb dX3_shrinks_25 (by decide) ?_
      exact W.zret (ty := .boolean) (v := 0) hx hb hr (by decide) (fun t9 ht9 hW9 => ⟨⟨_, ((g, n, hs, pe, pk, fo, mo), 0, fE, fK), rfl, (⟨(shr_f (fun h9 => q2 h9.2)).symm, rfl⟩), by dsimp only; rw [ht9]; exact hP⟩, hS.F ht9⟩) hS.2.2 dX3_shrinks_26
  · have q1 : ¬ (rg a 0 3) := hq2
    refine lv_if_eq (tgt := 25) hx hb dX3_shrinks_9 (by decide) (fun _ => ?_) (fun h9 => absurd h9 (by decide))
    refine lv_iconst (v := 0) hx hb dX3_shrinks_25 (by decide) ?_
    exact W.zret (ty := .boolean) (v := 0) hx hb hr (by decide) (fun t9 ht9 hW9 => ⟨⟨_, ((g, n, hs, pe, pk, fo, mo), 0, fE, fK), rfl, (⟨(shr_f (fun h9 => q1 h9.1)).symm, rfl⟩), by dsimp only; rw [ht9]; exact hP⟩, hS.F ht9⟩) hS.2.2 dX3_shrinks_26

set_option maxRecDepth 20000 in
theorem miX3_row_X3 : ∀ w ∈ u_ws RX3 TX3 19, w ∈ wsX3_row := by decide +kernel
set_option maxRecDepth 20000 in
theorem mbX3_row_1 : (.fieldLink RX3 40 "SectionFibresModel" "thrown" "I" : Cond) ∈ wsX3_row := by decide +kernel
set_option maxHeartbeats 4000000 in
set_option maxRecDepth 100000 in
theorem c_X3_row (l : Launch) (dC : Nat → ClassId) (dI : Nat → Nat → Nat) (cA : ClassId) (H : Heap) (Z : Nat → Nat) (g : Gg) (n : Nat) (th hs pe pk : Int32) (fo mo : Int64) (fE fK : Int32) (hP : va_P (dC, dI) vwCl (wR cA Z g n th hs pe pk fo mo fE fK) H) (hD : va_D (fun _ => True) (wR cA Z g n th hs pe pk fo mo fE fK)) (hg : InvG g) (a b : Int32) : Met l yX3_row wsX3_row ({ frames := 1, cells := 0, slots := 0, locals := 27 }) (rd_P [.ref (Z 0), .int a, .int b] H (dC, dI) vwCl [(cA, .int)]) (va_Qi (fun (r : Int32) (u : Su) => u.1 = (g, n, hs, pe, pk, fo, mo) ∧ ((rg a 0 3 ∧ u.2.1 = 0 ∧ r = rwF g a b) ∨ (¬ rg a 0 3 ∧ u.2.1 = 1))) (fun u t => bR dC dI cA Z u t.heap) (va_A (wR cA Z g n th hs pe pk fo mo fE fK) H.size)) 0 0 (va_A (wR cA Z g n th hs pe pk fo mo fE fK) H.size) := by
  refine Met.ofW (cc := cX3_row) (maxL := 3) (ret := (some .int)) (by decide) rfl ?_
  intro p e s m args below meth c s₁ B hml hv
  obtain ⟨rfl, hH, hK, hN⟩ := hv
  subst hH
  have hx := B.exec
  have hb := B.bytes
  have hr := B.returns
  have hts := atoms_spec (ws := wsX3_row) B.pre
  have hown : s.vm.findClass RX3 = some m.cls := findClass_of_methodNamed B.named
  have hlocks := B.notSynchronized
  have hD := hD.self (sz := s.heap.size)
  generalize hAe : va_A (wR cA Z g n th hs pe pk fo mo fE fK) s.heap.size = Av at hD ⊢
  have hA : ∀ q : Nat, s.heap.size ≤ q → Av q := fun q h => by rw [← hAe]; exact Or.inr h
  have hS : va_S Av s.heap s.heap [] := va_S.rf
  have hl := lv_entry ([.ref (Z 0), .int a, .int b]) (n := 3) (Nat.le_of_ble_eq_true rfl)
  rw [lg_entry_eq]
  generalize (lg_sl ([.ref (Z 0), .int a, .int b]) ++ List.replicate (3 - (lg_sl ([.ref (Z 0), .int a, .int b])).length) Slot.unset).toArray = ls at hl ⊢
  have hl : lv_has ls 3 [(0, .ref (Z 0)), (1, .int a), (2, .int b)] := hl
  refine lv_aload_n hx hb dX3_row_0 rfl (lv_at hl 0 rfl) ?_
  refine lv_iload_n hx hb dX3_row_1 rfl (lv_at hl 1 rfl) ?_
  refine rd_i (va_runS (As := [.int a]) (rest := [.ref (Z 0)]) ⟨hx, hb, hml, hown, hts⟩ (c_X3_isKind l dC dI cA s.heap a) (va_cwS 1 hts gX3_row_X3_isKind rfl rfl rfl (by decide +kernel) ⟨Nat.le_of_ble_eq_true rfl, Nat.le_of_ble_eq_true rfl⟩) ⟨rd_bl, rd_pre hK hN⟩ rfl rfl hl.1 rfl (lv_room (Nat.le_of_ble_eq_true rfl)) dX3_row_2 ⟨Nat.zero_le _, Nat.zero_le _⟩) hS (fun r1 locs hq2 hS => ?_)
  rcases hq2 with ⟨hq2, rfl⟩ | ⟨hq2, rfl⟩
  · have q1 : rg a 0 3 := hq2
    refine lv_if_eq (tgt := 12) hx hb dX3_row_5 (by decide) (fun h9 => absurd h9 (by decide)) (fun _ => ?_)
    refine lv_iconst (v := 0) hx hb dX3_row_8 (by decide) ?_
    refine lv_goto (tgt := 13) hx hb dX3_row_9 (by decide) ?_
    refine va_put (D := (dC, dI)) (ci := 4) (v := .int 0) (ty := .int) (C := RX3) (T := TX3) (N := 19) hx hb hts miX3_row_X3 tyX3 tyX3_ok nmX3 hown hK hP hD hS 0 rfl rfl 0 (by decide) (hts (.fieldLink RX3 40 "SectionFibresModel" "thrown" "I") mbX3_row_1) (fun _ h9 => h9) rfl (by decide +kernel) rfl rfl (Nat.le_of_ble_eq_true rfl) dX3_row_13 (fun H locs hP hD hS => ?_)
    have hP : va_P (dC, dI) vwCl (wR cA Z g n 0 hs pe pk fo mo fE fK) H := hP
    have hD : va_D Av (wR cA Z g n 0 hs pe pk fo mo fE fK) := hD
    refine lv_aload_n hx hb dX3_row_16 rfl (lv_at hl 0 rfl) ?_
    refine va_get (D := (dC, dI)) (ci := 4) (v := .int 0) (C := RX3) (T := TX3) (N := 19) hx hb hts miX3_row_X3 hown hK hP 0 rfl rfl 0 (by decide) (hts (.fieldLink RX3 40 "SectionFibresModel" "thrown" "I") mbX3_row_1) (fun _ h9 => h9) rfl dX3_row_17 ?_
    refine lv_if_le (tgt := 27) hx hb dX3_row_20 (by decide) (fun _ => ?_) (fun h9 => absurd h9 (by decide))
    refine lv_aload_n hx hb dX3_row_27 rfl (lv_at hl 0 rfl) ?_
    refine lv_iload_n hx hb dX3_row_28 rfl (lv_at hl 1 rfl) ?_
    refine lv_iload_n hx hb dX3_row_29 rfl (lv_at hl 2 rfl) ?_
    refine rd_i (va_runV (As := [.int a, .int b]) (rest := []) ⟨hx, hb, hml, hown, hts⟩ (c_X3_stressAt l dC dI cA H Z g n 0 hs pe pk fo mo fE fK hP hg a b (rg_in q1)) (cwV 2 hts gX3_row_X3_stressAt rfl rfl rfl (by decide +kernel) ⟨Nat.le_of_ble_eq_true rfl, Nat.le_of_ble_eq_true rfl⟩) ⟨rd_bl, va_recv hK hP (ci := 4) (q0 := 0) rfl rfl, rd_pre hK hN⟩ rfl rfl hl.1 rfl (lv_room (Nat.le_of_ble_eq_true rfl)) dX3_row_30 ⟨Nat.zero_le _, Nat.zero_le _⟩) hS (fun r3 locs hq4 hS => ?_)
    have hq4 : r3 = rwF g a b := hq4
    subst hq4
    exact W.iret (v := (rwF g a b)) hx hb hr (fun t9 ht9 hW9 => ⟨⟨_, ((g, n, hs, pe, pk, fo, mo), 0, fE, fK), rfl, (⟨rfl, Or.inl ⟨q1, rfl, rfl⟩⟩), by dsimp only; rw [ht9]; exact hP⟩, hS.F ht9⟩) hS.2.2 dX3_row_33
  · have q1 : ¬ (rg a 0 3) := hq2
    refine lv_if_eq (tgt := 12) hx hb dX3_row_5 (by decide) (fun _ => ?_) (fun h9 => absurd h9 (by decide))
    refine lv_iconst (v := 1) hx hb dX3_row_12 (by decide) ?_
    refine va_put (D := (dC, dI)) (ci := 4) (v := .int 1) (ty := .int) (C := RX3) (T := TX3) (N := 19) hx hb hts miX3_row_X3 tyX3 tyX3_ok nmX3 hown hK hP hD hS 0 rfl rfl 0 (by decide) (hts (.fieldLink RX3 40 "SectionFibresModel" "thrown" "I") mbX3_row_1) (fun _ h9 => h9) rfl (by decide +kernel) rfl rfl (Nat.le_of_ble_eq_true rfl) dX3_row_13 (fun H locs hP hD hS => ?_)
    have hP : va_P (dC, dI) vwCl (wR cA Z g n 1 hs pe pk fo mo fE fK) H := hP
    have hD : va_D Av (wR cA Z g n 1 hs pe pk fo mo fE fK) := hD
    refine lv_aload_n hx hb dX3_row_16 rfl (lv_at hl 0 rfl) ?_
    refine va_get (D := (dC, dI)) (ci := 4) (v := .int 1) (C := RX3) (T := TX3) (N := 19) hx hb hts miX3_row_X3 hown hK hP 0 rfl rfl 0 (by decide) (hts (.fieldLink RX3 40 "SectionFibresModel" "thrown" "I") mbX3_row_1) (fun _ h9 => h9) rfl dX3_row_17 ?_
    refine lv_if_le (tgt := 27) hx hb dX3_row_20 (by decide) (fun h9 => absurd h9 (by decide)) (fun _ => ?_)
    refine lv_iconst (v := 0) hx hb dX3_row_23 (by decide) ?_
    refine lv_goto (tgt := 33) hx hb dX3_row_24 (by decide) ?_
    exact W.iret (v := 0) hx hb hr (fun t9 ht9 hW9 => ⟨⟨_, ((g, n, hs, pe, pk, fo, mo), 1, fE, fK), rfl, (⟨rfl, Or.inr ⟨q1, rfl⟩⟩), by dsimp only; rw [ht9]; exact hP⟩, hS.F ht9⟩) hS.2.2 dX3_row_33

set_option maxRecDepth 20000 in
theorem miX3_of_X3 : ∀ w ∈ u_ws RX3 TX3 19, w ∈ wsX3_of := by decide +kernel
set_option maxRecDepth 20000 in
theorem mbX3_of_1 : (.fieldLink RX3 40 "SectionFibresModel" "thrown" "I" : Cond) ∈ wsX3_of := by decide +kernel
set_option maxRecDepth 20000 in
theorem mbX3_of_2 : (.constantLong RX3 89 (-4611686018427387904) : Cond) ∈ wsX3_of := by decide +kernel
set_option maxHeartbeats 4000000 in
set_option maxRecDepth 100000 in
theorem c_X3_of (l : Launch) (dC : Nat → ClassId) (dI : Nat → Nat → Nat) (cA : ClassId) (H : Heap) (Z : Nat → Nat) (g : Gg) (n : Nat) (th hs pe pk : Int32) (fo mo : Int64) (fE fK : Int32) (hP : va_P (dC, dI) vwCl (wR cA Z g n th hs pe pk fo mo fE fK) H) (hD : va_D (fun _ => True) (wR cA Z g n th hs pe pk fo mo fE fK)) (hg : InvG g) (hn : n ≤ 41) (ee kb wh : Int32) : Met l yX3_of wsX3_of ({ frames := 3, cells := 0, slots := 0, locals := 76 }) (rd_P [.ref (Z 0), .int ee, .int kb, .int wh] H (dC, dI) vwCl [(cA, .int)]) (va_Ql (fun (r : Int64) (u : Su) => r = ofF g n ee kb wh ∧ u.1 = (g, n, hs, pe, pk, fo, mo) ∧ u.2.1 = 0) (fun u t => bR dC dI cA Z u t.heap) (va_A (wR cA Z g n th hs pe pk fo mo fE fK) H.size)) 0 0 (va_A (wR cA Z g n th hs pe pk fo mo fE fK) H.size) := by
  refine Met.ofW (cc := cX3_of) (maxL := 5) (ret := (some .long)) (by decide) rfl ?_
  intro p e s m args below meth c s₁ B hml hv
  obtain ⟨rfl, hH, hK, hN⟩ := hv
  subst hH
  have hx := B.exec
  have hb := B.bytes
  have hr := B.returns
  have hts := atoms_spec (ws := wsX3_of) B.pre
  have hown : s.vm.findClass RX3 = some m.cls := findClass_of_methodNamed B.named
  have hlocks := B.notSynchronized
  have hD := hD.self (sz := s.heap.size)
  generalize hAe : va_A (wR cA Z g n th hs pe pk fo mo fE fK) s.heap.size = Av at hD ⊢
  have hA : ∀ q : Nat, s.heap.size ≤ q → Av q := fun q h => by rw [← hAe]; exact Or.inr h
  have hS : va_S Av s.heap s.heap [] := va_S.rf
  have hl := lv_entry ([.ref (Z 0), .int ee, .int kb, .int wh]) (n := 5) (Nat.le_of_ble_eq_true rfl)
  rw [lg_entry_eq]
  generalize (lg_sl ([.ref (Z 0), .int ee, .int kb, .int wh]) ++ List.replicate (5 - (lg_sl ([.ref (Z 0), .int ee, .int kb, .int wh])).length) Slot.unset).toArray = ls at hl ⊢
  have hl : lv_has ls 5 [(0, .ref (Z 0)), (1, .int ee), (2, .int kb), (3, .int wh)] := hl
  refine lv_aload_n hx hb dX3_of_0 rfl (lv_at hl 0 rfl) ?_
  refine lv_iconst (v := 0) hx hb dX3_of_1 (by decide) ?_
  refine va_put (D := (dC, dI)) (ci := 4) (v := .int 0) (ty := .int) (C := RX3) (T := TX3) (N := 19) hx hb hts miX3_of_X3 tyX3 tyX3_ok nmX3 hown hK hP hD hS 0 rfl rfl 0 (by decide) (hts (.fieldLink RX3 40 "SectionFibresModel" "thrown" "I") mbX3_of_1) (fun _ h9 => h9) rfl (by decide +kernel) rfl rfl (Nat.le_of_ble_eq_true rfl) dX3_of_2 (fun H locs hP hD hS => ?_)
  have hP : va_P (dC, dI) vwCl (wR cA Z g n 0 hs pe pk fo mo fE fK) H := hP
  have hD : va_D Av (wR cA Z g n 0 hs pe pk fo mo fE fK) := hD
  refine lv_iload_n hx hb dX3_of_5 rfl (lv_at hl 1 rfl) ?_
  refine lv_sipush (v := (-20000)) hx hb dX3_of_6 (by decide) ?_
  refine lv_sipush (v := 20000) hx hb dX3_of_9 (by decide) ?_
  refine rd_i (va_runS (As := [.int ee, .int (-20000), .int 20000]) (rest := []) ⟨hx, hb, hml, hown, hts⟩ (c_X3_within l dC dI cA H ee (-20000) 20000 (-20000) 20000 (by decide) (by decide)) (va_cwS 3 hts gX3_of_X3_within rfl rfl rfl (by decide +kernel) ⟨Nat.le_of_ble_eq_true rfl, Nat.le_of_ble_eq_true rfl⟩) ⟨rd_bl, rd_pre hK hN⟩ rfl rfl hl.1 rfl (lv_room (Nat.le_of_ble_eq_true rfl)) dX3_of_12 ⟨Nat.zero_le _, Nat.zero_le _⟩) hS (fun r1 locs hq2 hS => ?_)
  rcases hq2 with ⟨hq2, rfl⟩ | ⟨hq2, rfl⟩
  · have q1 : rg ee (-20000) 20000 := hq2
    refine lv_if_eq (tgt := 44) hx hb dX3_of_15 (by decide) (fun h9 => absurd h9 (by decide)) (fun _ => ?_)
    refine lv_iload_n hx hb dX3_of_18 rfl (lv_at hl 2 rfl) ?_
    refine lv_sipush (v := (-20000)) hx hb dX3_of_19 (by decide) ?_
    refine lv_sipush (v := 20000) hx hb dX3_of_22 (by decide) ?_
    refine rd_i (va_runS (As := [.int kb, .int (-20000), .int 20000]) (rest := []) ⟨hx, hb, hml, hown, hts⟩ (c_X3_within l dC dI cA H kb (-20000) 20000 (-20000) 20000 (by decide) (by decide)) (va_cwS 3 hts gX3_of_X3_within rfl rfl rfl (by decide +kernel) ⟨Nat.le_of_ble_eq_true rfl, Nat.le_of_ble_eq_true rfl⟩) ⟨rd_bl, rd_pre hK hN⟩ rfl rfl hl.1 rfl (lv_room (Nat.le_of_ble_eq_true rfl)) dX3_of_25 ⟨Nat.zero_le _, Nat.zero_le _⟩) hS (fun r3 locs hq4 hS => ?_)
    rcases hq4 with ⟨hq4, rfl⟩ | ⟨hq4, rfl⟩
    · have q2 : rg kb (-20000) 20000 := hq4
      refine lv_if_eq (tgt := 44) hx hb dX3_of_28 (by decide) (fun h9 => absurd h9 (by decide)) (fun _ => ?_)
      refine lv_iload_n hx hb dX3_of_31 rfl (lv_at hl 3 rfl) ?_
      refine lv_iconst (v := 0) hx hb dX3_of_32 (by decide) ?_
      refine lv_iconst (v := 1) hx hb dX3_of_33 (by decide) ?_
      refine rd_i (va_runS (As := [.int wh, .int 0, .int 1]) (rest := []) ⟨hx, hb, hml, hown, hts⟩ (c_X3_within l dC dI cA H wh 0 1 0 1 (by decide) (by decide)) (va_cwS 3 hts gX3_of_X3_within rfl rfl rfl (by decide +kernel) ⟨Nat.le_of_ble_eq_true rfl, Nat.le_of_ble_eq_true rfl⟩) ⟨rd_bl, rd_pre hK hN⟩ rfl rfl hl.1 rfl (lv_room (Nat.le_of_ble_eq_true rfl)) dX3_of_34 ⟨Nat.zero_le _, Nat.zero_le _⟩) hS (fun r5 locs hq6 hS => ?_)
      rcases hq6 with ⟨hq6, rfl⟩ | ⟨hq6, rfl⟩
      · have q3 : rg wh 0 1 := hq6
        refine lv_if_eq (tgt := 44) hx hb dX3_of_37 (by decide) (fun h9 => absurd h9 (by decide)) (fun _ => ?_)
        refine lv_iconst (v := 1) hx hb dX3_of_40 (by decide) ?_
        refine lv_goto (tgt := 45) hx hb dX3_of_41 (by decide) ?_
        refine lv_istore (lv' := [(4, .int 1), (0, .ref (Z 0)), (1, .int ee), (2, .int kb), (3, .int wh)]) hx hb dX3_of_45 hl (by decide) rfl (fun ls hl => ?_)
        refine lv_iload hx hb dX3_of_47 (lv_at hl 0 rfl) ?_
        refine lv_if_eq (tgt := 71) hx hb dX3_of_49 (by decide) (fun h9 => absurd h9 (by decide)) (fun _ => ?_)
        refine lv_aload_n hx hb dX3_of_52 rfl (lv_at hl 1 rfl) ?_
        refine lv_iload_n hx hb dX3_of_53 rfl (lv_at hl 2 rfl) ?_
        refine lv_iload_n hx hb dX3_of_54 rfl (lv_at hl 3 rfl) ?_
        refine lv_iload_n hx hb dX3_of_55 rfl (lv_at hl 4 rfl) ?_
        refine lv_iconst (v := 1) hx hb dX3_of_56 (by decide) ?_
        refine lv_icmp_ne (tgt := 64) hx hb dX3_of_57 (by decide) (fun c1 => ?_) (fun c1 => ?_)
        · refine lv_iconst (v := 0) hx hb dX3_of_64 (by decide) ?_
          refine rd_l (va_runV (As := [.int ee, .int kb, .int 0]) (rest := []) ⟨hx, hb, hml, hown, hts⟩ (c_X3_sum l dC dI cA H Z g n 0 hs pe pk fo mo fE fK hP hg hn ee kb q1 q2 false 0 (by decide)) (cwV 3 hts gX3_of_X3_sum rfl rfl rfl (by decide +kernel) ⟨Nat.le_of_ble_eq_true rfl, Nat.le_of_ble_eq_true rfl⟩) ⟨rd_bl, va_recv hK hP (ci := 4) (q0 := 0) rfl rfl, rd_pre hK hN⟩ rfl rfl hl.1 rfl (lv_room (Nat.le_of_ble_eq_true rfl)) dX3_of_65 ⟨Nat.zero_le _, Nat.zero_le _⟩) hS (fun r7 locs hq8 hS => ?_)
          have hq8 : r7 = smF g false ee kb n := hq8
          subst hq8
          refine lv_goto (tgt := 74) hx hb dX3_of_68 (by decide) ?_
          exact W.lret (v := (smF g false ee kb n)) hx hb hr (fun t9 ht9 hW9 => ⟨⟨_, ((g, n, hs, pe, pk, fo, mo), 0, fE, fK), rfl, (⟨by unfold ofF; rw [if_pos ⟨q1, q2, rg01.mp q3⟩, decide_eq_false c1], rfl, rfl⟩), by dsimp only; rw [ht9]; exact hP⟩, hS.F ht9⟩) hS.2.2 dX3_of_74
        · refine lv_iconst (v := 1) hx hb dX3_of_60 (by decide) ?_
          refine lv_goto (tgt := 65) hx hb dX3_of_61 (by decide) ?_
          refine rd_l (va_runV (As := [.int ee, .int kb, .int 1]) (rest := []) ⟨hx, hb, hml, hown, hts⟩ (c_X3_sum l dC dI cA H Z g n 0 hs pe pk fo mo fE fK hP hg hn ee kb q1 q2 true 1 (by decide)) (cwV 3 hts gX3_of_X3_sum rfl rfl rfl (by decide +kernel) ⟨Nat.le_of_ble_eq_true rfl, Nat.le_of_ble_eq_true rfl⟩) ⟨rd_bl, va_recv hK hP (ci := 4) (q0 := 0) rfl rfl, rd_pre hK hN⟩ rfl rfl hl.1 rfl (lv_room (Nat.le_of_ble_eq_true rfl)) dX3_of_65 ⟨Nat.zero_le _, Nat.zero_le _⟩) hS (fun r9 locs hq10 hS => ?_)
          have hq10 : r9 = smF g true ee kb n := hq10
          subst hq10
          refine lv_goto (tgt := 74) hx hb dX3_of_68 (by decide) ?_
          exact W.lret (v := (smF g true ee kb n)) hx hb hr (fun t9 ht9 hW9 => ⟨⟨_, ((g, n, hs, pe, pk, fo, mo), 0, fE, fK), rfl, (⟨by unfold ofF; rw [if_pos ⟨q1, q2, rg01.mp q3⟩, decide_eq_true c1], rfl, rfl⟩), by dsimp only; rw [ht9]; exact hP⟩, hS.F ht9⟩) hS.2.2 dX3_of_74
      · have q3 : ¬ (rg wh 0 1) := hq6
        refine lv_if_eq (tgt := 44) hx hb dX3_of_37 (by decide) (fun _ => ?_) (fun h9 => absurd h9 (by decide))
        refine lv_iconst (v := 0) hx hb dX3_of_44 (by decide) ?_
        refine lv_istore (lv' := [(4, .int 0), (0, .ref (Z 0)), (1, .int ee), (2, .int kb), (3, .int wh)]) hx hb dX3_of_45 hl (by decide) rfl (fun ls hl => ?_)
        refine lv_iload hx hb dX3_of_47 (lv_at hl 0 rfl) ?_
        refine lv_if_eq (tgt := 71) hx hb dX3_of_49 (by decide) (fun _ => ?_) (fun h9 => absurd h9 (by decide))
        refine lv_ldc2 hx hb hown (hts (.constantLong RX3 89 (-4611686018427387904)) mbX3_of_2) dX3_of_71 ?_
        exact W.lret (v := (-4611686018427387904)) hx hb hr (fun t9 ht9 hW9 => ⟨⟨_, ((g, n, hs, pe, pk, fo, mo), 0, fE, fK), rfl, (⟨by unfold ofF; rw [if_neg (fun h9 => q3 (rg01.mpr h9.2.2))], rfl, rfl⟩), by dsimp only; rw [ht9]; exact hP⟩, hS.F ht9⟩) hS.2.2 dX3_of_74
    · have q2 : ¬ (rg kb (-20000) 20000) := hq4
      refine lv_if_eq (tgt := 44) hx hb dX3_of_28 (by decide) (fun _ => ?_) (fun h9 => absurd h9 (by decide))
      refine lv_iconst (v := 0) hx hb dX3_of_44 (by decide) ?_
      refine lv_istore (lv' := [(4, .int 0), (0, .ref (Z 0)), (1, .int ee), (2, .int kb), (3, .int wh)]) hx hb dX3_of_45 hl (by decide) rfl (fun ls hl => ?_)
      refine lv_iload hx hb dX3_of_47 (lv_at hl 0 rfl) ?_
      refine lv_if_eq (tgt := 71) hx hb dX3_of_49 (by decide) (fun _ => ?_) (fun h9 => absurd h9 (by decide))
      refine lv_ldc2 hx hb hown (hts (.constantLong RX3 89 (-4611686018427387904)) mbX3_of_2) dX3_of_71 ?_
      exact W.lret (v := (-4611686018427387904)) hx hb hr (fun t9 ht9 hW9 => ⟨⟨_, ((g, n, hs, pe, pk, fo, mo), 0, fE, fK), rfl, (⟨by unfold ofF; rw [if_neg (fun h9 => q2 h9.2.1)], rfl, rfl⟩), by dsimp only; rw [ht9]; exact hP⟩, hS.F ht9⟩) hS.2.2 dX3_of_74
  · have q1 : ¬ (rg ee (-20000) 20000) := hq2
    refine lv_if_eq (tgt := 44) hx hb dX3_of_15 (by decide) (fun _ => ?_) (fun h9 => absurd h9 (by decide))
    refine lv_iconst (v := 0) hx hb dX3_of_44 (by decide) ?_
    refine lv_istore (lv' := [(4, .int 0), (0, .ref (Z 0)), (1, .int ee), (2, .int kb), (3, .int wh)]) hx hb dX3_of_45 hl (by decide) rfl (fun ls hl => ?_)
    refine lv_iload hx hb dX3_of_47 (lv_at hl 0 rfl) ?_
    refine lv_if_eq (tgt := 71) hx hb dX3_of_49 (by decide) (fun _ => ?_) (fun h9 => absurd h9 (by decide))
    refine lv_ldc2 hx hb hown (hts (.constantLong RX3 89 (-4611686018427387904)) mbX3_of_2) dX3_of_71 ?_
    exact W.lret (v := (-4611686018427387904)) hx hb hr (fun t9 ht9 hW9 => ⟨⟨_, ((g, n, hs, pe, pk, fo, mo), 0, fE, fK), rfl, (⟨by unfold ofF; rw [if_neg (fun h9 => q1 h9.1)], rfl, rfl⟩), by dsimp only; rw [ht9]; exact hP⟩, hS.F ht9⟩) hS.2.2 dX3_of_74

set_option maxRecDepth 20000 in
theorem miX3_balance_X3 : ∀ w ∈ u_ws RX3 TX3 19, w ∈ wsX3_balance := by decide +kernel
set_option maxRecDepth 20000 in
theorem mbX3_balance_1 : (.fieldLink RX3 40 "SectionFibresModel" "thrown" "I" : Cond) ∈ wsX3_balance := by decide +kernel
set_option maxRecDepth 20000 in
theorem mbX3_balance_2 : (.constant RX3 64 (-1000000) : Cond) ∈ wsX3_balance := by decide +kernel
set_option maxHeartbeats 4000000 in
set_option maxRecDepth 100000 in
theorem c_X3_balance (l : Launch) (dC : Nat → ClassId) (dI : Nat → Nat → Nat) (cA : ClassId) (H : Heap) (Z : Nat → Nat) (g : Gg) (n : Nat) (th hs pe pk : Int32) (fo mo : Int64) (fE fK : Int32) (hP : va_P (dC, dI) vwCl (wR cA Z g n th hs pe pk fo mo fE fK) H) (hD : va_D (fun _ => True) (wR cA Z g n th hs pe pk fo mo fE fK)) (hg : InvG g) (hn : n ≤ 41) (fr : Int64) (kb : Int32) : Met l yX3_balance wsX3_balance ({ frames := 4, cells := 0, slots := 0, locals := 102 }) (rd_P [.ref (Z 0), .long fr, .int kb] H (dC, dI) vwCl [(cA, .int)]) (va_Qi (fun (r : Int32) (u : Su) => r = balF g n fr kb ∧ u.1 = (g, n, hs, pe, pk, fo, mo) ∧ u.2.1 = 0) (fun u t => bR dC dI cA Z u t.heap) (va_A (wR cA Z g n th hs pe pk fo mo fE fK) H.size)) 0 0 (va_A (wR cA Z g n th hs pe pk fo mo fE fK) H.size) := by
  refine Met.ofW (cc := cX3_balance) (maxL := 4) (ret := (some .int)) (by decide) rfl ?_
  intro p e s m args below meth c s₁ B hml hv
  obtain ⟨rfl, hH, hK, hN⟩ := hv
  subst hH
  have hx := B.exec
  have hb := B.bytes
  have hr := B.returns
  have hts := atoms_spec (ws := wsX3_balance) B.pre
  have hown : s.vm.findClass RX3 = some m.cls := findClass_of_methodNamed B.named
  have hlocks := B.notSynchronized
  have hD := hD.self (sz := s.heap.size)
  generalize hAe : va_A (wR cA Z g n th hs pe pk fo mo fE fK) s.heap.size = Av at hD ⊢
  have hA : ∀ q : Nat, s.heap.size ≤ q → Av q := fun q h => by rw [← hAe]; exact Or.inr h
  have hS : va_S Av s.heap s.heap [] := va_S.rf
  have hl := lv_entry ([.ref (Z 0), .long fr, .int kb]) (n := 4) (Nat.le_of_ble_eq_true rfl)
  rw [lg_entry_eq]
  generalize (lg_sl ([.ref (Z 0), .long fr, .int kb]) ++ List.replicate (4 - (lg_sl ([.ref (Z 0), .long fr, .int kb])).length) Slot.unset).toArray = ls at hl ⊢
  have hl : lv_has ls 4 [(0, .ref (Z 0)), (1, .long fr), (3, .int kb)] := hl
  refine lv_aload_n hx hb dX3_balance_0 rfl (lv_at hl 0 rfl) ?_
  refine lv_iconst (v := 0) hx hb dX3_balance_1 (by decide) ?_
  refine va_put (D := (dC, dI)) (ci := 4) (v := .int 0) (ty := .int) (C := RX3) (T := TX3) (N := 19) hx hb hts miX3_balance_X3 tyX3 tyX3_ok nmX3 hown hK hP hD hS 0 rfl rfl 0 (by decide) (hts (.fieldLink RX3 40 "SectionFibresModel" "thrown" "I") mbX3_balance_1) (fun _ h9 => h9) rfl (by decide +kernel) rfl rfl (Nat.le_of_ble_eq_true rfl) dX3_balance_2 (fun H locs hP hD hS => ?_)
  have hP : va_P (dC, dI) vwCl (wR cA Z g n 0 hs pe pk fo mo fE fK) H := hP
  have hD : va_D Av (wR cA Z g n 0 hs pe pk fo mo fE fK) := hD
  refine lv_iload_n hx hb dX3_balance_5 rfl (lv_at hl 2 rfl) ?_
  refine lv_sipush (v := (-20000)) hx hb dX3_balance_6 (by decide) ?_
  refine lv_sipush (v := 20000) hx hb dX3_balance_9 (by decide) ?_
  refine rd_i (va_runS (As := [.int kb, .int (-20000), .int 20000]) (rest := []) ⟨hx, hb, hml, hown, hts⟩ (c_X3_within l dC dI cA H kb (-20000) 20000 (-20000) 20000 (by decide) (by decide)) (va_cwS 3 hts gX3_balance_X3_within rfl rfl rfl (by decide +kernel) ⟨Nat.le_of_ble_eq_true rfl, Nat.le_of_ble_eq_true rfl⟩) ⟨rd_bl, rd_pre hK hN⟩ rfl rfl hl.1 rfl (lv_room (Nat.le_of_ble_eq_true rfl)) dX3_balance_12 ⟨Nat.zero_le _, Nat.zero_le _⟩) hS (fun r1 locs hq2 hS => ?_)
  rcases hq2 with ⟨hq2, rfl⟩ | ⟨hq2, rfl⟩
  · have q1 : rg kb (-20000) 20000 := hq2
    refine lv_if_eq (tgt := 27) hx hb dX3_balance_15 (by decide) (fun h9 => absurd h9 (by decide)) (fun _ => ?_)
    refine lv_aload_n hx hb dX3_balance_18 rfl (lv_at hl 0 rfl) ?_
    refine lv_lload_n hx hb dX3_balance_19 rfl (lv_at hl 1 rfl) ?_
    refine lv_iload_n hx hb dX3_balance_20 rfl (lv_at hl 2 rfl) ?_
    refine rd_i (va_runV (As := [.long fr, .int kb]) (rest := []) ⟨hx, hb, hml, hown, hts⟩ (c_X3_balanceOf l dC dI cA H Z g n 0 hs pe pk fo mo fE fK hP hg hn fr kb q1) (cwV 2 hts gX3_balance_X3_balanceOf rfl rfl rfl (by decide +kernel) ⟨Nat.le_of_ble_eq_true rfl, Nat.le_of_ble_eq_true rfl⟩) ⟨rd_bl, va_recv hK hP (ci := 4) (q0 := 0) rfl rfl, rd_pre hK hN⟩ rfl rfl hl.1 rfl (lv_room (Nat.le_of_ble_eq_true rfl)) dX3_balance_21 ⟨Nat.zero_le _, Nat.zero_le _⟩) hS (fun r3 locs hq4 hS => ?_)
    have hq4 : r3 = blF g n fr kb := hq4
    subst hq4
    refine lv_goto (tgt := 29) hx hb dX3_balance_24 (by decide) ?_
    exact W.iret (v := (blF g n fr kb)) hx hb hr (fun t9 ht9 hW9 => ⟨⟨_, ((g, n, hs, pe, pk, fo, mo), 0, fE, fK), rfl, (⟨by unfold balF; rw [if_pos q1], rfl, rfl⟩), by dsimp only; rw [ht9]; exact hP⟩, hS.F ht9⟩) hS.2.2 dX3_balance_29
  · have q1 : ¬ (rg kb (-20000) 20000) := hq2
    refine lv_if_eq (tgt := 27) hx hb dX3_balance_15 (by decide) (fun _ => ?_) (fun h9 => absurd h9 (by decide))
    refine lv_ldc hx hb hown (hts (.constant RX3 64 (-1000000)) mbX3_balance_2) dX3_balance_27 ?_
    exact W.iret (v := (-1000000)) hx hb hr (fun t9 ht9 hW9 => ⟨⟨_, ((g, n, hs, pe, pk, fo, mo), 0, fE, fK), rfl, (⟨by unfold balF; rw [if_neg q1], rfl, rfl⟩), by dsimp only; rw [ht9]; exact hP⟩, hS.F ht9⟩) hS.2.2 dX3_balance_29

set_option maxRecDepth 20000 in
theorem miX3_told_X3 : ∀ w ∈ u_ws RX3 TX3 19, w ∈ wsX3_told := by decide +kernel
set_option maxRecDepth 20000 in
theorem mbX3_told_1 : (.fieldLink RX3 40 "SectionFibresModel" "thrown" "I" : Cond) ∈ wsX3_told := by decide +kernel
set_option maxRecDepth 20000 in
theorem mbX3_told_2 : (.fieldLink RX3 60 "SectionFibresModel" "has" "Z" : Cond) ∈ wsX3_told := by decide +kernel
set_option maxRecDepth 20000 in
theorem mbX3_told_3 : (.fieldLink RX3 105 "SectionFibresModel" "e" "I" : Cond) ∈ wsX3_told := by decide +kernel
set_option maxRecDepth 20000 in
theorem mbX3_told_4 : (.fieldLink RX3 108 "SectionFibresModel" "k" "I" : Cond) ∈ wsX3_told := by decide +kernel
set_option maxHeartbeats 4000000 in
set_option maxRecDepth 100000 in
theorem c_X3_told (l : Launch) (dC : Nat → ClassId) (dI : Nat → Nat → Nat) (cA : ClassId) (H : Heap) (Z : Nat → Nat) (g : Gg) (n : Nat) (th hs pe pk : Int32) (fo mo : Int64) (fE fK : Int32) (hP : va_P (dC, dI) vwCl (wR cA Z g n th hs pe pk fo mo fE fK) H) (hD : va_D (fun _ => True) (wR cA Z g n th hs pe pk fo mo fE fK)) (hg : InvG g) (hn : n ≤ 41) (hpl : ¬ hs = 0 → rg pe (-20000) 20000 ∧ rg pk (-20000) 20000) (wh : Int32) : Met l yX3_told wsX3_told ({ frames := 3, cells := 0, slots := 0, locals := 75 }) (rd_P [.ref (Z 0), .int wh] H (dC, dI) vwCl [(cA, .int)]) (va_Qi (fun (r : Int32) (u : Su) => r = tolF g n hs pe pk wh ∧ u.1 = (g, n, hs, pe, pk, fo, mo) ∧ u.2.1 = 0) (fun u t => bR dC dI cA Z u t.heap) (va_A (wR cA Z g n th hs pe pk fo mo fE fK) H.size)) 0 0 (va_A (wR cA Z g n th hs pe pk fo mo fE fK) H.size) := by
  refine Met.ofW (cc := cX3_told) (maxL := 2) (ret := (some .int)) (by decide) rfl ?_
  intro p e s m args below meth c s₁ B hml hv
  obtain ⟨rfl, hH, hK, hN⟩ := hv
  subst hH
  have hx := B.exec
  have hb := B.bytes
  have hr := B.returns
  have hts := atoms_spec (ws := wsX3_told) B.pre
  have hown : s.vm.findClass RX3 = some m.cls := findClass_of_methodNamed B.named
  have hlocks := B.notSynchronized
  have hD := hD.self (sz := s.heap.size)
  generalize hAe : va_A (wR cA Z g n th hs pe pk fo mo fE fK) s.heap.size = Av at hD ⊢
  have hA : ∀ q : Nat, s.heap.size ≤ q → Av q := fun q h => by rw [← hAe]; exact Or.inr h
  have hS : va_S Av s.heap s.heap [] := va_S.rf
  have hl := lv_entry ([.ref (Z 0), .int wh]) (n := 2) (Nat.le_of_ble_eq_true rfl)
  rw [lg_entry_eq]
  generalize (lg_sl ([.ref (Z 0), .int wh]) ++ List.replicate (2 - (lg_sl ([.ref (Z 0), .int wh])).length) Slot.unset).toArray = ls at hl ⊢
  have hl : lv_has ls 2 [(0, .ref (Z 0)), (1, .int wh)] := hl
  refine lv_aload_n hx hb dX3_told_0 rfl (lv_at hl 0 rfl) ?_
  refine lv_iconst (v := 0) hx hb dX3_told_1 (by decide) ?_
  refine va_put (D := (dC, dI)) (ci := 4) (v := .int 0) (ty := .int) (C := RX3) (T := TX3) (N := 19) hx hb hts miX3_told_X3 tyX3 tyX3_ok nmX3 hown hK hP hD hS 0 rfl rfl 0 (by decide) (hts (.fieldLink RX3 40 "SectionFibresModel" "thrown" "I") mbX3_told_1) (fun _ h9 => h9) rfl (by decide +kernel) rfl rfl (Nat.le_of_ble_eq_true rfl) dX3_told_2 (fun H locs hP hD hS => ?_)
  have hP : va_P (dC, dI) vwCl (wR cA Z g n 0 hs pe pk fo mo fE fK) H := hP
  have hD : va_D Av (wR cA Z g n 0 hs pe pk fo mo fE fK) := hD
  refine lv_aload_n hx hb dX3_told_5 rfl (lv_at hl 0 rfl) ?_
  refine va_get (D := (dC, dI)) (ci := 4) (v := .int hs) (C := RX3) (T := TX3) (N := 19) hx hb hts miX3_told_X3 hown hK hP 0 rfl rfl 12 (by decide) (hts (.fieldLink RX3 60 "SectionFibresModel" "has" "Z") mbX3_told_2) (fun _ h9 => h9) rfl dX3_told_6 ?_
  refine lv_if_eq (tgt := 21) hx hb dX3_told_9 (by decide) (fun c1 => ?_) (fun c1 => ?_)
  · refine lv_iconst (v := (-1)) hx hb dX3_told_21 (by decide) ?_
    exact W.iret (v := (-1)) hx hb hr (fun t9 ht9 hW9 => ⟨⟨_, ((g, n, hs, pe, pk, fo, mo), 0, fE, fK), rfl, (⟨by unfold tolF; rw [if_pos c1], rfl, rfl⟩), by dsimp only; rw [ht9]; exact hP⟩, hS.F ht9⟩) hS.2.2 dX3_told_22
  · refine lv_iload_n hx hb dX3_told_12 rfl (lv_at hl 1 rfl) ?_
    refine lv_iconst (v := 0) hx hb dX3_told_13 (by decide) ?_
    refine lv_iconst (v := 2) hx hb dX3_told_14 (by decide) ?_
    refine rd_i (va_runS (As := [.int wh, .int 0, .int 2]) (rest := []) ⟨hx, hb, hml, hown, hts⟩ (c_X3_within l dC dI cA H wh 0 2 0 2 (by decide) (by decide)) (va_cwS 3 hts gX3_told_X3_within rfl rfl rfl (by decide +kernel) ⟨Nat.le_of_ble_eq_true rfl, Nat.le_of_ble_eq_true rfl⟩) ⟨rd_bl, rd_pre hK hN⟩ rfl rfl hl.1 rfl (lv_room (Nat.le_of_ble_eq_true rfl)) dX3_told_15 ⟨Nat.zero_le _, Nat.zero_le _⟩) hS (fun r1 locs hq2 hS => ?_)
    rcases hq2 with ⟨hq2, rfl⟩ | ⟨hq2, rfl⟩
    · have q1 : rg wh 0 2 := hq2
      refine lv_if_ne (tgt := 23) hx hb dX3_told_18 (by decide) (fun _ => ?_) (fun h9 => absurd h9 (by decide))
      refine lv_iload_n hx hb dX3_told_23 rfl (lv_at hl 1 rfl) ?_
      refine lv_if_ne (tgt := 34) hx hb dX3_told_24 (by decide) (fun c2 => ?_) (fun c2 => ?_)
      · refine lv_iload_n hx hb dX3_told_34 rfl (lv_at hl 1 rfl) ?_
        refine lv_iconst (v := 1) hx hb dX3_told_35 (by decide) ?_
        refine lv_icmp_ne (tgt := 46) hx hb dX3_told_36 (by decide) (fun c3 => ?_) (fun c3 => ?_)
        · refine lv_aload_n hx hb dX3_told_46 rfl (lv_at hl 0 rfl) ?_
          refine lv_aload_n hx hb dX3_told_47 rfl (lv_at hl 0 rfl) ?_
          refine va_get (D := (dC, dI)) (ci := 4) (v := .int pe) (C := RX3) (T := TX3) (N := 19) hx hb hts miX3_told_X3 hown hK hP 0 rfl rfl 13 (by decide) (hts (.fieldLink RX3 105 "SectionFibresModel" "e" "I") mbX3_told_3) (fun _ h9 => h9) rfl dX3_told_48 ?_
          refine lv_aload_n hx hb dX3_told_51 rfl (lv_at hl 0 rfl) ?_
          refine va_get (D := (dC, dI)) (ci := 4) (v := .int pk) (C := RX3) (T := TX3) (N := 19) hx hb hts miX3_told_X3 hown hK hP 0 rfl rfl 14 (by decide) (hts (.fieldLink RX3 108 "SectionFibresModel" "k" "I") mbX3_told_4) (fun _ h9 => h9) rfl dX3_told_52 ?_
          refine rd_i (va_runV (As := [.int pe, .int pk]) (rest := []) ⟨hx, hb, hml, hown, hts⟩ (c_X3_firstBeyond l dC dI cA H Z g n 0 hs pe pk fo mo fE fK hP hg hn pe pk (hpl c1).1 (hpl c1).2) (cwV 2 hts gX3_told_X3_firstBeyond rfl rfl rfl (by decide +kernel) ⟨Nat.le_of_ble_eq_true rfl, Nat.le_of_ble_eq_true rfl⟩) ⟨rd_bl, va_recv hK hP (ci := 4) (q0 := 0) rfl rfl, rd_pre hK hN⟩ rfl rfl hl.1 rfl (lv_room (Nat.le_of_ble_eq_true rfl)) dX3_told_55 ⟨Nat.zero_le _, Nat.zero_le _⟩) hS (fun r3 locs hq4 hS => ?_)
          have hq4 : r3 = fbF g pe pk n 0 := hq4
          subst hq4
          exact W.iret (v := (fbF g pe pk n 0)) hx hb hr (fun t9 ht9 hW9 => ⟨⟨_, ((g, n, hs, pe, pk, fo, mo), 0, fE, fK), rfl, (⟨by unfold tolF; rw [if_neg c1, if_neg c2, if_neg c3, if_pos (((rg02.mp q1).resolve_left c2).resolve_left c3)], rfl, rfl⟩), by dsimp only; rw [ht9]; exact hP⟩, hS.F ht9⟩) hS.2.2 dX3_told_58
        · refine lv_aload_n hx hb dX3_told_39 rfl (lv_at hl 0 rfl) ?_
          refine va_get (D := (dC, dI)) (ci := 4) (v := .int pk) (C := RX3) (T := TX3) (N := 19) hx hb hts miX3_told_X3 hown hK hP 0 rfl rfl 14 (by decide) (hts (.fieldLink RX3 108 "SectionFibresModel" "k" "I") mbX3_told_4) (fun _ h9 => h9) rfl dX3_told_40 ?_
          refine lv_goto (tgt := 58) hx hb dX3_told_43 (by decide) ?_
          exact W.iret (v := pk) hx hb hr (fun t9 ht9 hW9 => ⟨⟨_, ((g, n, hs, pe, pk, fo, mo), 0, fE, fK), rfl, (⟨by unfold tolF; rw [if_neg c1, if_neg c2, if_pos c3], rfl, rfl⟩), by dsimp only; rw [ht9]; exact hP⟩, hS.F ht9⟩) hS.2.2 dX3_told_58
      · refine lv_aload_n hx hb dX3_told_27 rfl (lv_at hl 0 rfl) ?_
        refine va_get (D := (dC, dI)) (ci := 4) (v := .int pe) (C := RX3) (T := TX3) (N := 19) hx hb hts miX3_told_X3 hown hK hP 0 rfl rfl 13 (by decide) (hts (.fieldLink RX3 105 "SectionFibresModel" "e" "I") mbX3_told_3) (fun _ h9 => h9) rfl dX3_told_28 ?_
        refine lv_goto (tgt := 58) hx hb dX3_told_31 (by decide) ?_
        exact W.iret (v := pe) hx hb hr (fun t9 ht9 hW9 => ⟨⟨_, ((g, n, hs, pe, pk, fo, mo), 0, fE, fK), rfl, (⟨by unfold tolF; rw [if_neg c1, if_pos c2], rfl, rfl⟩), by dsimp only; rw [ht9]; exact hP⟩, hS.F ht9⟩) hS.2.2 dX3_told_58
    · have q1 : ¬ (rg wh 0 2) := hq2
      refine lv_if_ne (tgt := 23) hx hb dX3_told_18 (by decide) (fun h9 => absurd h9 (by decide)) (fun _ => ?_)
      refine lv_iconst (v := (-1)) hx hb dX3_told_21 (by decide) ?_
      exact W.iret (v := (-1)) hx hb hr (fun t9 ht9 hW9 => ⟨⟨_, ((g, n, hs, pe, pk, fo, mo), 0, fE, fK), rfl, (⟨by unfold tolF; rw [if_neg c1, if_neg (fun h9 => q1 (rg02.mpr (Or.inl h9))), if_neg (fun h9 => q1 (rg02.mpr (Or.inr (Or.inl h9)))), if_neg (fun h9 => q1 (rg02.mpr (Or.inr (Or.inr h9))))], rfl, rfl⟩), by dsimp only; rw [ht9]; exact hP⟩, hS.F ht9⟩) hS.2.2 dX3_told_22

set_option maxRecDepth 20000 in
theorem miX3_residual_X3 : ∀ w ∈ u_ws RX3 TX3 19, w ∈ wsX3_residual := by decide +kernel
set_option maxRecDepth 20000 in
theorem mbX3_residual_1 : (.fieldLink RX3 40 "SectionFibresModel" "thrown" "I" : Cond) ∈ wsX3_residual := by decide +kernel
set_option maxRecDepth 20000 in
theorem mbX3_residual_2 : (.fieldLink RX3 60 "SectionFibresModel" "has" "Z" : Cond) ∈ wsX3_residual := by decide +kernel
set_option maxRecDepth 20000 in
theorem mbX3_residual_3 : (.constantLong RX3 89 (-4611686018427387904) : Cond) ∈ wsX3_residual := by decide +kernel
set_option maxRecDepth 20000 in
theorem mbX3_residual_4 : (.fieldLink RX3 105 "SectionFibresModel" "e" "I" : Cond) ∈ wsX3_residual := by decide +kernel
set_option maxRecDepth 20000 in
theorem mbX3_residual_5 : (.fieldLink RX3 108 "SectionFibresModel" "k" "I" : Cond) ∈ wsX3_residual := by decide +kernel
set_option maxRecDepth 20000 in
theorem mbX3_residual_6 : (.fieldLink RX3 115 "SectionFibresModel" "wantedMoment" "J" : Cond) ∈ wsX3_residual := by decide +kernel
set_option maxRecDepth 20000 in
theorem mbX3_residual_7 : (.fieldLink RX3 111 "SectionFibresModel" "wantedForce" "J" : Cond) ∈ wsX3_residual := by decide +kernel
set_option maxHeartbeats 4000000 in
set_option maxRecDepth 100000 in
theorem c_X3_residual (l : Launch) (dC : Nat → ClassId) (dI : Nat → Nat → Nat) (cA : ClassId) (H : Heap) (Z : Nat → Nat) (g : Gg) (n : Nat) (th hs pe pk : Int32) (fo mo : Int64) (fE fK : Int32) (hP : va_P (dC, dI) vwCl (wR cA Z g n th hs pe pk fo mo fE fK) H) (hD : va_D (fun _ => True) (wR cA Z g n th hs pe pk fo mo fE fK)) (hg : InvG g) (hn : n ≤ 41) (hpl : ¬ hs = 0 → rg pe (-20000) 20000 ∧ rg pk (-20000) 20000) (wh : Int32) : Met l yX3_residual wsX3_residual ({ frames := 3, cells := 0, slots := 0, locals := 76 }) (rd_P [.ref (Z 0), .int wh] H (dC, dI) vwCl [(cA, .int)]) (va_Ql (fun (r : Int64) (u : Su) => r = resF g n hs pe pk fo mo wh ∧ u.1 = (g, n, hs, pe, pk, fo, mo) ∧ u.2.1 = 0) (fun u t => bR dC dI cA Z u t.heap) (va_A (wR cA Z g n th hs pe pk fo mo fE fK) H.size)) 0 0 (va_A (wR cA Z g n th hs pe pk fo mo fE fK) H.size) := by
  refine Met.ofW (cc := cX3_residual) (maxL := 2) (ret := (some .long)) (by decide) rfl ?_
  intro p e s m args below meth c s₁ B hml hv
  obtain ⟨rfl, hH, hK, hN⟩ := hv
  subst hH
  have hx := B.exec
  have hb := B.bytes
  have hr := B.returns
  have hts := atoms_spec (ws := wsX3_residual) B.pre
  have hown : s.vm.findClass RX3 = some m.cls := findClass_of_methodNamed B.named
  have hlocks := B.notSynchronized
  have hD := hD.self (sz := s.heap.size)
  generalize hAe : va_A (wR cA Z g n th hs pe pk fo mo fE fK) s.heap.size = Av at hD ⊢
  have hA : ∀ q : Nat, s.heap.size ≤ q → Av q := fun q h => by rw [← hAe]; exact Or.inr h
  have hS : va_S Av s.heap s.heap [] := va_S.rf
  have hl := lv_entry ([.ref (Z 0), .int wh]) (n := 2) (Nat.le_of_ble_eq_true rfl)
  rw [lg_entry_eq]
  generalize (lg_sl ([.ref (Z 0), .int wh]) ++ List.replicate (2 - (lg_sl ([.ref (Z 0), .int wh])).length) Slot.unset).toArray = ls at hl ⊢
  have hl : lv_has ls 2 [(0, .ref (Z 0)), (1, .int wh)] := hl
  refine lv_aload_n hx hb dX3_residual_0 rfl (lv_at hl 0 rfl) ?_
  refine lv_iconst (v := 0) hx hb dX3_residual_1 (by decide) ?_
  refine va_put (D := (dC, dI)) (ci := 4) (v := .int 0) (ty := .int) (C := RX3) (T := TX3) (N := 19) hx hb hts miX3_residual_X3 tyX3 tyX3_ok nmX3 hown hK hP hD hS 0 rfl rfl 0 (by decide) (hts (.fieldLink RX3 40 "SectionFibresModel" "thrown" "I") mbX3_residual_1) (fun _ h9 => h9) rfl (by decide +kernel) rfl rfl (Nat.le_of_ble_eq_true rfl) dX3_residual_2 (fun H locs hP hD hS => ?_)
  have hP : va_P (dC, dI) vwCl (wR cA Z g n 0 hs pe pk fo mo fE fK) H := hP
  have hD : va_D Av (wR cA Z g n 0 hs pe pk fo mo fE fK) := hD
  refine lv_aload_n hx hb dX3_residual_5 rfl (lv_at hl 0 rfl) ?_
  refine va_get (D := (dC, dI)) (ci := 4) (v := .int hs) (C := RX3) (T := TX3) (N := 19) hx hb hts miX3_residual_X3 hown hK hP 0 rfl rfl 12 (by decide) (hts (.fieldLink RX3 60 "SectionFibresModel" "has" "Z") mbX3_residual_2) (fun _ h9 => h9) rfl dX3_residual_6 ?_
  refine lv_if_eq (tgt := 21) hx hb dX3_residual_9 (by decide) (fun c1 => ?_) (fun c1 => ?_)
  · refine lv_ldc2 hx hb hown (hts (.constantLong RX3 89 (-4611686018427387904)) mbX3_residual_3) dX3_residual_21 ?_
    exact W.lret (v := (-4611686018427387904)) hx hb hr (fun t9 ht9 hW9 => ⟨⟨_, ((g, n, hs, pe, pk, fo, mo), 0, fE, fK), rfl, (⟨by unfold resF; rw [if_pos c1], rfl, rfl⟩), by dsimp only; rw [ht9]; exact hP⟩, hS.F ht9⟩) hS.2.2 dX3_residual_24
  · refine lv_iload_n hx hb dX3_residual_12 rfl (lv_at hl 1 rfl) ?_
    refine lv_iconst (v := 0) hx hb dX3_residual_13 (by decide) ?_
    refine lv_iconst (v := 1) hx hb dX3_residual_14 (by decide) ?_
    refine rd_i (va_runS (As := [.int wh, .int 0, .int 1]) (rest := []) ⟨hx, hb, hml, hown, hts⟩ (c_X3_within l dC dI cA H wh 0 1 0 1 (by decide) (by decide)) (va_cwS 3 hts gX3_residual_X3_within rfl rfl rfl (by decide +kernel) ⟨Nat.le_of_ble_eq_true rfl, Nat.le_of_ble_eq_true rfl⟩) ⟨rd_bl, rd_pre hK hN⟩ rfl rfl hl.1 rfl (lv_room (Nat.le_of_ble_eq_true rfl)) dX3_residual_15 ⟨Nat.zero_le _, Nat.zero_le _⟩) hS (fun r1 locs hq2 hS => ?_)
    rcases hq2 with ⟨hq2, rfl⟩ | ⟨hq2, rfl⟩
    · have q1 : rg wh 0 1 := hq2
      refine lv_if_ne (tgt := 25) hx hb dX3_residual_18 (by decide) (fun _ => ?_) (fun h9 => absurd h9 (by decide))
      refine lv_iload_n hx hb dX3_residual_25 rfl (lv_at hl 1 rfl) ?_
      refine lv_if_ne (tgt := 50) hx hb dX3_residual_26 (by decide) (fun c2 => ?_) (fun c2 => ?_)
      · refine lv_aload_n hx hb dX3_residual_50 rfl (lv_at hl 0 rfl) ?_
        refine lv_aload_n hx hb dX3_residual_51 rfl (lv_at hl 0 rfl) ?_
        refine va_get (D := (dC, dI)) (ci := 4) (v := .int pe) (C := RX3) (T := TX3) (N := 19) hx hb hts miX3_residual_X3 hown hK hP 0 rfl rfl 13 (by decide) (hts (.fieldLink RX3 105 "SectionFibresModel" "e" "I") mbX3_residual_4) (fun _ h9 => h9) rfl dX3_residual_52 ?_
        refine lv_aload_n hx hb dX3_residual_55 rfl (lv_at hl 0 rfl) ?_
        refine va_get (D := (dC, dI)) (ci := 4) (v := .int pk) (C := RX3) (T := TX3) (N := 19) hx hb hts miX3_residual_X3 hown hK hP 0 rfl rfl 14 (by decide) (hts (.fieldLink RX3 108 "SectionFibresModel" "k" "I") mbX3_residual_5) (fun _ h9 => h9) rfl dX3_residual_56 ?_
        refine lv_iconst (v := 1) hx hb dX3_residual_59 (by decide) ?_
        refine rd_l (va_runV (As := [.int pe, .int pk, .int 1]) (rest := []) ⟨hx, hb, hml, hown, hts⟩ (c_X3_sum l dC dI cA H Z g n 0 hs pe pk fo mo fE fK hP hg hn pe pk (hpl c1).1 (hpl c1).2 true 1 (by decide)) (cwV 3 hts gX3_residual_X3_sum rfl rfl rfl (by decide +kernel) ⟨Nat.le_of_ble_eq_true rfl, Nat.le_of_ble_eq_true rfl⟩) ⟨rd_bl, va_recv hK hP (ci := 4) (q0 := 0) rfl rfl, rd_pre hK hN⟩ rfl rfl hl.1 rfl (lv_room (Nat.le_of_ble_eq_true rfl)) dX3_residual_60 ⟨Nat.zero_le _, Nat.zero_le _⟩) hS (fun r3 locs hq4 hS => ?_)
        have hq4 : r3 = smF g true pe pk n := hq4
        subst hq4
        refine lv_aload_n hx hb dX3_residual_63 rfl (lv_at hl 0 rfl) ?_
        refine va_get (D := (dC, dI)) (ci := 4) (v := .long mo) (C := RX3) (T := TX3) (N := 19) hx hb hts miX3_residual_X3 hown hK hP 0 rfl rfl 16 (by decide) (hts (.fieldLink RX3 115 "SectionFibresModel" "wantedMoment" "J") mbX3_residual_6) (fun _ h9 => h9) rfl dX3_residual_64 ?_
        refine lv_lsub hx hb dX3_residual_67 ?_
        exact W.lret (v := ((smF g true pe pk n) - mo)) hx hb hr (fun t9 ht9 hW9 => ⟨⟨_, ((g, n, hs, pe, pk, fo, mo), 0, fE, fK), rfl, (⟨by unfold resF; rw [if_neg c1, if_neg c2, if_pos ((rg01.mp q1).resolve_left c2)], rfl, rfl⟩), by dsimp only; rw [ht9]; exact hP⟩, hS.F ht9⟩) hS.2.2 dX3_residual_68
      · refine lv_aload_n hx hb dX3_residual_29 rfl (lv_at hl 0 rfl) ?_
        refine lv_aload_n hx hb dX3_residual_30 rfl (lv_at hl 0 rfl) ?_
        refine va_get (D := (dC, dI)) (ci := 4) (v := .int pe) (C := RX3) (T := TX3) (N := 19) hx hb hts miX3_residual_X3 hown hK hP 0 rfl rfl 13 (by decide) (hts (.fieldLink RX3 105 "SectionFibresModel" "e" "I") mbX3_residual_4) (fun _ h9 => h9) rfl dX3_residual_31 ?_
        refine lv_aload_n hx hb dX3_residual_34 rfl (lv_at hl 0 rfl) ?_
        refine va_get (D := (dC, dI)) (ci := 4) (v := .int pk) (C := RX3) (T := TX3) (N := 19) hx hb hts miX3_residual_X3 hown hK hP 0 rfl rfl 14 (by decide) (hts (.fieldLink RX3 108 "SectionFibresModel" "k" "I") mbX3_residual_5) (fun _ h9 => h9) rfl dX3_residual_35 ?_
        refine lv_iconst (v := 0) hx hb dX3_residual_38 (by decide) ?_
        refine rd_l (va_runV (As := [.int pe, .int pk, .int 0]) (rest := []) ⟨hx, hb, hml, hown, hts⟩ (c_X3_sum l dC dI cA H Z g n 0 hs pe pk fo mo fE fK hP hg hn pe pk (hpl c1).1 (hpl c1).2 false 0 (by decide)) (cwV 3 hts gX3_residual_X3_sum rfl rfl rfl (by decide +kernel) ⟨Nat.le_of_ble_eq_true rfl, Nat.le_of_ble_eq_true rfl⟩) ⟨rd_bl, va_recv hK hP (ci := 4) (q0 := 0) rfl rfl, rd_pre hK hN⟩ rfl rfl hl.1 rfl (lv_room (Nat.le_of_ble_eq_true rfl)) dX3_residual_39 ⟨Nat.zero_le _, Nat.zero_le _⟩) hS (fun r5 locs hq6 hS => ?_)
        have hq6 : r5 = smF g false pe pk n := hq6
        subst hq6
        refine lv_aload_n hx hb dX3_residual_42 rfl (lv_at hl 0 rfl) ?_
        refine va_get (D := (dC, dI)) (ci := 4) (v := .long fo) (C := RX3) (T := TX3) (N := 19) hx hb hts miX3_residual_X3 hown hK hP 0 rfl rfl 15 (by decide) (hts (.fieldLink RX3 111 "SectionFibresModel" "wantedForce" "J") mbX3_residual_7) (fun _ h9 => h9) rfl dX3_residual_43 ?_
        refine lv_lsub hx hb dX3_residual_46 ?_
        refine lv_goto (tgt := 68) hx hb dX3_residual_47 (by decide) ?_
        exact W.lret (v := ((smF g false pe pk n) - fo)) hx hb hr (fun t9 ht9 hW9 => ⟨⟨_, ((g, n, hs, pe, pk, fo, mo), 0, fE, fK), rfl, (⟨by unfold resF; rw [if_neg c1, if_pos c2], rfl, rfl⟩), by dsimp only; rw [ht9]; exact hP⟩, hS.F ht9⟩) hS.2.2 dX3_residual_68
    · have q1 : ¬ (rg wh 0 1) := hq2
      refine lv_if_ne (tgt := 25) hx hb dX3_residual_18 (by decide) (fun h9 => absurd h9 (by decide)) (fun _ => ?_)
      refine lv_ldc2 hx hb hown (hts (.constantLong RX3 89 (-4611686018427387904)) mbX3_residual_3) dX3_residual_21 ?_
      exact W.lret (v := (-4611686018427387904)) hx hb hr (fun t9 ht9 hW9 => ⟨⟨_, ((g, n, hs, pe, pk, fo, mo), 0, fE, fK), rfl, (⟨by unfold resF; rw [if_neg c1, if_neg (fun h9 => q1 (rg01.mpr (Or.inl h9))), if_neg (fun h9 => q1 (rg01.mpr (Or.inr h9)))], rfl, rfl⟩), by dsimp only; rw [ht9]; exact hP⟩, hS.F ht9⟩) hS.2.2 dX3_residual_24

set_option maxRecDepth 20000 in
theorem miX3_in_X3 : ∀ w ∈ u_ws RX3 TX3 19, w ∈ wsX3_in := by decide +kernel
set_option maxRecDepth 20000 in
theorem mbX3_in_1 : (.fieldLink RX3 40 "SectionFibresModel" "thrown" "I" : Cond) ∈ wsX3_in := by decide +kernel
set_option maxRecDepth 20000 in
theorem mbX3_in_2 : (.fieldLink RX3 60 "SectionFibresModel" "has" "Z" : Cond) ∈ wsX3_in := by decide +kernel
set_option maxRecDepth 20000 in
theorem mbX3_in_3 : (.constant RX3 64 (-1000000) : Cond) ∈ wsX3_in := by decide +kernel
set_option maxRecDepth 20000 in
theorem mbX3_in_4 : (.fieldLink RX3 105 "SectionFibresModel" "e" "I" : Cond) ∈ wsX3_in := by decide +kernel
set_option maxRecDepth 20000 in
theorem mbX3_in_5 : (.fieldLink RX3 108 "SectionFibresModel" "k" "I" : Cond) ∈ wsX3_in := by decide +kernel
set_option maxHeartbeats 4000000 in
set_option maxRecDepth 100000 in
theorem c_X3_in (l : Launch) (dC : Nat → ClassId) (dI : Nat → Nat → Nat) (cA : ClassId) (H : Heap) (Z : Nat → Nat) (g : Gg) (n : Nat) (th hs pe pk : Int32) (fo mo : Int64) (fE fK : Int32) (hP : va_P (dC, dI) vwCl (wR cA Z g n th hs pe pk fo mo fE fK) H) (hD : va_D (fun _ => True) (wR cA Z g n th hs pe pk fo mo fE fK)) (hg : InvG g) (hn : n ≤ 40) (hpl : ¬ hs = 0 → rg pe (-20000) 20000 ∧ rg pk (-20000) 20000) (a b : Int32) : Met l yX3_in wsX3_in ({ frames := 2, cells := 0, slots := 0, locals := 50 }) (rd_P [.ref (Z 0), .int a, .int b] H (dC, dI) vwCl [(cA, .int)]) (va_Qi (fun (r : Int32) (u : Su) => u.1 = (g, n, hs, pe, pk, fo, mo) ∧ ((rg a 0 ((n : Int) - 1) ∧ u.2.1 = 0 ∧ r = inF g hs pe pk a b) ∨ (¬ rg a 0 ((n : Int) - 1) ∧ u.2.1 = 1))) (fun u t => bR dC dI cA Z u t.heap) (va_A (wR cA Z g n th hs pe pk fo mo fE fK) H.size)) 0 0 (va_A (wR cA Z g n th hs pe pk fo mo fE fK) H.size) := by
  refine Met.ofW (cc := cX3_in) (maxL := 3) (ret := (some .int)) (by decide) rfl ?_
  intro p e s m args below meth c s₁ B hml hv
  obtain ⟨rfl, hH, hK, hN⟩ := hv
  subst hH
  have hx := B.exec
  have hb := B.bytes
  have hr := B.returns
  have hts := atoms_spec (ws := wsX3_in) B.pre
  have hown : s.vm.findClass RX3 = some m.cls := findClass_of_methodNamed B.named
  have hlocks := B.notSynchronized
  have hD := hD.self (sz := s.heap.size)
  generalize hAe : va_A (wR cA Z g n th hs pe pk fo mo fE fK) s.heap.size = Av at hD ⊢
  have hA : ∀ q : Nat, s.heap.size ≤ q → Av q := fun q h => by rw [← hAe]; exact Or.inr h
  have hS : va_S Av s.heap s.heap [] := va_S.rf
  have hl := lv_entry ([.ref (Z 0), .int a, .int b]) (n := 3) (Nat.le_of_ble_eq_true rfl)
  rw [lg_entry_eq]
  generalize (lg_sl ([.ref (Z 0), .int a, .int b]) ++ List.replicate (3 - (lg_sl ([.ref (Z 0), .int a, .int b])).length) Slot.unset).toArray = ls at hl ⊢
  have hl : lv_has ls 3 [(0, .ref (Z 0)), (1, .int a), (2, .int b)] := hl
  refine lv_aload_n hx hb dX3_in_0 rfl (lv_at hl 0 rfl) ?_
  refine lv_aload_n hx hb dX3_in_1 rfl (lv_at hl 0 rfl) ?_
  refine lv_iload_n hx hb dX3_in_2 rfl (lv_at hl 1 rfl) ?_
  refine rd_i (va_runV (As := [.int a]) (rest := [.ref (Z 0)]) ⟨hx, hb, hml, hown, hts⟩ (c_X3_isFibre l dC dI cA s.heap Z g n th hs pe pk fo mo fE fK hP (by omega) a) (cwV 1 hts gX3_in_X3_isFibre rfl rfl rfl (by decide +kernel) ⟨Nat.le_of_ble_eq_true rfl, Nat.le_of_ble_eq_true rfl⟩) ⟨rd_bl, va_recv hK hP (ci := 4) (q0 := 0) rfl rfl, rd_pre hK hN⟩ rfl rfl hl.1 rfl (lv_room (Nat.le_of_ble_eq_true rfl)) dX3_in_3 ⟨Nat.zero_le _, Nat.zero_le _⟩) hS (fun r1 locs hq2 hS => ?_)
  rcases hq2 with ⟨hq2, rfl⟩ | ⟨hq2, rfl⟩
  · have q1 : rg a 0 ((n : Int) - 1) := hq2
    refine lv_if_eq (tgt := 13) hx hb dX3_in_6 (by decide) (fun h9 => absurd h9 (by decide)) (fun _ => ?_)
    refine lv_iconst (v := 0) hx hb dX3_in_9 (by decide) ?_
    refine lv_goto (tgt := 14) hx hb dX3_in_10 (by decide) ?_
    refine va_put (D := (dC, dI)) (ci := 4) (v := .int 0) (ty := .int) (C := RX3) (T := TX3) (N := 19) hx hb hts miX3_in_X3 tyX3 tyX3_ok nmX3 hown hK hP hD hS 0 rfl rfl 0 (by decide) (hts (.fieldLink RX3 40 "SectionFibresModel" "thrown" "I") mbX3_in_1) (fun _ h9 => h9) rfl (by decide +kernel) rfl rfl (Nat.le_of_ble_eq_true rfl) dX3_in_14 (fun H locs hP hD hS => ?_)
    have hP : va_P (dC, dI) vwCl (wR cA Z g n 0 hs pe pk fo mo fE fK) H := hP
    have hD : va_D Av (wR cA Z g n 0 hs pe pk fo mo fE fK) := hD
    refine lv_aload_n hx hb dX3_in_17 rfl (lv_at hl 0 rfl) ?_
    refine va_get (D := (dC, dI)) (ci := 4) (v := .int 0) (C := RX3) (T := TX3) (N := 19) hx hb hts miX3_in_X3 hown hK hP 0 rfl rfl 0 (by decide) (hts (.fieldLink RX3 40 "SectionFibresModel" "thrown" "I") mbX3_in_1) (fun _ h9 => h9) rfl dX3_in_18 ?_
    refine lv_if_le (tgt := 26) hx hb dX3_in_21 (by decide) (fun _ => ?_) (fun h9 => absurd h9 (by decide))
    refine lv_aload_n hx hb dX3_in_26 rfl (lv_at hl 0 rfl) ?_
    refine va_get (D := (dC, dI)) (ci := 4) (v := .int hs) (C := RX3) (T := TX3) (N := 19) hx hb hts miX3_in_X3 hown hK hP 0 rfl rfl 12 (by decide) (hts (.fieldLink RX3 60 "SectionFibresModel" "has" "Z") mbX3_in_2) (fun _ h9 => h9) rfl dX3_in_27 ?_
    refine lv_if_eq (tgt := 42) hx hb dX3_in_30 (by decide) (fun c1 => ?_) (fun c1 => ?_)
    · refine lv_ldc hx hb hown (hts (.constant RX3 64 (-1000000)) mbX3_in_3) dX3_in_42 ?_
      exact W.iret (v := (-1000000)) hx hb hr (fun t9 ht9 hW9 => ⟨⟨_, ((g, n, hs, pe, pk, fo, mo), 0, fE, fK), rfl, (⟨rfl, Or.inl ⟨q1, rfl, by unfold inF; rw [if_pos c1]⟩⟩), by dsimp only; rw [ht9]; exact hP⟩, hS.F ht9⟩) hS.2.2 dX3_in_44
    · refine lv_iload_n hx hb dX3_in_33 rfl (lv_at hl 2 rfl) ?_
      refine lv_iconst (v := 0) hx hb dX3_in_34 (by decide) ?_
      refine lv_iconst (v := 1) hx hb dX3_in_35 (by decide) ?_
      refine rd_i (va_runS (As := [.int b, .int 0, .int 1]) (rest := []) ⟨hx, hb, hml, hown, hts⟩ (c_X3_within l dC dI cA H b 0 1 0 1 (by decide) (by decide)) (va_cwS 3 hts gX3_in_X3_within rfl rfl rfl (by decide +kernel) ⟨Nat.le_of_ble_eq_true rfl, Nat.le_of_ble_eq_true rfl⟩) ⟨rd_bl, rd_pre hK hN⟩ rfl rfl hl.1 rfl (lv_room (Nat.le_of_ble_eq_true rfl)) dX3_in_36 ⟨Nat.zero_le _, Nat.zero_le _⟩) hS (fun r3 locs hq4 hS => ?_)
      rcases hq4 with ⟨hq4, rfl⟩ | ⟨hq4, rfl⟩
      · have q2 : rg b 0 1 := hq4
        refine lv_if_ne (tgt := 45) hx hb dX3_in_39 (by decide) (fun _ => ?_) (fun h9 => absurd h9 (by decide))
        refine lv_iload_n hx hb dX3_in_45 rfl (lv_at hl 2 rfl) ?_
        refine lv_if_ne (tgt := 65) hx hb dX3_in_46 (by decide) (fun c2 => ?_) (fun c2 => ?_)
        · refine lv_aload_n hx hb dX3_in_65 rfl (lv_at hl 0 rfl) ?_
          refine lv_iload_n hx hb dX3_in_66 rfl (lv_at hl 1 rfl) ?_
          refine tp_i (v := nI a.toNatClampNeg) (rg_nI q1) ?_
          refine lv_aload_n hx hb dX3_in_67 rfl (lv_at hl 0 rfl) ?_
          refine va_get (D := (dC, dI)) (ci := 4) (v := .int pe) (C := RX3) (T := TX3) (N := 19) hx hb hts miX3_in_X3 hown hK hP 0 rfl rfl 13 (by decide) (hts (.fieldLink RX3 105 "SectionFibresModel" "e" "I") mbX3_in_4) (fun _ h9 => h9) rfl dX3_in_68 ?_
          refine lv_aload_n hx hb dX3_in_71 rfl (lv_at hl 0 rfl) ?_
          refine va_get (D := (dC, dI)) (ci := 4) (v := .int pk) (C := RX3) (T := TX3) (N := 19) hx hb hts miX3_in_X3 hown hK hP 0 rfl rfl 14 (by decide) (hts (.fieldLink RX3 108 "SectionFibresModel" "k" "I") mbX3_in_5) (fun _ h9 => h9) rfl dX3_in_72 ?_
          refine rd_i (va_runV (As := [.int (nI a.toNatClampNeg), .int pe, .int pk]) (rest := []) ⟨hx, hb, hml, hown, hts⟩ (c_X3_stressOf l dC dI cA H Z g n 0 hs pe pk fo mo fE fK hP hg a.toNatClampNeg (by have h9 := rg_lt q1; omega) pe pk (hpl c1).1 (hpl c1).2) (cwV 3 hts gX3_in_X3_stressOf rfl rfl rfl (by decide +kernel) ⟨Nat.le_of_ble_eq_true rfl, Nat.le_of_ble_eq_true rfl⟩) ⟨rd_bl, va_recv hK hP (ci := 4) (q0 := 0) rfl rfl, rd_pre hK hN⟩ rfl rfl hl.1 rfl (lv_room (Nat.le_of_ble_eq_true rfl)) dX3_in_75 ⟨Nat.zero_le _, Nat.zero_le _⟩) hS (fun r5 locs hq6 hS => ?_)
          have hq6 : r5 = stF g a.toNatClampNeg pe pk := hq6
          subst hq6
          exact W.iret (v := (stF g a.toNatClampNeg pe pk)) hx hb hr (fun t9 ht9 hW9 => ⟨⟨_, ((g, n, hs, pe, pk, fo, mo), 0, fE, fK), rfl, (⟨rfl, Or.inl ⟨q1, rfl, by unfold inF; rw [if_neg c1, if_neg c2, if_pos ((rg01.mp q2).resolve_left c2)]⟩⟩), by dsimp only; rw [ht9]; exact hP⟩, hS.F ht9⟩) hS.2.2 dX3_in_78
        · refine lv_aload_n hx hb dX3_in_49 rfl (lv_at hl 0 rfl) ?_
          refine lv_iload_n hx hb dX3_in_50 rfl (lv_at hl 1 rfl) ?_
          refine tp_i (v := nI a.toNatClampNeg) (rg_nI q1) ?_
          refine lv_aload_n hx hb dX3_in_51 rfl (lv_at hl 0 rfl) ?_
          refine va_get (D := (dC, dI)) (ci := 4) (v := .int pe) (C := RX3) (T := TX3) (N := 19) hx hb hts miX3_in_X3 hown hK hP 0 rfl rfl 13 (by decide) (hts (.fieldLink RX3 105 "SectionFibresModel" "e" "I") mbX3_in_4) (fun _ h9 => h9) rfl dX3_in_52 ?_
          refine lv_aload_n hx hb dX3_in_55 rfl (lv_at hl 0 rfl) ?_
          refine va_get (D := (dC, dI)) (ci := 4) (v := .int pk) (C := RX3) (T := TX3) (N := 19) hx hb hts miX3_in_X3 hown hK hP 0 rfl rfl 14 (by decide) (hts (.fieldLink RX3 108 "SectionFibresModel" "k" "I") mbX3_in_5) (fun _ h9 => h9) rfl dX3_in_56 ?_
          refine rd_i (va_runV (As := [.int (nI a.toNatClampNeg), .int pe, .int pk]) (rest := []) ⟨hx, hb, hml, hown, hts⟩ (c_X3_works l dC dI cA H Z g n 0 hs pe pk fo mo fE fK hP hg a.toNatClampNeg (by have h9 := rg_lt q1; omega) pe pk (hpl c1).1 (hpl c1).2) (cwV 3 hts gX3_in_X3_works rfl rfl rfl (by decide +kernel) ⟨Nat.le_of_ble_eq_true rfl, Nat.le_of_ble_eq_true rfl⟩) ⟨rd_bl, va_recv hK hP (ci := 4) (q0 := 0) rfl rfl, rd_pre hK hN⟩ rfl rfl hl.1 rfl (lv_room (Nat.le_of_ble_eq_true rfl)) dX3_in_59 ⟨Nat.zero_le _, Nat.zero_le _⟩) hS (fun r7 locs hq8 hS => ?_)
          have hq8 : r7 = wkF g a.toNatClampNeg pe pk := hq8
          subst hq8
          refine lv_goto (tgt := 78) hx hb dX3_in_62 (by decide) ?_
          exact W.iret (v := (wkF g a.toNatClampNeg pe pk)) hx hb hr (fun t9 ht9 hW9 => ⟨⟨_, ((g, n, hs, pe, pk, fo, mo), 0, fE, fK), rfl, (⟨rfl, Or.inl ⟨q1, rfl, by unfold inF; rw [if_neg c1, if_pos c2]⟩⟩), by dsimp only; rw [ht9]; exact hP⟩, hS.F ht9⟩) hS.2.2 dX3_in_78
      · have q2 : ¬ (rg b 0 1) := hq4
        refine lv_if_ne (tgt := 45) hx hb dX3_in_39 (by decide) (fun h9 => absurd h9 (by decide)) (fun _ => ?_)
        refine lv_ldc hx hb hown (hts (.constant RX3 64 (-1000000)) mbX3_in_3) dX3_in_42 ?_
        exact W.iret (v := (-1000000)) hx hb hr (fun t9 ht9 hW9 => ⟨⟨_, ((g, n, hs, pe, pk, fo, mo), 0, fE, fK), rfl, (⟨rfl, Or.inl ⟨q1, rfl, by unfold inF; rw [if_neg c1, if_neg (fun h9 => q2 (rg01.mpr (Or.inl h9))), if_neg (fun h9 => q2 (rg01.mpr (Or.inr h9)))]⟩⟩), by dsimp only; rw [ht9]; exact hP⟩, hS.F ht9⟩) hS.2.2 dX3_in_44
  · have q1 : ¬ (rg a 0 ((n : Int) - 1)) := hq2
    refine lv_if_eq (tgt := 13) hx hb dX3_in_6 (by decide) (fun _ => ?_) (fun h9 => absurd h9 (by decide))
    refine lv_iconst (v := 1) hx hb dX3_in_13 (by decide) ?_
    refine va_put (D := (dC, dI)) (ci := 4) (v := .int 1) (ty := .int) (C := RX3) (T := TX3) (N := 19) hx hb hts miX3_in_X3 tyX3 tyX3_ok nmX3 hown hK hP hD hS 0 rfl rfl 0 (by decide) (hts (.fieldLink RX3 40 "SectionFibresModel" "thrown" "I") mbX3_in_1) (fun _ h9 => h9) rfl (by decide +kernel) rfl rfl (Nat.le_of_ble_eq_true rfl) dX3_in_14 (fun H locs hP hD hS => ?_)
    have hP : va_P (dC, dI) vwCl (wR cA Z g n 1 hs pe pk fo mo fE fK) H := hP
    have hD : va_D Av (wR cA Z g n 1 hs pe pk fo mo fE fK) := hD
    refine lv_aload_n hx hb dX3_in_17 rfl (lv_at hl 0 rfl) ?_
    refine va_get (D := (dC, dI)) (ci := 4) (v := .int 1) (C := RX3) (T := TX3) (N := 19) hx hb hts miX3_in_X3 hown hK hP 0 rfl rfl 0 (by decide) (hts (.fieldLink RX3 40 "SectionFibresModel" "thrown" "I") mbX3_in_1) (fun _ h9 => h9) rfl dX3_in_18 ?_
    refine lv_if_le (tgt := 26) hx hb dX3_in_21 (by decide) (fun h9 => absurd h9 (by decide)) (fun _ => ?_)
    refine lv_iconst (v := 0) hx hb dX3_in_24 (by decide) ?_
    exact W.iret (v := 0) hx hb hr (fun t9 ht9 hW9 => ⟨⟨_, ((g, n, hs, pe, pk, fo, mo), 1, fE, fK), rfl, (⟨rfl, Or.inr ⟨q1, rfl⟩⟩), by dsimp only; rw [ht9]; exact hP⟩, hS.F ht9⟩) hS.2.2 dX3_in_25

set_option maxRecDepth 20000 in
theorem miX3_curve_X3 : ∀ w ∈ u_ws RX3 TX3 19, w ∈ wsX3_curve := by decide +kernel
set_option maxRecDepth 20000 in
theorem mbX3_curve_1 : (.fieldLink RX3 40 "SectionFibresModel" "thrown" "I" : Cond) ∈ wsX3_curve := by decide +kernel
set_option maxRecDepth 20000 in
theorem mbX3_curve_2 : (.constant RX3 64 (-1000000) : Cond) ∈ wsX3_curve := by decide +kernel
set_option maxRecDepth 20000 in
theorem mbX3_curve_3 : (.constantLong RX3 89 (-4611686018427387904) : Cond) ∈ wsX3_curve := by decide +kernel
set_option maxHeartbeats 4000000 in
set_option maxRecDepth 100000 in
theorem c_X3_curve (l : Launch) (dC : Nat → ClassId) (dI : Nat → Nat → Nat) (cA : ClassId) (H : Heap) (Z : Nat → Nat) (g : Gg) (n : Nat) (th hs pe pk : Int32) (fo mo : Int64) (fE fK : Int32) (hP : va_P (dC, dI) vwCl (wR cA Z g n th hs pe pk fo mo fE fK) H) (hD : va_D (fun _ => True) (wR cA Z g n th hs pe pk fo mo fE fK)) (hg : InvG g) (hn : n ≤ 41) (fr : Int64) (sp kq : Int32) : Met l yX3_curve wsX3_curve ({ frames := 4, cells := 0, slots := 0, locals := 102 }) (rd_P [.ref (Z 0), .long fr, .int sp, .int kq] H (dC, dI) vwCl [(cA, .int)]) (va_Ql (fun (r : Int64) (u : Su) => r = curF g n fr sp kq ∧ u.1 = (g, n, hs, pe, pk, fo, mo) ∧ u.2.1 = 0) (fun u t => bR dC dI cA Z u t.heap) (va_A (wR cA Z g n th hs pe pk fo mo fE fK) H.size)) 0 0 (va_A (wR cA Z g n th hs pe pk fo mo fE fK) H.size) := by
  refine Met.ofW (cc := cX3_curve) (maxL := 6) (ret := (some .long)) (by decide) rfl ?_
  intro p e s m args below meth c s₁ B hml hv
  obtain ⟨rfl, hH, hK, hN⟩ := hv
  subst hH
  have hx := B.exec
  have hb := B.bytes
  have hr := B.returns
  have hts := atoms_spec (ws := wsX3_curve) B.pre
  have hown : s.vm.findClass RX3 = some m.cls := findClass_of_methodNamed B.named
  have hlocks := B.notSynchronized
  have hD := hD.self (sz := s.heap.size)
  generalize hAe : va_A (wR cA Z g n th hs pe pk fo mo fE fK) s.heap.size = Av at hD ⊢
  have hA : ∀ q : Nat, s.heap.size ≤ q → Av q := fun q h => by rw [← hAe]; exact Or.inr h
  have hS : va_S Av s.heap s.heap [] := va_S.rf
  have hl := lv_entry ([.ref (Z 0), .long fr, .int sp, .int kq]) (n := 6) (Nat.le_of_ble_eq_true rfl)
  rw [lg_entry_eq]
  generalize (lg_sl ([.ref (Z 0), .long fr, .int sp, .int kq]) ++ List.replicate (6 - (lg_sl ([.ref (Z 0), .long fr, .int sp, .int kq])).length) Slot.unset).toArray = ls at hl ⊢
  have hl : lv_has ls 6 [(0, .ref (Z 0)), (1, .long fr), (3, .int sp), (4, .int kq)] := hl
  refine lv_aload_n hx hb dX3_curve_0 rfl (lv_at hl 0 rfl) ?_
  refine lv_iconst (v := 0) hx hb dX3_curve_1 (by decide) ?_
  refine va_put (D := (dC, dI)) (ci := 4) (v := .int 0) (ty := .int) (C := RX3) (T := TX3) (N := 19) hx hb hts miX3_curve_X3 tyX3 tyX3_ok nmX3 hown hK hP hD hS 0 rfl rfl 0 (by decide) (hts (.fieldLink RX3 40 "SectionFibresModel" "thrown" "I") mbX3_curve_1) (fun _ h9 => h9) rfl (by decide +kernel) rfl rfl (Nat.le_of_ble_eq_true rfl) dX3_curve_2 (fun H locs hP hD hS => ?_)
  have hP : va_P (dC, dI) vwCl (wR cA Z g n 0 hs pe pk fo mo fE fK) H := hP
  have hD : va_D Av (wR cA Z g n 0 hs pe pk fo mo fE fK) := hD
  refine lv_iload_n hx hb dX3_curve_5 rfl (lv_at hl 2 rfl) ?_
  refine lv_iconst (v := 1) hx hb dX3_curve_6 (by decide) ?_
  refine lv_sipush (v := 1000) hx hb dX3_curve_7 (by decide) ?_
  refine rd_i (va_runS (As := [.int sp, .int 1, .int 1000]) (rest := []) ⟨hx, hb, hml, hown, hts⟩ (c_X3_within l dC dI cA H sp 1 1000 1 1000 (by decide) (by decide)) (va_cwS 3 hts gX3_curve_X3_within rfl rfl rfl (by decide +kernel) ⟨Nat.le_of_ble_eq_true rfl, Nat.le_of_ble_eq_true rfl⟩) ⟨rd_bl, rd_pre hK hN⟩ rfl rfl hl.1 rfl (lv_room (Nat.le_of_ble_eq_true rfl)) dX3_curve_10 ⟨Nat.zero_le _, Nat.zero_le _⟩) hS (fun r1 locs hq2 hS => ?_)
  rcases hq2 with ⟨hq2, rfl⟩ | ⟨hq2, rfl⟩
  · have q1 : rg sp 1 1000 := hq2
    refine lv_if_eq (tgt := 27) hx hb dX3_curve_13 (by decide) (fun h9 => absurd h9 (by decide)) (fun _ => ?_)
    refine lv_iload hx hb dX3_curve_16 (lv_at hl 3 rfl) ?_
    refine lv_iconst (v := 0) hx hb dX3_curve_18 (by decide) ?_
    refine lv_bipush (v := 20) hx hb dX3_curve_19 (by decide) ?_
    refine rd_i (va_runS (As := [.int kq, .int 0, .int 20]) (rest := []) ⟨hx, hb, hml, hown, hts⟩ (c_X3_within l dC dI cA H kq 0 20 0 20 (by decide) (by decide)) (va_cwS 3 hts gX3_curve_X3_within rfl rfl rfl (by decide +kernel) ⟨Nat.le_of_ble_eq_true rfl, Nat.le_of_ble_eq_true rfl⟩) ⟨rd_bl, rd_pre hK hN⟩ rfl rfl hl.1 rfl (lv_room (Nat.le_of_ble_eq_true rfl)) dX3_curve_21 ⟨Nat.zero_le _, Nat.zero_le _⟩) hS (fun r3 locs hq4 hS => ?_)
    rcases hq4 with ⟨hq4, rfl⟩ | ⟨hq4, rfl⟩
    · have q2 : rg kq 0 20 := hq4
      refine lv_if_ne (tgt := 31) hx hb dX3_curve_24 (by decide) (fun _ => ?_) (fun h9 => absurd h9 (by decide))
      refine lv_aload_n hx hb dX3_curve_31 rfl (lv_at hl 0 rfl) ?_
      refine lv_lload_n hx hb dX3_curve_32 rfl (lv_at hl 1 rfl) ?_
      refine lv_iload hx hb dX3_curve_33 (lv_at hl 3 rfl) ?_
      refine lv_iload_n hx hb dX3_curve_35 rfl (lv_at hl 2 rfl) ?_
      refine lv_imul hx hb dX3_curve_36 ?_
      refine rd_i (va_runV (As := [.long fr, .int (kq * sp)]) (rest := []) ⟨hx, hb, hml, hown, hts⟩ (c_X3_balanceOf l dC dI cA H Z g n 0 hs pe pk fo mo fE fK hP hg hn fr (kq * sp) (ks_k q2 q1)) (cwV 2 hts gX3_curve_X3_balanceOf rfl rfl rfl (by decide +kernel) ⟨Nat.le_of_ble_eq_true rfl, Nat.le_of_ble_eq_true rfl⟩) ⟨rd_bl, va_recv hK hP (ci := 4) (q0 := 0) rfl rfl, rd_pre hK hN⟩ rfl rfl hl.1 rfl (lv_room (Nat.le_of_ble_eq_true rfl)) dX3_curve_37 ⟨Nat.zero_le _, Nat.zero_le _⟩) hS (fun r5 locs hq6 hS => ?_)
      have hq6 : r5 = blF g n fr (kq * sp) := hq6
      subst hq6
      refine lv_istore (lv' := [(5, .int (blF g n fr (kq * sp))), (0, .ref (Z 0)), (1, .long fr), (3, .int sp), (4, .int kq)]) hx hb dX3_curve_40 hl (by decide) rfl (fun ls hl => ?_)
      refine lv_iload hx hb dX3_curve_42 (lv_at hl 0 rfl) ?_
      refine lv_ldc hx hb hown (hts (.constant RX3 64 (-1000000)) mbX3_curve_2) dX3_curve_44 ?_
      refine lv_icmp_ne (tgt := 55) hx hb dX3_curve_46 (by decide) (fun c1 => ?_) (fun c1 => ?_)
      · refine lv_aload_n hx hb dX3_curve_55 rfl (lv_at hl 1 rfl) ?_
        refine lv_iload hx hb dX3_curve_56 (lv_at hl 0 rfl) ?_
        refine lv_iload hx hb dX3_curve_58 (lv_at hl 4 rfl) ?_
        refine lv_iload_n hx hb dX3_curve_60 rfl (lv_at hl 3 rfl) ?_
        refine lv_imul hx hb dX3_curve_61 ?_
        refine lv_iconst (v := 1) hx hb dX3_curve_62 (by decide) ?_
        refine rd_l (va_runV (As := [.int (blF g n fr (kq * sp)), .int (kq * sp), .int 1]) (rest := []) ⟨hx, hb, hml, hown, hts⟩ (c_X3_sum l dC dI cA H Z g n 0 hs pe pk fo mo fE fK hP hg hn (blF g n fr (kq * sp)) (kq * sp) (bl_rng c1) (ks_k q2 q1) true 1 (by decide)) (cwV 3 hts gX3_curve_X3_sum rfl rfl rfl (by decide +kernel) ⟨Nat.le_of_ble_eq_true rfl, Nat.le_of_ble_eq_true rfl⟩) ⟨rd_bl, va_recv hK hP (ci := 4) (q0 := 0) rfl rfl, rd_pre hK hN⟩ rfl rfl hl.1 rfl (lv_room (Nat.le_of_ble_eq_true rfl)) dX3_curve_63 ⟨Nat.zero_le _, Nat.zero_le _⟩) hS (fun r7 locs hq8 hS => ?_)
        have hq8 : r7 = smF g true (blF g n fr (kq * sp)) (kq * sp) n := hq8
        subst hq8
        exact W.lret (v := (smF g true (blF g n fr (kq * sp)) (kq * sp) n)) hx hb hr (fun t9 ht9 hW9 => ⟨⟨_, ((g, n, hs, pe, pk, fo, mo), 0, fE, fK), rfl, (⟨by unfold curF cvF; rw [if_pos ⟨q1, q2⟩, if_neg c1], rfl, rfl⟩), by dsimp only; rw [ht9]; exact hP⟩, hS.F ht9⟩) hS.2.2 dX3_curve_66
      · refine lv_ldc2 hx hb hown (hts (.constantLong RX3 89 (-4611686018427387904)) mbX3_curve_3) dX3_curve_49 ?_
        refine lv_goto (tgt := 66) hx hb dX3_curve_52 (by decide) ?_
        exact W.lret (v := (-4611686018427387904)) hx hb hr (fun t9 ht9 hW9 => ⟨⟨_, ((g, n, hs, pe, pk, fo, mo), 0, fE, fK), rfl, (⟨by unfold curF cvF; rw [if_pos ⟨q1, q2⟩, if_pos c1], rfl, rfl⟩), by dsimp only; rw [ht9]; exact hP⟩, hS.F ht9⟩) hS.2.2 dX3_curve_66
    · have q2 : ¬ (rg kq 0 20) := hq4
      refine lv_if_ne (tgt := 31) hx hb dX3_curve_24 (by decide) (fun h9 => absurd h9 (by decide)) (fun _ => ?_)
      refine lv_ldc2 hx hb hown (hts (.constantLong RX3 89 (-4611686018427387904)) mbX3_curve_3) dX3_curve_27 ?_
      exact W.lret (v := (-4611686018427387904)) hx hb hr (fun t9 ht9 hW9 => ⟨⟨_, ((g, n, hs, pe, pk, fo, mo), 0, fE, fK), rfl, (⟨by unfold curF; rw [if_neg (fun h9 => q2 h9.2)], rfl, rfl⟩), by dsimp only; rw [ht9]; exact hP⟩, hS.F ht9⟩) hS.2.2 dX3_curve_30
  · have q1 : ¬ (rg sp 1 1000) := hq2
    refine lv_if_eq (tgt := 27) hx hb dX3_curve_13 (by decide) (fun _ => ?_) (fun h9 => absurd h9 (by decide))
    refine lv_ldc2 hx hb hown (hts (.constantLong RX3 89 (-4611686018427387904)) mbX3_curve_3) dX3_curve_27 ?_
    exact W.lret (v := (-4611686018427387904)) hx hb hr (fun t9 ht9 hW9 => ⟨⟨_, ((g, n, hs, pe, pk, fo, mo), 0, fE, fK), rfl, (⟨by unfold curF; rw [if_neg (fun h9 => q1 h9.1)], rfl, rfl⟩), by dsimp only; rw [ht9]; exact hP⟩, hS.F ht9⟩) hS.2.2 dX3_curve_30

set_option maxRecDepth 20000 in
theorem miX3_last_X3 : ∀ w ∈ u_ws RX3 TX3 19, w ∈ wsX3_last := by decide +kernel
set_option maxRecDepth 20000 in
theorem mbX3_last_1 : (.fieldLink RX3 40 "SectionFibresModel" "thrown" "I" : Cond) ∈ wsX3_last := by decide +kernel
set_option maxRecDepth 20000 in
theorem mbX3_last_2 : (.constant RX3 64 (-1000000) : Cond) ∈ wsX3_last := by decide +kernel
set_option maxHeartbeats 4000000 in
set_option maxRecDepth 100000 in
theorem c_X3_last (l : Launch) (dC : Nat → ClassId) (dI : Nat → Nat → Nat) (cA : ClassId) (H : Heap) (Z : Nat → Nat) (g : Gg) (n : Nat) (th hs pe pk : Int32) (fo mo : Int64) (fE fK : Int32) (hP : va_P (dC, dI) vwCl (wR cA Z g n th hs pe pk fo mo fE fK) H) (hD : va_D (fun _ => True) (wR cA Z g n th hs pe pk fo mo fE fK)) (hg : InvG g) (hn : n ≤ 41) (fr : Int64) (sp : Int32) : Met l yX3_last wsX3_last ({ frames := 4, cells := 0, slots := 0, locals := 102 }) (rd_P [.ref (Z 0), .long fr, .int sp] H (dC, dI) vwCl [(cA, .int)]) (va_Qi (fun (r : Int32) (u : Su) => r = lasF g n fr sp ∧ u.1 = (g, n, hs, pe, pk, fo, mo) ∧ u.2.1 = 0) (fun u t => bR dC dI cA Z u t.heap) (va_A (wR cA Z g n th hs pe pk fo mo fE fK) H.size)) 0 0 (va_A (wR cA Z g n th hs pe pk fo mo fE fK) H.size) := by
  refine Met.ofW (cc := cX3_last) (maxL := 6) (ret := (some .int)) (by decide) rfl ?_
  intro p e s m args below meth c s₁ B hml hv
  obtain ⟨rfl, hH, hK, hN⟩ := hv
  subst hH
  have hx := B.exec
  have hb := B.bytes
  have hr := B.returns
  have hts := atoms_spec (ws := wsX3_last) B.pre
  have hown : s.vm.findClass RX3 = some m.cls := findClass_of_methodNamed B.named
  have hlocks := B.notSynchronized
  have hD := hD.self (sz := s.heap.size)
  generalize hAe : va_A (wR cA Z g n th hs pe pk fo mo fE fK) s.heap.size = Av at hD ⊢
  have hA : ∀ q : Nat, s.heap.size ≤ q → Av q := fun q h => by rw [← hAe]; exact Or.inr h
  have hS : va_S Av s.heap s.heap [] := va_S.rf
  have hl := lv_entry ([.ref (Z 0), .long fr, .int sp]) (n := 6) (Nat.le_of_ble_eq_true rfl)
  rw [lg_entry_eq]
  generalize (lg_sl ([.ref (Z 0), .long fr, .int sp]) ++ List.replicate (6 - (lg_sl ([.ref (Z 0), .long fr, .int sp])).length) Slot.unset).toArray = ls at hl ⊢
  have hl : lv_has ls 6 [(0, .ref (Z 0)), (1, .long fr), (3, .int sp)] := hl
  refine lv_aload_n hx hb dX3_last_0 rfl (lv_at hl 0 rfl) ?_
  refine lv_iconst (v := 0) hx hb dX3_last_1 (by decide) ?_
  refine va_put (D := (dC, dI)) (ci := 4) (v := .int 0) (ty := .int) (C := RX3) (T := TX3) (N := 19) hx hb hts miX3_last_X3 tyX3 tyX3_ok nmX3 hown hK hP hD hS 0 rfl rfl 0 (by decide) (hts (.fieldLink RX3 40 "SectionFibresModel" "thrown" "I") mbX3_last_1) (fun _ h9 => h9) rfl (by decide +kernel) rfl rfl (Nat.le_of_ble_eq_true rfl) dX3_last_2 (fun H locs hP hD hS => ?_)
  have hP : va_P (dC, dI) vwCl (wR cA Z g n 0 hs pe pk fo mo fE fK) H := hP
  have hD : va_D Av (wR cA Z g n 0 hs pe pk fo mo fE fK) := hD
  refine lv_iconst (v := 0) hx hb dX3_last_5 (by decide) ?_
  refine tp_i (v := nI 0) (rfl) ?_
  refine lv_istore (lv' := [(4, .int (nI 0)), (0, .ref (Z 0)), (1, .long fr), (3, .int sp)]) hx hb dX3_last_6 hl (by decide) rfl (fun ls hl => ?_)
  have lp : ∀ (z : Nat) (i : Nat) (locs : List Loc) (ls : Array Slot), i ≤ 21 → 22 ≤ i + z → (rg sp 1 1000 → lasF g n fr sp = laF g n fr sp (21 - i) i) → va_S Av s.heap H locs → lv_has ls 6 [(0, .ref (Z 0)), (1, .long fr), (3, .int sp), (4, .int (nI i))] → W p l e (headSpec wsX3_last ({ frames := 4, cells := 0, slots := 0, locals := 102 })).room s m ([.ref (Z 0), .long fr, .int sp]).toArray below meth c H locs 0 0 (MQ below (va_Qi (fun (r : Int32) (u : Su) => r = lasF g n fr sp ∧ u.1 = (g, n, hs, pe, pk, fo, mo) ∧ u.2.1 = 0) (fun u t => bR dC dI cA Z u t.heap) Av) ([.ref (Z 0), .long fr, .int sp]).toArray s 0 0 Av) (F0 m 8 ls []) := by
    intro z
    induction z with
    | zero =>
      intro i locs ls h1 h2 hv hS hl
      exact absurd h2 (by omega)
    | succ z ih =>
      intro i locs ls h1 h2 hv hS hl
      refine lv_iload hx hb dX3_last_8 (lv_at hl 3 rfl) ?_
      refine lv_bipush (v := 21) hx hb dX3_last_10 (by decide) ?_
      refine tp_i (v := nI 21) (rfl) ?_
      refine lv_icmp_ge (tgt := 68) hx hb dX3_last_12 (by decide) (fun c2 => ?_) (fun c2 => ?_)
      · have hi : i = 21 := by have h9 := (nI_leI (by omega) (by omega)).mp c2; omega
        refine lv_iconst (v := (-1)) hx hb dX3_last_68 (by decide) ?_
        exact W.iret (v := (-1)) hx hb hr (fun t9 ht9 hW9 => ⟨⟨_, ((g, n, hs, pe, pk, fo, mo), 0, fE, fK), rfl, (⟨by by_cases h9 : rg sp 1 1000; (rw [hv h9, hi]; rfl); (unfold lasF; rw [if_neg h9]), rfl, rfl⟩), by dsimp only; rw [ht9]; exact hP⟩, hS.F ht9⟩) hS.2.2 dX3_last_69
      · have hi : i < 21 := by rcases Nat.lt_or_ge i 21 with h9 | h9; exact h9; exact absurd (nI_le h9 (by omega)) c2
        refine lv_iload_n hx hb dX3_last_15 rfl (lv_at hl 2 rfl) ?_
        refine lv_iconst (v := 1) hx hb dX3_last_16 (by decide) ?_
        refine lv_sipush (v := 1000) hx hb dX3_last_17 (by decide) ?_
        refine rd_i (va_runS (As := [.int sp, .int 1, .int 1000]) (rest := []) ⟨hx, hb, hml, hown, hts⟩ (c_X3_within l dC dI cA H sp 1 1000 1 1000 (by decide) (by decide)) (va_cwS 3 hts gX3_last_X3_within rfl rfl rfl (by decide +kernel) ⟨Nat.le_of_ble_eq_true rfl, Nat.le_of_ble_eq_true rfl⟩) ⟨rd_bl, rd_pre hK hN⟩ rfl rfl hl.1 rfl (lv_room (Nat.le_of_ble_eq_true rfl)) dX3_last_20 ⟨Nat.zero_le _, Nat.zero_le _⟩) hS (fun r1 locs hq2 hS => ?_)
        rcases hq2 with ⟨hq2, rfl⟩ | ⟨hq2, rfl⟩
        · have q1 : rg sp 1 1000 := hq2
          refine lv_if_eq (tgt := 68) hx hb dX3_last_23 (by decide) (fun h9 => absurd h9 (by decide)) (fun _ => ?_)
          refine lv_aload_n hx hb dX3_last_26 rfl (lv_at hl 0 rfl) ?_
          refine lv_lload_n hx hb dX3_last_27 rfl (lv_at hl 1 rfl) ?_
          refine lv_iload hx hb dX3_last_28 (lv_at hl 3 rfl) ?_
          refine lv_iload_n hx hb dX3_last_30 rfl (lv_at hl 2 rfl) ?_
          refine lv_imul hx hb dX3_last_31 ?_
          refine rd_i (va_runV (As := [.long fr, .int ((nI i) * sp)]) (rest := []) ⟨hx, hb, hml, hown, hts⟩ (c_X3_balanceOf l dC dI cA H Z g n 0 hs pe pk fo mo fE fK hP hg hn fr ((nI i) * sp) (nis_k (by omega) q1)) (cwV 2 hts gX3_last_X3_balanceOf rfl rfl rfl (by decide +kernel) ⟨Nat.le_of_ble_eq_true rfl, Nat.le_of_ble_eq_true rfl⟩) ⟨rd_bl, va_recv hK hP (ci := 4) (q0 := 0) rfl rfl, rd_pre hK hN⟩ rfl rfl hl.1 rfl (lv_room (Nat.le_of_ble_eq_true rfl)) dX3_last_32 ⟨Nat.zero_le _, Nat.zero_le _⟩) hS (fun r3 locs hq4 hS => ?_)
          have hq4 : r3 = blF g n fr ((nI i) * sp) := hq4
          subst hq4
          refine lv_istore (lv' := [(5, .int (blF g n fr ((nI i) * sp))), (0, .ref (Z 0)), (1, .long fr), (3, .int sp), (4, .int (nI i))]) hx hb dX3_last_35 hl (by decide) rfl (fun ls hl => ?_)
          refine lv_iload hx hb dX3_last_37 (lv_at hl 0 rfl) ?_
          refine lv_ldc hx hb hown (hts (.constant RX3 64 (-1000000)) mbX3_last_2) dX3_last_39 ?_
          refine lv_icmp_ne (tgt := 46) hx hb dX3_last_41 (by decide) (fun c3 => ?_) (fun c3 => ?_)
          · refine lv_aload_n hx hb dX3_last_46 rfl (lv_at hl 1 rfl) ?_
            refine lv_iload hx hb dX3_last_47 (lv_at hl 0 rfl) ?_
            refine lv_iload hx hb dX3_last_49 (lv_at hl 4 rfl) ?_
            refine lv_iload_n hx hb dX3_last_51 rfl (lv_at hl 3 rfl) ?_
            refine lv_imul hx hb dX3_last_52 ?_
            refine rd_i (va_runV (As := [.int (blF g n fr ((nI i) * sp)), .int ((nI i) * sp)]) (rest := []) ⟨hx, hb, hml, hown, hts⟩ (c_X3_firstBeyond l dC dI cA H Z g n 0 hs pe pk fo mo fE fK hP hg hn (blF g n fr ((nI i) * sp)) ((nI i) * sp) (bl_rng c3) (nis_k (by omega) q1)) (cwV 2 hts gX3_last_X3_firstBeyond rfl rfl rfl (by decide +kernel) ⟨Nat.le_of_ble_eq_true rfl, Nat.le_of_ble_eq_true rfl⟩) ⟨rd_bl, va_recv hK hP (ci := 4) (q0 := 0) rfl rfl, rd_pre hK hN⟩ rfl rfl hl.1 rfl (lv_room (Nat.le_of_ble_eq_true rfl)) dX3_last_53 ⟨Nat.zero_le _, Nat.zero_le _⟩) hS (fun r5 locs hq6 hS => ?_)
            have hq6 : r5 = fbF g (blF g n fr ((nI i) * sp)) ((nI i) * sp) n 0 := hq6
            subst hq6
            refine lv_if_lt (tgt := 62) hx hb dX3_last_56 (by decide) (fun c4 => ?_) (fun c4 => ?_)
            · refine lv_iinc (v := nI (i + 1)) (lv' := [(4, .int (nI (i + 1))), (5, .int (blF g n fr ((nI i) * sp))), (0, .ref (Z 0)), (1, .long fr), (3, .int sp)]) hx hb dX3_last_62 hl (k := 4) rfl (nI_1 i) (by decide) rfl (fun ls hl => ?_)
              refine lv_goto (tgt := 8) hx hb dX3_last_65 (by decide) ?_
              exact ih (i + 1) _ _ (by omega) (by omega) (fun _ => by rw [hv q1, show 21 - i = (21 - (i + 1)) + 1 by omega, la_f c3 ((fb_lt hn).mp c4)]) hS (lv_sub hl [2, 3, 4, 0] rfl)
            · refine lv_iload hx hb dX3_last_59 (lv_at hl 4 rfl) ?_
              exact W.iret (v := (nI i)) hx hb hr (fun t9 ht9 hW9 => ⟨⟨_, ((g, n, hs, pe, pk, fo, mo), 0, fE, fK), rfl, (⟨by rw [hv q1, show 21 - i = (21 - (i + 1)) + 1 by omega, la_t c3 (fun h9 => c4 ((fb_lt hn).mpr h9))], rfl, rfl⟩), by dsimp only; rw [ht9]; exact hP⟩, hS.F ht9⟩) hS.2.2 dX3_last_61
          · refine lv_iconst (v := (-1)) hx hb dX3_last_44 (by decide) ?_
            exact W.iret (v := (-1)) hx hb hr (fun t9 ht9 hW9 => ⟨⟨_, ((g, n, hs, pe, pk, fo, mo), 0, fE, fK), rfl, (⟨by rw [hv q1, show 21 - i = (21 - (i + 1)) + 1 by omega, la_0 c3], rfl, rfl⟩), by dsimp only; rw [ht9]; exact hP⟩, hS.F ht9⟩) hS.2.2 dX3_last_45
        · have q1 : ¬ (rg sp 1 1000) := hq2
          refine lv_if_eq (tgt := 68) hx hb dX3_last_23 (by decide) (fun _ => ?_) (fun h9 => absurd h9 (by decide))
          refine lv_iconst (v := (-1)) hx hb dX3_last_68 (by decide) ?_
          exact W.iret (v := (-1)) hx hb hr (fun t9 ht9 hW9 => ⟨⟨_, ((g, n, hs, pe, pk, fo, mo), 0, fE, fK), rfl, (⟨by unfold lasF; rw [if_neg q1], rfl, rfl⟩), by dsimp only; rw [ht9]; exact hP⟩, hS.F ht9⟩) hS.2.2 dX3_last_69
  exact lp 22 0 _ _ (by omega) (by omega) (fun h9 => by unfold lasF; rw [if_pos h9]) hS (lv_sub hl [1, 2, 3, 0] rfl)

set_option maxRecDepth 20000 in
theorem miX3_count_X3 : ∀ w ∈ u_ws RX3 TX3 19, w ∈ wsX3_count := by decide +kernel
set_option maxRecDepth 20000 in
theorem mbX3_count_1 : (.fieldLink RX3 40 "SectionFibresModel" "thrown" "I" : Cond) ∈ wsX3_count := by decide +kernel
set_option maxRecDepth 20000 in
theorem mbX3_count_2 : (.fieldLink RX3 44 "SectionFibresModel" "fibres" "I" : Cond) ∈ wsX3_count := by decide +kernel
set_option maxRecDepth 20000 in
theorem mbX3_count_3 : (.fieldLink RX3 25 "SectionFibresModel" "points" "[I" : Cond) ∈ wsX3_count := by decide +kernel
set_option maxRecDepth 20000 in
theorem mbX3_count_4 : (.fieldLink RX3 7 "SectionFibresModel" "areas" "[I" : Cond) ∈ wsX3_count := by decide +kernel
set_option maxHeartbeats 4000000 in
set_option maxRecDepth 100000 in
theorem c_X3_count (l : Launch) (dC : Nat → ClassId) (dI : Nat → Nat → Nat) (cA : ClassId) (H : Heap) (Z : Nat → Nat) (g : Gg) (n : Nat) (th hs pe pk : Int32) (fo mo : Int64) (fE fK : Int32) (hP : va_P (dC, dI) vwCl (wR cA Z g n th hs pe pk fo mo fE fK) H) (hD : va_D (fun _ => True) (wR cA Z g n th hs pe pk fo mo fE fK)) (hg : InvG g) (hn : n ≤ 41) (wh : Int32) : Met l yX3_count wsX3_count ({ frames := 1, cells := 0, slots := 0, locals := 22 }) (rd_P [.ref (Z 0), .int wh] H (dC, dI) vwCl [(cA, .int)]) (va_Qi (fun (r : Int32) (u : Su) => r = couF g n wh ∧ u.1 = (g, n, hs, pe, pk, fo, mo) ∧ u.2.1 = 0) (fun u t => bR dC dI cA Z u t.heap) (va_A (wR cA Z g n th hs pe pk fo mo fE fK) H.size)) 0 0 (va_A (wR cA Z g n th hs pe pk fo mo fE fK) H.size) := by
  refine Met.ofW (cc := cX3_count) (maxL := 4) (ret := (some .int)) (by decide) rfl ?_
  intro p e s m args below meth c s₁ B hml hv
  obtain ⟨rfl, hH, hK, hN⟩ := hv
  subst hH
  have hx := B.exec
  have hb := B.bytes
  have hr := B.returns
  have hts := atoms_spec (ws := wsX3_count) B.pre
  have hown : s.vm.findClass RX3 = some m.cls := findClass_of_methodNamed B.named
  have hlocks := B.notSynchronized
  have hD := hD.self (sz := s.heap.size)
  generalize hAe : va_A (wR cA Z g n th hs pe pk fo mo fE fK) s.heap.size = Av at hD ⊢
  have hA : ∀ q : Nat, s.heap.size ≤ q → Av q := fun q h => by rw [← hAe]; exact Or.inr h
  have hS : va_S Av s.heap s.heap [] := va_S.rf
  have hl := lv_entry ([.ref (Z 0), .int wh]) (n := 4) (Nat.le_of_ble_eq_true rfl)
  rw [lg_entry_eq]
  generalize (lg_sl ([.ref (Z 0), .int wh]) ++ List.replicate (4 - (lg_sl ([.ref (Z 0), .int wh])).length) Slot.unset).toArray = ls at hl ⊢
  have hl : lv_has ls 4 [(0, .ref (Z 0)), (1, .int wh)] := hl
  refine lv_aload_n hx hb dX3_count_0 rfl (lv_at hl 0 rfl) ?_
  refine lv_iconst (v := 0) hx hb dX3_count_1 (by decide) ?_
  refine va_put (D := (dC, dI)) (ci := 4) (v := .int 0) (ty := .int) (C := RX3) (T := TX3) (N := 19) hx hb hts miX3_count_X3 tyX3 tyX3_ok nmX3 hown hK hP hD hS 0 rfl rfl 0 (by decide) (hts (.fieldLink RX3 40 "SectionFibresModel" "thrown" "I") mbX3_count_1) (fun _ h9 => h9) rfl (by decide +kernel) rfl rfl (Nat.le_of_ble_eq_true rfl) dX3_count_2 (fun H locs hP hD hS => ?_)
  have hP : va_P (dC, dI) vwCl (wR cA Z g n 0 hs pe pk fo mo fE fK) H := hP
  have hD : va_D Av (wR cA Z g n 0 hs pe pk fo mo fE fK) := hD
  refine lv_iload_n hx hb dX3_count_5 rfl (lv_at hl 1 rfl) ?_
  refine lv_iconst (v := 0) hx hb dX3_count_6 (by decide) ?_
  refine lv_iconst (v := 5) hx hb dX3_count_7 (by decide) ?_
  refine rd_i (va_runS (As := [.int wh, .int 0, .int 5]) (rest := []) ⟨hx, hb, hml, hown, hts⟩ (c_X3_within l dC dI cA H wh 0 5 0 5 (by decide) (by decide)) (va_cwS 3 hts gX3_count_X3_within rfl rfl rfl (by decide +kernel) ⟨Nat.le_of_ble_eq_true rfl, Nat.le_of_ble_eq_true rfl⟩) ⟨rd_bl, rd_pre hK hN⟩ rfl rfl hl.1 rfl (lv_room (Nat.le_of_ble_eq_true rfl)) dX3_count_8 ⟨Nat.zero_le _, Nat.zero_le _⟩) hS (fun r1 locs hq2 hS => ?_)
  rcases hq2 with ⟨hq2, rfl⟩ | ⟨hq2, rfl⟩
  · have q1 : rg wh 0 5 := hq2
    refine lv_if_ne (tgt := 16) hx hb dX3_count_11 (by decide) (fun _ => ?_) (fun h9 => absurd h9 (by decide))
    refine lv_iconst (v := 0) hx hb dX3_count_16 (by decide) ?_
    refine lv_istore_n (lv' := [(2, .int 0), (0, .ref (Z 0)), (1, .int wh)]) hx hb dX3_count_17 rfl hl (by decide) rfl (fun ls hl => ?_)
    refine lv_iconst (v := 0) hx hb dX3_count_18 (by decide) ?_
    refine tp_i (v := nI 0) (rfl) ?_
    refine lv_istore_n (lv' := [(3, .int (nI 0)), (2, .int 0), (0, .ref (Z 0)), (1, .int wh)]) hx hb dX3_count_19 rfl hl (by decide) rfl (fun ls hl => ?_)
    have lp : ∀ (z : Nat) (i : Nat) (locs : List Loc) (ls : Array Slot), i ≤ n → n + 1 ≤ i + z → va_S Av s.heap H locs → lv_has ls 4 [(0, .ref (Z 0)), (1, .int wh), (2, .int (arF g i)), (3, .int (nI i))] → W p l e (headSpec wsX3_count ({ frames := 1, cells := 0, slots := 0, locals := 22 })).room s m ([.ref (Z 0), .int wh]).toArray below meth c H locs 0 0 (MQ below (va_Qi (fun (r : Int32) (u : Su) => r = couF g n wh ∧ u.1 = (g, n, hs, pe, pk, fo, mo) ∧ u.2.1 = 0) (fun u t => bR dC dI cA Z u t.heap) Av) ([.ref (Z 0), .int wh]).toArray s 0 0 Av) (F0 m 20 ls []) := by
      intro z
      induction z with
      | zero =>
        intro i locs ls h1 h2 hS hl
        exact absurd h2 (by omega)
      | succ z ih =>
        intro i locs ls h1 h2 hS hl
        refine lv_iload_n hx hb dX3_count_20 rfl (lv_at hl 3 rfl) ?_
        refine lv_aload_n hx hb dX3_count_21 rfl (lv_at hl 0 rfl) ?_
        refine va_get (D := (dC, dI)) (ci := 4) (v := .int (nI n)) (C := RX3) (T := TX3) (N := 19) hx hb hts miX3_count_X3 hown hK hP 0 rfl rfl 1 (by decide) (hts (.fieldLink RX3 44 "SectionFibresModel" "fibres" "I") mbX3_count_2) (fun _ h9 => h9) rfl dX3_count_22 ?_
        refine lv_icmp_ge (tgt := 43) hx hb dX3_count_25 (by decide) (fun c1 => ?_) (fun c1 => ?_)
        · have hi : i = n := by have h9 := (nI_leI (by omega) (by omega)).mp c1; omega
          refine lv_iload_n hx hb dX3_count_43 rfl (lv_at hl 1 rfl) ?_
          refine lv_if_ne (tgt := 54) hx hb dX3_count_44 (by decide) (fun c2 => ?_) (fun c2 => ?_)
          · refine lv_iload_n hx hb dX3_count_54 rfl (lv_at hl 1 rfl) ?_
            refine lv_iconst (v := 1) hx hb dX3_count_55 (by decide) ?_
            refine lv_icmp_ne (tgt := 63) hx hb dX3_count_56 (by decide) (fun c3 => ?_) (fun c3 => ?_)
            · have q5 := ((rg05.mp q1).resolve_left c2).resolve_left c3
              refine lv_aload_n hx hb dX3_count_63 rfl (lv_at hl 0 rfl) ?_
              refine va_get (D := (dC, dI)) (ci := 4) (v := .ref (Z 6)) (C := RX3) (T := TX3) (N := 19) hx hb hts miX3_count_X3 hown hK hP 0 rfl rfl 7 (by decide) (hts (.fieldLink RX3 25 "SectionFibresModel" "points" "[I") mbX3_count_3) (fun _ h9 => h9) rfl dX3_count_64 ?_
              refine lv_iload_n hx hb dX3_count_67 rfl (lv_at hl 1 rfl) ?_
              refine lv_iconst (v := 2) hx hb dX3_count_68 (by decide) ?_
              refine lv_isub hx hb dX3_count_69 ?_
              refine tp_i (v := nI (wh.toNatClampNeg - 2)) (wh_2 q5) ?_
              refine ialn hx hb hK hP 6 0 rfl rfl (wh.toNatClampNeg - 2) (rfl) (by have h9 := q5.1; have h8 := q5.2; have h7 : wh.toInt.toNat = wh.toNatClampNeg := rfl; omega) (by decide) dX3_count_70 ?_
              exact W.iret (v := (g 7 (wh.toNatClampNeg - 2))) hx hb hr (fun t9 ht9 hW9 => ⟨⟨_, ((g, n, hs, pe, pk, fo, mo), 0, fE, fK), rfl, (⟨by unfold couF; rw [if_neg c2, if_neg c3, if_pos q5], rfl, rfl⟩), by dsimp only; rw [ht9]; exact hP⟩, hS.F ht9⟩) hS.2.2 dX3_count_71
            · refine lv_iload_n hx hb dX3_count_59 rfl (lv_at hl 2 rfl) ?_
              refine lv_goto (tgt := 71) hx hb dX3_count_60 (by decide) ?_
              exact W.iret (v := (arF g i)) hx hb hr (fun t9 ht9 hW9 => ⟨⟨_, ((g, n, hs, pe, pk, fo, mo), 0, fE, fK), rfl, (⟨by unfold couF; rw [if_neg c2, if_pos c3, hi], rfl, rfl⟩), by dsimp only; rw [ht9]; exact hP⟩, hS.F ht9⟩) hS.2.2 dX3_count_71
          · refine lv_aload_n hx hb dX3_count_47 rfl (lv_at hl 0 rfl) ?_
            refine va_get (D := (dC, dI)) (ci := 4) (v := .int (nI n)) (C := RX3) (T := TX3) (N := 19) hx hb hts miX3_count_X3 hown hK hP 0 rfl rfl 1 (by decide) (hts (.fieldLink RX3 44 "SectionFibresModel" "fibres" "I") mbX3_count_2) (fun _ h9 => h9) rfl dX3_count_48 ?_
            refine lv_goto (tgt := 71) hx hb dX3_count_51 (by decide) ?_
            exact W.iret (v := (nI n)) hx hb hr (fun t9 ht9 hW9 => ⟨⟨_, ((g, n, hs, pe, pk, fo, mo), 0, fE, fK), rfl, (⟨by unfold couF; rw [if_pos c2], rfl, rfl⟩), by dsimp only; rw [ht9]; exact hP⟩, hS.F ht9⟩) hS.2.2 dX3_count_71
        · have hi : i < n := by rcases Nat.lt_or_ge i n with h9 | h9; exact h9; exact absurd (nI_le h9 (by omega)) c1
          refine lv_iload_n hx hb dX3_count_28 rfl (lv_at hl 2 rfl) ?_
          refine lv_aload_n hx hb dX3_count_29 rfl (lv_at hl 0 rfl) ?_
          refine va_get (D := (dC, dI)) (ci := 4) (v := .ref (Z 1)) (C := RX3) (T := TX3) (N := 19) hx hb hts miX3_count_X3 hown hK hP 0 rfl rfl 2 (by decide) (hts (.fieldLink RX3 7 "SectionFibresModel" "areas" "[I") mbX3_count_4) (fun _ h9 => h9) rfl dX3_count_30 ?_
          refine lv_iload_n hx hb dX3_count_33 rfl (lv_at hl 3 rfl) ?_
          refine ialn hx hb hK hP 1 0 rfl rfl i (rfl) (by omega) (by decide) dX3_count_34 ?_
          refine lv_iadd hx hb dX3_count_35 ?_
          refine tp_i (v := arF g (i + 1)) (rfl) ?_
          refine lv_istore_n (lv' := [(2, .int (arF g (i + 1))), (0, .ref (Z 0)), (1, .int wh), (3, .int (nI i))]) hx hb dX3_count_36 rfl hl (by decide) rfl (fun ls hl => ?_)
          refine lv_iinc (v := nI (i + 1)) (lv' := [(3, .int (nI (i + 1))), (2, .int (arF g (i + 1))), (0, .ref (Z 0)), (1, .int wh)]) hx hb dX3_count_37 hl (k := 3) rfl (nI_1 i) (by decide) rfl (fun ls hl => ?_)
          refine lv_goto (tgt := 20) hx hb dX3_count_40 (by decide) ?_
          exact ih (i + 1) _ _ (by omega) (by omega) hS (lv_sub hl [2, 3, 1, 0] rfl)
    exact lp (n + 1) 0 _ _ (Nat.zero_le _) (by omega) hS (lv_sub hl [2, 3, 1, 0] rfl)
  · have q1 : ¬ (rg wh 0 5) := hq2
    refine lv_if_ne (tgt := 16) hx hb dX3_count_11 (by decide) (fun h9 => absurd h9 (by decide)) (fun _ => ?_)
    refine lv_iconst (v := (-1)) hx hb dX3_count_14 (by decide) ?_
    exact W.iret (v := (-1)) hx hb hr (fun t9 ht9 hW9 => ⟨⟨_, ((g, n, hs, pe, pk, fo, mo), 0, fE, fK), rfl, (⟨by unfold couF; rw [if_neg (fun h9 => q1 (rg05.mpr (Or.inl h9))), if_neg (fun h9 => q1 (rg05.mpr (Or.inr (Or.inl h9)))), if_neg (fun h9 => q1 (rg05.mpr (Or.inr (Or.inr h9))))], rfl, rfl⟩), by dsimp only; rw [ht9]; exact hP⟩, hS.F ht9⟩) hS.2.2 dX3_count_15
end
section
set_option maxRecDepth 20000 in
theorem miX3_solve_X3 : ∀ w ∈ u_ws RX3 TX3 19, w ∈ wsX3_solve := by decide +kernel
set_option maxRecDepth 20000 in
theorem mbX3_solve_1 : (.fieldLink RX3 95 "SectionFibresModel" "foundK" "I" : Cond) ∈ wsX3_solve := by decide +kernel
set_option maxRecDepth 20000 in
theorem mbX3_solve_2 : (.fieldLink RX3 98 "SectionFibresModel" "foundE" "I" : Cond) ∈ wsX3_solve := by decide +kernel
set_option maxRecDepth 20000 in
theorem mbX3_solve_3 : (.constant RX3 64 (-1000000) : Cond) ∈ wsX3_solve := by decide +kernel
set_option maxHeartbeats 4000000 in
set_option maxRecDepth 100000 in
theorem c_X3_solve (l : Launch) (dC : Nat → ClassId) (dI : Nat → Nat → Nat) (cA : ClassId) (H : Heap) (Z : Nat → Nat) (g : Gg) (n : Nat) (th hs pe pk : Int32) (fo mo : Int64) (fE fK : Int32) (hP : va_P (dC, dI) vwCl (wR cA Z g n th hs pe pk fo mo fE fK) H) (hD : va_D (fun _ => True) (wR cA Z g n th hs pe pk fo mo fE fK)) (hg : InvG g) (hn : n ≤ 41) (fr mv : Int64) : Met l yX3_solve wsX3_solve ({ frames := 4, cells := 0, slots := 0, locals := 102 }) (rd_P [.ref (Z 0), .long fr, .long mv] H (dC, dI) vwCl [(cA, .int)]) (va_Qi (fun (r : Int32) (u : Su) => r = (slF g n fr mv).1 ∧ u.1 = (g, n, hs, pe, pk, fo, mo) ∧ u.2.1 = th ∧ (r = 0 → u.2.2.1 = blF g n fr (iI (slF g n fr mv).2) ∧ u.2.2.2 = iI (slF g n fr mv).2)) (fun u t => bR dC dI cA Z u t.heap) (va_A (wR cA Z g n th hs pe pk fo mo fE fK) H.size)) 0 0 (va_A (wR cA Z g n th hs pe pk fo mo fE fK) H.size) := by
  refine Met.ofW (cc := cX3_solve) (maxL := 9) (ret := (some .int)) (by decide) rfl ?_
  intro p e s m args below meth c s₁ B hml hv
  obtain ⟨rfl, hH, hK, hN⟩ := hv
  subst hH
  have hx := B.exec
  have hb := B.bytes
  have hr := B.returns
  have hts := atoms_spec (ws := wsX3_solve) B.pre
  have hown : s.vm.findClass RX3 = some m.cls := findClass_of_methodNamed B.named
  have hlocks := B.notSynchronized
  have hD := hD.self (sz := s.heap.size)
  generalize hAe : va_A (wR cA Z g n th hs pe pk fo mo fE fK) s.heap.size = Av at hD ⊢
  have hA : ∀ q : Nat, s.heap.size ≤ q → Av q := fun q h => by rw [← hAe]; exact Or.inr h
  have hS : va_S Av s.heap s.heap [] := va_S.rf
  have hl := lv_entry ([.ref (Z 0), .long fr, .long mv]) (n := 9) (Nat.le_of_ble_eq_true rfl)
  rw [lg_entry_eq]
  generalize (lg_sl ([.ref (Z 0), .long fr, .long mv]) ++ List.replicate (9 - (lg_sl ([.ref (Z 0), .long fr, .long mv])).length) Slot.unset).toArray = ls at hl ⊢
  have hl : lv_has ls 9 [(0, .ref (Z 0)), (1, .long fr), (3, .long mv)] := hl
  refine lv_sipush (v := (-20000)) hx hb dX3_solve_0 (by decide) ?_
  refine tp_i (v := iI (-20000)) (by decide) ?_
  refine lv_istore (lv' := [(5, .int (iI (-20000))), (0, .ref (Z 0)), (1, .long fr), (3, .long mv)]) hx hb dX3_solve_3 hl (by decide) rfl (fun ls hl => ?_)
  refine lv_sipush (v := 20000) hx hb dX3_solve_5 (by decide) ?_
  refine tp_i (v := iI 20000) (by decide) ?_
  refine lv_istore (lv' := [(6, .int (iI 20000)), (5, .int (iI (-20000))), (0, .ref (Z 0)), (1, .long fr), (3, .long mv)]) hx hb dX3_solve_8 hl (by decide) rfl (fun ls hl => ?_)
  have lp : ∀ (z : Nat) (a : Int) (b : Int) (u : Nat) (locs : List Loc) (ls : Array Slot), -20000 ≤ a → a ≤ 20000 → -20000 ≤ b → b ≤ 20000 → a ≤ b → b - a < z → b - a < 2 ^ u → slF g n fr mv = soF g n fr mv u a b → va_S Av s.heap s.heap locs → lv_has ls 9 [(0, .ref (Z 0)), (1, .long fr), (3, .long mv), (5, .int (iI a)), (6, .int (iI b))] → W p l e (headSpec wsX3_solve ({ frames := 4, cells := 0, slots := 0, locals := 102 })).room s m ([.ref (Z 0), .long fr, .long mv]).toArray below meth c s.heap locs 0 0 (MQ below (va_Qi (fun (r : Int32) (u : Su) => r = (slF g n fr mv).1 ∧ u.1 = (g, n, hs, pe, pk, fo, mo) ∧ u.2.1 = th ∧ (r = 0 → u.2.2.1 = blF g n fr (iI (slF g n fr mv).2) ∧ u.2.2.2 = iI (slF g n fr mv).2)) (fun u t => bR dC dI cA Z u t.heap) Av) ([.ref (Z 0), .long fr, .long mv]).toArray s 0 0 Av) (F0 m 10 ls []) := by
    intro z
    induction z with
    | zero =>
      intro a b u locs ls a1 a2 b1 b2 h1 h2 h3 hv hS hl
      exact absurd h2 (by omega)
    | succ z ih =>
      intro a b u locs ls a1 a2 b1 b2 h1 h2 h3 hv hS hl
      refine lv_iload hx hb dX3_solve_10 (lv_at hl 3 rfl) ?_
      refine lv_iload hx hb dX3_solve_12 (lv_at hl 4 rfl) ?_
      refine lv_icmp_ge (tgt := 77) hx hb dX3_solve_14 (by decide) (fun c3 => ?_) (fun c3 => ?_)
      · have hab : ¬ a < b := by have h9 := (iI_le (by omega) (by omega) (by omega) (by omega)).mp c3; omega
        have hv : slF g n fr mv = soE g n fr mv a := by rw [hv, so_end hab]
        refine lv_aload_n hx hb dX3_solve_77 rfl (lv_at hl 0 rfl) ?_
        refine lv_iload hx hb dX3_solve_78 (lv_at hl 3 rfl) ?_
        refine va_put (D := (dC, dI)) (ci := 4) (v := .int (iI a)) (ty := .int) (C := RX3) (T := TX3) (N := 19) hx hb hts miX3_solve_X3 tyX3 tyX3_ok nmX3 hown hK hP hD hS 0 rfl rfl 18 (by decide) (hts (.fieldLink RX3 95 "SectionFibresModel" "foundK" "I") mbX3_solve_1) (fun _ h9 => h9) rfl (by decide +kernel) rfl rfl (Nat.le_of_ble_eq_true rfl) dX3_solve_80 (fun H locs hP hD hS => ?_)
        have hP : va_P (dC, dI) vwCl (wR cA Z g n th hs pe pk fo mo fE (iI a)) H := hP
        have hD : va_D Av (wR cA Z g n th hs pe pk fo mo fE (iI a)) := hD
        refine lv_aload_n hx hb dX3_solve_83 rfl (lv_at hl 0 rfl) ?_
        refine lv_aload_n hx hb dX3_solve_84 rfl (lv_at hl 0 rfl) ?_
        refine lv_lload_n hx hb dX3_solve_85 rfl (lv_at hl 1 rfl) ?_
        refine lv_iload hx hb dX3_solve_86 (lv_at hl 3 rfl) ?_
        refine rd_i (va_runV (As := [.long fr, .int (iI a)]) (rest := [.ref (Z 0)]) ⟨hx, hb, hml, hown, hts⟩ (c_X3_balanceOf l dC dI cA H Z g n th hs pe pk fo mo fE (iI a) hP hg hn fr (iI a) (rgI (by omega) (by omega))) (cwV 2 hts gX3_solve_X3_balanceOf rfl rfl rfl (by decide +kernel) ⟨Nat.le_of_ble_eq_true rfl, Nat.le_of_ble_eq_true rfl⟩) ⟨rd_bl, va_recv hK hP (ci := 4) (q0 := 0) rfl rfl, rd_pre hK hN⟩ rfl rfl hl.1 rfl (lv_room (Nat.le_of_ble_eq_true rfl)) dX3_solve_88 ⟨Nat.zero_le _, Nat.zero_le _⟩) hS (fun r1 locs hq2 hS => ?_)
        have hq2 : r1 = blF g n fr (iI a) := hq2
        subst hq2
        refine va_put (D := (dC, dI)) (ci := 4) (v := .int (blF g n fr (iI a))) (ty := .int) (C := RX3) (T := TX3) (N := 19) hx hb hts miX3_solve_X3 tyX3 tyX3_ok nmX3 hown hK hP hD hS 0 rfl rfl 17 (by decide) (hts (.fieldLink RX3 98 "SectionFibresModel" "foundE" "I") mbX3_solve_2) (fun _ h9 => h9) rfl (by decide +kernel) rfl rfl (Nat.le_of_ble_eq_true rfl) dX3_solve_91 (fun H locs hP hD hS => ?_)
        have hP : va_P (dC, dI) vwCl (wR cA Z g n th hs pe pk fo mo (blF g n fr (iI a)) (iI a)) H := hP
        have hD : va_D Av (wR cA Z g n th hs pe pk fo mo (blF g n fr (iI a)) (iI a)) := hD
        refine lv_aload_n hx hb dX3_solve_94 rfl (lv_at hl 0 rfl) ?_
        refine va_get (D := (dC, dI)) (ci := 4) (v := .int (blF g n fr (iI a))) (C := RX3) (T := TX3) (N := 19) hx hb hts miX3_solve_X3 hown hK hP 0 rfl rfl 17 (by decide) (hts (.fieldLink RX3 98 "SectionFibresModel" "foundE" "I") mbX3_solve_2) (fun _ h9 => h9) rfl dX3_solve_95 ?_
        refine lv_ldc hx hb hown (hts (.constant RX3 64 (-1000000)) mbX3_solve_3) dX3_solve_98 ?_
        refine lv_icmp_ne (tgt := 107) hx hb dX3_solve_100 (by decide) (fun c6 => ?_) (fun c6 => ?_)
        · refine lv_aload_n hx hb dX3_solve_107 rfl (lv_at hl 0 rfl) ?_
          refine lv_aload_n hx hb dX3_solve_108 rfl (lv_at hl 0 rfl) ?_
          refine va_get (D := (dC, dI)) (ci := 4) (v := .int (blF g n fr (iI a))) (C := RX3) (T := TX3) (N := 19) hx hb hts miX3_solve_X3 hown hK hP 0 rfl rfl 17 (by decide) (hts (.fieldLink RX3 98 "SectionFibresModel" "foundE" "I") mbX3_solve_2) (fun _ h9 => h9) rfl dX3_solve_109 ?_
          refine lv_aload_n hx hb dX3_solve_112 rfl (lv_at hl 0 rfl) ?_
          refine va_get (D := (dC, dI)) (ci := 4) (v := .int (iI a)) (C := RX3) (T := TX3) (N := 19) hx hb hts miX3_solve_X3 hown hK hP 0 rfl rfl 18 (by decide) (hts (.fieldLink RX3 95 "SectionFibresModel" "foundK" "I") mbX3_solve_1) (fun _ h9 => h9) rfl dX3_solve_113 ?_
          refine lv_iconst (v := 1) hx hb dX3_solve_116 (by decide) ?_
          refine rd_l (va_runV (As := [.int (blF g n fr (iI a)), .int (iI a), .int 1]) (rest := []) ⟨hx, hb, hml, hown, hts⟩ (c_X3_sum l dC dI cA H Z g n th hs pe pk fo mo (blF g n fr (iI a)) (iI a) hP hg hn (blF g n fr (iI a)) (iI a) (bl_rng c6) (rgI (by omega) (by omega)) true 1 (by decide)) (cwV 3 hts gX3_solve_X3_sum rfl rfl rfl (by decide +kernel) ⟨Nat.le_of_ble_eq_true rfl, Nat.le_of_ble_eq_true rfl⟩) ⟨rd_bl, va_recv hK hP (ci := 4) (q0 := 0) rfl rfl, rd_pre hK hN⟩ rfl rfl hl.1 rfl (lv_room (Nat.le_of_ble_eq_true rfl)) dX3_solve_117 ⟨Nat.zero_le _, Nat.zero_le _⟩) hS (fun r3 locs hq4 hS => ?_)
          have hq4 : r3 = smF g true (blF g n fr (iI a)) (iI a) n := hq4
          subst hq4
          refine lv_lload_n hx hb dX3_solve_120 rfl (lv_at hl 2 rfl) ?_
          refine W.lcmp hx hb dX3_solve_121 ?_
          refine lv_if_ge (tgt := 129) hx hb dX3_solve_122 (by decide) (fun c7 => ?_) (fun c7 => ?_)
          · have c7 := (lg_cmp_ge _ _).mp c7
            refine lv_iconst (v := 0) hx hb dX3_solve_129 (by decide) ?_
            exact W.iret (v := 0) hx hb hr (fun t9 ht9 hW9 => ⟨⟨_, ((g, n, hs, pe, pk, fo, mo), th, blF g n fr (iI a), iI a), rfl, (⟨by rw [hv]; unfold soE; rw [if_neg c6, if_neg (le_nlt64 c7)], rfl, rfl, fun _ => by rw [hv]; unfold soE; rw [if_neg c6, if_neg (le_nlt64 c7)]; exact ⟨rfl, rfl⟩⟩), by dsimp only; rw [ht9]; exact hP⟩, hS.F ht9⟩) hS.2.2 dX3_solve_130
          · have c7 := mt (lg_cmp_ge _ _).mpr c7
            refine lv_iconst (v := 2) hx hb dX3_solve_125 (by decide) ?_
            refine lv_goto (tgt := 130) hx hb dX3_solve_126 (by decide) ?_
            exact W.iret (v := 2) hx hb hr (fun t9 ht9 hW9 => ⟨⟨_, ((g, n, hs, pe, pk, fo, mo), th, blF g n fr (iI a), iI a), rfl, (⟨by rw [hv]; unfold soE; rw [if_neg c6, if_pos (nle_lt64 c7)], rfl, rfl, fun h9 => absurd h9 (by decide)⟩), by dsimp only; rw [ht9]; exact hP⟩, hS.F ht9⟩) hS.2.2 dX3_solve_130
        · refine lv_iconst (v := 1) hx hb dX3_solve_103 (by decide) ?_
          refine lv_goto (tgt := 130) hx hb dX3_solve_104 (by decide) ?_
          exact W.iret (v := 1) hx hb hr (fun t9 ht9 hW9 => ⟨⟨_, ((g, n, hs, pe, pk, fo, mo), th, blF g n fr (iI a), iI a), rfl, (⟨by rw [hv]; unfold soE; rw [if_pos c6], rfl, rfl, fun h9 => absurd h9 (by decide)⟩), by dsimp only; rw [ht9]; exact hP⟩, hS.F ht9⟩) hS.2.2 dX3_solve_130
      · have hab : a < b := by rcases Int.lt_or_le a b with h9 | h9; exact h9; exact absurd ((iI_le (by omega) (by omega) (by omega) (by omega)).mpr h9) c3
        have hu : 0 < u := by
          rcases Nat.eq_zero_or_pos u with h9 | h9
          · rw [h9] at h3; have h8 : (2 : Int) ^ 0 = 1 := rfl; omega
          · exact h9
        obtain ⟨v, rfl⟩ : ∃ v, u = v + 1 := ⟨u - 1, by omega⟩
        rw [Int.pow_succ] at h3
        refine lv_iload hx hb dX3_solve_17 (lv_at hl 3 rfl) ?_
        refine lv_iload hx hb dX3_solve_19 (lv_at hl 4 rfl) ?_
        refine lv_iload hx hb dX3_solve_21 (lv_at hl 3 rfl) ?_
        refine lv_isub hx hb dX3_solve_23 ?_
        refine lv_iconst (v := 2) hx hb dX3_solve_24 (by decide) ?_
        refine lv_idiv hx hb dX3_solve_25 (by decide) ?_
        refine lv_iadd hx hb dX3_solve_26 ?_
        refine tp_i (v := iI ((a + b) / 2)) (midR a1 a2 b1 b2 hab) ?_
        refine lv_istore (lv' := [(7, .int (iI ((a + b) / 2))), (0, .ref (Z 0)), (1, .long fr), (3, .long mv), (5, .int (iI a)), (6, .int (iI b))]) hx hb dX3_solve_27 hl (by decide) rfl (fun ls hl => ?_)
        refine lv_aload_n hx hb dX3_solve_29 rfl (lv_at hl 1 rfl) ?_
        refine lv_lload_n hx hb dX3_solve_30 rfl (lv_at hl 2 rfl) ?_
        refine lv_iload hx hb dX3_solve_31 (lv_at hl 0 rfl) ?_
        refine rd_i (va_runV (As := [.long fr, .int (iI ((a + b) / 2))]) (rest := []) ⟨hx, hb, hml, hown, hts⟩ (c_X3_balanceOf l dC dI cA s.heap Z g n th hs pe pk fo mo fE fK hP hg hn fr (iI ((a + b) / 2)) (rgI (by omega) (by omega))) (cwV 2 hts gX3_solve_X3_balanceOf rfl rfl rfl (by decide +kernel) ⟨Nat.le_of_ble_eq_true rfl, Nat.le_of_ble_eq_true rfl⟩) ⟨rd_bl, va_recv hK hP (ci := 4) (q0 := 0) rfl rfl, rd_pre hK hN⟩ rfl rfl hl.1 rfl (lv_room (Nat.le_of_ble_eq_true rfl)) dX3_solve_33 ⟨Nat.zero_le _, Nat.zero_le _⟩) hS (fun r5 locs hq6 hS => ?_)
        have hq6 : r5 = blF g n fr (iI ((a + b) / 2)) := hq6
        subst hq6
        refine lv_istore (lv' := [(8, .int (blF g n fr (iI ((a + b) / 2)))), (7, .int (iI ((a + b) / 2))), (0, .ref (Z 0)), (1, .long fr), (3, .long mv), (5, .int (iI a)), (6, .int (iI b))]) hx hb dX3_solve_36 hl (by decide) rfl (fun ls hl => ?_)
        refine lv_iload hx hb dX3_solve_38 (lv_at hl 0 rfl) ?_
        refine lv_ldc hx hb hown (hts (.constant RX3 64 (-1000000)) mbX3_solve_3) dX3_solve_40 ?_
        refine lv_icmp_ne (tgt := 47) hx hb dX3_solve_42 (by decide) (fun c4 => ?_) (fun c4 => ?_)
        · refine lv_aload_n hx hb dX3_solve_47 rfl (lv_at hl 2 rfl) ?_
          refine lv_iload hx hb dX3_solve_48 (lv_at hl 0 rfl) ?_
          refine lv_iload hx hb dX3_solve_50 (lv_at hl 1 rfl) ?_
          refine lv_iconst (v := 1) hx hb dX3_solve_52 (by decide) ?_
          refine rd_l (va_runV (As := [.int (blF g n fr (iI ((a + b) / 2))), .int (iI ((a + b) / 2)), .int 1]) (rest := []) ⟨hx, hb, hml, hown, hts⟩ (c_X3_sum l dC dI cA s.heap Z g n th hs pe pk fo mo fE fK hP hg hn (blF g n fr (iI ((a + b) / 2))) (iI ((a + b) / 2)) (bl_rng c4) (rgI (by omega) (by omega)) true 1 (by decide)) (cwV 3 hts gX3_solve_X3_sum rfl rfl rfl (by decide +kernel) ⟨Nat.le_of_ble_eq_true rfl, Nat.le_of_ble_eq_true rfl⟩) ⟨rd_bl, va_recv hK hP (ci := 4) (q0 := 0) rfl rfl, rd_pre hK hN⟩ rfl rfl hl.1 rfl (lv_room (Nat.le_of_ble_eq_true rfl)) dX3_solve_53 ⟨Nat.zero_le _, Nat.zero_le _⟩) hS (fun r7 locs hq8 hS => ?_)
          have hq8 : r7 = smF g true (blF g n fr (iI ((a + b) / 2))) (iI ((a + b) / 2)) n := hq8
          subst hq8
          refine lv_lload_n hx hb dX3_solve_56 rfl (lv_at hl 4 rfl) ?_
          refine W.lcmp hx hb dX3_solve_57 ?_
          refine lv_if_lt (tgt := 68) hx hb dX3_solve_58 (by decide) (fun c5 => ?_) (fun c5 => ?_)
          · have c5 := (lg_cmp_lt _ _).mp c5
            refine lv_iload hx hb dX3_solve_68 (lv_at hl 1 rfl) ?_
            refine lv_iconst (v := 1) hx hb dX3_solve_70 (by decide) ?_
            refine lv_iadd hx hb dX3_solve_71 ?_
            refine tp_i (v := iI ((a + b) / 2 + 1)) (by rw [← iI_ad]; rfl) ?_
            refine lv_istore (lv' := [(5, .int (iI ((a + b) / 2 + 1))), (8, .int (blF g n fr (iI ((a + b) / 2)))), (7, .int (iI ((a + b) / 2))), (0, .ref (Z 0)), (1, .long fr), (3, .long mv), (6, .int (iI b))]) hx hb dX3_solve_72 hl (by decide) rfl (fun ls hl => ?_)
            refine lv_goto (tgt := 10) hx hb dX3_solve_74 (by decide) ?_
            exact ih ((a + b) / 2 + 1) b v _ _ (by omega) (by omega) b1 b2 (by omega) (by omega) (by omega) (by rw [hv, so_f hab c4 (lt_nle64 c5)]) hS (lv_sub hl [3, 4, 5, 0, 6] rfl)
          · have c5 := mt (lg_cmp_lt _ _).mpr c5
            refine lv_iload hx hb dX3_solve_61 (lv_at hl 1 rfl) ?_
            refine lv_istore (lv' := [(6, .int (iI ((a + b) / 2))), (8, .int (blF g n fr (iI ((a + b) / 2)))), (7, .int (iI ((a + b) / 2))), (0, .ref (Z 0)), (1, .long fr), (3, .long mv), (5, .int (iI a))]) hx hb dX3_solve_63 hl (by decide) rfl (fun ls hl => ?_)
            refine lv_goto (tgt := 74) hx hb dX3_solve_65 (by decide) ?_
            refine lv_goto (tgt := 10) hx hb dX3_solve_74 (by decide) ?_
            exact ih a ((a + b) / 2) v _ _ a1 a2 (by omega) (by omega) (by omega) (by omega) (by omega) (by rw [hv, so_t hab c4 (nlt_le64 c5)]) hS (lv_sub hl [3, 4, 5, 6, 0] rfl)
        · refine lv_iconst (v := 1) hx hb dX3_solve_45 (by decide) ?_
          exact W.iret (v := 1) hx hb hr (fun t9 ht9 hW9 => ⟨⟨_, ((g, n, hs, pe, pk, fo, mo), th, fE, fK), rfl, (⟨by rw [hv, so_0 hab c4], rfl, rfl, fun h9 => absurd h9 (by decide)⟩), by dsimp only; rw [ht9]; exact hP⟩, hS.F ht9⟩) hS.2.2 dX3_solve_46
  exact lp 40001 (-20000) 20000 32 _ _ (by omega) (by omega) (by omega) (by omega) (by omega) (by omega) (by decide) rfl hS (lv_sub hl [2, 3, 4, 1, 0] rfl)

set_option maxRecDepth 20000 in
theorem miX3_run_X3 : ∀ w ∈ u_ws RX3 TX3 19, w ∈ wsX3_run := by decide +kernel
set_option maxRecDepth 20000 in
theorem mbX3_run_1 : (.fieldLink RX3 40 "SectionFibresModel" "thrown" "I" : Cond) ∈ wsX3_run := by decide +kernel
set_option maxRecDepth 20000 in
theorem mbX3_run_2 : (.fieldLink RX3 60 "SectionFibresModel" "has" "Z" : Cond) ∈ wsX3_run := by decide +kernel
set_option maxRecDepth 20000 in
theorem mbX3_run_3 : (.fieldLink RX3 98 "SectionFibresModel" "foundE" "I" : Cond) ∈ wsX3_run := by decide +kernel
set_option maxRecDepth 20000 in
theorem mbX3_run_4 : (.fieldLink RX3 105 "SectionFibresModel" "e" "I" : Cond) ∈ wsX3_run := by decide +kernel
set_option maxRecDepth 20000 in
theorem mbX3_run_5 : (.fieldLink RX3 95 "SectionFibresModel" "foundK" "I" : Cond) ∈ wsX3_run := by decide +kernel
set_option maxRecDepth 20000 in
theorem mbX3_run_6 : (.fieldLink RX3 108 "SectionFibresModel" "k" "I" : Cond) ∈ wsX3_run := by decide +kernel
set_option maxRecDepth 20000 in
theorem mbX3_run_7 : (.fieldLink RX3 111 "SectionFibresModel" "wantedForce" "J" : Cond) ∈ wsX3_run := by decide +kernel
set_option maxRecDepth 20000 in
theorem mbX3_run_8 : (.fieldLink RX3 115 "SectionFibresModel" "wantedMoment" "J" : Cond) ∈ wsX3_run := by decide +kernel
set_option maxHeartbeats 4000000 in
set_option maxRecDepth 100000 in
theorem c_X3_run (l : Launch) (dC : Nat → ClassId) (dI : Nat → Nat → Nat) (cA : ClassId) (H : Heap) (Z : Nat → Nat) (g : Gg) (n : Nat) (th hs pe pk : Int32) (fo mo : Int64) (fE fK : Int32) (hP : va_P (dC, dI) vwCl (wR cA Z g n th hs pe pk fo mo fE fK) H) (hD : va_D (fun _ => True) (wR cA Z g n th hs pe pk fo mo fE fK)) (hg : InvG g) (hn : n ≤ 41) (fr mv : Int64) : Met l yX3_run wsX3_run ({ frames := 5, cells := 0, slots := 0, locals := 130 }) (rd_P [.ref (Z 0), .long fr, .long mv] H (dC, dI) vwCl [(cA, .int)]) (va_Qi (fun (r : Int32) (u : Su) => (r, u.1) = runF (g, n, hs, pe, pk, fo, mo) fr mv ∧ u.2.1 = 0) (fun u t => bR dC dI cA Z u t.heap) (va_A (wR cA Z g n th hs pe pk fo mo fE fK) H.size)) 0 0 (va_A (wR cA Z g n th hs pe pk fo mo fE fK) H.size) := by
  refine Met.ofW (cc := cX3_run) (maxL := 6) (ret := (some .int)) (by decide) rfl ?_
  intro p e s m args below meth c s₁ B hml hv
  obtain ⟨rfl, hH, hK, hN⟩ := hv
  subst hH
  have hx := B.exec
  have hb := B.bytes
  have hr := B.returns
  have hts := atoms_spec (ws := wsX3_run) B.pre
  have hown : s.vm.findClass RX3 = some m.cls := findClass_of_methodNamed B.named
  have hlocks := B.notSynchronized
  have hD := hD.self (sz := s.heap.size)
  generalize hAe : va_A (wR cA Z g n th hs pe pk fo mo fE fK) s.heap.size = Av at hD ⊢
  have hA : ∀ q : Nat, s.heap.size ≤ q → Av q := fun q h => by rw [← hAe]; exact Or.inr h
  have hS : va_S Av s.heap s.heap [] := va_S.rf
  have hl := lv_entry ([.ref (Z 0), .long fr, .long mv]) (n := 6) (Nat.le_of_ble_eq_true rfl)
  rw [lg_entry_eq]
  generalize (lg_sl ([.ref (Z 0), .long fr, .long mv]) ++ List.replicate (6 - (lg_sl ([.ref (Z 0), .long fr, .long mv])).length) Slot.unset).toArray = ls at hl ⊢
  have hl : lv_has ls 6 [(0, .ref (Z 0)), (1, .long fr), (3, .long mv)] := hl
  refine lv_aload_n hx hb dX3_run_0 rfl (lv_at hl 0 rfl) ?_
  refine lv_iconst (v := 0) hx hb dX3_run_1 (by decide) ?_
  refine va_put (D := (dC, dI)) (ci := 4) (v := .int 0) (ty := .int) (C := RX3) (T := TX3) (N := 19) hx hb hts miX3_run_X3 tyX3 tyX3_ok nmX3 hown hK hP hD hS 0 rfl rfl 0 (by decide) (hts (.fieldLink RX3 40 "SectionFibresModel" "thrown" "I") mbX3_run_1) (fun _ h9 => h9) rfl (by decide +kernel) rfl rfl (Nat.le_of_ble_eq_true rfl) dX3_run_2 (fun H locs hP hD hS => ?_)
  have hP : va_P (dC, dI) vwCl (wR cA Z g n 0 hs pe pk fo mo fE fK) H := hP
  have hD : va_D Av (wR cA Z g n 0 hs pe pk fo mo fE fK) := hD
  refine lv_aload_n hx hb dX3_run_5 rfl (lv_at hl 0 rfl) ?_
  refine lv_lload_n hx hb dX3_run_6 rfl (lv_at hl 1 rfl) ?_
  refine lv_lload_n hx hb dX3_run_7 rfl (lv_at hl 2 rfl) ?_
  have hFc := va_free (wc := (wR cA Z g n 0 hs pe pk fo mo fE fK)) hD hS hA [0, 1, 2, 3, 4, 5, 6, 7, 8, 9, 10] rfl
  refine mu_i (va_runV (As := [.long fr, .long mv]) (rest := []) ⟨hx, hb, hml, hown, hts⟩ (c_X3_solve l dC dI cA H Z g n 0 hs pe pk fo mo fE fK hP (hD.weaken (fun _ _ _ _ => trivial)) hg hn fr mv) (cwV 2 hts gX3_run_X3_solve rfl rfl rfl (by decide +kernel) ⟨Nat.le_of_ble_eq_true rfl, Nat.le_of_ble_eq_true rfl⟩) ⟨rd_bl, va_recv hK hP (ci := 4) (q0 := 0) rfl rfl, rd_pre hK hN⟩ rfl rfl hl.1 rfl (lv_room (Nat.le_of_ble_eq_true rfl)) dX3_run_8 ⟨Nat.zero_le _, Nat.zero_le _⟩) hS hFc (fun r1 u H locs hq hB hk hz hS => ?_)
  obtain ⟨u1, th1, fE2, fK2⟩ := u
  obtain ⟨hq1, hq2, hq3, hq4⟩ := hq
  dsimp only at hq2 hq3 hq4 hB
  subst hq2
  subst hq3
  subst hq1
  have hP : va_P (dC, dI) vwCl (wR cA Z g n 0 hs pe pk fo mo fE2 fK2) H := hB
  have hD : va_D Av (wR cA Z g n 0 hs pe pk fo mo fE2 fK2) := va_Dsame (by rfl) hD
  refine lv_istore (lv' := [(5, .int ((slF g n fr mv).1)), (0, .ref (Z 0)), (1, .long fr), (3, .long mv)]) hx hb dX3_run_11 hl (by decide) rfl (fun ls hl => ?_)
  refine lv_iload hx hb dX3_run_13 (lv_at hl 0 rfl) ?_
  refine lv_if_ne (tgt := 49) hx hb dX3_run_15 (by decide) (fun c1 => ?_) (fun c1 => ?_)
  · refine lv_iload hx hb dX3_run_49 (lv_at hl 0 rfl) ?_
    exact W.iret (v := ((slF g n fr mv).1)) hx hb hr (fun t9 ht9 hW9 => ⟨⟨_, ((g, n, hs, pe, pk, fo, mo), 0, fE2, fK2), rfl, (⟨(run_f c1).symm, rfl⟩), by dsimp only; rw [ht9]; exact hP⟩, hS.F ht9⟩) hS.2.2 dX3_run_51
  · refine lv_aload_n hx hb dX3_run_18 rfl (lv_at hl 1 rfl) ?_
    refine lv_iconst (v := 1) hx hb dX3_run_19 (by decide) ?_
    refine va_put (D := (dC, dI)) (ci := 4) (v := .int 1) (ty := .boolean) (C := RX3) (T := TX3) (N := 19) hx hb hts miX3_run_X3 tyX3 tyX3_ok nmX3 hown hK hP hD hS 0 rfl rfl 12 (by decide) (hts (.fieldLink RX3 60 "SectionFibresModel" "has" "Z") mbX3_run_2) (fun _ h9 => h9) rfl (by decide +kernel) rfl rfl (Nat.le_of_ble_eq_true rfl) dX3_run_20 (fun H locs hP hD hS => ?_)
    have hP : va_P (dC, dI) vwCl (wR cA Z g n 0 1 pe pk fo mo fE2 fK2) H := hP
    have hD : va_D Av (wR cA Z g n 0 1 pe pk fo mo fE2 fK2) := hD
    refine lv_aload_n hx hb dX3_run_23 rfl (lv_at hl 1 rfl) ?_
    refine lv_aload_n hx hb dX3_run_24 rfl (lv_at hl 1 rfl) ?_
    refine va_get (D := (dC, dI)) (ci := 4) (v := .int fE2) (C := RX3) (T := TX3) (N := 19) hx hb hts miX3_run_X3 hown hK hP 0 rfl rfl 17 (by decide) (hts (.fieldLink RX3 98 "SectionFibresModel" "foundE" "I") mbX3_run_3) (fun _ h9 => h9) rfl dX3_run_25 ?_
    refine va_put (D := (dC, dI)) (ci := 4) (v := .int fE2) (ty := .int) (C := RX3) (T := TX3) (N := 19) hx hb hts miX3_run_X3 tyX3 tyX3_ok nmX3 hown hK hP hD hS 0 rfl rfl 13 (by decide) (hts (.fieldLink RX3 105 "SectionFibresModel" "e" "I") mbX3_run_4) (fun _ h9 => h9) rfl (by decide +kernel) rfl rfl (Nat.le_of_ble_eq_true rfl) dX3_run_28 (fun H locs hP hD hS => ?_)
    have hP : va_P (dC, dI) vwCl (wR cA Z g n 0 1 fE2 pk fo mo fE2 fK2) H := hP
    have hD : va_D Av (wR cA Z g n 0 1 fE2 pk fo mo fE2 fK2) := hD
    refine lv_aload_n hx hb dX3_run_31 rfl (lv_at hl 1 rfl) ?_
    refine lv_aload_n hx hb dX3_run_32 rfl (lv_at hl 1 rfl) ?_
    refine va_get (D := (dC, dI)) (ci := 4) (v := .int fK2) (C := RX3) (T := TX3) (N := 19) hx hb hts miX3_run_X3 hown hK hP 0 rfl rfl 18 (by decide) (hts (.fieldLink RX3 95 "SectionFibresModel" "foundK" "I") mbX3_run_5) (fun _ h9 => h9) rfl dX3_run_33 ?_
    refine va_put (D := (dC, dI)) (ci := 4) (v := .int fK2) (ty := .int) (C := RX3) (T := TX3) (N := 19) hx hb hts miX3_run_X3 tyX3 tyX3_ok nmX3 hown hK hP hD hS 0 rfl rfl 14 (by decide) (hts (.fieldLink RX3 108 "SectionFibresModel" "k" "I") mbX3_run_6) (fun _ h9 => h9) rfl (by decide +kernel) rfl rfl (Nat.le_of_ble_eq_true rfl) dX3_run_36 (fun H locs hP hD hS => ?_)
    have hP : va_P (dC, dI) vwCl (wR cA Z g n 0 1 fE2 fK2 fo mo fE2 fK2) H := hP
    have hD : va_D Av (wR cA Z g n 0 1 fE2 fK2 fo mo fE2 fK2) := hD
    refine lv_aload_n hx hb dX3_run_39 rfl (lv_at hl 1 rfl) ?_
    refine lv_lload_n hx hb dX3_run_40 rfl (lv_at hl 2 rfl) ?_
    refine va_put (D := (dC, dI)) (ci := 4) (v := .long fr) (ty := .long) (C := RX3) (T := TX3) (N := 19) hx hb hts miX3_run_X3 tyX3 tyX3_ok nmX3 hown hK hP hD hS 0 rfl rfl 15 (by decide) (hts (.fieldLink RX3 111 "SectionFibresModel" "wantedForce" "J") mbX3_run_7) (fun _ h9 => h9) rfl (by decide +kernel) rfl rfl (Nat.le_of_ble_eq_true rfl) dX3_run_41 (fun H locs hP hD hS => ?_)
    have hP : va_P (dC, dI) vwCl (wR cA Z g n 0 1 fE2 fK2 fr mo fE2 fK2) H := hP
    have hD : va_D Av (wR cA Z g n 0 1 fE2 fK2 fr mo fE2 fK2) := hD
    refine lv_aload_n hx hb dX3_run_44 rfl (lv_at hl 1 rfl) ?_
    refine lv_lload_n hx hb dX3_run_45 rfl (lv_at hl 3 rfl) ?_
    refine va_put (D := (dC, dI)) (ci := 4) (v := .long mv) (ty := .long) (C := RX3) (T := TX3) (N := 19) hx hb hts miX3_run_X3 tyX3 tyX3_ok nmX3 hown hK hP hD hS 0 rfl rfl 16 (by decide) (hts (.fieldLink RX3 115 "SectionFibresModel" "wantedMoment" "J") mbX3_run_8) (fun _ h9 => h9) rfl (by decide +kernel) rfl rfl (Nat.le_of_ble_eq_true rfl) dX3_run_46 (fun H locs hP hD hS => ?_)
    have hP : va_P (dC, dI) vwCl (wR cA Z g n 0 1 fE2 fK2 fr mv fE2 fK2) H := hP
    have hD : va_D Av (wR cA Z g n 0 1 fE2 fK2 fr mv fE2 fK2) := hD
    refine lv_iload hx hb dX3_run_49 (lv_at hl 0 rfl) ?_
    exact W.iret (v := ((slF g n fr mv).1)) hx hb hr (fun t9 ht9 hW9 => ⟨⟨_, ((g, n, 1, fE2, fK2, fr, mv), 0, fE2, fK2), rfl, (⟨by rw [run_t c1, c1, (hq4 c1).1, (hq4 c1).2], rfl⟩), by dsimp only; rw [ht9]; exact hP⟩, hS.F ht9⟩) hS.2.2 dX3_run_51

set_option maxRecDepth 20000 in
theorem miX3_needed_X3 : ∀ w ∈ u_ws RX3 TX3 19, w ∈ wsX3_needed := by decide +kernel
set_option maxRecDepth 20000 in
theorem mbX3_needed_1 : (.fieldLink RX3 40 "SectionFibresModel" "thrown" "I" : Cond) ∈ wsX3_needed := by decide +kernel
set_option maxRecDepth 20000 in
theorem mbX3_needed_2 : (.fieldLink RX3 44 "SectionFibresModel" "fibres" "I" : Cond) ∈ wsX3_needed := by decide +kernel
set_option maxHeartbeats 4000000 in
set_option maxRecDepth 100000 in
theorem c_X3_needed (l : Launch) (dC : Nat → ClassId) (dI : Nat → Nat → Nat) (cA : ClassId) (H : Heap) (Z : Nat → Nat) (g : Gg) (n : Nat) (th hs pe pk : Int32) (fo mo : Int64) (fE fK : Int32) (hP : va_P (dC, dI) vwCl (wR cA Z g n th hs pe pk fo mo fE fK) H) (hD : va_D (fun _ => True) (wR cA Z g n th hs pe pk fo mo fE fK)) (hg : InvG g) (hn : n ≤ 40) (a b d : Int32) (fr mv : Int64) : Met l yX3_needed wsX3_needed ({ frames := 5, cells := 0, slots := 0, locals := 130 }) (rd_P [.ref (Z 0), .int a, .int b, .int d, .long fr, .long mv] H (dC, dI) vwCl [(cA, .int)]) (va_Qi (fun (r : Int32) (u : Su) => (r, u.1) = nedF (g, n, hs, pe, pk, fo, mo) a b d fr mv ∧ u.2.1 = 0) (fun u t => bR dC dI cA Z u t.heap) (va_A (wR cA Z g n th hs pe pk fo mo fE fK) H.size)) 0 0 (va_A (wR cA Z g n th hs pe pk fo mo fE fK) H.size) := by
  refine Met.ofW (cc := cX3_needed) (maxL := 10) (ret := (some .int)) (by decide) rfl ?_
  intro p e s m args below meth c s₁ B hml hv
  obtain ⟨rfl, hH, hK, hN⟩ := hv
  subst hH
  have hx := B.exec
  have hb := B.bytes
  have hr := B.returns
  have hts := atoms_spec (ws := wsX3_needed) B.pre
  have hown : s.vm.findClass RX3 = some m.cls := findClass_of_methodNamed B.named
  have hlocks := B.notSynchronized
  have hD := hD.self (sz := s.heap.size)
  generalize hAe : va_A (wR cA Z g n th hs pe pk fo mo fE fK) s.heap.size = Av at hD ⊢
  have hA : ∀ q : Nat, s.heap.size ≤ q → Av q := fun q h => by rw [← hAe]; exact Or.inr h
  have hS : va_S Av s.heap s.heap [] := va_S.rf
  have hl := lv_entry ([.ref (Z 0), .int a, .int b, .int d, .long fr, .long mv]) (n := 10) (Nat.le_of_ble_eq_true rfl)
  rw [lg_entry_eq]
  generalize (lg_sl ([.ref (Z 0), .int a, .int b, .int d, .long fr, .long mv]) ++ List.replicate (10 - (lg_sl ([.ref (Z 0), .int a, .int b, .int d, .long fr, .long mv])).length) Slot.unset).toArray = ls at hl ⊢
  have hl : lv_has ls 10 [(0, .ref (Z 0)), (1, .int a), (2, .int b), (3, .int d), (4, .long fr), (6, .long mv)] := hl
  refine lv_aload_n hx hb dX3_needed_0 rfl (lv_at hl 0 rfl) ?_
  refine lv_iconst (v := 0) hx hb dX3_needed_1 (by decide) ?_
  refine va_put (D := (dC, dI)) (ci := 4) (v := .int 0) (ty := .int) (C := RX3) (T := TX3) (N := 19) hx hb hts miX3_needed_X3 tyX3 tyX3_ok nmX3 hown hK hP hD hS 0 rfl rfl 0 (by decide) (hts (.fieldLink RX3 40 "SectionFibresModel" "thrown" "I") mbX3_needed_1) (fun _ h9 => h9) rfl (by decide +kernel) rfl rfl (Nat.le_of_ble_eq_true rfl) dX3_needed_2 (fun H locs hP hD hS => ?_)
  have hP : va_P (dC, dI) vwCl (wR cA Z g n 0 hs pe pk fo mo fE fK) H := hP
  have hD : va_D Av (wR cA Z g n 0 hs pe pk fo mo fE fK) := hD
  refine lv_iload_n hx hb dX3_needed_5 rfl (lv_at hl 1 rfl) ?_
  refine lv_sipush (v := (-2000)) hx hb dX3_needed_6 (by decide) ?_
  refine lv_sipush (v := 2000) hx hb dX3_needed_9 (by decide) ?_
  refine rd_i (va_runS (As := [.int a, .int (-2000), .int 2000]) (rest := []) ⟨hx, hb, hml, hown, hts⟩ (c_X3_within l dC dI cA H a (-2000) 2000 (-2000) 2000 (by decide) (by decide)) (va_cwS 3 hts gX3_needed_X3_within rfl rfl rfl (by decide +kernel) ⟨Nat.le_of_ble_eq_true rfl, Nat.le_of_ble_eq_true rfl⟩) ⟨rd_bl, rd_pre hK hN⟩ rfl rfl hl.1 rfl (lv_room (Nat.le_of_ble_eq_true rfl)) dX3_needed_12 ⟨Nat.zero_le _, Nat.zero_le _⟩) hS (fun r1 locs hq2 hS => ?_)
  rcases hq2 with ⟨hq2, rfl⟩ | ⟨hq2, rfl⟩
  · have q1 : rg a (-2000) 2000 := hq2
    refine lv_if_eq (tgt := 36) hx hb dX3_needed_15 (by decide) (fun h9 => absurd h9 (by decide)) (fun _ => ?_)
    refine lv_iload_n hx hb dX3_needed_18 rfl (lv_at hl 2 rfl) ?_
    refine rd_i (va_runS (As := [.int b]) (rest := []) ⟨hx, hb, hml, hown, hts⟩ (c_X3_isKind l dC dI cA H b) (va_cwS 1 hts gX3_needed_X3_isKind rfl rfl rfl (by decide +kernel) ⟨Nat.le_of_ble_eq_true rfl, Nat.le_of_ble_eq_true rfl⟩) ⟨rd_bl, rd_pre hK hN⟩ rfl rfl hl.1 rfl (lv_room (Nat.le_of_ble_eq_true rfl)) dX3_needed_19 ⟨Nat.zero_le _, Nat.zero_le _⟩) hS (fun r3 locs hq4 hS => ?_)
    rcases hq4 with ⟨hq4, rfl⟩ | ⟨hq4, rfl⟩
    · have q2 : rg b 0 3 := hq4
      refine lv_if_eq (tgt := 36) hx hb dX3_needed_22 (by decide) (fun h9 => absurd h9 (by decide)) (fun _ => ?_)
      refine lv_iload_n hx hb dX3_needed_25 rfl (lv_at hl 3 rfl) ?_
      refine lv_iconst (v := 1) hx hb dX3_needed_26 (by decide) ?_
      refine lv_sipush (v := 5000) hx hb dX3_needed_27 (by decide) ?_
      refine rd_i (va_runS (As := [.int d, .int 1, .int 5000]) (rest := []) ⟨hx, hb, hml, hown, hts⟩ (c_X3_within l dC dI cA H d 1 5000 1 5000 (by decide) (by decide)) (va_cwS 3 hts gX3_needed_X3_within rfl rfl rfl (by decide +kernel) ⟨Nat.le_of_ble_eq_true rfl, Nat.le_of_ble_eq_true rfl⟩) ⟨rd_bl, rd_pre hK hN⟩ rfl rfl hl.1 rfl (lv_room (Nat.le_of_ble_eq_true rfl)) dX3_needed_30 ⟨Nat.zero_le _, Nat.zero_le _⟩) hS (fun r5 locs hq6 hS => ?_)
      rcases hq6 with ⟨hq6, rfl⟩ | ⟨hq6, rfl⟩
      · have q3 : rg d 1 5000 := hq6
        refine lv_if_ne (tgt := 38) hx hb dX3_needed_33 (by decide) (fun _ => ?_) (fun h9 => absurd h9 (by decide))
        refine lv_iconst (v := (-1)) hx hb dX3_needed_38 (by decide) ?_
        refine lv_istore (lv' := [(8, .int (-1)), (0, .ref (Z 0)), (1, .int a), (2, .int b), (3, .int d), (4, .long fr), (6, .long mv)]) hx hb dX3_needed_39 hl (by decide) rfl (fun ls hl => ?_)
        refine lv_aload_n hx hb dX3_needed_41 rfl (lv_at hl 1 rfl) ?_
        refine lv_dup hx hb dX3_needed_42 rfl ?_
        refine va_get (D := (dC, dI)) (ci := 4) (v := .int (nI n)) (C := RX3) (T := TX3) (N := 19) hx hb hts miX3_needed_X3 hown hK hP 0 rfl rfl 1 (by decide) (hts (.fieldLink RX3 44 "SectionFibresModel" "fibres" "I") mbX3_needed_2) (fun _ h9 => h9) rfl dX3_needed_43 ?_
        refine lv_iconst (v := 1) hx hb dX3_needed_46 (by decide) ?_
        refine lv_iadd hx hb dX3_needed_47 ?_
        refine tp_i (v := nI (n + 1)) (nI_1 n) ?_
        refine va_put (D := (dC, dI)) (ci := 4) (v := .int (nI (n + 1))) (ty := .int) (C := RX3) (T := TX3) (N := 19) hx hb hts miX3_needed_X3 tyX3 tyX3_ok nmX3 hown hK hP hD hS 0 rfl rfl 1 (by decide) (hts (.fieldLink RX3 44 "SectionFibresModel" "fibres" "I") mbX3_needed_2) (fun _ h9 => h9) rfl (by decide +kernel) rfl rfl (Nat.le_of_ble_eq_true rfl) dX3_needed_48 (fun H locs hP hD hS => ?_)
        have hP : va_P (dC, dI) vwCl (wR cA Z g (n + 1) 0 hs pe pk fo mo fE fK) H := hP
        have hD : va_D Av (wR cA Z g (n + 1) 0 hs pe pk fo mo fE fK) := hD
        refine lv_iconst (v := 0) hx hb dX3_needed_51 (by decide) ?_
        refine tp_i (v := nI 0) (rfl) ?_
        refine lv_istore (lv' := [(9, .int (nI 0)), (8, .int (-1)), (0, .ref (Z 0)), (1, .int a), (2, .int b), (3, .int d), (4, .long fr), (6, .long mv)]) hx hb dX3_needed_52 hl (by decide) rfl (fun ls hl => ?_)
        have lp : ∀ (z : Nat) (i : Nat) (lv : Int32) (ar : Int32) (gg : Gg) (fE : Int32) (fK : Int32) (H : Heap) (locs : List Loc) (ls : Array Slot), i ≤ 21 → 22 ≤ i + z → (lv = -1 ∧ neF g n a b d fr mv 21 0 0 = neF g n a b d fr mv (21 - i) i ar ∧ (i = 0 ∨ gg = layG g n ar a b)) ∨ (0 ≤ lv ∧ neF g n a b d fr mv 21 0 0 = (lv, ar) ∧ gg = layG g n ar a b) → (∀ x : Int32, layG gg n x a b = layG g n x a b) → va_P (dC, dI) vwCl (wR cA Z gg (n + 1) 0 hs pe pk fo mo fE fK) H → va_D Av (wR cA Z gg (n + 1) 0 hs pe pk fo mo fE fK) → va_S Av s.heap H locs → lv_has ls 10 [(0, .ref (Z 0)), (1, .int a), (2, .int b), (3, .int d), (4, .long fr), (6, .long mv), (8, .int lv), (9, .int (nI i))] → W p l e (headSpec wsX3_needed ({ frames := 5, cells := 0, slots := 0, locals := 130 })).room s m ([.ref (Z 0), .int a, .int b, .int d, .long fr, .long mv]).toArray below meth c H locs 0 0 (MQ below (va_Qi (fun (r : Int32) (u : Su) => (r, u.1) = nedF (g, n, hs, pe, pk, fo, mo) a b d fr mv ∧ u.2.1 = 0) (fun u t => bR dC dI cA Z u t.heap) Av) ([.ref (Z 0), .int a, .int b, .int d, .long fr, .long mv]).toArray s 0 0 Av) (F0 m 54 ls []) := by
          intro z
          induction z with
          | zero =>
            intro i lv ar gg fE fK H locs ls h1 h2 hv hgg hP hD hS hl
            exact absurd h2 (by omega)
          | succ z ih =>
            intro i lv ar gg fE fK H locs ls h1 h2 hv hgg hP hD hS hl
            refine lv_iload hx hb dX3_needed_54 (lv_at hl 7 rfl) ?_
            refine lv_bipush (v := 21) hx hb dX3_needed_56 (by decide) ?_
            refine tp_i (v := nI 21) (rfl) ?_
            refine lv_icmp_ge (tgt := 109) hx hb dX3_needed_58 (by decide) (fun c1 => ?_) (fun c1 => ?_)
            · have hi : i = 21 := by have h9 := (nI_leI (by omega) (by omega)).mp c1; omega
              have hv : neF g n a b d fr mv 21 0 0 = (lv, ar) ∧ gg = layG g n ar a b := by
                rcases hv with ⟨h7, h8, h9⟩ | ⟨-, h8, h9⟩
                · exact ⟨by rw [h8, hi, h7]; rfl, h9.resolve_left (by omega)⟩
                · exact ⟨h8, h9⟩
              refine lv_aload_n hx hb dX3_needed_109 rfl (lv_at hl 0 rfl) ?_
              refine lv_dup hx hb dX3_needed_110 rfl ?_
              refine va_get (D := (dC, dI)) (ci := 4) (v := .int (nI (n + 1))) (C := RX3) (T := TX3) (N := 19) hx hb hts miX3_needed_X3 hown hK hP 0 rfl rfl 1 (by decide) (hts (.fieldLink RX3 44 "SectionFibresModel" "fibres" "I") mbX3_needed_2) (fun _ h9 => h9) rfl dX3_needed_111 ?_
              refine lv_iconst (v := 1) hx hb dX3_needed_114 (by decide) ?_
              refine lv_isub hx hb dX3_needed_115 ?_
              refine tp_i (v := nI n) (nI_pred n) ?_
              refine va_put (D := (dC, dI)) (ci := 4) (v := .int (nI n)) (ty := .int) (C := RX3) (T := TX3) (N := 19) hx hb hts miX3_needed_X3 tyX3 tyX3_ok nmX3 hown hK hP hD hS 0 rfl rfl 1 (by decide) (hts (.fieldLink RX3 44 "SectionFibresModel" "fibres" "I") mbX3_needed_2) (fun _ h9 => h9) rfl (by decide +kernel) rfl rfl (Nat.le_of_ble_eq_true rfl) dX3_needed_116 (fun H locs hP hD hS => ?_)
              have hP : va_P (dC, dI) vwCl (wR cA Z gg n 0 hs pe pk fo mo fE fK) H := hP
              have hD : va_D Av (wR cA Z gg n 0 hs pe pk fo mo fE fK) := hD
              refine lv_iload hx hb dX3_needed_119 (lv_at hl 6 rfl) ?_
              exact W.iret (v := lv) hx hb hr (fun t9 ht9 hW9 => ⟨⟨_, ((gg, n, hs, pe, pk, fo, mo), 0, fE, fK), rfl, (⟨((ned_t ⟨q1, q2, q3⟩).trans (by rw [hv.1, hv.2])).symm, rfl⟩), by dsimp only; rw [ht9]; exact hP⟩, hS.F ht9⟩) hS.2.2 dX3_needed_121
            · have hi : i < 21 := by rcases Nat.lt_or_ge i 21 with h9 | h9; exact h9; exact absurd (nI_le h9 (by omega)) c1
              refine lv_iload hx hb dX3_needed_61 (lv_at hl 6 rfl) ?_
              refine lv_if_ge (tgt := 109) hx hb dX3_needed_63 (by decide) (fun c2 => ?_) (fun c2 => ?_)
              · have hv : neF g n a b d fr mv 21 0 0 = (lv, ar) ∧ gg = layG g n ar a b := (hv.resolve_left (fun h9 => by rw [h9.1] at c2; exact absurd c2 (by decide))).2
                refine lv_aload_n hx hb dX3_needed_109 rfl (lv_at hl 0 rfl) ?_
                refine lv_dup hx hb dX3_needed_110 rfl ?_
                refine va_get (D := (dC, dI)) (ci := 4) (v := .int (nI (n + 1))) (C := RX3) (T := TX3) (N := 19) hx hb hts miX3_needed_X3 hown hK hP 0 rfl rfl 1 (by decide) (hts (.fieldLink RX3 44 "SectionFibresModel" "fibres" "I") mbX3_needed_2) (fun _ h9 => h9) rfl dX3_needed_111 ?_
                refine lv_iconst (v := 1) hx hb dX3_needed_114 (by decide) ?_
                refine lv_isub hx hb dX3_needed_115 ?_
                refine tp_i (v := nI n) (nI_pred n) ?_
                refine va_put (D := (dC, dI)) (ci := 4) (v := .int (nI n)) (ty := .int) (C := RX3) (T := TX3) (N := 19) hx hb hts miX3_needed_X3 tyX3 tyX3_ok nmX3 hown hK hP hD hS 0 rfl rfl 1 (by decide) (hts (.fieldLink RX3 44 "SectionFibresModel" "fibres" "I") mbX3_needed_2) (fun _ h9 => h9) rfl (by decide +kernel) rfl rfl (Nat.le_of_ble_eq_true rfl) dX3_needed_116 (fun H locs hP hD hS => ?_)
                have hP : va_P (dC, dI) vwCl (wR cA Z gg n 0 hs pe pk fo mo fE fK) H := hP
                have hD : va_D Av (wR cA Z gg n 0 hs pe pk fo mo fE fK) := hD
                refine lv_iload hx hb dX3_needed_119 (lv_at hl 6 rfl) ?_
                exact W.iret (v := lv) hx hb hr (fun t9 ht9 hW9 => ⟨⟨_, ((gg, n, hs, pe, pk, fo, mo), 0, fE, fK), rfl, (⟨((ned_t ⟨q1, q2, q3⟩).trans (by rw [hv.1, hv.2])).symm, rfl⟩), by dsimp only; rw [ht9]; exact hP⟩, hS.F ht9⟩) hS.2.2 dX3_needed_121
              · have hv : neF g n a b d fr mv 21 0 0 = neF g n a b d fr mv (21 - i) i ar := (hv.resolve_right (fun h9 => c2 h9.1)).2.1
                refine lv_aload_n hx hb dX3_needed_66 rfl (lv_at hl 0 rfl) ?_
                refine lv_aload_n hx hb dX3_needed_67 rfl (lv_at hl 0 rfl) ?_
                refine va_get (D := (dC, dI)) (ci := 4) (v := .int (nI (n + 1))) (C := RX3) (T := TX3) (N := 19) hx hb hts miX3_needed_X3 hown hK hP 0 rfl rfl 1 (by decide) (hts (.fieldLink RX3 44 "SectionFibresModel" "fibres" "I") mbX3_needed_2) (fun _ h9 => h9) rfl dX3_needed_68 ?_
                refine lv_iconst (v := 1) hx hb dX3_needed_71 (by decide) ?_
                refine lv_isub hx hb dX3_needed_72 ?_
                refine tp_i (v := nI n) (nI_pred n) ?_
                refine lv_iload hx hb dX3_needed_73 (lv_at hl 7 rfl) ?_
                refine lv_iload_n hx hb dX3_needed_75 rfl (lv_at hl 3 rfl) ?_
                refine lv_imul hx hb dX3_needed_76 ?_
                refine lv_iload_n hx hb dX3_needed_77 rfl (lv_at hl 1 rfl) ?_
                refine lv_iload_n hx hb dX3_needed_78 rfl (lv_at hl 2 rfl) ?_
                have hFc := va_free (wc := (wR cA Z gg (n + 1) 0 hs pe pk fo mo fE fK)) hD hS hA [0, 1, 2, 3, 4, 5, 6, 7, 8, 9, 10] rfl
                refine mu_v (va_runV (As := [.int (nI n), .int ((nI i) * d), .int a, .int b]) (rest := []) ⟨hx, hb, hml, hown, hts⟩ (c_X3_lay l dC dI cA H Z gg (n + 1) 0 hs pe pk fo mo fE fK hP (hD.weaken (fun _ _ _ _ => trivial)) n (by omega) ((nI i) * d) a b) (cwV 4 hts gX3_needed_X3_lay rfl rfl rfl (by decide +kernel) ⟨Nat.le_of_ble_eq_true rfl, Nat.le_of_ble_eq_true rfl⟩) ⟨rd_bl, va_recv hK hP (ci := 4) (q0 := 0) rfl rfl, rd_pre hK hN⟩ rfl rfl hl.1 rfl (lv_room (Nat.le_of_ble_eq_true rfl)) dX3_needed_79 ⟨Nat.zero_le _, Nat.zero_le _⟩) hS hFc (fun u H locs hq hB hk hz hS => ?_)
                subst hq
                have hB : va_P (dC, dI) vwCl (wR cA Z (layG gg n (nI i * d) a b) (n + 1) 0 hs pe pk fo mo fE fK) H := hB
                rw [hgg] at hB
                have hP : va_P (dC, dI) vwCl (wR cA Z (layG g n (nI i * d) a b) (n + 1) 0 hs pe pk fo mo fE fK) H := hB
                have hD : va_D Av (wR cA Z (layG g n (nI i * d) a b) (n + 1) 0 hs pe pk fo mo fE fK) := va_Dsame (by rfl) hD
                refine lv_aload_n hx hb dX3_needed_82 rfl (lv_at hl 0 rfl) ?_
                refine lv_lload hx hb dX3_needed_83 (lv_at hl 4 rfl) ?_
                refine lv_lload hx hb dX3_needed_85 (lv_at hl 5 rfl) ?_
                have hFc := va_free (wc := (wR cA Z (layG g n (nI i * d) a b) (n + 1) 0 hs pe pk fo mo fE fK)) hD hS hA [0, 1, 2, 3, 4, 5, 6, 7, 8, 9, 10] rfl
                refine mu_i (va_runV (As := [.long fr, .long mv]) (rest := []) ⟨hx, hb, hml, hown, hts⟩ (c_X3_solve l dC dI cA H Z (layG g n (nI i * d) a b) (n + 1) 0 hs pe pk fo mo fE fK hP (hD.weaken (fun _ _ _ _ => trivial)) (lay_inv hg q1.1 q1.2 (rg_in q2)) (by omega) fr mv) (cwV 2 hts gX3_needed_X3_solve rfl rfl rfl (by decide +kernel) ⟨Nat.le_of_ble_eq_true rfl, Nat.le_of_ble_eq_true rfl⟩) ⟨rd_bl, va_recv hK hP (ci := 4) (q0 := 0) rfl rfl, rd_pre hK hN⟩ rfl rfl hl.1 rfl (lv_room (Nat.le_of_ble_eq_true rfl)) dX3_needed_87 ⟨Nat.zero_le _, Nat.zero_le _⟩) hS hFc (fun r8 u H locs hq hB hk hz hS => ?_)
                obtain ⟨u1, th1, fE9, fK9⟩ := u
                obtain ⟨hq1, hq2, hq3, hq4⟩ := hq
                dsimp only at hq2 hq3 hq4 hB
                subst hq2
                subst hq3
                subst hq1
                have hP : va_P (dC, dI) vwCl (wR cA Z (layG g n (nI i * d) a b) (n + 1) 0 hs pe pk fo mo fE9 fK9) H := hB
                have hD : va_D Av (wR cA Z (layG g n (nI i * d) a b) (n + 1) 0 hs pe pk fo mo fE9 fK9) := va_Dsame (by rfl) hD
                refine lv_if_ne (tgt := 100) hx hb dX3_needed_90 (by decide) (fun c3 => ?_) (fun c3 => ?_)
                · refine lv_iconst (v := (-1)) hx hb dX3_needed_100 (by decide) ?_
                  refine lv_istore (lv' := [(8, .int (-1)), (0, .ref (Z 0)), (1, .int a), (2, .int b), (3, .int d), (4, .long fr), (6, .long mv), (9, .int (nI i))]) hx hb dX3_needed_101 hl (by decide) rfl (fun ls hl => ?_)
                  refine lv_iinc (v := nI (i + 1)) (lv' := [(9, .int (nI (i + 1))), (8, .int (-1)), (0, .ref (Z 0)), (1, .int a), (2, .int b), (3, .int d), (4, .long fr), (6, .long mv)]) hx hb dX3_needed_103 hl (k := 7) rfl (nI_1 i) (by decide) rfl (fun ls hl => ?_)
                  refine lv_goto (tgt := 54) hx hb dX3_needed_106 (by decide) ?_
                  exact ih (i + 1) (-1) (nI i * d) (layG g n (nI i * d) a b) fE9 fK9 H _ _ (by omega) (by omega) (Or.inl ⟨rfl, by rw [hv, show 21 - i = (21 - (i + 1)) + 1 by omega, ne_f c3], Or.inr rfl⟩) (fun x => lay_lay _ _ _ _ _ _) hP hD hS (lv_sub hl [2, 3, 4, 5, 6, 7, 1, 0] rfl)
                · refine lv_iload hx hb dX3_needed_93 (lv_at hl 7 rfl) ?_
                  refine lv_iload_n hx hb dX3_needed_95 rfl (lv_at hl 3 rfl) ?_
                  refine lv_imul hx hb dX3_needed_96 ?_
                  refine lv_goto (tgt := 101) hx hb dX3_needed_97 (by decide) ?_
                  refine lv_istore (lv' := [(8, .int ((nI i) * d)), (0, .ref (Z 0)), (1, .int a), (2, .int b), (3, .int d), (4, .long fr), (6, .long mv), (9, .int (nI i))]) hx hb dX3_needed_101 hl (by decide) rfl (fun ls hl => ?_)
                  refine lv_iinc (v := nI (i + 1)) (lv' := [(9, .int (nI (i + 1))), (8, .int ((nI i) * d)), (0, .ref (Z 0)), (1, .int a), (2, .int b), (3, .int d), (4, .long fr), (6, .long mv)]) hx hb dX3_needed_103 hl (k := 7) rfl (nI_1 i) (by decide) rfl (fun ls hl => ?_)
                  refine lv_goto (tgt := 54) hx hb dX3_needed_106 (by decide) ?_
                  exact ih (i + 1) (nI i * d) (nI i * d) (layG g n (nI i * d) a b) fE9 fK9 H _ _ (by omega) (by omega) (Or.inr ⟨by rw [Int32.le_iff_toInt_le]; exact (nis (A := 5000) (B := 100000) (by omega) q3.1 q3.2 (by omega) (by omega)).1, by rw [hv, show 21 - i = (21 - (i + 1)) + 1 by omega, ne_t c3], rfl⟩) (fun x => lay_lay _ _ _ _ _ _) hP hD hS (lv_sub hl [2, 3, 4, 5, 6, 7, 1, 0] rfl)
        exact lp 22 0 (-1) 0 g fE fK H _ _ (by omega) (by omega) (Or.inl ⟨rfl, rfl, Or.inl rfl⟩) (fun _ => rfl) hP hD hS (lv_sub hl [2, 3, 4, 5, 6, 7, 1, 0] rfl)
      · have q3 : ¬ (rg d 1 5000) := hq6
        refine lv_if_ne (tgt := 38) hx hb dX3_needed_33 (by decide) (fun h9 => absurd h9 (by decide)) (fun _ => ?_)
        refine lv_iconst (v := (-1)) hx hb dX3_needed_36 (by decide) ?_
        exact W.iret (v := (-1)) hx hb hr (fun t9 ht9 hW9 => ⟨⟨_, ((g, n, hs, pe, pk, fo, mo), 0, fE, fK), rfl, (⟨(ned_f (fun h9 => q3 h9.2.2)).symm, rfl⟩), by dsimp only; rw [ht9]; exact hP⟩, hS.F ht9⟩) hS.2.2 dX3_needed_37
    · have q2 : ¬ (rg b 0 3) := hq4
      refine lv_if_eq (tgt := 36) hx hb dX3_needed_22 (by decide) (fun _ => ?_) (fun h9 => absurd h9 (by decide))
      refine lv_iconst (v := (-1)) hx hb dX3_needed_36 (by decide) ?_
      exact W.iret (v := (-1)) hx hb hr (fun t9 ht9 hW9 => ⟨⟨_, ((g, n, hs, pe, pk, fo, mo), 0, fE, fK), rfl, (⟨(ned_f (fun h9 => q2 h9.2.1)).symm, rfl⟩), by dsimp only; rw [ht9]; exact hP⟩, hS.F ht9⟩) hS.2.2 dX3_needed_37
  · have q1 : ¬ (rg a (-2000) 2000) := hq2
    refine lv_if_eq (tgt := 36) hx hb dX3_needed_15 (by decide) (fun _ => ?_) (fun h9 => absurd h9 (by decide))
    refine lv_iconst (v := (-1)) hx hb dX3_needed_36 (by decide) ?_
    exact W.iret (v := (-1)) hx hb hr (fun t9 ht9 hW9 => ⟨⟨_, ((g, n, hs, pe, pk, fo, mo), 0, fE, fK), rfl, (⟨(ned_f (fun h9 => q1 h9.1)).symm, rfl⟩), by dsimp only; rw [ht9]; exact hP⟩, hS.F ht9⟩) hS.2.2 dX3_needed_37
end
section
/-! AN EXCEPTION THAT LEAVES A METHOD WHICH HAS WRITTEN NOTHING, AND ITS CATCHING IN THE CALLER (a launch without stack traces; by the library's walks: ctorThrowS, newCold, callFree) -/
/-- what such a call leaves: q, a new object of the class E; every cell that was there is as it was -/
def exQ (E : String) : Array Value → State → Outcome → State → Prop := fun _ st o t =>
  ∃ (q : Addr) (ce : Cell), o = .threw q ∧ t.heap[q]? = some ce ∧ ce.vm = .none ∧ st.vm.findClass E = some ce.cls ∧ st.heap.size ≤ q ∧ (∀ i : Nat, i < st.heap.size → t.heap[i]? = st.heap[i]?) ∧ st.WarmedH t.vm ∧ st.sameButNew ({ t with vm := st.vm } : State) [] 1 6
def exMet (l : Launch) (y : MethodName) (ws : List Cond) (rm : Room) (Pc : Array Value → State → Prop) (E : String) : Prop := MetFree l y (headSpec ws rm) Pc (fun _ _ _ _ _ => True) (exQ E)
def exMQ (below : List Frame) (E : String) (a : Array Value) (s : State) : State → Prop := fun t => ∃ o, t.status = .running ∧ Ended t below o ∧ exQ E a s o t
theorem tab_nil {c : Code} (h : c.exceptionTable.isEmpty = true) : c.exceptionTable.toList = [] := by
  have h0 : c.exceptionTable.size = 0 := by simpa [Array.isEmpty] using h
  exact List.eq_nil_of_length_eq_zero (by simpa using h0)
theorem exMet.ofW {l : Launch} {y : MethodName} {ws ws' : List Cond} {rm : Room} {Pc : Array Value → State → Prop} {E : String} {cc : ByteArray} {maxL : Nat} {ret : Option FieldType} (hy : plainName y.cls = true) (hw : ws = Cond.code y cc maxL ret :: ws')
    (body : ∀ p e s m args below meth c s₁, BodyLoose p l y (headSpec ws rm) cc maxL ret e s m args below meth c s₁ → c.maxLocals = maxL → c.exceptionTable.toList = [] → Pc args s →
      W p l e (headSpec ws rm).room s m args below meth c s.heap [] 0 0 (exMQ below E args s) (entryFrame m args maxL)) : exMet l y ws rm Pc E := by
  refine MetFree.of_bodyS (code := cc) (maxLocals := maxL) (ret := ret) hy ?_ ?_
  · intro args s m h hn
    obtain ⟨meth, c, h1, h2, h3, h4, h5, h6, -, -⟩ := Cond.code_spec hn (atoms_spec (ws := ws) h _ (by rw [hw]; exact List.mem_cons_self))
    exact ⟨meth, c, h1, h2, h3, h4, h5, h6⟩
  · intro p e s m args below meth c s₁ B hml hP _
    have hh0 : s₁.heap = s.heap := by rw [B.state]; rfl
    have X₀ := Stand.of_body B
    have htab : c.exceptionTable.toList = [] := by
      obtain ⟨meth', c', h1, h2, -, -, -, -, h7, -⟩ := Cond.code_spec B.named (atoms_spec (ws := ws) B.pre _ (by rw [hw]; exact List.mem_cons_self))
      have e1 : meth' = meth := Option.some.inj (h1.symm.trans B.method)
      subst e1
      have e2 : c' = c := Option.some.inj (h2.symm.trans X₀.code)
      subst e2
      exact tab_nil h7
    obtain ⟨t, a1, o, b1, b2, b3⟩ := body p e s m args below meth c s₁ B hml htab hP s₁ hh0 X₀
    exact ⟨t, o, a1, b1, b2, b3⟩
theorem same_keep {s U : State} {k n : Nat} (h : s.sameButNew ({ U with vm := s.vm } : State) [] k n) (i : Nat) (hi : i < s.heap.size) : U.heap[i]? = s.heap[i]? := by
  obtain ⟨c9, e1, e2, -, e4⟩ := h.2.2.2.2.2 i _ (Array.getElem?_eq_getElem hi)
  have e5 : c9.slots = (s.heap[i]).slots := Array.ext_getElem? fun j => e4 j List.not_mem_nil
  rw [e5] at e2
  rw [show U.heap[i]? = some c9 from e1, e2, Array.getElem?_eq_getElem hi]
section EXT
variable {p : Program} {l : Launch} {e : Env} {R : Room} {s : State} {m : MethodId} {args : Array Value} {below : List Frame} {meth : Method} {c : Code} {H : Heap} {locs : List Loc} {cells slots : Nat} {Q : State → Prop} {ls : Array Slot} {rest : List Value}
/-- new; dup; ldc; invokespecial; athrow: the end of a method that throws -/
theorem ex_throw {cc : ByteArray} {pc : Nat} (hexec : p.tables.exec = Jvm.exec) (hb : c.code = cc) (hl9 : l.stackTraces = false) {own cls text : String} {names : List String} {ik is ic sa : Nat}
    (hown : s.vm.findClass own = some m.cls) (hcls : Bundle.fit cls = true) (hnames : ∀ n ∈ names, Bundle.fit n = true)
    (hk : (Cond.classLink own ik cls).before args s = true) (hini : (Cond.initialized cls).before args s = true) (hs1 : (Cond.stringRef own is text).before args s = true) (hs2 : (Term.string own is).eval args s none [] s = some (.ref sa))
    (h : ∀ w ∈ Bundle.ownAtoms own ic cls names, w.before args s = true) (hS : va_S nF s.heap s.heap locs) (hsize : ls.size = c.maxLocals)
    (d0 : decode cc pc = .ok (.new ik, 3)) (d3 : decode cc (pc + 3) = .ok (.dup, 1)) (d4 : decode cc (pc + 4) = .ok (.ldc is, 2)) (d6 : decode cc (pc + 6) = .ok (.invokespecial ic, 3)) (d9 : decode cc (pc + 9) = .ok (.athrow, 1))
    (htab : c.exceptionTable.toList = []) (hRf : names.length + 3 < R.frames) (hRl : (rest.map fun v => v.category).sum + (13 * (names.length + 1) + 43) ≤ R.locals) (hRc : 1 ≤ R.cells) (hRs : 6 ≤ R.slots) (hlocks : meth.locks = false) :
    W p l e R s m args below meth c s.heap locs 0 0 (exMQ below cls args s) (F0 m pc ls rest) := by
  intro T hT X
  have hloc : locs = [] := by
    cases locs with
    | nil => rfl
    | cons z y => exact (hS.2.2 z List.mem_cons_self).elim
  subst hloc
  subst hb
  have htr : e.platform.stackTraces = false := (show e.platform.stackTraces = l.stackTraces by rw [X.admits.platform]).trans hl9
  have hins : (Cond.instantiable cls 6).before args s = true := h _ (by simp [Bundle.ownAtoms])
  obtain ⟨vm₁, cX, kX, hfX, hkX, -, -, X₁, st1⟩ := X.newCold hexec hown hk hins hini (g := F0 m pc ls rest) rfl d0 (by omega) (by omega)
  have hTs : T.heap.size = s.heap.size := by rw [hT]
  have hcell : ((T.setVm vm₁).pushCell { cls := cX, slots := kX.instanceTypes.map defaultValue, vm := .none }).heap[T.heap.size]? = some (freshCell cX kX) := State.heap_pushCell_size _ _
  generalize (T.setVm vm₁).pushCell { cls := cX, slots := kX.instanceTypes.map defaultValue, vm := .none } = T1 at X₁ st1 hcell
  have hcat : (Value.ref T.heap.size).category = 1 := rfl
  obtain ⟨U, hsteps, hrun, hend, hW, hsame, ce, hce, hO⟩ := X₁.ctorThrowS hexec htr hown hcls hnames h (fun x hx => absurd hx List.not_mem_nil) hfX hkX hcell (Nat.le_of_eq hTs.symm) (msg := .ref sa) rfl
    (g := { method := m, pc := pc + 6, locals := ls, stack := .ref sa :: .ref T.heap.size :: .ref T.heap.size :: rest, locked := none }) rfl hsize rfl rfl (rest := rest) rfl
    d6 d9 (fun x hx => by rw [htab] at hx; exact absurd hx List.not_mem_nil) hRf (by simp only [List.map_cons, List.sum_cons, hcat]; omega) hlocks
  refine ⟨U, st1 _ ?_, .threw T.heap.size, hrun, hend, T.heap.size, ce, rfl, hce, hO.vm, hO.cls, Nat.le_of_eq hTs.symm, same_keep hsame, hW, hsame.mono (by omega) (by omega)⟩
  show Steps p.tables e below (T1.setTop { method := m, pc := pc + 3, locals := ls, stack := .ref T.heap.size :: rest, locked := none }) _
  jvm_step X₁.here [X₁.here.top, hexec, d3, Value.category]
  exact X₁.ldcString hexec hown hs1 hs2 (g := { method := m, pc := pc + 4, locals := ls, stack := .ref T.heap.size :: .ref T.heap.size :: rest, locked := none }) rfl d4 _ hsteps
/-- the call: from the caller's frame to the note that q is thrown, over that frame -/
theorem ex_call {y : MethodName} {ws : List Cond} {rm : Room} {Pc : Array Value → State → Prop} {E : String} {bytes : ByteArray} {maxL : Nat} {ret : Option FieldType} {U : State} {Ls : List Loc} {c0 s0 len : Nat} {g : JFrame} {ig : Instr} {mk : MethodId} {a : Array Value}
    (hM : exMet l y ws rm Pc E) (X : Stand p l e R s m args below meth c U Ls c0 s0) (hg : g.method = m) (hsize : g.locals.size = c.maxLocals) (hdg : decode c.code g.pc = .ok (ig, len)) (hW8 : 2 * g.monitorRoom + (g.stack.map fun v => v.category).sum ≤ 8)
    (hn : U.methodNamed? y = some mk) (h1 : (headSpec ws rm).pre.before a U = true) (h2 : (Cond.code y bytes maxL ret).before a U = true) (h3 : (Cond.initialized y.cls).before a U = true)
    (hrc : rm.cells = 1) (hrs : rm.slots = 6) (hfr : rm.frames + 1 ≤ R.frames) (hlo : 8 + (maxL + 11) + rm.locals ≤ R.locals) (hc0 : c0 + 1 ≤ R.cells) (hs0 : s0 + 6 ≤ R.slots) (hP : Pc a (U.calling g mk a)) :
    ∃ (q : Addr) (ce : Cell) (V : State), Stand p l e R s m args below meth c V Ls (c0 + 1) (s0 + 6) ∧ V.heap[q]? = some ce ∧ ce.vm = .none ∧ U.vm.findClass E = some ce.cls ∧ U.heap.size ≤ q ∧ (∀ i : Nat, i < U.heap.size → V.heap[i]? = U.heap[i]?) ∧
      Steps p.tables e below (doInvoke e (U.setTop g) [] mk a).1 ((V.setTop g).pushFrame (.throwing q)) := by
  obtain ⟨mY, cY, hmY, hcY, -, hlY, -⟩ := Cond.code_spec hn h2
  obtain ⟨kY, hkY, -⟩ := className_of_methodNamed hn
  subst hg
  have hAt := X.here
  have hroom := X.room_calling (g := g) (args' := a) (R' := (headSpec ws rm).room) hsize hmY hcY hfr (by rw [hlY]; show _ + _ + rm.locals ≤ _; omega) (by show c0 + rm.cells ≤ _; omega) (by show s0 + rm.slots ≤ _; omega)
  have happ := Spec.appliesLoose_calling (x := y) (S := headSpec ws rm) (g := g) (args := a) hAt hdg hn hkY (Cond.initialized_spec (findClass_of_methodNamed hn) hkY h3) hroom h1
  obtain ⟨mid, hmid⟩ := hAt.above
  have hfrm : (U.setTop g).frames = (.java g :: mid) ++ below := by rw [State.frames_setTop' g hAt.top, hmid]; rfl
  obtain ⟨o, t, hst, -, hend, q, ce, rfl, hce, hcv, hcl, hq, hkeep, hWt, hsm⟩ := Steps.callFree hM p X.admits X.cas X.clock (acts := []) hfrm happ hP trivial
  rw [State.frames_setTop' g hAt.top] at hend
  have hft : t.frames = .throwing q :: .java g :: U.frames.tail := hend
  obtain ⟨g₀, hg0⟩ := Option.isSome_iff_exists.mp hAt.top
  obtain ⟨r, hr⟩ := State.topJava?_eq_some.mp hg0
  have hWU : U.WarmedH t.vm := hWt
  obtain ⟨V, hV⟩ : ∃ V : State, V = ({ U with heap := t.heap, slotsUsed := t.slotsUsed } : State).setVm t.vm := ⟨_, rfl⟩
  have hVr : V.frames = .java g₀ :: r := by rw [hV]; exact hr
  have hsame : U.sameButNew ({ U with heap := t.heap, slotsUsed := t.slotsUsed } : State) [] 1 6 := by
    obtain ⟨-, b2, b3, b4, b5, b6⟩ := hsm
    refine ⟨?_, b2, b3, b4, b5, b6⟩
    obtain ⟨th, hth, -⟩ := State.frames_cons hr
    show ({ U with heap := t.heap, slotsUsed := t.slotsUsed } : State) = { U.setFrames U.frames with heap := t.heap, slotsUsed := t.slotsUsed }
    rw [State.setFrames_self hth]
  have htV : t = (V.setTop g).pushFrame (.throwing q) := by
    have b1 : ({ t with vm := (U.calling g mk a).vm } : State) = { (U.calling g mk a).setFrames t.frames with heap := t.heap, slotsUsed := t.slotsUsed } := hsm.1
    have b0 : t = ({ t with vm := (U.calling g mk a).vm } : State).setVm t.vm := rfl
    rw [b1] at b0
    refine b0.trans ?_
    show ({ (U.calling g mk a).setFrames t.frames with heap := t.heap, slotsUsed := t.slotsUsed } : State).setVm t.vm = _
    rw [hft, State.calling_eq hAt.top, State.setFrames_setFrames, State.pushFrame, State.frames_setTop _ hVr, State.setTop_of_frames _ hVr, State.setFrames_setFrames, hV, hr]
    rfl
  have XV : Stand p l e R s g.method args below meth c V (Ls ++ []) (c0 + 1) (s0 + 6) := by
    rw [hV]
    exact ⟨X.admits, X.cas, X.clock, X.frames, X.room, X.hears, X.method, X.code, (hAt.setHeapUsed t.heap t.slotsUsed).setVm hWU.alike, X.tail, State.WarmedH.trans X.warmed hWU, X.limits, X.bytes, X.same.trans (hsame.setVm s.vm)⟩
  rw [List.append_nil] at XV
  have hVh : V.heap = t.heap := by rw [hV]; rfl
  refine ⟨q, ce, V, XV, by rw [hVh]; exact hce, hcv, hcl, hq, fun i hi => by rw [hVh]; exact hkeep i hi, ?_⟩
  rw [← htV]
  exact hst
/-- caught by the one row of this method's table; its class may be linked only now -/
theorem ex_catch {own name : String} {g : JFrame} {T : State} {q : Addr} {ce : Cell} {x : ExceptionTableEntry} (X : Stand p l e R s m args below meth c T locs cells slots) (hg : g.method = m) (hown : s.vm.findClass own = some m.cls) (htab : c.exceptionTable.toList = [x])
    (hx : covers x g.pc = true) (h0 : x.catchType ≠ 0) (hlink : (Cond.classLink own x.catchType name).before args s = true) (hcell : T.heap[q]? = some ce) (hv : ce.vm = .none) (hcl : s.vm.findClass name = some ce.cls) (hfit : s.vm.assignable ce.cls ce.cls = true) :
    ∃ vm', Stand p l e R s m args below meth c (T.setVm vm') locs cells slots ∧ ∀ target, Steps p.tables e below ((T.setVm vm').setTop { g with pc := x.handlerPc, stack := [.ref q] }) target → Steps p.tables e below ((T.setTop g).pushFrame (.throwing q)) target := by
  subst hg
  have hpl : e.platform.magicAccessors = ({} : Platform).magicAccessors := by rw [X.admits.platform]
  obtain ⟨cT, hcT, hln⟩ := Cond.classLink_spec hown hlink e.platform hpl
  cases Option.some.inj (hcT.symm.trans hcl)
  obtain ⟨dk, -, -, kt, hd, -, -, -, -, hkt, -, hop⟩ := hln.here
  have hW' : s.WarmedH (T.vm.noted g.method.cls x.catchType (.cls ce.cls)) := X.warmed.noted hd hop (State.rightAt_cls hln)
  have hal : T.vm.Alike (T.vm.noted g.method.cls x.catchType (.cls ce.cls)) := (Vm.Alike.refl T.vm).noted _ _ _
  obtain ⟨kt1, hkt1, -⟩ := X.warmed.alike.2.2 _ _ hkt
  obtain ⟨kt2, hkt2, -⟩ := hal.2.2 _ _ hkt1
  have hfit2 : (T.vm.noted g.method.cls x.catchType (.cls ce.cls)).assignable ce.cls ce.cls = true := by rw [hal.assignable, X.warmed.alike.assignable]; exact hfit
  have hlT : T.vm.ClassLinks e.platform g.method.cls x.catchType ce.cls := X.warmed.classLinks hln
  obtain ⟨S, hSe⟩ : ∃ S : State, S = (T.setTop g).pushFrame (.throwing q) := ⟨_, rfl⟩
  have hSvm : S.vm = T.vm := by rw [hSe]; exact Stand.throwing_vm T g q
  have hShp : S.heap = T.heap := by rw [hSe]; exact Stand.throwing_heap T g q
  have hfind : ∀ (Q9 : Handler → Pre) (E9 : CtlPost) (d : Bool) (acts : List Action), wp (findHandler g q) Q9 E9 e d acts S ↔ Q9 (.found x.handlerPc) d acts (S.setVm (T.vm.noted g.method.cls x.catchType (.cls ce.cls))) := by
    intro Q9 E9 d acts
    have hm9 : S.vm.method? g.method = some meth := by rw [hSvm]; exact X.method'
    rw [W.findHandler_eq hm9 X.code, htab]
    obtain ⟨ha, ht⟩ := (resolveClass_links e.toSetting hlT).op (op := VmOp.resolveClass g.method.cls x.catchType) rfl
    have hobj : ∀ k, ce.vm ≠ .statics k := fun k h9 => by rw [hv] at h9; cases h9
    simp only [covers] at hx
    simp [findHandler.go, hx, h0, hSvm, ha, ht, hShp, hcell, hobj, hkt2, hfit2, VmOp.dirties, VmOp.acts]
  refine ⟨_, X.noted hW', fun target hrest => ?_⟩
  have hAt := X.here
  obtain ⟨hgo, hw⟩ := hAt.throwing q
  refine Steps.head hgo hw ?_
  obtain ⟨g₀, hg0⟩ := Option.isSome_iff_exists.mp hAt.top
  obtain ⟨r, hr⟩ := State.topJava?_eq_some.mp hg0
  have hr' : (T.setVm (T.vm.noted g.method.cls x.catchType (.cls ce.cls))).frames = .java g₀ :: r := hr
  have key : (stepThrowing e S q (.java g :: T.frames.tail)).1 = (S.setVm (T.vm.noted g.method.cls x.catchType (.cls ce.cls))).setFrames (.java { g with pc := x.handlerPc, stack := [.ref q] } :: T.frames.tail) := by
    simp only [stepThrowing, searchFrame, vmDo]
    generalize hres : Sem.go _ e false [] S = res
    obtain ⟨as, rfl, -⟩ := Sem.eq_ok_of hres (a := Handler.found x.handlerPc) (s' := S.setVm (T.vm.noted g.method.cls x.catchType (.cls ce.cls))) (acts' := []) (by simp [hfind _ _ _ _])
    rfl
  rw [stepThread_throwing (frames_entered hAt.top _), ← hSe, key]
  rw [State.setTop_of_frames _ hr'] at hrest
  have e9 : ∀ (u : State) (vm9 : Vm) (F G : List Frame), ((u.setFrames F).setVm vm9).setFrames G = (u.setVm vm9).setFrames G := fun u vm9 F G => by
    rw [show (u.setFrames F).setVm vm9 = (u.setVm vm9).setFrames F from rfl, State.setFrames_setFrames]
  rw [hSe, hr, List.tail_cons, State.pushFrame, e9, State.setTop_of_frames _ hr, e9]
  exact hrest
end EXT
/-- the words on the heap's statics, where the tables are warmer and the old cells are as they were -/
theorem hw_ref {C n d : String} {a a' : Array Value} {s U : State} (hal : s.vm.Alike U.vm) (hh : ∀ q : Nat, q < s.heap.size → U.heap[q]? = s.heap[q]?) (hl : (Cond.laysStatic C n d).before a s = true) (hi : (Cond.initialized C).before a s = true) (h : (Cond.isRef (.static C n d)).before a s = true) : (Cond.isRef (.static C n d)).before a' U = true := by
  have h1 := va_Zqof (A := fun q : Nat => s.heap.size ≤ q) hl hi h (fun q hq => Nat.not_le.mpr hq)
  have h2 : va_Zq C n d (fun q : Nat => s.heap.size ≤ q) U U.heap := va_Zq.moved hal (va_Zq.kept h1 (fun q hq _ => hh q hq))
  have key : ∀ v : Value, va_Z C n d v (fun q : Nat => s.heap.size ≤ q) U U.heap → (Term.static C n d).eval a' U none [] U = some v := by
    rintro v ⟨cf, kf, fi, f, b, cell, q1, q2, -, q4, q5, q6, q7, -⟩
    simp [Term.eval, State.fieldNamed?, q1, q2, q4, q5, q6, q7]
  rcases h2 with h2 | ⟨t, h2⟩
  · simp [Cond.before, Cond.holds, Cond.value, key _ h2]
  · simp [Cond.before, Cond.holds, Cond.value, key _ h2]
theorem hw_lays {C n d : String} {a a' : Array Value} {s U : State} (hal : s.vm.Alike U.vm) (hh : ∀ q : Nat, q < s.heap.size → U.heap[q]? = s.heap[q]?) (h : (Cond.laysStatic C n d).before a s = true) : (Cond.laysStatic C n d).before a' U = true := by
  simp only [Cond.before, Cond.holds, Cond.value] at h ⊢
  cases h1 : s.vm.findClass C with
  | none => simp [h1] at h
  | some k0 =>
    cases h2 : s.fieldFound? C n d with
    | none => simp [h1, h2] at h
    | some z =>
      obtain ⟨k1, k, i, f⟩ := z
      cases h3 : k.statics with
      | none => simp [h1, h2, h3] at h
      | some b =>
        cases h4 : s.heap[b]? with
        | none => simp [h1, h2, h3, h4] at h
        | some cell =>
          obtain ⟨k', hi', he⟩ := State.fieldFound?_setVm hal h2
          have hi2 : U.fieldFound? C n d = some (k1, k', i, f) := hi'
          have h5 : U.heap[b]? = some cell := by rw [hh b (Array.getElem?_eq_some_iff.mp h4).1]; exact h4
          have h6 : U.vm.findClass C = some k0 := by rw [hal.findClass]; exact h1
          have h7 : k'.statics = some b := by rw [he]; exact h3
          have h8 : k'.staticTypes = k.staticTypes := by rw [he]
          simp only [h1, h2, h3, h4, Option.bind_some, Option.map_some] at h
          simp only [h6, hi2, h7, h5, h8, Option.bind_some, Option.map_some]
          exact h
end
