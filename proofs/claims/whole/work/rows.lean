section
-- ===== PART A: goes FIRST, ahead of the names: the tables' words, and 'selects' of the private methods out of them =====
/-- a private method of a class that the tables say can be made, by its rows of tables_1 -/
def lw_okq (q : MethodName × Nat) : Prop := (q.1.cls ≠ "java/lang/invoke/MethodHandle" ∧ q.1.cls ≠ "java/lang/invoke/VarHandle") ∧ Cond.instantiable q.1.cls q.2 ∈ tables_1 ∧ Cond.privateMethod q.1 ∈ tables_1 ∧ Cond.instanceMethod q.1 ∈ tables_1
theorem lw_p0 : lw_okq (⟨"LeastAsked", "failed", "(I)I"⟩, 11) := ⟨⟨by decide +kernel, by decide +kernel⟩, List.mem_of_getElem? (i := 17) (by decide +kernel), List.mem_of_getElem? (i := 258) (by decide +kernel), List.mem_of_getElem? (i := 259) (by decide +kernel)⟩
theorem lw_p1 : lw_okq (⟨"LeastAsked", "possible", "(III)I"⟩, 11) := ⟨⟨by decide +kernel, by decide +kernel⟩, List.mem_of_getElem? (i := 17) (by decide +kernel), List.mem_of_getElem? (i := 497) (by decide +kernel), List.mem_of_getElem? (i := 498) (by decide +kernel)⟩
theorem lw_p2 : lw_okq (⟨"LeastAsked", "waysToBring", "(II)I"⟩, 11) := ⟨⟨by decide +kernel, by decide +kernel⟩, List.mem_of_getElem? (i := 17) (by decide +kernel), List.mem_of_getElem? (i := 527) (by decide +kernel), List.mem_of_getElem? (i := 528) (by decide +kernel)⟩
theorem lw_p3 : lw_okq (⟨"LeastAskedModel", "against", "(IIII)I"⟩, 32) := ⟨⟨by decide +kernel, by decide +kernel⟩, List.mem_of_getElem? (i := 614) (by decide +kernel), List.mem_of_getElem? (i := 730) (by decide +kernel), List.mem_of_getElem? (i := 731) (by decide +kernel)⟩
theorem lw_p4 : lw_okq (⟨"LeastAskedModel", "fails", "(I)I"⟩, 32) := ⟨⟨by decide +kernel, by decide +kernel⟩, List.mem_of_getElem? (i := 614) (by decide +kernel), List.mem_of_getElem? (i := 734) (by decide +kernel), List.mem_of_getElem? (i := 735) (by decide +kernel)⟩
theorem lw_p5 : lw_okq (⟨"LeastAskedModel", "readProvince", "(I)Z"⟩, 32) := ⟨⟨by decide +kernel, by decide +kernel⟩, List.mem_of_getElem? (i := 614) (by decide +kernel), List.mem_of_getElem? (i := 738) (by decide +kernel), List.mem_of_getElem? (i := 739) (by decide +kernel)⟩
theorem lw_p6 : lw_okq (⟨"LeastAskedModel", "isSign", "(II)Z"⟩, 32) := ⟨⟨by decide +kernel, by decide +kernel⟩, List.mem_of_getElem? (i := 614) (by decide +kernel), List.mem_of_getElem? (i := 742) (by decide +kernel), List.mem_of_getElem? (i := 743) (by decide +kernel)⟩
theorem lw_p7 : lw_okq (⟨"LeastAskedModel", "digit", "(II)I"⟩, 32) := ⟨⟨by decide +kernel, by decide +kernel⟩, List.mem_of_getElem? (i := 614) (by decide +kernel), List.mem_of_getElem? (i := 746) (by decide +kernel), List.mem_of_getElem? (i := 747) (by decide +kernel)⟩
theorem lw_p8 : lw_okq (⟨"LeastAskedModel", "readPerson", "(I)Z"⟩, 32) := ⟨⟨by decide +kernel, by decide +kernel⟩, List.mem_of_getElem? (i := 614) (by decide +kernel), List.mem_of_getElem? (i := 750) (by decide +kernel), List.mem_of_getElem? (i := 751) (by decide +kernel)⟩
theorem lw_p9 : lw_okq (⟨"LeastAskedModel", "takeProvince", "()V"⟩, 32) := ⟨⟨by decide +kernel, by decide +kernel⟩, List.mem_of_getElem? (i := 614) (by decide +kernel), List.mem_of_getElem? (i := 754) (by decide +kernel), List.mem_of_getElem? (i := 755) (by decide +kernel)⟩
theorem lw_p10 : lw_okq (⟨"LeastAskedModel", "isPerson", "(I)Z"⟩, 32) := ⟨⟨by decide +kernel, by decide +kernel⟩, List.mem_of_getElem? (i := 614) (by decide +kernel), List.mem_of_getElem? (i := 762) (by decide +kernel), List.mem_of_getElem? (i := 763) (by decide +kernel)⟩
theorem lw_p11 : lw_okq (⟨"LeastAskedModel", "saysOf", "(I)I"⟩, 32) := ⟨⟨by decide +kernel, by decide +kernel⟩, List.mem_of_getElem? (i := 614) (by decide +kernel), List.mem_of_getElem? (i := 766) (by decide +kernel), List.mem_of_getElem? (i := 767) (by decide +kernel)⟩
theorem lw_p12 : lw_okq (⟨"LeastAskedModel", "placeOf", "(I)I"⟩, 32) := ⟨⟨by decide +kernel, by decide +kernel⟩, List.mem_of_getElem? (i := 614) (by decide +kernel), List.mem_of_getElem? (i := 770) (by decide +kernel), List.mem_of_getElem? (i := 771) (by decide +kernel)⟩
theorem lw_p13 : lw_okq (⟨"LeastAskedModel", "isMatter", "(I)Z"⟩, 32) := ⟨⟨by decide +kernel, by decide +kernel⟩, List.mem_of_getElem? (i := 614) (by decide +kernel), List.mem_of_getElem? (i := 778) (by decide +kernel), List.mem_of_getElem? (i := 779) (by decide +kernel)⟩
theorem lw_p14 : lw_okq (⟨"LeastAskedModel", "bringsOf", "(II)I"⟩, 32) := ⟨⟨by decide +kernel, by decide +kernel⟩, List.mem_of_getElem? (i := 614) (by decide +kernel), List.mem_of_getElem? (i := 798) (by decide +kernel), List.mem_of_getElem? (i := 799) (by decide +kernel)⟩
theorem lw_p15 : lw_okq (⟨"LeastAskedModel", "firstOf", "()I"⟩, 32) := ⟨⟨by decide +kernel, by decide +kernel⟩, List.mem_of_getElem? (i := 614) (by decide +kernel), List.mem_of_getElem? (i := 809) (by decide +kernel), List.mem_of_getElem? (i := 810) (by decide +kernel)⟩
def lw_privs_1 : List (MethodName × Nat) := [(⟨"LeastAsked", "failed", "(I)I"⟩, 11), (⟨"LeastAsked", "possible", "(III)I"⟩, 11), (⟨"LeastAsked", "waysToBring", "(II)I"⟩, 11), (⟨"LeastAskedModel", "against", "(IIII)I"⟩, 32), (⟨"LeastAskedModel", "fails", "(I)I"⟩, 32), (⟨"LeastAskedModel", "readProvince", "(I)Z"⟩, 32), (⟨"LeastAskedModel", "isSign", "(II)Z"⟩, 32), (⟨"LeastAskedModel", "digit", "(II)I"⟩, 32), (⟨"LeastAskedModel", "readPerson", "(I)Z"⟩, 32), (⟨"LeastAskedModel", "takeProvince", "()V"⟩, 32), (⟨"LeastAskedModel", "isPerson", "(I)Z"⟩, 32), (⟨"LeastAskedModel", "saysOf", "(I)I"⟩, 32), (⟨"LeastAskedModel", "placeOf", "(I)I"⟩, 32), (⟨"LeastAskedModel", "isMatter", "(I)Z"⟩, 32), (⟨"LeastAskedModel", "bringsOf", "(II)I"⟩, 32), (⟨"LeastAskedModel", "firstOf", "()I"⟩, 32)]
theorem lw_r1 : ∀ q ∈ lw_privs_1, lw_okq q := List.forall_mem_cons.mpr ⟨lw_p0, List.forall_mem_cons.mpr ⟨lw_p1, List.forall_mem_cons.mpr ⟨lw_p2, List.forall_mem_cons.mpr ⟨lw_p3, List.forall_mem_cons.mpr ⟨lw_p4, List.forall_mem_cons.mpr ⟨lw_p5, List.forall_mem_cons.mpr ⟨lw_p6, List.forall_mem_cons.mpr ⟨lw_p7, List.forall_mem_cons.mpr ⟨lw_p8, List.forall_mem_cons.mpr ⟨lw_p9, List.forall_mem_cons.mpr ⟨lw_p10, List.forall_mem_cons.mpr ⟨lw_p11, List.forall_mem_cons.mpr ⟨lw_p12, List.forall_mem_cons.mpr ⟨lw_p13, List.forall_mem_cons.mpr ⟨lw_p14, List.forall_mem_cons.mpr ⟨lw_p15, fun _ h => absurd h List.not_mem_nil⟩⟩⟩⟩⟩⟩⟩⟩⟩⟩⟩⟩⟩⟩⟩⟩
theorem lw_p16 : lw_okq (⟨"LeastAskedModel", "refusesPair", "(II)I"⟩, 32) := ⟨⟨by decide +kernel, by decide +kernel⟩, List.mem_of_getElem? (i := 614) (by decide +kernel), List.mem_of_getElem? (i := 821) (by decide +kernel), List.mem_of_getElem? (i := 822) (by decide +kernel)⟩
theorem lw_p17 : lw_okq (⟨"LeastAskedModel", "keep", "()V"⟩, 32) := ⟨⟨by decide +kernel, by decide +kernel⟩, List.mem_of_getElem? (i := 614) (by decide +kernel), List.mem_of_getElem? (i := 825) (by decide +kernel), List.mem_of_getElem? (i := 826) (by decide +kernel)⟩
theorem lw_p18 : lw_okq (⟨"LeastAskedModel", "goYear", "(II)I"⟩, 32) := ⟨⟨by decide +kernel, by decide +kernel⟩, List.mem_of_getElem? (i := 614) (by decide +kernel), List.mem_of_getElem? (i := 829) (by decide +kernel), List.mem_of_getElem? (i := 830) (by decide +kernel)⟩
theorem lw_p19 : lw_okq (⟨"LeastAskedModel", "does", "(II)Z"⟩, 32) := ⟨⟨by decide +kernel, by decide +kernel⟩, List.mem_of_getElem? (i := 614) (by decide +kernel), List.mem_of_getElem? (i := 833) (by decide +kernel), List.mem_of_getElem? (i := 834) (by decide +kernel)⟩
theorem lw_p20 : lw_okq (⟨"LeastAskedModel", "tellYear", "(I)I"⟩, 32) := ⟨⟨by decide +kernel, by decide +kernel⟩, List.mem_of_getElem? (i := 614) (by decide +kernel), List.mem_of_getElem? (i := 837) (by decide +kernel), List.mem_of_getElem? (i := 838) (by decide +kernel)⟩
theorem lw_p21 : lw_okq (⟨"LeastAskedModel", "putBack", "()V"⟩, 32) := ⟨⟨by decide +kernel, by decide +kernel⟩, List.mem_of_getElem? (i := 614) (by decide +kernel), List.mem_of_getElem? (i := 841) (by decide +kernel), List.mem_of_getElem? (i := 842) (by decide +kernel)⟩
theorem lw_p22 : lw_okq (⟨"LeastAskedModel", "planOf", "(III)I"⟩, 32) := ⟨⟨by decide +kernel, by decide +kernel⟩, List.mem_of_getElem? (i := 614) (by decide +kernel), List.mem_of_getElem? (i := 865) (by decide +kernel), List.mem_of_getElem? (i := 866) (by decide +kernel)⟩
theorem lw_p23 : lw_okq (⟨"LeastAskedModel", "findAsked", "(I)V"⟩, 32) := ⟨⟨by decide +kernel, by decide +kernel⟩, List.mem_of_getElem? (i := 614) (by decide +kernel), List.mem_of_getElem? (i := 869) (by decide +kernel), List.mem_of_getElem? (i := 870) (by decide +kernel)⟩
theorem lw_p24 : lw_okq (⟨"LeastAskedModel", "findRow", "(II)V"⟩, 32) := ⟨⟨by decide +kernel, by decide +kernel⟩, List.mem_of_getElem? (i := 614) (by decide +kernel), List.mem_of_getElem? (i := 876) (by decide +kernel), List.mem_of_getElem? (i := 877) (by decide +kernel)⟩
theorem lw_p25 : lw_okq (⟨"LeastAskedModel", "broughtByRow", "(II)I"⟩, 32) := ⟨⟨by decide +kernel, by decide +kernel⟩, List.mem_of_getElem? (i := 614) (by decide +kernel), List.mem_of_getElem? (i := 880) (by decide +kernel), List.mem_of_getElem? (i := 881) (by decide +kernel)⟩
theorem lw_p26 : lw_okq (⟨"LeastAskedModel", "canGive", "(I)Z"⟩, 32) := ⟨⟨by decide +kernel, by decide +kernel⟩, List.mem_of_getElem? (i := 614) (by decide +kernel), List.mem_of_getElem? (i := 888) (by decide +kernel), List.mem_of_getElem? (i := 889) (by decide +kernel)⟩
theorem lw_p27 : lw_okq (⟨"LeastAskedModel", "tryGiven", "()V"⟩, 32) := ⟨⟨by decide +kernel, by decide +kernel⟩, List.mem_of_getElem? (i := 614) (by decide +kernel), List.mem_of_getElem? (i := 892) (by decide +kernel), List.mem_of_getElem? (i := 893) (by decide +kernel)⟩
theorem lw_p28 : lw_okq (⟨"LeastAskedModel", "areSo", "()Z"⟩, 32) := ⟨⟨by decide +kernel, by decide +kernel⟩, List.mem_of_getElem? (i := 614) (by decide +kernel), List.mem_of_getElem? (i := 908) (by decide +kernel), List.mem_of_getElem? (i := 909) (by decide +kernel)⟩
theorem lw_p29 : lw_okq (⟨"LeastAskedModel", "lost", "(I)J"⟩, 32) := ⟨⟨by decide +kernel, by decide +kernel⟩, List.mem_of_getElem? (i := 614) (by decide +kernel), List.mem_of_getElem? (i := 949) (by decide +kernel), List.mem_of_getElem? (i := 950) (by decide +kernel)⟩
theorem lw_p30 : lw_okq (⟨"LeastAskedModel", "begins", "(I)V"⟩, 32) := ⟨⟨by decide +kernel, by decide +kernel⟩, List.mem_of_getElem? (i := 614) (by decide +kernel), List.mem_of_getElem? (i := 961) (by decide +kernel), List.mem_of_getElem? (i := 962) (by decide +kernel)⟩
def lw_privs_2 : List (MethodName × Nat) := [(⟨"LeastAskedModel", "refusesPair", "(II)I"⟩, 32), (⟨"LeastAskedModel", "keep", "()V"⟩, 32), (⟨"LeastAskedModel", "goYear", "(II)I"⟩, 32), (⟨"LeastAskedModel", "does", "(II)Z"⟩, 32), (⟨"LeastAskedModel", "tellYear", "(I)I"⟩, 32), (⟨"LeastAskedModel", "putBack", "()V"⟩, 32), (⟨"LeastAskedModel", "planOf", "(III)I"⟩, 32), (⟨"LeastAskedModel", "findAsked", "(I)V"⟩, 32), (⟨"LeastAskedModel", "findRow", "(II)V"⟩, 32), (⟨"LeastAskedModel", "broughtByRow", "(II)I"⟩, 32), (⟨"LeastAskedModel", "canGive", "(I)Z"⟩, 32), (⟨"LeastAskedModel", "tryGiven", "()V"⟩, 32), (⟨"LeastAskedModel", "areSo", "()Z"⟩, 32), (⟨"LeastAskedModel", "lost", "(I)J"⟩, 32), (⟨"LeastAskedModel", "begins", "(I)V"⟩, 32)]
theorem lw_r2 : ∀ q ∈ lw_privs_2, lw_okq q := List.forall_mem_cons.mpr ⟨lw_p16, List.forall_mem_cons.mpr ⟨lw_p17, List.forall_mem_cons.mpr ⟨lw_p18, List.forall_mem_cons.mpr ⟨lw_p19, List.forall_mem_cons.mpr ⟨lw_p20, List.forall_mem_cons.mpr ⟨lw_p21, List.forall_mem_cons.mpr ⟨lw_p22, List.forall_mem_cons.mpr ⟨lw_p23, List.forall_mem_cons.mpr ⟨lw_p24, List.forall_mem_cons.mpr ⟨lw_p25, List.forall_mem_cons.mpr ⟨lw_p26, List.forall_mem_cons.mpr ⟨lw_p27, List.forall_mem_cons.mpr ⟨lw_p28, List.forall_mem_cons.mpr ⟨lw_p29, List.forall_mem_cons.mpr ⟨lw_p30, fun _ h => absurd h List.not_mem_nil⟩⟩⟩⟩⟩⟩⟩⟩⟩⟩⟩⟩⟩⟩⟩
def lw_privs : List (MethodName × Nat) := lw_privs_1 ++ (lw_privs_2)
def lw_tbl : List Cond := k2_sels lw_privs ++ tables_1
theorem lw_privs_ok : ∀ q ∈ lw_privs, lw_okq q := by
  show ∀ q ∈ lw_privs_1 ++ (lw_privs_2), lw_okq q
  exact List.forall_mem_append.mpr ⟨lw_r1, lw_r2⟩
-- ===== end of PART A; then your names; then what follows =====
end
section
/-! ===== BEGIN words of one list among another's, by their places ===== -/
theorem goodIn_r {big : List Cond} (ws : List Cond) (ps : List Nat) (hp : ws = ps.filterMap (fun i => big[i]?)) (h : ws.all goodWord = true) : GoodIn big ws := by
  intro w hw
  have h1 := List.all_eq_true.mp h w hw
  rw [hp] at hw
  obtain ⟨i, -, hi⟩ := List.mem_filterMap.mp hw
  have hm : w ∈ big := by first | exact List.mem_of_getElem? hi | exact List.getElem?_mem hi
  exact ⟨hm, good_of_word h1⟩
theorem goodIn_app {big a b : List Cond} (ha : GoodIn big a) (hb : GoodIn big b) : GoodIn big (a ++ b) := fun w h => (List.mem_append.mp h).elim (ha w) (hb w)
theorem goodIn_ca {big a b : List Cond} {c : Cond} (ha : GoodIn big (c :: a)) (hb : GoodIn big b) : GoodIn big (c :: (a ++ b)) := fun w h => (List.mem_cons.mp h).elim (fun e => ha w (List.mem_cons.mpr (Or.inl e))) (fun h => (List.mem_append.mp h).elim (fun h => ha w (List.mem_cons.mpr (Or.inr h))) (hb w))
theorem goodIn_sub {big ws : List Cond} (hm : ∀ w ∈ ws, w ∈ big) (h : ws.all goodWord = true) : GoodIn big ws := fun w hw => ⟨hm w hw, good_of_word (List.all_eq_true.mp h w hw)⟩
/-! ===== END ===== -/

/-! ===== BEGIN printed: names, fields, word lists, decode rows ===== -/
def RX0 : String := "LeastAsked$Bodies"
def TX0 : u_T := fun k => match k with
  | _ => ("LeastAsked$Bodies", "left", "I", false)
def tyX0 : Nat → FieldType := fun k => match k with
  | _ => .int
abbrev wsX00 : List Cond := u_ws RX0 TX0 1
theorem nmX0 : ∀ a, a < 1 → ∀ b, b < 1 → a ≠ b → (TX0 a).2.1 ≠ (TX0 b).2.1 := by decide +kernel
theorem tyX0_ok : ∀ k, k < 1 → parseFieldDescriptor (TX0 k).2.2.1 = some (tyX0 k) := by decide +kernel
abbrev cX0_init : ByteArray := prog_2_method_1_code
def yX0_init : MethodName := ⟨RX0, "<init>", "()V"⟩
abbrev cX0_begin : ByteArray := prog_2_method_2_code
def yX0_begin : MethodName := ⟨RX0, "begin", "(I)V"⟩
abbrev cX0_telling : ByteArray := prog_2_method_3_code
def yX0_telling : MethodName := ⟨RX0, "telling", "(LLeastAsked$Person;)I"⟩
abbrev cX0_gooseherdTelling : ByteArray := prog_2_method_4_code
def yX0_gooseherdTelling : MethodName := ⟨RX0, "gooseherdTelling", "(LLeastAsked$Person;)I"⟩
abbrev cX0_twinTelling : ByteArray := prog_2_method_5_code
def yX0_twinTelling : MethodName := ⟨RX0, "twinTelling", "(LLeastAsked$Person;)I"⟩
abbrev cX0_hermitTelling : ByteArray := prog_2_method_6_code
def yX0_hermitTelling : MethodName := ⟨RX0, "hermitTelling", "(LLeastAsked$Person;)I"⟩
abbrev cX0_greeting : ByteArray := prog_2_method_7_code
def yX0_greeting : MethodName := ⟨RX0, "greeting", "(LLeastAsked$Person;)I"⟩
def RX1 : String := "LeastAsked$Giver"
def TX1 : u_T := fun k => match k with
  | 0 => ("LeastAsked$Giver", "row", "[I", true)
  | _ => ("LeastAsked$Giver", "most", "I", false)
def tyX1 : Nat → FieldType := fun k => match k with
  | 0 => .array .int
  | _ => .int
abbrev wsX10 : List Cond := u_ws RX1 TX1 2
theorem nmX1 : ∀ a, a < 2 → ∀ b, b < 2 → a ≠ b → (TX1 a).2.1 ≠ (TX1 b).2.1 := by decide +kernel
theorem tyX1_ok : ∀ k, k < 2 → parseFieldDescriptor (TX1 k).2.2.1 = some (tyX1 k) := by decide +kernel
abbrev cX1_init : ByteArray := prog_3_method_1_code
def yX1_init : MethodName := ⟨RX1, "<init>", "()V"⟩
abbrev cX1_give : ByteArray := prog_3_method_2_code
def yX1_give : MethodName := ⟨RX1, "give", "(LLeastAsked$Province;)V"⟩
abbrev cX1_consider : ByteArray := prog_3_method_3_code
def yX1_consider : MethodName := ⟨RX1, "consider", "(IIILLeastAsked$Province;)V"⟩
abbrev cX1_gain : ByteArray := prog_3_method_4_code
def yX1_gain : MethodName := ⟨RX1, "gain", "(IILLeastAsked$Province;)I"⟩
def RX2 : String := "LeastAsked$Person"
def TX2 : u_T := fun k => match k with
  | 0 => ("LeastAsked$Person", "kind", "I", false)
  | 1 => ("LeastAsked$Person", "asked", "I", false)
  | 2 => ("LeastAsked$Person", "knows", "I", false)
  | _ => ("LeastAsked$Person", "wit", "I", false)
def tyX2 : Nat → FieldType := fun k => match k with
  | 0 => .int
  | 1 => .int
  | 2 => .int
  | _ => .int
abbrev wsX20 : List Cond := u_ws RX2 TX2 4
theorem nmX2 : ∀ a, a < 4 → ∀ b, b < 4 → a ≠ b → (TX2 a).2.1 ≠ (TX2 b).2.1 := by decide +kernel
theorem tyX2_ok : ∀ k, k < 4 → parseFieldDescriptor (TX2 k).2.2.1 = some (tyX2 k) := by decide +kernel
abbrev cX2_init : ByteArray := prog_4_method_1_code
def yX2_init : MethodName := ⟨RX2, "<init>", "()V"⟩
abbrev cX2_isKnowing : ByteArray := prog_4_method_2_code
def yX2_isKnowing : MethodName := ⟨RX2, "isKnowing", "(I)Z"⟩
abbrev cX2_saying : ByteArray := prog_4_method_3_code
def yX2_saying : MethodName := ⟨RX2, "saying", "()I"⟩
abbrev cX2_becomeLike : ByteArray := prog_4_method_4_code
def yX2_becomeLike : MethodName := ⟨RX2, "becomeLike", "(LLeastAsked$Person;)V"⟩
def RX3 : String := "LeastAsked$Planner"
def TX3 : u_T := fun k => match k with
  | 0 => ("LeastAsked$Planner", "matters", "[I", true)
  | 1 => ("LeastAsked$Planner", "whoIsAsked", "[I", true)
  | 2 => ("LeastAsked$Planner", "row", "[I", true)
  | 3 => ("LeastAsked$Planner", "mostAfter", "[I", true)
  | _ => ("LeastAsked$Planner", "length", "I", false)
def tyX3 : Nat → FieldType := fun k => match k with
  | 0 => .array .int
  | 1 => .array .int
  | 2 => .array .int
  | 3 => .array .int
  | _ => .int
abbrev wsX30 : List Cond := u_ws RX3 TX3 5
theorem nmX3 : ∀ a, a < 5 → ∀ b, b < 5 → a ≠ b → (TX3 a).2.1 ≠ (TX3 b).2.1 := by decide +kernel
theorem tyX3_ok : ∀ k, k < 5 → parseFieldDescriptor (TX3 k).2.2.1 = some (tyX3 k) := by decide +kernel
abbrev cX3_init : ByteArray := prog_5_method_1_code
def yX3_init : MethodName := ⟨RX3, "<init>", "()V"⟩
abbrev cX3_make : ByteArray := prog_5_method_2_code
def yX3_make : MethodName := ⟨RX3, "make", "(LLeastAsked$Sheet;IILLeastAsked$Province;)V"⟩
abbrev cX3_mostWith : ByteArray := prog_5_method_3_code
def yX3_mostWith : MethodName := ⟨RX3, "mostWith", "(IILLeastAsked$Province;)I"⟩
abbrev cX3_nextPlace : ByteArray := prog_5_method_4_code
def yX3_nextPlace : MethodName := ⟨RX3, "nextPlace", "(ILLeastAsked$Province;)I"⟩
abbrev cX3_answer : ByteArray := prog_5_method_5_code
def yX3_answer : MethodName := ⟨RX3, "answer", "(I)I"⟩
def RX4 : String := "LeastAsked$Province"
def TX4 : u_T := fun k => match k with
  | 0 => ("LeastAsked$Province", "worths", "[I", true)
  | 1 => ("LeastAsked$Province", "people", "[LLeastAsked$Person;", true)
  | _ => ("LeastAsked$Province", "count", "I", false)
def tyX4 : Nat → FieldType := fun k => match k with
  | 0 => .array .int
  | 1 => .array (.object "LeastAsked$Person")
  | _ => .int
abbrev wsX40 : List Cond := u_ws RX4 TX4 3
theorem nmX4 : ∀ a, a < 3 → ∀ b, b < 3 → a ≠ b → (TX4 a).2.1 ≠ (TX4 b).2.1 := by decide +kernel
theorem tyX4_ok : ∀ k, k < 3 → parseFieldDescriptor (TX4 k).2.2.1 = some (tyX4 k) := by decide +kernel
abbrev cX4_init : ByteArray := prog_6_method_1_code
def yX4_init : MethodName := ⟨RX4, "<init>", "()V"⟩
abbrev cX4_becomeLike : ByteArray := prog_6_method_2_code
def yX4_becomeLike : MethodName := ⟨RX4, "becomeLike", "(LLeastAsked$Province;)V"⟩
abbrev cX4_suppose : ByteArray := prog_6_method_3_code
def yX4_suppose : MethodName := ⟨RX4, "suppose", "(III)V"⟩
abbrev cX4_hasPerson : ByteArray := prog_6_method_4_code
def yX4_hasPerson : MethodName := ⟨RX4, "hasPerson", "(I)Z"⟩
abbrev cX4_hasMatter : ByteArray := prog_6_method_5_code
def yX4_hasMatter : MethodName := ⟨RX4, "hasMatter", "(I)Z"⟩
abbrev cX4_bringing : ByteArray := prog_6_method_6_code
def yX4_bringing : MethodName := ⟨RX4, "bringing", "(II)I"⟩
abbrev cX4_first : ByteArray := prog_6_method_7_code
def yX4_first : MethodName := ⟨RX4, "first", "()I"⟩
abbrev cX4_placeOf : ByteArray := prog_6_method_8_code
def yX4_placeOf : MethodName := ⟨RX4, "placeOf", "(I)I"⟩
abbrev cX4_atPlace : ByteArray := prog_6_method_9_code
def yX4_atPlace : MethodName := ⟨RX4, "atPlace", "(I)I"⟩
abbrev cX4_timesAhead : ByteArray := prog_6_method_10_code
def yX4_timesAhead : MethodName := ⟨RX4, "timesAhead", "(II)I"⟩
abbrev cX4_questionsAheadOf : ByteArray := prog_6_method_11_code
def yX4_questionsAheadOf : MethodName := ⟨RX4, "questionsAheadOf", "(I)I"⟩
abbrev cX4_feintsTillKnown : ByteArray := prog_6_method_12_code
def yX4_feintsTillKnown : MethodName := ⟨RX4, "feintsTillKnown", "(I)I"⟩
abbrev cX4_questionsTillEven : ByteArray := prog_6_method_13_code
def yX4_questionsTillEven : MethodName := ⟨RX4, "questionsTillEven", "()I"⟩
def RX5 : String := "LeastAsked$Readings"
def TX5 : u_T := fun k => match k with
  | 0 => ("LeastAsked$Readings", "persons", "[I", true)
  | 1 => ("LeastAsked$Readings", "matters", "[I", true)
  | 2 => ("LeastAsked$Readings", "values", "[I", true)
  | _ => ("LeastAsked$Readings", "count", "I", false)
def tyX5 : Nat → FieldType := fun k => match k with
  | 0 => .array .int
  | 1 => .array .int
  | 2 => .array .int
  | _ => .int
abbrev wsX50 : List Cond := u_ws RX5 TX5 4
theorem nmX5 : ∀ a, a < 4 → ∀ b, b < 4 → a ≠ b → (TX5 a).2.1 ≠ (TX5 b).2.1 := by decide +kernel
theorem tyX5_ok : ∀ k, k < 4 → parseFieldDescriptor (TX5 k).2.2.1 = some (tyX5 k) := by decide +kernel
abbrev cX5_init : ByteArray := prog_7_method_1_code
def yX5_init : MethodName := ⟨RX5, "<init>", "()V"⟩
abbrev cX5_take : ByteArray := prog_7_method_2_code
def yX5_take : MethodName := ⟨RX5, "take", "(III)I"⟩
abbrev cX5_allSo : ByteArray := prog_7_method_3_code
def yX5_allSo : MethodName := ⟨RX5, "allSo", "(LLeastAsked$Province;)Z"⟩
def RX6 : String := "LeastAsked$Sheet"
def TX6 : u_T := fun k => match k with
  | 0 => ("LeastAsked$Sheet", "cells", "[I", true)
  | 1 => ("LeastAsked$Sheet", "filled", "Z", false)
  | 2 => ("LeastAsked$Sheet", "lane", "I", false)
  | _ => ("LeastAsked$Sheet", "length", "I", false)
def tyX6 : Nat → FieldType := fun k => match k with
  | 0 => .array .int
  | 1 => .boolean
  | 2 => .int
  | _ => .int
abbrev wsX60 : List Cond := u_ws RX6 TX6 4
theorem nmX6 : ∀ a, a < 4 → ∀ b, b < 4 → a ≠ b → (TX6 a).2.1 ≠ (TX6 b).2.1 := by decide +kernel
theorem tyX6_ok : ∀ k, k < 4 → parseFieldDescriptor (TX6 k).2.2.1 = some (tyX6 k) := by decide +kernel
abbrev cX6_init : ByteArray := prog_8_method_1_code
def yX6_init : MethodName := ⟨RX6, "<init>", "()V"⟩
abbrev cX6_begin : ByteArray := prog_8_method_2_code
def yX6_begin : MethodName := ⟨RX6, "begin", "(II)V"⟩
abbrev cX6_cut : ByteArray := prog_8_method_3_code
def yX6_cut : MethodName := ⟨RX6, "cut", "(I)I"⟩
abbrev cX6_faultAs : ByteArray := prog_8_method_4_code
def yX6_faultAs : MethodName := ⟨RX6, "faultAs", "(I)I"⟩
abbrev cX6_holds : ByteArray := prog_8_method_5_code
def yX6_holds : MethodName := ⟨RX6, "holds", "(II)Z"⟩
def RX7 : String := "LeastAsked$Text"
def TX7 : u_T := fun k => match k with
  | _ => ("", "", "", false)
def tyX7 : Nat → FieldType := fun k => match k with
  | _ => .int
abbrev wsX70 : List Cond := u_ws RX7 TX7 0
theorem nmX7 : ∀ a, a < 0 → ∀ b, b < 0 → a ≠ b → (TX7 a).2.1 ≠ (TX7 b).2.1 := by decide +kernel
theorem tyX7_ok : ∀ k, k < 0 → parseFieldDescriptor (TX7 k).2.2.1 = some (tyX7 k) := by decide +kernel
abbrev cX7_firstFault : ByteArray := prog_9_method_2_code
def yX7_firstFault : MethodName := ⟨RX7, "firstFault", "(LLeastAsked$Sheet;II)I"⟩
abbrev cX7_mayStand : ByteArray := prog_9_method_3_code
def yX7_mayStand : MethodName := ⟨RX7, "mayStand", "(II)Z"⟩
abbrev cX7_isDigit : ByteArray := prog_9_method_4_code
def yX7_isDigit : MethodName := ⟨RX7, "isDigit", "(II)Z"⟩
abbrev cX7_kindOf : ByteArray := prog_9_method_5_code
def yX7_kindOf : MethodName := ⟨RX7, "kindOf", "(I)I"⟩
abbrev cX7_read : ByteArray := prog_9_method_6_code
def yX7_read : MethodName := ⟨RX7, "read", "(LLeastAsked$Sheet;IILLeastAsked$Province;)V"⟩
def RX8 : String := "LeastAsked$YearRun"
def TX8 : u_T := fun k => match k with
  | 0 => ("LeastAsked$YearRun", "brought", "I", false)
  | 1 => ("LeastAsked$YearRun", "askedSet", "I", false)
  | 2 => ("LeastAsked$YearRun", "toKnowing", "I", false)
  | _ => ("LeastAsked$YearRun", "wrong", "I", false)
def tyX8 : Nat → FieldType := fun k => match k with
  | 0 => .int
  | 1 => .int
  | 2 => .int
  | _ => .int
abbrev wsX80 : List Cond := u_ws RX8 TX8 4
theorem nmX8 : ∀ a, a < 4 → ∀ b, b < 4 → a ≠ b → (TX8 a).2.1 ≠ (TX8 b).2.1 := by decide +kernel
theorem tyX8_ok : ∀ k, k < 4 → parseFieldDescriptor (TX8 k).2.2.1 = some (tyX8 k) := by decide +kernel
abbrev cX8_init : ByteArray := prog_10_method_1_code
def yX8_init : MethodName := ⟨RX8, "<init>", "()V"⟩
abbrev cX8_tells : ByteArray := prog_10_method_2_code
def yX8_tells : MethodName := ⟨RX8, "tells", "(I)Z"⟩
abbrev cX8_isLearner : ByteArray := prog_10_method_3_code
def yX8_isLearner : MethodName := ⟨RX8, "isLearner", "(I)Z"⟩
abbrev cX8_refusal : ByteArray := prog_10_method_4_code
def yX8_refusal : MethodName := ⟨RX8, "refusal", "(LLeastAsked$Sheet;IILLeastAsked$Province;)I"⟩
abbrev cX8_pairRefusal : ByteArray := prog_10_method_5_code
def yX8_pairRefusal : MethodName := ⟨RX8, "pairRefusal", "(IILLeastAsked$Province;)I"⟩
abbrev cX8_go : ByteArray := prog_10_method_6_code
def yX8_go : MethodName := ⟨RX8, "go", "(LLeastAsked$Sheet;IILLeastAsked$Province;)V"⟩
abbrev cX8_isDone : ByteArray := prog_10_method_7_code
def yX8_isDone : MethodName := ⟨RX8, "isDone", "(IILLeastAsked$Province;)Z"⟩
abbrev cX8_ask : ByteArray := prog_10_method_8_code
def yX8_ask : MethodName := ⟨RX8, "ask", "(ILLeastAsked$Province;)V"⟩
abbrev cX8_answer : ByteArray := prog_10_method_9_code
def yX8_answer : MethodName := ⟨RX8, "answer", "(ILLeastAsked$Province;)I"⟩
def RX9 : String := "LeastAsked"
def TX9 : u_T := fun k => match k with
  | 0 => ("LeastAsked", "sheets", "[LLeastAsked$Sheet;", true)
  | 1 => ("LeastAsked", "now", "LLeastAsked$Province;", true)
  | 2 => ("LeastAsked", "trial", "LLeastAsked$Province;", true)
  | 3 => ("LeastAsked", "yearRun", "LLeastAsked$YearRun;", true)
  | 4 => ("LeastAsked", "planner", "LLeastAsked$Planner;", true)
  | 5 => ("LeastAsked", "giver", "LLeastAsked$Giver;", true)
  | 6 => ("LeastAsked", "readings", "LLeastAsked$Readings;", true)
  | 7 => ("LeastAsked", "bodies", "LLeastAsked$Bodies;", true)
  | 8 => ("LeastAsked", "questions", "I", false)
  | 9 => ("LeastAsked", "brought", "I", false)
  | _ => ("LeastAsked", "lastFault", "I", false)
def tyX9 : Nat → FieldType := fun k => match k with
  | 0 => .array (.object "LeastAsked$Sheet")
  | 1 => .object "LeastAsked$Province"
  | 2 => .object "LeastAsked$Province"
  | 3 => .object "LeastAsked$YearRun"
  | 4 => .object "LeastAsked$Planner"
  | 5 => .object "LeastAsked$Giver"
  | 6 => .object "LeastAsked$Readings"
  | 7 => .object "LeastAsked$Bodies"
  | 8 => .int
  | 9 => .int
  | _ => .int
abbrev wsX90 : List Cond := u_ws RX9 TX9 11
theorem nmX9 : ∀ a, a < 11 → ∀ b, b < 11 → a ≠ b → (TX9 a).2.1 ≠ (TX9 b).2.1 := by decide +kernel
theorem tyX9_ok : ∀ k, k < 11 → parseFieldDescriptor (TX9 k).2.2.1 = some (tyX9 k) := by decide +kernel
abbrev cX9_init : ByteArray := prog_1_method_1_code
def yX9_init : MethodName := ⟨RX9, "<init>", "()V"⟩
abbrev cX9_province : ByteArray := prog_1_method_2_code
def yX9_province : MethodName := ⟨RX9, "province", "(IIII)I"⟩
abbrev cX9_ofPerson : ByteArray := prog_1_method_3_code
def yX9_ofPerson : MethodName := ⟨RX9, "ofPerson", "(II)I"⟩
abbrev cX9_worth : ByteArray := prog_1_method_4_code
def yX9_worth : MethodName := ⟨RX9, "worth", "(I)I"⟩
abbrev cX9_weigh : ByteArray := prog_1_method_5_code
def yX9_weigh : MethodName := ⟨RX9, "weigh", "(II)I"⟩
abbrev cX9_teach : ByteArray := prog_1_method_6_code
def yX9_teach : MethodName := ⟨RX9, "teach", "(II)I"⟩
abbrev cX9_sharpen : ByteArray := prog_1_method_7_code
def yX9_sharpen : MethodName := ⟨RX9, "sharpen", "(II)I"⟩
abbrev cX9_brings : ByteArray := prog_1_method_8_code
def yX9_brings : MethodName := ⟨RX9, "brings", "(II)I"⟩
abbrev cX9_question : ByteArray := prog_1_method_9_code
def yX9_question : MethodName := ⟨RX9, "question", "(I)I"⟩
abbrev cX9_feint : ByteArray := prog_1_method_10_code
def yX9_feint : MethodName := ⟨RX9, "feint", "(I)I"⟩
abbrev cX9_year : ByteArray := prog_1_method_11_code
def yX9_year : MethodName := ⟨RX9, "year", "(IIIII)I"⟩
abbrev cX9_register : ByteArray := prog_1_method_12_code
def yX9_register : MethodName := ⟨RX9, "register", "(I)I"⟩
abbrev cX9_turn : ByteArray := prog_1_method_13_code
def yX9_turn : MethodName := ⟨RX9, "turn", "(I)I"⟩
abbrev cX9_steer : ByteArray := prog_1_method_14_code
def yX9_steer : MethodName := ⟨RX9, "steer", "(I)I"⟩
abbrev cX9_even : ByteArray := prog_1_method_15_code
def yX9_even : MethodName := ⟨RX9, "even", "()I"⟩
abbrev cX9_plan : ByteArray := prog_1_method_16_code
def yX9_plan : MethodName := ⟨RX9, "plan", "(IIIII)I"⟩
abbrev cX9_best : ByteArray := prog_1_method_17_code
def yX9_best : MethodName := ⟨RX9, "best", "(I)I"⟩
abbrev cX9_reading : ByteArray := prog_1_method_18_code
def yX9_reading : MethodName := ⟨RX9, "reading", "(III)I"⟩
abbrev cX9_back : ByteArray := prog_1_method_19_code
def yX9_back : MethodName := ⟨RX9, "back", "(I)I"⟩
abbrev cX9_knowings : ByteArray := prog_1_method_20_code
def yX9_knowings : MethodName := ⟨RX9, "knowings", "(I)I"⟩
abbrev cX9_wits : ByteArray := prog_1_method_21_code
def yX9_wits : MethodName := ⟨RX9, "wits", "(I)I"⟩
abbrev cX9_kinds : ByteArray := prog_1_method_22_code
def yX9_kinds : MethodName := ⟨RX9, "kinds", "(I)I"⟩
abbrev cX9_worths : ByteArray := prog_1_method_23_code
def yX9_worths : MethodName := ⟨RX9, "worths", "(I)I"⟩
abbrev cX9_odds : ByteArray := prog_1_method_24_code
def yX9_odds : MethodName := ⟨RX9, "odds", "(III)J"⟩
abbrev cX9_sheet : ByteArray := prog_1_method_25_code
def yX9_sheet : MethodName := ⟨RX9, "sheet", "(III)I"⟩
abbrev cX9_lose : ByteArray := prog_1_method_26_code
def yX9_lose : MethodName := ⟨RX9, "lose", "(I)I"⟩
abbrev cX9_put : ByteArray := prog_1_method_27_code
def yX9_put : MethodName := ⟨RX9, "put", "(III)I"⟩
abbrev cX9_cell : ByteArray := prog_1_method_28_code
def yX9_cell : MethodName := ⟨RX9, "cell", "(III)J"⟩
abbrev cX9_copy : ByteArray := prog_1_method_29_code
def yX9_copy : MethodName := ⟨RX9, "copy", "(IIIII)I"⟩
abbrev cX9_tell : ByteArray := prog_1_method_30_code
def yX9_tell : MethodName := ⟨RX9, "tell", "(I)I"⟩
abbrev cX9_greet : ByteArray := prog_1_method_31_code
def yX9_greet : MethodName := ⟨RX9, "greet", "(I)I"⟩
abbrev cX9_as : ByteArray := prog_1_method_32_code
def yX9_as : MethodName := ⟨RX9, "as", "(II)I"⟩
abbrev cX9_trace : ByteArray := prog_1_method_33_code
def yX9_trace : MethodName := ⟨RX9, "trace", "()I"⟩
abbrev cX9_fault : ByteArray := prog_1_method_34_code
def yX9_fault : MethodName := ⟨RX9, "fault", "()I"⟩
abbrev cX9_many : ByteArray := prog_1_method_35_code
def yX9_many : MethodName := ⟨RX9, "many", "(I)I"⟩
abbrev cX9_isBelow : ByteArray := prog_1_method_36_code
def yX9_isBelow : MethodName := ⟨RX9, "isBelow", "(II)Z"⟩
abbrev cX9_isSheet : ByteArray := prog_1_method_37_code
def yX9_isSheet : MethodName := ⟨RX9, "isSheet", "(I)Z"⟩
abbrev cX9_isLane : ByteArray := prog_1_method_38_code
def yX9_isLane : MethodName := ⟨RX9, "isLane", "(I)Z"⟩
abbrev cX9_failed : ByteArray := prog_1_method_39_code
def yX9_failed : MethodName := ⟨RX9, "failed", "(I)I"⟩
abbrev cX9_rowFault : ByteArray := prog_1_method_40_code
def yX9_rowFault : MethodName := ⟨RX9, "rowFault", "(LLeastAsked$Sheet;III)I"⟩
abbrev cX9_possible : ByteArray := prog_1_method_41_code
def yX9_possible : MethodName := ⟨RX9, "possible", "(III)I"⟩
abbrev cX9_waysToBring : ByteArray := prog_1_method_42_code
def yX9_waysToBring : MethodName := ⟨RX9, "waysToBring", "(II)I"⟩
abbrev cX9_commonDivisor : ByteArray := prog_1_method_43_code
def yX9_commonDivisor : MethodName := ⟨RX9, "commonDivisor", "(II)I"⟩
def RX10 : String := "LeastAskedModel"
def TX10 : u_T := fun k => match k with
  | 0 => ("LeastAskedModel", "fault", "I", false)
  | 1 => ("LeastAskedModel", "trace", "I", false)
  | 2 => ("LeastAskedModel", "sorts", "[I", true)
  | 3 => ("LeastAskedModel", "sheetLong", "[I", true)
  | 4 => ("LeastAskedModel", "cells", "[I", true)
  | 5 => ("LeastAskedModel", "people", "I", false)
  | 6 => ("LeastAskedModel", "questions", "I", false)
  | 7 => ("LeastAskedModel", "allBrought", "I", false)
  | 8 => ("LeastAskedModel", "worths", "[I", true)
  | 9 => ("LeastAskedModel", "kind", "[I", true)
  | 10 => ("LeastAskedModel", "asked", "[I", true)
  | 11 => ("LeastAskedModel", "knows", "[I", true)
  | 12 => ("LeastAskedModel", "wit", "[I", true)
  | 13 => ("LeastAskedModel", "at", "I", false)
  | 14 => ("LeastAskedModel", "readPeople", "I", false)
  | 15 => ("LeastAskedModel", "readWorths", "[I", true)
  | 16 => ("LeastAskedModel", "read", "[I", true)
  | 17 => ("LeastAskedModel", "keptAsked", "[I", true)
  | 18 => ("LeastAskedModel", "keptKnows", "[I", true)
  | 19 => ("LeastAskedModel", "yearBrought", "I", false)
  | 20 => ("LeastAskedModel", "yearAsked", "I", false)
  | 21 => ("LeastAskedModel", "yearKnown", "I", false)
  | 22 => ("LeastAskedModel", "row", "[I", true)
  | 23 => ("LeastAskedModel", "askedThen", "[I", true)
  | 24 => ("LeastAskedModel", "given", "[I", true)
  | 25 => ("LeastAskedModel", "bestGiven", "[I", true)
  | 26 => ("LeastAskedModel", "bestMany", "I", false)
  | 27 => ("LeastAskedModel", "bestSum", "I", false)
  | 28 => ("LeastAskedModel", "readings", "I", false)
  | 29 => ("LeastAskedModel", "readWho", "[I", true)
  | 30 => ("LeastAskedModel", "readWhat", "[I", true)
  | _ => ("LeastAskedModel", "readBrought", "[I", true)
def tyX10 : Nat → FieldType := fun k => match k with
  | 0 => .int
  | 1 => .int
  | 2 => .array .int
  | 3 => .array .int
  | 4 => .array .int
  | 5 => .int
  | 6 => .int
  | 7 => .int
  | 8 => .array .int
  | 9 => .array .int
  | 10 => .array .int
  | 11 => .array .int
  | 12 => .array .int
  | 13 => .int
  | 14 => .int
  | 15 => .array .int
  | 16 => .array .int
  | 17 => .array .int
  | 18 => .array .int
  | 19 => .int
  | 20 => .int
  | 21 => .int
  | 22 => .array .int
  | 23 => .array .int
  | 24 => .array .int
  | 25 => .array .int
  | 26 => .int
  | 27 => .int
  | 28 => .int
  | 29 => .array .int
  | 30 => .array .int
  | _ => .array .int
abbrev wsX100 : List Cond := u_ws RX10 TX10 32
theorem nmX10 : ∀ a, a < 32 → ∀ b, b < 32 → a ≠ b → (TX10 a).2.1 ≠ (TX10 b).2.1 := by decide +kernel
theorem tyX10_ok : ∀ k, k < 32 → parseFieldDescriptor (TX10 k).2.2.1 = some (tyX10 k) := by decide +kernel
abbrev cX10_init : ByteArray := prog_12_method_1_code
def yX10_init : MethodName := ⟨RX10, "<init>", "()V"⟩
abbrev cX10_fails : ByteArray := prog_12_method_3_code
def yX10_fails : MethodName := ⟨RX10, "fails", "(I)I"⟩
abbrev cX10_lost : ByteArray := prog_12_method_4_code
def yX10_lost : MethodName := ⟨RX10, "lost", "(I)J"⟩
abbrev cX10_within : ByteArray := prog_12_method_5_code
def yX10_within : MethodName := ⟨RX10, "within", "(III)Z"⟩
abbrev cX10_isSheet : ByteArray := prog_12_method_6_code
def yX10_isSheet : MethodName := ⟨RX10, "isSheet", "(I)Z"⟩
abbrev cX10_isSort : ByteArray := prog_12_method_7_code
def yX10_isSort : MethodName := ⟨RX10, "isSort", "(I)Z"⟩
abbrev cX10_against : ByteArray := prog_12_method_8_code
def yX10_against : MethodName := ⟨RX10, "against", "(IIII)I"⟩
abbrev cX10_isPerson : ByteArray := prog_12_method_9_code
def yX10_isPerson : MethodName := ⟨RX10, "isPerson", "(I)Z"⟩
abbrev cX10_isMatter : ByteArray := prog_12_method_10_code
def yX10_isMatter : MethodName := ⟨RX10, "isMatter", "(I)Z"⟩
abbrev cX10_isOf : ByteArray := prog_12_method_11_code
def yX10_isOf : MethodName := ⟨RX10, "isOf", "(II)Z"⟩
abbrev cX10_digit : ByteArray := prog_12_method_12_code
def yX10_digit : MethodName := ⟨RX10, "digit", "(II)I"⟩
abbrev cX10_isSign : ByteArray := prog_12_method_13_code
def yX10_isSign : MethodName := ⟨RX10, "isSign", "(II)Z"⟩
abbrev cX10_province : ByteArray := prog_12_method_14_code
def yX10_province : MethodName := ⟨RX10, "province", "(IIII)I"⟩
abbrev cX10_takeProvince : ByteArray := prog_12_method_15_code
def yX10_takeProvince : MethodName := ⟨RX10, "takeProvince", "()V"⟩
abbrev cX10_readProvince : ByteArray := prog_12_method_16_code
def yX10_readProvince : MethodName := ⟨RX10, "readProvince", "(I)Z"⟩
abbrev cX10_readPerson : ByteArray := prog_12_method_17_code
def yX10_readPerson : MethodName := ⟨RX10, "readPerson", "(I)Z"⟩
abbrev cX10_saysOf : ByteArray := prog_12_method_18_code
def yX10_saysOf : MethodName := ⟨RX10, "saysOf", "(I)I"⟩
abbrev cX10_bringsOf : ByteArray := prog_12_method_19_code
def yX10_bringsOf : MethodName := ⟨RX10, "bringsOf", "(II)I"⟩
abbrev cX10_firstOf : ByteArray := prog_12_method_20_code
def yX10_firstOf : MethodName := ⟨RX10, "firstOf", "()I"⟩
abbrev cX10_placeOf : ByteArray := prog_12_method_21_code
def yX10_placeOf : MethodName := ⟨RX10, "placeOf", "(I)I"⟩
abbrev cX10_ofPerson : ByteArray := prog_12_method_22_code
def yX10_ofPerson : MethodName := ⟨RX10, "ofPerson", "(II)I"⟩
abbrev cX10_worth : ByteArray := prog_12_method_23_code
def yX10_worth : MethodName := ⟨RX10, "worth", "(I)I"⟩
abbrev cX10_weigh : ByteArray := prog_12_method_24_code
def yX10_weigh : MethodName := ⟨RX10, "weigh", "(II)I"⟩
abbrev cX10_teach : ByteArray := prog_12_method_25_code
def yX10_teach : MethodName := ⟨RX10, "teach", "(II)I"⟩
abbrev cX10_sharpen : ByteArray := prog_12_method_26_code
def yX10_sharpen : MethodName := ⟨RX10, "sharpen", "(II)I"⟩
abbrev cX10_brings : ByteArray := prog_12_method_27_code
def yX10_brings : MethodName := ⟨RX10, "brings", "(II)I"⟩
abbrev cX10_question : ByteArray := prog_12_method_28_code
def yX10_question : MethodName := ⟨RX10, "question", "(I)I"⟩
abbrev cX10_feint : ByteArray := prog_12_method_29_code
def yX10_feint : MethodName := ⟨RX10, "feint", "(I)I"⟩
abbrev cX10_keep : ByteArray := prog_12_method_30_code
def yX10_keep : MethodName := ⟨RX10, "keep", "()V"⟩
abbrev cX10_putBack : ByteArray := prog_12_method_31_code
def yX10_putBack : MethodName := ⟨RX10, "putBack", "()V"⟩
abbrev cX10_does : ByteArray := prog_12_method_32_code
def yX10_does : MethodName := ⟨RX10, "does", "(II)Z"⟩
abbrev cX10_goYear : ByteArray := prog_12_method_33_code
def yX10_goYear : MethodName := ⟨RX10, "goYear", "(II)I"⟩
abbrev cX10_refusesPair : ByteArray := prog_12_method_34_code
def yX10_refusesPair : MethodName := ⟨RX10, "refusesPair", "(II)I"⟩
abbrev cX10_year : ByteArray := prog_12_method_35_code
def yX10_year : MethodName := ⟨RX10, "year", "(IIIII)I"⟩
abbrev cX10_tellYear : ByteArray := prog_12_method_36_code
def yX10_tellYear : MethodName := ⟨RX10, "tellYear", "(I)I"⟩
abbrev cX10_register : ByteArray := prog_12_method_37_code
def yX10_register : MethodName := ⟨RX10, "register", "(I)I"⟩
abbrev cX10_turn : ByteArray := prog_12_method_38_code
def yX10_turn : MethodName := ⟨RX10, "turn", "(I)I"⟩
abbrev cX10_steer : ByteArray := prog_12_method_39_code
def yX10_steer : MethodName := ⟨RX10, "steer", "(I)I"⟩
abbrev cX10_even : ByteArray := prog_12_method_40_code
def yX10_even : MethodName := ⟨RX10, "even", "()I"⟩
abbrev cX10_ordersOf : ByteArray := prog_12_method_41_code
def yX10_ordersOf : MethodName := ⟨RX10, "ordersOf", "(I)I"⟩
abbrev cX10_findRow : ByteArray := prog_12_method_42_code
def yX10_findRow : MethodName := ⟨RX10, "findRow", "(II)V"⟩
abbrev cX10_findAsked : ByteArray := prog_12_method_43_code
def yX10_findAsked : MethodName := ⟨RX10, "findAsked", "(I)V"⟩
abbrev cX10_broughtByRow : ByteArray := prog_12_method_44_code
def yX10_broughtByRow : MethodName := ⟨RX10, "broughtByRow", "(II)I"⟩
abbrev cX10_plan : ByteArray := prog_12_method_45_code
def yX10_plan : MethodName := ⟨RX10, "plan", "(IIIII)I"⟩
abbrev cX10_planOf : ByteArray := prog_12_method_46_code
def yX10_planOf : MethodName := ⟨RX10, "planOf", "(III)I"⟩
abbrev cX10_canGive : ByteArray := prog_12_method_47_code
def yX10_canGive : MethodName := ⟨RX10, "canGive", "(I)Z"⟩
abbrev cX10_tryGiven : ByteArray := prog_12_method_48_code
def yX10_tryGiven : MethodName := ⟨RX10, "tryGiven", "()V"⟩
abbrev cX10_best : ByteArray := prog_12_method_49_code
def yX10_best : MethodName := ⟨RX10, "best", "(I)I"⟩
abbrev cX10_reading : ByteArray := prog_12_method_50_code
def yX10_reading : MethodName := ⟨RX10, "reading", "(III)I"⟩
abbrev cX10_back : ByteArray := prog_12_method_51_code
def yX10_back : MethodName := ⟨RX10, "back", "(I)I"⟩
abbrev cX10_areSo : ByteArray := prog_12_method_52_code
def yX10_areSo : MethodName := ⟨RX10, "areSo", "()Z"⟩
abbrev cX10_knowings : ByteArray := prog_12_method_53_code
def yX10_knowings : MethodName := ⟨RX10, "knowings", "(I)I"⟩
abbrev cX10_wits : ByteArray := prog_12_method_54_code
def yX10_wits : MethodName := ⟨RX10, "wits", "(I)I"⟩
abbrev cX10_kinds : ByteArray := prog_12_method_55_code
def yX10_kinds : MethodName := ⟨RX10, "kinds", "(I)I"⟩
abbrev cX10_worths : ByteArray := prog_12_method_56_code
def yX10_worths : MethodName := ⟨RX10, "worths", "(I)I"⟩
abbrev cX10_inLeastTerms : ByteArray := prog_12_method_57_code
def yX10_inLeastTerms : MethodName := ⟨RX10, "inLeastTerms", "(JJI)J"⟩
abbrev cX10_odds : ByteArray := prog_12_method_58_code
def yX10_odds : MethodName := ⟨RX10, "odds", "(III)J"⟩
abbrev cX10_sheet : ByteArray := prog_12_method_59_code
def yX10_sheet : MethodName := ⟨RX10, "sheet", "(III)I"⟩
abbrev cX10_lose : ByteArray := prog_12_method_60_code
def yX10_lose : MethodName := ⟨RX10, "lose", "(I)I"⟩
abbrev cX10_put : ByteArray := prog_12_method_61_code
def yX10_put : MethodName := ⟨RX10, "put", "(III)I"⟩
abbrev cX10_cell : ByteArray := prog_12_method_62_code
def yX10_cell : MethodName := ⟨RX10, "cell", "(III)J"⟩
abbrev cX10_copy : ByteArray := prog_12_method_63_code
def yX10_copy : MethodName := ⟨RX10, "copy", "(IIIII)I"⟩
abbrev cX10_begins : ByteArray := prog_12_method_64_code
def yX10_begins : MethodName := ⟨RX10, "begins", "(I)V"⟩
abbrev cX10_tell : ByteArray := prog_12_method_65_code
def yX10_tell : MethodName := ⟨RX10, "tell", "(I)I"⟩
abbrev cX10_greet : ByteArray := prog_12_method_66_code
def yX10_greet : MethodName := ⟨RX10, "greet", "(I)I"⟩
abbrev cX10_as : ByteArray := prog_12_method_67_code
def yX10_as : MethodName := ⟨RX10, "as", "(II)I"⟩
abbrev cX10_trace : ByteArray := prog_12_method_68_code
def yX10_trace : MethodName := ⟨RX10, "trace", "()I"⟩
abbrev cX10_fault : ByteArray := prog_12_method_69_code
def yX10_fault : MethodName := ⟨RX10, "fault", "()I"⟩
abbrev cX10_many : ByteArray := prog_12_method_70_code
def yX10_many : MethodName := ⟨RX10, "many", "(I)I"⟩
def RJ6 : String := "java/lang/Integer"
def TJ6 : u_T := fun k => match k with
  | _ => ("", "", "", false)
def tyJ6 : Nat → FieldType := fun k => match k with
  | _ => .int
abbrev wsJ60 : List Cond := u_ws RJ6 TJ6 0
theorem nmJ6 : ∀ a, a < 0 → ∀ b, b < 0 → a ≠ b → (TJ6 a).2.1 ≠ (TJ6 b).2.1 := by decide +kernel
theorem tyJ6_ok : ∀ k, k < 0 → parseFieldDescriptor (TJ6 k).2.2.1 = some (tyJ6 k) := by decide +kernel
abbrev cJ6_bitCount_0f7a4 : ByteArray := prog_13_method_49_code
def yJ6_bitCount_0f7a4 : MethodName := ⟨RJ6, "bitCount", "(I)I"⟩
def RJ9 : String := "java/lang/Math"
def TJ9 : u_T := fun k => match k with
  | _ => ("", "", "", false)
def tyJ9 : Nat → FieldType := fun k => match k with
  | _ => .int
abbrev wsJ90 : List Cond := u_ws RJ9 TJ9 0
theorem nmJ9 : ∀ a, a < 0 → ∀ b, b < 0 → a ≠ b → (TJ9 a).2.1 ≠ (TJ9 b).2.1 := by decide +kernel
theorem tyJ9_ok : ∀ k, k < 0 → parseFieldDescriptor (TJ9 k).2.2.1 = some (tyJ9 k) := by decide +kernel
abbrev cJ9_max_7cf53 : ByteArray := prog_14_method_65_code
def yJ9_max_7cf53 : MethodName := ⟨RJ9, "max", "(II)I"⟩
abbrev cJ9_min_7cf53 : ByteArray := prog_14_method_69_code
def yJ9_min_7cf53 : MethodName := ⟨RJ9, "min", "(II)I"⟩
def RJ10 : String := "java/lang/System"
def TJ10 : u_T := fun k => match k with
  | _ => ("", "", "", false)
def tyJ10 : Nat → FieldType := fun k => match k with
  | _ => .int
abbrev wsJ100 : List Cond := u_ws RJ10 TJ10 0
theorem nmJ10 : ∀ a, a < 0 → ∀ b, b < 0 → a ≠ b → (TJ10 a).2.1 ≠ (TJ10 b).2.1 := by decide +kernel
theorem tyJ10_ok : ∀ k, k < 0 → parseFieldDescriptor (TJ10 k).2.2.1 = some (tyJ10 k) := by decide +kernel
def RJ7 : String := "java/util/Arrays"
def TJ7 : u_T := fun k => match k with
  | _ => ("", "", "", false)
def tyJ7 : Nat → FieldType := fun k => match k with
  | _ => .int
abbrev wsJ70 : List Cond := u_ws RJ7 TJ7 0
theorem nmJ7 : ∀ a, a < 0 → ∀ b, b < 0 → a ≠ b → (TJ7 a).2.1 ≠ (TJ7 b).2.1 := by decide +kernel
theorem tyJ7_ok : ∀ k, k < 0 → parseFieldDescriptor (TJ7 k).2.2.1 = some (tyJ7 k) := by decide +kernel
abbrev cJ7_fill_53178 : ByteArray := prog_16_method_103_code
def yJ7_fill_53178 : MethodName := ⟨RJ7, "fill", "([II)V"⟩
def RL : String := "LeastAskedLaw"
abbrev cL_law : ByteArray := code
def yL_law : MethodName := ⟨RL, "law", "([I)Z"⟩
def wsX0_init : List Cond := .code yX0_init cX0_init 1 none :: ([.methodLink RX0 3 objectInit, .instanceMethod objectInit, .code objectInit ⟨#[0xb1]⟩ 1 none, .fieldLink RX0 9 "LeastAsked$Bodies" "left" "I"] ++ wsX00)
def wsX0_begin : List Cond := .code yX0_begin cX0_begin 2 none :: ([.fieldLink RX0 9 "LeastAsked$Bodies" "left" "I"] ++ wsX00)
def wsX0_gooseherdTelling : List Cond := .code yX0_gooseherdTelling cX0_gooseherdTelling 2 (some .int) :: ([.fieldLink RX0 34 "LeastAsked$Person" "wit" "I", .methodLink RX0 30 yX0_begin, .instanceMethod yX0_begin, .selects RX0 yX0_begin yX0_begin, .initialized RX0, .code yX0_begin cX0_begin 2 none, .fieldLink RX0 9 "LeastAsked$Bodies" "left" "I"] ++ wsX20 ++ wsX00)
def wsX0_twinTelling : List Cond := .code yX0_twinTelling cX0_twinTelling 2 (some .int) :: ([.methodLink RX0 30 yX0_begin, .instanceMethod yX0_begin, .selects RX0 yX0_begin yX0_begin, .initialized RX0, .code yX0_begin cX0_begin 2 none, .fieldLink RX0 9 "LeastAsked$Bodies" "left" "I", .methodLink RX0 27 yX0_gooseherdTelling, .instanceMethod yX0_gooseherdTelling, .selects RX0 yX0_gooseherdTelling yX0_gooseherdTelling, .code yX0_gooseherdTelling cX0_gooseherdTelling 2 (some .int), .fieldLink RX0 34 "LeastAsked$Person" "wit" "I"] ++ wsX00 ++ wsX20)
def wsX0_hermitTelling : List Cond := .code yX0_hermitTelling cX0_hermitTelling 3 (some .int) :: ([.methodLink RX0 30 yX0_begin, .instanceMethod yX0_begin, .selects RX0 yX0_begin yX0_begin, .initialized RX0, .code yX0_begin cX0_begin 2 none, .fieldLink RX0 9 "LeastAsked$Bodies" "left" "I", .methodLink RX0 20 yX0_twinTelling, .instanceMethod yX0_twinTelling, .selects RX0 yX0_twinTelling yX0_twinTelling, .code yX0_twinTelling cX0_twinTelling 2 (some .int), .methodLink RX0 27 yX0_gooseherdTelling, .instanceMethod yX0_gooseherdTelling, .selects RX0 yX0_gooseherdTelling yX0_gooseherdTelling, .code yX0_gooseherdTelling cX0_gooseherdTelling 2 (some .int), .fieldLink RX0 34 "LeastAsked$Person" "wit" "I"] ++ wsX00 ++ wsX20)
def wsX0_telling : List Cond := .code yX0_telling cX0_telling 2 (some .int) :: ([.fieldLink RX0 15 "LeastAsked$Person" "kind" "I", .methodLink RX0 20 yX0_twinTelling, .instanceMethod yX0_twinTelling, .selects RX0 yX0_twinTelling yX0_twinTelling, .initialized RX0, .code yX0_twinTelling cX0_twinTelling 2 (some .int), .methodLink RX0 30 yX0_begin, .instanceMethod yX0_begin, .selects RX0 yX0_begin yX0_begin, .code yX0_begin cX0_begin 2 none, .fieldLink RX0 9 "LeastAsked$Bodies" "left" "I", .methodLink RX0 27 yX0_gooseherdTelling, .instanceMethod yX0_gooseherdTelling, .selects RX0 yX0_gooseherdTelling yX0_gooseherdTelling, .code yX0_gooseherdTelling cX0_gooseherdTelling 2 (some .int), .fieldLink RX0 34 "LeastAsked$Person" "wit" "I", .methodLink RX0 24 yX0_hermitTelling, .instanceMethod yX0_hermitTelling, .selects RX0 yX0_hermitTelling yX0_hermitTelling, .code yX0_hermitTelling cX0_hermitTelling 3 (some .int)] ++ wsX20 ++ wsX00)
def wsX0_greeting : List Cond := .code yX0_greeting cX0_greeting 2 (some .int) :: ([.fieldLink RX0 15 "LeastAsked$Person" "kind" "I", .fieldLink RX0 37 "LeastAsked$Person" "asked" "I", .methodLink RX0 30 yX0_begin, .instanceMethod yX0_begin, .selects RX0 yX0_begin yX0_begin, .initialized RX0, .code yX0_begin cX0_begin 2 none, .fieldLink RX0 9 "LeastAsked$Bodies" "left" "I"] ++ wsX20 ++ wsX00)
def wsX1_init : List Cond := .code yX1_init cX1_init 1 none :: ([.methodLink RX1 3 objectInit, .instanceMethod objectInit, .code objectInit ⟨#[0xb1]⟩ 1 none, .arrayClass .int, .fieldLink RX1 9 "LeastAsked$Giver" "row" "[I", .fieldLink RX1 15 "LeastAsked$Giver" "most" "I"] ++ wsX10)
def wsX9_isBelow : List Cond := .code yX9_isBelow cX9_isBelow 2 (some .boolean) :: ([])
def wsX4_hasPerson : List Cond := .code yX4_hasPerson cX4_hasPerson 2 (some .boolean) :: ([.fieldLink RX4 21 "LeastAsked$Province" "count" "I", .static yX9_isBelow, .initialized RX9, .code yX9_isBelow cX9_isBelow 2 (some .boolean)] ++ wsX40)
def wsX2_saying : List Cond := .code yX2_saying cX2_saying 1 (some .int) :: ([.fieldLink RX2 9 "LeastAsked$Person" "kind" "I", .fieldLink RX2 21 "LeastAsked$Person" "wit" "I"] ++ wsX20)
def wsX2_isKnowing : List Cond := .code yX2_isKnowing cX2_isKnowing 2 (some .boolean) :: ([.fieldLink RX2 18 "LeastAsked$Person" "knows" "I"] ++ wsX20)
def wsX4_bringing : List Cond := .code yX4_bringing cX4_bringing 4 (some .int) :: ([.fieldLink RX4 17 "LeastAsked$Province" "people" "[LLeastAsked$Person;", .fieldLink RX4 9 "LeastAsked$Province" "worths" "[I", .methodLink RX4 49 yX2_saying, .instanceMethod yX2_saying, .selects RX2 yX2_saying yX2_saying, .initialized RX2, .code yX2_saying cX2_saying 1 (some .int), .fieldLink RX2 9 "LeastAsked$Person" "kind" "I", .fieldLink RX2 21 "LeastAsked$Person" "wit" "I", .methodLink RX4 53 yX2_isKnowing, .instanceMethod yX2_isKnowing, .selects RX2 yX2_isKnowing yX2_isKnowing, .code yX2_isKnowing cX2_isKnowing 2 (some .boolean), .fieldLink RX2 18 "LeastAsked$Person" "knows" "I"] ++ wsX40 ++ wsX20)
def wsX1_gain_r1 : List Cond := [Cond.methodLink RX1 38 yX4_hasPerson, Cond.instanceMethod yX4_hasPerson, Cond.selects RX4 yX4_hasPerson yX4_hasPerson, Cond.initialized RX4, Cond.code yX4_hasPerson cX4_hasPerson 2 (some .boolean), Cond.fieldLink RX4 21 "LeastAsked$Province" "count" "I", Cond.static yX9_isBelow, Cond.initialized RX9, Cond.code yX9_isBelow cX9_isBelow 2 (some .boolean), Cond.methodLink RX1 42 yX4_bringing, Cond.instanceMethod yX4_bringing, Cond.selects RX4 yX4_bringing yX4_bringing, Cond.code yX4_bringing cX4_bringing 4 (some .int), Cond.fieldLink RX4 17 "LeastAsked$Province" "people" "[LLeastAsked$Person;", Cond.fieldLink RX4 9 "LeastAsked$Province" "worths" "[I", Cond.methodLink RX4 49 yX2_saying, Cond.instanceMethod yX2_saying, Cond.selects RX2 yX2_saying yX2_saying, Cond.initialized RX2, Cond.code yX2_saying cX2_saying 1 (some .int), Cond.fieldLink RX2 9 "LeastAsked$Person" "kind" "I", Cond.fieldLink RX2 21 "LeastAsked$Person" "wit" "I", Cond.methodLink RX4 53 yX2_isKnowing, Cond.instanceMethod yX2_isKnowing]
def wsX1_gain_r2 : List Cond := [Cond.selects RX2 yX2_isKnowing yX2_isKnowing, Cond.code yX2_isKnowing cX2_isKnowing 2 (some .boolean), Cond.fieldLink RX2 18 "LeastAsked$Person" "knows" "I"]
def wsX1_gain : List Cond := .code yX1_gain cX1_gain 3 (some .int) :: ((wsX1_gain_r1 ++ wsX1_gain_r2) ++ wsX40 ++ wsX20)
def wsX1_consider_r1 : List Cond := [Cond.fieldLink RX1 19 "LeastAsked$Province" "count" "I", Cond.methodLink RX1 28 Lib.Math.min.name, Cond.static Lib.Math.min.name, Cond.initialized "java/lang/Math", Cond.code Lib.Math.min.name Lib.Math.min.code 2 (some .int), Cond.fieldLink RX1 15 "LeastAsked$Giver" "most" "I", Cond.fieldLink RX1 9 "LeastAsked$Giver" "row" "[I", Cond.methodLink RX1 34 yX1_gain, Cond.static yX1_gain, Cond.initialized RX1, Cond.code yX1_gain cX1_gain 3 (some .int), Cond.methodLink RX1 38 yX4_hasPerson, Cond.instanceMethod yX4_hasPerson, Cond.selects RX4 yX4_hasPerson yX4_hasPerson, Cond.initialized RX4, Cond.code yX4_hasPerson cX4_hasPerson 2 (some .boolean), Cond.fieldLink RX4 21 "LeastAsked$Province" "count" "I", Cond.static yX9_isBelow, Cond.initialized RX9, Cond.code yX9_isBelow cX9_isBelow 2 (some .boolean), Cond.methodLink RX1 42 yX4_bringing, Cond.instanceMethod yX4_bringing, Cond.selects RX4 yX4_bringing yX4_bringing, Cond.code yX4_bringing cX4_bringing 4 (some .int)]
def wsX1_consider_r2 : List Cond := [Cond.fieldLink RX4 17 "LeastAsked$Province" "people" "[LLeastAsked$Person;", Cond.fieldLink RX4 9 "LeastAsked$Province" "worths" "[I", Cond.methodLink RX4 49 yX2_saying, Cond.instanceMethod yX2_saying, Cond.selects RX2 yX2_saying yX2_saying, Cond.initialized RX2, Cond.code yX2_saying cX2_saying 1 (some .int), Cond.fieldLink RX2 9 "LeastAsked$Person" "kind" "I", Cond.fieldLink RX2 21 "LeastAsked$Person" "wit" "I", Cond.methodLink RX4 53 yX2_isKnowing, Cond.instanceMethod yX2_isKnowing, Cond.selects RX2 yX2_isKnowing yX2_isKnowing, Cond.code yX2_isKnowing cX2_isKnowing 2 (some .boolean), Cond.fieldLink RX2 18 "LeastAsked$Person" "knows" "I"]
def wsX1_consider : List Cond := .code yX1_consider cX1_consider 9 none :: ((wsX1_consider_r1 ++ wsX1_consider_r2) ++ wsX40 ++ wsX10 ++ wsX20)
def wsX1_give_r1 : List Cond := [Cond.fieldLink RX1 19 "LeastAsked$Province" "count" "I", Cond.fieldLink RX1 15 "LeastAsked$Giver" "most" "I", Cond.methodLink RX1 24 yX1_consider, Cond.instanceMethod yX1_consider, Cond.selects RX1 yX1_consider yX1_consider, Cond.initialized RX1, Cond.code yX1_consider cX1_consider 9 none, Cond.methodLink RX1 28 Lib.Math.min.name, Cond.static Lib.Math.min.name, Cond.initialized "java/lang/Math", Cond.code Lib.Math.min.name Lib.Math.min.code 2 (some .int), Cond.fieldLink RX1 9 "LeastAsked$Giver" "row" "[I", Cond.methodLink RX1 34 yX1_gain, Cond.static yX1_gain, Cond.code yX1_gain cX1_gain 3 (some .int), Cond.methodLink RX1 38 yX4_hasPerson, Cond.instanceMethod yX4_hasPerson, Cond.selects RX4 yX4_hasPerson yX4_hasPerson, Cond.initialized RX4, Cond.code yX4_hasPerson cX4_hasPerson 2 (some .boolean), Cond.fieldLink RX4 21 "LeastAsked$Province" "count" "I", Cond.static yX9_isBelow, Cond.initialized RX9, Cond.code yX9_isBelow cX9_isBelow 2 (some .boolean)]
def wsX1_give_r2 : List Cond := [Cond.methodLink RX1 42 yX4_bringing, Cond.instanceMethod yX4_bringing, Cond.selects RX4 yX4_bringing yX4_bringing, Cond.code yX4_bringing cX4_bringing 4 (some .int), Cond.fieldLink RX4 17 "LeastAsked$Province" "people" "[LLeastAsked$Person;", Cond.fieldLink RX4 9 "LeastAsked$Province" "worths" "[I", Cond.methodLink RX4 49 yX2_saying, Cond.instanceMethod yX2_saying, Cond.selects RX2 yX2_saying yX2_saying, Cond.initialized RX2, Cond.code yX2_saying cX2_saying 1 (some .int), Cond.fieldLink RX2 9 "LeastAsked$Person" "kind" "I", Cond.fieldLink RX2 21 "LeastAsked$Person" "wit" "I", Cond.methodLink RX4 53 yX2_isKnowing, Cond.instanceMethod yX2_isKnowing, Cond.selects RX2 yX2_isKnowing yX2_isKnowing, Cond.code yX2_isKnowing cX2_isKnowing 2 (some .boolean), Cond.fieldLink RX2 18 "LeastAsked$Person" "knows" "I"]
def wsX1_give : List Cond := .code yX1_give cX1_give 6 none :: ((wsX1_give_r1 ++ wsX1_give_r2) ++ wsX40 ++ wsX10 ++ wsX20)
def wsX2_init : List Cond := .code yX2_init cX2_init 1 none :: ([.methodLink RX2 3 objectInit, .instanceMethod objectInit, .code objectInit ⟨#[0xb1]⟩ 1 none, .fieldLink RX2 9 "LeastAsked$Person" "kind" "I", .fieldLink RX2 15 "LeastAsked$Person" "asked" "I", .fieldLink RX2 18 "LeastAsked$Person" "knows" "I", .fieldLink RX2 21 "LeastAsked$Person" "wit" "I"] ++ wsX20)
def wsX2_becomeLike : List Cond := .code yX2_becomeLike cX2_becomeLike 2 none :: ([.fieldLink RX2 9 "LeastAsked$Person" "kind" "I", .fieldLink RX2 15 "LeastAsked$Person" "asked" "I", .fieldLink RX2 18 "LeastAsked$Person" "knows" "I", .fieldLink RX2 21 "LeastAsked$Person" "wit" "I"] ++ wsX20)
def wsX3_init : List Cond := .code yX3_init cX3_init 1 none :: ([.methodLink RX3 3 objectInit, .instanceMethod objectInit, .code objectInit ⟨#[0xb1]⟩ 1 none, .arrayClass .int, .fieldLink RX3 9 "LeastAsked$Planner" "matters" "[I", .fieldLink RX3 15 "LeastAsked$Planner" "whoIsAsked" "[I", .fieldLink RX3 18 "LeastAsked$Planner" "row" "[I", .fieldLink RX3 21 "LeastAsked$Planner" "mostAfter" "[I", .fieldLink RX3 24 "LeastAsked$Planner" "length" "I"] ++ wsX30)
def wsX4_first : List Cond := .code yX4_first cX4_first 3 (some .int) :: ([.fieldLink RX4 21 "LeastAsked$Province" "count" "I", .fieldLink RX4 17 "LeastAsked$Province" "people" "[LLeastAsked$Person;", .fieldLink RX4 57 "LeastAsked$Person" "asked" "I"] ++ wsX40 ++ wsX20)
def wsJ6_bitCount_0f7a4 : List Cond := .code yJ6_bitCount_0f7a4 cJ6_bitCount_0f7a4 1 (some .int) :: ([.constant RJ6 265 (1431655765), .constant RJ6 266 (858993459), .constant RJ6 267 (252645135)])
def wsX3_mostWith_r1 : List Cond := [Cond.fieldLink RX3 15 "LeastAsked$Planner" "whoIsAsked" "[I", Cond.fieldLink RX3 9 "LeastAsked$Planner" "matters" "[I", Cond.fieldLink RX3 21 "LeastAsked$Planner" "mostAfter" "[I", Cond.methodLink RX3 56 yJ6_bitCount_0f7a4, Cond.static yJ6_bitCount_0f7a4, Cond.initialized RJ6, Cond.code yJ6_bitCount_0f7a4 cJ6_bitCount_0f7a4 1 (some .int), Cond.constant RJ6 265 (1431655765), Cond.constant RJ6 266 (858993459), Cond.constant RJ6 267 (252645135), Cond.methodLink RX3 62 yX4_bringing, Cond.instanceMethod yX4_bringing, Cond.selects RX4 yX4_bringing yX4_bringing, Cond.initialized RX4, Cond.code yX4_bringing cX4_bringing 4 (some .int), Cond.fieldLink RX4 17 "LeastAsked$Province" "people" "[LLeastAsked$Person;", Cond.fieldLink RX4 9 "LeastAsked$Province" "worths" "[I", Cond.methodLink RX4 49 yX2_saying, Cond.instanceMethod yX2_saying, Cond.selects RX2 yX2_saying yX2_saying, Cond.initialized RX2, Cond.code yX2_saying cX2_saying 1 (some .int), Cond.fieldLink RX2 9 "LeastAsked$Person" "kind" "I", Cond.fieldLink RX2 21 "LeastAsked$Person" "wit" "I"]
def wsX3_mostWith_r2 : List Cond := [Cond.methodLink RX4 53 yX2_isKnowing, Cond.instanceMethod yX2_isKnowing, Cond.selects RX2 yX2_isKnowing yX2_isKnowing, Cond.code yX2_isKnowing cX2_isKnowing 2 (some .boolean), Cond.fieldLink RX2 18 "LeastAsked$Person" "knows" "I"]
def wsX3_mostWith : List Cond := .code yX3_mostWith cX3_mostWith 5 (some .int) :: ((wsX3_mostWith_r1 ++ wsX3_mostWith_r2) ++ wsX30 ++ wsX40 ++ wsX20)
def wsX3_nextPlace_r1 : List Cond := [Cond.fieldLink RX3 24 "LeastAsked$Planner" "length" "I", Cond.methodLink RX3 52 yX3_mostWith, Cond.instanceMethod yX3_mostWith, Cond.selects RX3 yX3_mostWith yX3_mostWith, Cond.initialized RX3, Cond.code yX3_mostWith cX3_mostWith 5 (some .int), Cond.fieldLink RX3 15 "LeastAsked$Planner" "whoIsAsked" "[I", Cond.fieldLink RX3 9 "LeastAsked$Planner" "matters" "[I", Cond.fieldLink RX3 21 "LeastAsked$Planner" "mostAfter" "[I", Cond.methodLink RX3 56 yJ6_bitCount_0f7a4, Cond.static yJ6_bitCount_0f7a4, Cond.initialized RJ6, Cond.code yJ6_bitCount_0f7a4 cJ6_bitCount_0f7a4 1 (some .int), Cond.constant RJ6 265 (1431655765), Cond.constant RJ6 266 (858993459), Cond.constant RJ6 267 (252645135), Cond.methodLink RX3 62 yX4_bringing, Cond.instanceMethod yX4_bringing, Cond.selects RX4 yX4_bringing yX4_bringing, Cond.initialized RX4, Cond.code yX4_bringing cX4_bringing 4 (some .int), Cond.fieldLink RX4 17 "LeastAsked$Province" "people" "[LLeastAsked$Person;", Cond.fieldLink RX4 9 "LeastAsked$Province" "worths" "[I", Cond.methodLink RX4 49 yX2_saying]
def wsX3_nextPlace_r2 : List Cond := [Cond.instanceMethod yX2_saying, Cond.selects RX2 yX2_saying yX2_saying, Cond.initialized RX2, Cond.code yX2_saying cX2_saying 1 (some .int), Cond.fieldLink RX2 9 "LeastAsked$Person" "kind" "I", Cond.fieldLink RX2 21 "LeastAsked$Person" "wit" "I", Cond.methodLink RX4 53 yX2_isKnowing, Cond.instanceMethod yX2_isKnowing, Cond.selects RX2 yX2_isKnowing yX2_isKnowing, Cond.code yX2_isKnowing cX2_isKnowing 2 (some .boolean), Cond.fieldLink RX2 18 "LeastAsked$Person" "knows" "I"]
def wsX3_nextPlace : List Cond := .code yX3_nextPlace cX3_nextPlace 7 (some .int) :: ((wsX3_nextPlace_r1 ++ wsX3_nextPlace_r2) ++ wsX30 ++ wsX40 ++ wsX20)
def wsX3_make_r1 : List Cond := [Cond.fieldLink RX3 24 "LeastAsked$Planner" "length" "I", Cond.fieldLink RX3 9 "LeastAsked$Planner" "matters" "[I", Cond.fieldLink RX3 28 "LeastAsked$Sheet" "cells" "[I", Cond.fieldLink RX3 15 "LeastAsked$Planner" "whoIsAsked" "[I", Cond.fieldLink RX3 39 "LeastAsked$Province" "people" "[LLeastAsked$Person;", Cond.fieldLink RX3 43 "LeastAsked$Person" "asked" "I", Cond.fieldLink RX3 21 "LeastAsked$Planner" "mostAfter" "[I", Cond.fieldLink RX3 18 "LeastAsked$Planner" "row" "[I", Cond.methodLink RX3 33 yX4_first, Cond.instanceMethod yX4_first, Cond.selects RX4 yX4_first yX4_first, Cond.initialized RX4, Cond.code yX4_first cX4_first 3 (some .int), Cond.fieldLink RX4 21 "LeastAsked$Province" "count" "I", Cond.fieldLink RX4 17 "LeastAsked$Province" "people" "[LLeastAsked$Person;", Cond.fieldLink RX4 57 "LeastAsked$Person" "asked" "I", Cond.methodLink RX3 48 yX3_nextPlace, Cond.instanceMethod yX3_nextPlace, Cond.selects RX3 yX3_nextPlace yX3_nextPlace, Cond.initialized RX3, Cond.code yX3_nextPlace cX3_nextPlace 7 (some .int), Cond.methodLink RX3 52 yX3_mostWith, Cond.instanceMethod yX3_mostWith, Cond.selects RX3 yX3_mostWith yX3_mostWith]
def wsX3_make_r2 : List Cond := [Cond.code yX3_mostWith cX3_mostWith 5 (some .int), Cond.methodLink RX3 56 yJ6_bitCount_0f7a4, Cond.static yJ6_bitCount_0f7a4, Cond.initialized RJ6, Cond.code yJ6_bitCount_0f7a4 cJ6_bitCount_0f7a4 1 (some .int), Cond.constant RJ6 265 (1431655765), Cond.constant RJ6 266 (858993459), Cond.constant RJ6 267 (252645135), Cond.methodLink RX3 62 yX4_bringing, Cond.instanceMethod yX4_bringing, Cond.selects RX4 yX4_bringing yX4_bringing, Cond.code yX4_bringing cX4_bringing 4 (some .int), Cond.fieldLink RX4 9 "LeastAsked$Province" "worths" "[I", Cond.methodLink RX4 49 yX2_saying, Cond.instanceMethod yX2_saying, Cond.selects RX2 yX2_saying yX2_saying, Cond.initialized RX2, Cond.code yX2_saying cX2_saying 1 (some .int), Cond.fieldLink RX2 9 "LeastAsked$Person" "kind" "I", Cond.fieldLink RX2 21 "LeastAsked$Person" "wit" "I", Cond.methodLink RX4 53 yX2_isKnowing, Cond.instanceMethod yX2_isKnowing, Cond.selects RX2 yX2_isKnowing yX2_isKnowing, Cond.code yX2_isKnowing cX2_isKnowing 2 (some .boolean)]
def wsX3_make_r3 : List Cond := [Cond.fieldLink RX2 18 "LeastAsked$Person" "knows" "I"]
def wsX3_make : List Cond := .code yX3_make cX3_make 8 none :: ((wsX3_make_r1 ++ (wsX3_make_r2 ++ wsX3_make_r3)) ++ wsX30 ++ wsX60 ++ wsX40 ++ wsX20)
def wsX3_answer : List Cond := .code yX3_answer cX3_answer 2 (some .int) :: ([.fieldLink RX3 21 "LeastAsked$Planner" "mostAfter" "[I", .fieldLink RX3 24 "LeastAsked$Planner" "length" "I", .fieldLink RX3 18 "LeastAsked$Planner" "row" "[I"] ++ wsX30)
def wsX4_init : List Cond := .code yX4_init cX4_init 2 none :: ([.methodLink RX4 3 objectInit, .instanceMethod objectInit, .code objectInit ⟨#[0xb1]⟩ 1 none, .arrayClass .int, .fieldLink RX4 9 "LeastAsked$Province" "worths" "[I", .classLink RX4 15 RX2, .fieldLink RX4 17 "LeastAsked$Province" "people" "[LLeastAsked$Person;", .fieldLink RX4 21 "LeastAsked$Province" "count" "I", .instantiable RX2 4, .initialized RX2, .instanceMethod yX2_init, .code yX2_init cX2_init 1 none, .methodLink RX2 3 objectInit, .fieldLink RX2 9 "LeastAsked$Person" "kind" "I", .fieldLink RX2 15 "LeastAsked$Person" "asked" "I", .fieldLink RX2 18 "LeastAsked$Person" "knows" "I", .fieldLink RX2 21 "LeastAsked$Person" "wit" "I"] ++ wsX40 ++ wsX20)
def wsX4_becomeLike : List Cond := .code yX4_becomeLike cX4_becomeLike 3 none :: ([.fieldLink RX4 21 "LeastAsked$Province" "count" "I", .fieldLink RX4 9 "LeastAsked$Province" "worths" "[I", .methodLink RX4 26 arraycopyName, .native arraycopyName, .static arraycopyName, .initialized "java/lang/System", .fieldLink RX4 17 "LeastAsked$Province" "people" "[LLeastAsked$Person;", .methodLink RX4 32 yX2_becomeLike, .instanceMethod yX2_becomeLike, .selects RX2 yX2_becomeLike yX2_becomeLike, .initialized RX2, .code yX2_becomeLike cX2_becomeLike 2 none, .fieldLink RX2 9 "LeastAsked$Person" "kind" "I", .fieldLink RX2 15 "LeastAsked$Person" "asked" "I", .fieldLink RX2 18 "LeastAsked$Person" "knows" "I", .fieldLink RX2 21 "LeastAsked$Person" "wit" "I"] ++ wsX40 ++ wsX20)
def wsX4_suppose : List Cond := .code yX4_suppose cX4_suppose 4 none :: ([.fieldLink RX4 17 "LeastAsked$Province" "people" "[LLeastAsked$Person;", .fieldLink RX4 36 "LeastAsked$Person" "knows" "I", .fieldLink RX4 39 "LeastAsked$Person" "wit" "I", .fieldLink RX4 42 "LeastAsked$Person" "kind" "I", .fieldLink RX4 9 "LeastAsked$Province" "worths" "[I"] ++ wsX40 ++ wsX20)
def wsX4_hasMatter : List Cond := .code yX4_hasMatter cX4_hasMatter 2 (some .boolean) :: ([.fieldLink RX4 21 "LeastAsked$Province" "count" "I", .static yX9_isBelow, .initialized RX9, .code yX9_isBelow cX9_isBelow 2 (some .boolean)] ++ wsX40)
def wsX4_timesAhead : List Cond := .code yX4_timesAhead cX4_timesAhead 4 (some .int) :: ([.fieldLink RX4 17 "LeastAsked$Province" "people" "[LLeastAsked$Person;", .fieldLink RX4 57 "LeastAsked$Person" "asked" "I", .methodLink RX4 68 Lib.Math.max.name, .static Lib.Math.max.name, .initialized "java/lang/Math", .code Lib.Math.max.name Lib.Math.max.code 2 (some .int)] ++ wsX40 ++ wsX20)
def wsX4_placeOf : List Cond := .code yX4_placeOf cX4_placeOf 4 (some .int) :: ([.fieldLink RX4 21 "LeastAsked$Province" "count" "I", .methodLink RX4 60 yX4_timesAhead, .instanceMethod yX4_timesAhead, .selects RX4 yX4_timesAhead yX4_timesAhead, .initialized RX4, .code yX4_timesAhead cX4_timesAhead 4 (some .int), .fieldLink RX4 17 "LeastAsked$Province" "people" "[LLeastAsked$Person;", .fieldLink RX4 57 "LeastAsked$Person" "asked" "I", .methodLink RX4 68 Lib.Math.max.name, .static Lib.Math.max.name, .initialized "java/lang/Math", .code Lib.Math.max.name Lib.Math.max.code 2 (some .int)] ++ wsX40 ++ wsX20)
def wsX4_atPlace : List Cond := .code yX4_atPlace cX4_atPlace 3 (some .int) :: ([.fieldLink RX4 21 "LeastAsked$Province" "count" "I", .methodLink RX4 64 yX4_placeOf, .instanceMethod yX4_placeOf, .selects RX4 yX4_placeOf yX4_placeOf, .initialized RX4, .code yX4_placeOf cX4_placeOf 4 (some .int), .methodLink RX4 60 yX4_timesAhead, .instanceMethod yX4_timesAhead, .selects RX4 yX4_timesAhead yX4_timesAhead, .code yX4_timesAhead cX4_timesAhead 4 (some .int), .fieldLink RX4 17 "LeastAsked$Province" "people" "[LLeastAsked$Person;", .fieldLink RX4 57 "LeastAsked$Person" "asked" "I", .methodLink RX4 68 Lib.Math.max.name, .static Lib.Math.max.name, .initialized "java/lang/Math", .code Lib.Math.max.name Lib.Math.max.code 2 (some .int)] ++ wsX40 ++ wsX20)
def wsX4_questionsAheadOf : List Cond := .code yX4_questionsAheadOf cX4_questionsAheadOf 4 (some .int) :: ([.fieldLink RX4 21 "LeastAsked$Province" "count" "I", .methodLink RX4 60 yX4_timesAhead, .instanceMethod yX4_timesAhead, .selects RX4 yX4_timesAhead yX4_timesAhead, .initialized RX4, .code yX4_timesAhead cX4_timesAhead 4 (some .int), .fieldLink RX4 17 "LeastAsked$Province" "people" "[LLeastAsked$Person;", .fieldLink RX4 57 "LeastAsked$Person" "asked" "I", .methodLink RX4 68 Lib.Math.max.name, .static Lib.Math.max.name, .initialized "java/lang/Math", .code Lib.Math.max.name Lib.Math.max.code 2 (some .int)] ++ wsX40 ++ wsX20)
def wsX4_feintsTillKnown_r1 : List Cond := [Cond.fieldLink RX4 21 "LeastAsked$Province" "count" "I", Cond.fieldLink RX4 17 "LeastAsked$Province" "people" "[LLeastAsked$Person;", Cond.methodLink RX4 76 Lib.Math.min.name, Cond.static Lib.Math.min.name, Cond.initialized "java/lang/Math", Cond.code Lib.Math.min.name Lib.Math.min.code 2 (some .int), Cond.methodLink RX4 53 yX2_isKnowing, Cond.instanceMethod yX2_isKnowing, Cond.selects RX2 yX2_isKnowing yX2_isKnowing, Cond.initialized RX2, Cond.code yX2_isKnowing cX2_isKnowing 2 (some .boolean), Cond.fieldLink RX2 18 "LeastAsked$Person" "knows" "I", Cond.methodLink RX4 73 yX4_questionsAheadOf, Cond.instanceMethod yX4_questionsAheadOf, Cond.selects RX4 yX4_questionsAheadOf yX4_questionsAheadOf, Cond.initialized RX4, Cond.code yX4_questionsAheadOf cX4_questionsAheadOf 4 (some .int), Cond.methodLink RX4 60 yX4_timesAhead, Cond.instanceMethod yX4_timesAhead, Cond.selects RX4 yX4_timesAhead yX4_timesAhead, Cond.code yX4_timesAhead cX4_timesAhead 4 (some .int), Cond.fieldLink RX4 57 "LeastAsked$Person" "asked" "I", Cond.methodLink RX4 68 Lib.Math.max.name, Cond.static Lib.Math.max.name]
def wsX4_feintsTillKnown_r2 : List Cond := [Cond.code Lib.Math.max.name Lib.Math.max.code 2 (some .int)]
def wsX4_feintsTillKnown : List Cond := .code yX4_feintsTillKnown cX4_feintsTillKnown 5 (some .int) :: ((wsX4_feintsTillKnown_r1 ++ wsX4_feintsTillKnown_r2) ++ wsX40 ++ wsX20)
def wsX4_questionsTillEven : List Cond := .code yX4_questionsTillEven cX4_questionsTillEven 4 (some .int) :: ([.fieldLink RX4 21 "LeastAsked$Province" "count" "I", .fieldLink RX4 17 "LeastAsked$Province" "people" "[LLeastAsked$Person;", .fieldLink RX4 57 "LeastAsked$Person" "asked" "I", .methodLink RX4 68 Lib.Math.max.name, .static Lib.Math.max.name, .initialized "java/lang/Math", .code Lib.Math.max.name Lib.Math.max.code 2 (some .int)] ++ wsX40 ++ wsX20)
def wsX5_init : List Cond := .code yX5_init cX5_init 1 none :: ([.methodLink RX5 3 objectInit, .instanceMethod objectInit, .code objectInit ⟨#[0xb1]⟩ 1 none, .arrayClass .int, .fieldLink RX5 9 "LeastAsked$Readings" "persons" "[I", .fieldLink RX5 15 "LeastAsked$Readings" "matters" "[I", .fieldLink RX5 18 "LeastAsked$Readings" "values" "[I", .fieldLink RX5 21 "LeastAsked$Readings" "count" "I"] ++ wsX50)
def wsX5_take : List Cond := .code yX5_take cX5_take 5 (some .int) :: ([.fieldLink RX5 21 "LeastAsked$Readings" "count" "I", .fieldLink RX5 9 "LeastAsked$Readings" "persons" "[I", .fieldLink RX5 15 "LeastAsked$Readings" "matters" "[I", .fieldLink RX5 18 "LeastAsked$Readings" "values" "[I"] ++ wsX50)
def wsX5_allSo : List Cond := .code yX5_allSo cX5_allSo 3 (some .boolean) :: ([.fieldLink RX5 21 "LeastAsked$Readings" "count" "I", .fieldLink RX5 9 "LeastAsked$Readings" "persons" "[I", .fieldLink RX5 15 "LeastAsked$Readings" "matters" "[I", .fieldLink RX5 18 "LeastAsked$Readings" "values" "[I", .methodLink RX5 25 yX4_bringing, .instanceMethod yX4_bringing, .selects RX4 yX4_bringing yX4_bringing, .initialized RX4, .code yX4_bringing cX4_bringing 4 (some .int), .fieldLink RX4 17 "LeastAsked$Province" "people" "[LLeastAsked$Person;", .fieldLink RX4 9 "LeastAsked$Province" "worths" "[I", .methodLink RX4 49 yX2_saying, .instanceMethod yX2_saying, .selects RX2 yX2_saying yX2_saying, .initialized RX2, .code yX2_saying cX2_saying 1 (some .int), .fieldLink RX2 9 "LeastAsked$Person" "kind" "I", .fieldLink RX2 21 "LeastAsked$Person" "wit" "I", .methodLink RX4 53 yX2_isKnowing, .instanceMethod yX2_isKnowing, .selects RX2 yX2_isKnowing yX2_isKnowing, .code yX2_isKnowing cX2_isKnowing 2 (some .boolean), .fieldLink RX2 18 "LeastAsked$Person" "knows" "I"] ++ wsX50 ++ wsX40 ++ wsX20)
def wsX6_init : List Cond := .code yX6_init cX6_init 1 none :: ([.methodLink RX6 3 objectInit, .instanceMethod objectInit, .code objectInit ⟨#[0xb1]⟩ 1 none, .arrayClass .int, .fieldLink RX6 9 "LeastAsked$Sheet" "cells" "[I", .fieldLink RX6 15 "LeastAsked$Sheet" "filled" "Z", .fieldLink RX6 19 "LeastAsked$Sheet" "lane" "I", .fieldLink RX6 23 "LeastAsked$Sheet" "length" "I"] ++ wsX60)
def wsJ7_fill_53178 : List Cond := .code yJ7_fill_53178 cJ7_fill_53178 4 none :: ([])
def wsX6_begin : List Cond := .code yX6_begin cX6_begin 3 none :: ([.fieldLink RX6 9 "LeastAsked$Sheet" "cells" "[I", .fieldLink RX6 15 "LeastAsked$Sheet" "filled" "Z", .fieldLink RX6 19 "LeastAsked$Sheet" "lane" "I", .fieldLink RX6 23 "LeastAsked$Sheet" "length" "I", .methodLink RX6 26 yJ7_fill_53178, .static yJ7_fill_53178, .initialized RJ7, .code yJ7_fill_53178 cJ7_fill_53178 4 none] ++ wsX60)
def wsX6_cut : List Cond := .code yX6_cut cX6_cut 2 (some .int) :: ([.fieldLink RX6 19 "LeastAsked$Sheet" "lane" "I"] ++ wsX60)
def wsX6_faultAs : List Cond := .code yX6_faultAs cX6_faultAs 2 (some .int) :: ([.fieldLink RX6 15 "LeastAsked$Sheet" "filled" "Z", .fieldLink RX6 19 "LeastAsked$Sheet" "lane" "I"] ++ wsX60)
def wsX6_holds : List Cond := .code yX6_holds cX6_holds 3 (some .boolean) :: ([.fieldLink RX6 23 "LeastAsked$Sheet" "length" "I"] ++ wsX60)
def wsX7_isDigit : List Cond := .code yX7_isDigit cX7_isDigit 2 (some .boolean) :: ([])
def wsX7_kindOf : List Cond := .code yX7_kindOf cX7_kindOf 1 (some .int) :: ([])
def wsX7_mayStand : List Cond := .code yX7_mayStand cX7_mayStand 2 (some .boolean) :: ([.methodLink RX7 21 yX7_isDigit, .static yX7_isDigit, .initialized RX7, .code yX7_isDigit cX7_isDigit 2 (some .boolean), .methodLink RX7 24 yX7_kindOf, .static yX7_kindOf, .code yX7_kindOf cX7_kindOf 1 (some .int)])
def wsX7_firstFault : List Cond := .code yX7_firstFault cX7_firstFault 4 (some .int) :: ([.fieldLink RX7 9 "LeastAsked$Sheet" "cells" "[I", .methodLink RX7 15 yX7_mayStand, .static yX7_mayStand, .initialized RX7, .code yX7_mayStand cX7_mayStand 2 (some .boolean), .methodLink RX7 21 yX7_isDigit, .static yX7_isDigit, .code yX7_isDigit cX7_isDigit 2 (some .boolean), .methodLink RX7 24 yX7_kindOf, .static yX7_kindOf, .code yX7_kindOf cX7_kindOf 1 (some .int)] ++ wsX60)
def wsX7_read : List Cond := .code yX7_read cX7_read 8 none :: ([.fieldLink RX7 9 "LeastAsked$Sheet" "cells" "[I", .fieldLink RX7 28 "LeastAsked$Province" "worths" "[I", .fieldLink RX7 33 "LeastAsked$Province" "count" "I", .fieldLink RX7 37 "LeastAsked$Province" "people" "[LLeastAsked$Person;", .fieldLink RX7 41 "LeastAsked$Person" "kind" "I", .fieldLink RX7 46 "LeastAsked$Person" "asked" "I", .fieldLink RX7 49 "LeastAsked$Person" "knows" "I", .fieldLink RX7 52 "LeastAsked$Person" "wit" "I", .methodLink RX7 24 yX7_kindOf, .static yX7_kindOf, .initialized RX7, .code yX7_kindOf cX7_kindOf 1 (some .int)] ++ wsX60 ++ wsX40 ++ wsX20)
def wsX8_init : List Cond := .code yX8_init cX8_init 1 none :: ([.methodLink RX8 3 objectInit, .instanceMethod objectInit, .code objectInit ⟨#[0xb1]⟩ 1 none, .fieldLink RX8 9 "LeastAsked$YearRun" "brought" "I", .fieldLink RX8 15 "LeastAsked$YearRun" "askedSet" "I", .fieldLink RX8 18 "LeastAsked$YearRun" "toKnowing" "I", .fieldLink RX8 21 "LeastAsked$YearRun" "wrong" "I"] ++ wsX80)
def wsX8_isLearner : List Cond := .code yX8_isLearner cX8_isLearner 1 (some .boolean) :: ([])
def wsX8_tells : List Cond := .code yX8_tells cX8_tells 1 (some .boolean) :: ([.static yX9_isBelow, .initialized RX9, .code yX9_isBelow cX9_isBelow 2 (some .boolean), .methodLink RX8 28 yX8_isLearner, .static yX8_isLearner, .initialized RX8, .code yX8_isLearner cX8_isLearner 1 (some .boolean)])
def wsX8_pairRefusal : List Cond := .code yX8_pairRefusal cX8_pairRefusal 3 (some .int) :: ([.methodLink RX8 42 yX4_hasMatter, .instanceMethod yX4_hasMatter, .selects RX4 yX4_hasMatter yX4_hasMatter, .initialized RX4, .code yX4_hasMatter cX4_hasMatter 2 (some .boolean), .fieldLink RX4 21 "LeastAsked$Province" "count" "I", .static yX9_isBelow, .initialized RX9, .code yX9_isBelow cX9_isBelow 2 (some .boolean), .methodLink RX8 47 yX4_hasPerson, .instanceMethod yX4_hasPerson, .selects RX4 yX4_hasPerson yX4_hasPerson, .code yX4_hasPerson cX4_hasPerson 2 (some .boolean), .methodLink RX8 28 yX8_isLearner, .static yX8_isLearner, .initialized RX8, .code yX8_isLearner cX8_isLearner 1 (some .boolean)] ++ wsX40)
def wsX8_refusal : List Cond := .code yX8_refusal cX8_refusal 7 (some .int) :: ([.fieldLink RX8 32 "LeastAsked$Sheet" "cells" "[I", .methodLink RX8 38 yX8_pairRefusal, .static yX8_pairRefusal, .initialized RX8, .code yX8_pairRefusal cX8_pairRefusal 3 (some .int), .methodLink RX8 42 yX4_hasMatter, .instanceMethod yX4_hasMatter, .selects RX4 yX4_hasMatter yX4_hasMatter, .initialized RX4, .code yX4_hasMatter cX4_hasMatter 2 (some .boolean), .fieldLink RX4 21 "LeastAsked$Province" "count" "I", .static yX9_isBelow, .initialized RX9, .code yX9_isBelow cX9_isBelow 2 (some .boolean), .methodLink RX8 47 yX4_hasPerson, .instanceMethod yX4_hasPerson, .selects RX4 yX4_hasPerson yX4_hasPerson, .code yX4_hasPerson cX4_hasPerson 2 (some .boolean), .methodLink RX8 28 yX8_isLearner, .static yX8_isLearner, .code yX8_isLearner cX8_isLearner 1 (some .boolean)] ++ wsX60 ++ wsX40)
def wsX8_ask_r1 : List Cond := [Cond.fieldLink RX8 62 "LeastAsked$Province" "people" "[LLeastAsked$Person;", Cond.fieldLink RX8 66 "LeastAsked$Person" "asked" "I", Cond.fieldLink RX8 9 "LeastAsked$YearRun" "brought" "I", Cond.fieldLink RX8 15 "LeastAsked$YearRun" "askedSet" "I", Cond.fieldLink RX8 18 "LeastAsked$YearRun" "toKnowing" "I", Cond.methodLink RX8 58 yX4_first, Cond.instanceMethod yX4_first, Cond.selects RX4 yX4_first yX4_first, Cond.initialized RX4, Cond.code yX4_first cX4_first 3 (some .int), Cond.fieldLink RX4 21 "LeastAsked$Province" "count" "I", Cond.fieldLink RX4 17 "LeastAsked$Province" "people" "[LLeastAsked$Person;", Cond.fieldLink RX4 57 "LeastAsked$Person" "asked" "I", Cond.methodLink RX8 74 yX4_bringing, Cond.instanceMethod yX4_bringing, Cond.selects RX4 yX4_bringing yX4_bringing, Cond.code yX4_bringing cX4_bringing 4 (some .int), Cond.fieldLink RX4 9 "LeastAsked$Province" "worths" "[I", Cond.methodLink RX4 49 yX2_saying, Cond.instanceMethod yX2_saying, Cond.selects RX2 yX2_saying yX2_saying, Cond.initialized RX2, Cond.code yX2_saying cX2_saying 1 (some .int), Cond.fieldLink RX2 9 "LeastAsked$Person" "kind" "I"]
def wsX8_ask_r2 : List Cond := [Cond.fieldLink RX2 21 "LeastAsked$Person" "wit" "I", Cond.methodLink RX4 53 yX2_isKnowing, Cond.instanceMethod yX2_isKnowing, Cond.selects RX2 yX2_isKnowing yX2_isKnowing, Cond.code yX2_isKnowing cX2_isKnowing 2 (some .boolean), Cond.fieldLink RX2 18 "LeastAsked$Person" "knows" "I", Cond.methodLink RX8 78 yX2_isKnowing]
def wsX8_ask : List Cond := .code yX8_ask cX8_ask 4 none :: ((wsX8_ask_r1 ++ wsX8_ask_r2) ++ wsX40 ++ wsX20 ++ wsX80)
def wsX8_isDone_r1 : List Cond := [Cond.fieldLink RX8 62 "LeastAsked$Province" "people" "[LLeastAsked$Person;", Cond.fieldLink RX8 66 "LeastAsked$Person" "asked" "I", Cond.fieldLink RX8 71 "LeastAsked$Person" "knows" "I", Cond.methodLink RX8 54 yX8_ask, Cond.instanceMethod yX8_ask, Cond.selects RX8 yX8_ask yX8_ask, Cond.initialized RX8, Cond.code yX8_ask cX8_ask 4 none, Cond.fieldLink RX8 9 "LeastAsked$YearRun" "brought" "I", Cond.fieldLink RX8 15 "LeastAsked$YearRun" "askedSet" "I", Cond.fieldLink RX8 18 "LeastAsked$YearRun" "toKnowing" "I", Cond.methodLink RX8 58 yX4_first, Cond.instanceMethod yX4_first, Cond.selects RX4 yX4_first yX4_first, Cond.initialized RX4, Cond.code yX4_first cX4_first 3 (some .int), Cond.fieldLink RX4 21 "LeastAsked$Province" "count" "I", Cond.fieldLink RX4 17 "LeastAsked$Province" "people" "[LLeastAsked$Person;", Cond.fieldLink RX4 57 "LeastAsked$Person" "asked" "I", Cond.methodLink RX8 74 yX4_bringing, Cond.instanceMethod yX4_bringing, Cond.selects RX4 yX4_bringing yX4_bringing, Cond.code yX4_bringing cX4_bringing 4 (some .int), Cond.fieldLink RX4 9 "LeastAsked$Province" "worths" "[I"]
def wsX8_isDone_r2 : List Cond := [Cond.methodLink RX4 49 yX2_saying, Cond.instanceMethod yX2_saying, Cond.selects RX2 yX2_saying yX2_saying, Cond.initialized RX2, Cond.code yX2_saying cX2_saying 1 (some .int), Cond.fieldLink RX2 9 "LeastAsked$Person" "kind" "I", Cond.fieldLink RX2 21 "LeastAsked$Person" "wit" "I", Cond.methodLink RX4 53 yX2_isKnowing, Cond.instanceMethod yX2_isKnowing, Cond.selects RX2 yX2_isKnowing yX2_isKnowing, Cond.code yX2_isKnowing cX2_isKnowing 2 (some .boolean), Cond.fieldLink RX2 18 "LeastAsked$Person" "knows" "I", Cond.methodLink RX8 78 yX2_isKnowing, Cond.methodLink RX8 47 yX4_hasPerson, Cond.instanceMethod yX4_hasPerson, Cond.selects RX4 yX4_hasPerson yX4_hasPerson, Cond.code yX4_hasPerson cX4_hasPerson 2 (some .boolean), Cond.static yX9_isBelow, Cond.initialized RX9, Cond.code yX9_isBelow cX9_isBelow 2 (some .boolean)]
def wsX8_isDone : List Cond := .code yX8_isDone cX8_isDone 5 (some .boolean) :: ((wsX8_isDone_r1 ++ wsX8_isDone_r2) ++ wsX40 ++ wsX20 ++ wsX80)
def wsX8_go_r1 : List Cond := [Cond.fieldLink RX8 9 "LeastAsked$YearRun" "brought" "I", Cond.fieldLink RX8 15 "LeastAsked$YearRun" "askedSet" "I", Cond.fieldLink RX8 18 "LeastAsked$YearRun" "toKnowing" "I", Cond.fieldLink RX8 21 "LeastAsked$YearRun" "wrong" "I", Cond.fieldLink RX8 32 "LeastAsked$Sheet" "cells" "[I", Cond.methodLink RX8 50 yX8_isDone, Cond.instanceMethod yX8_isDone, Cond.selects RX8 yX8_isDone yX8_isDone, Cond.initialized RX8, Cond.code yX8_isDone cX8_isDone 5 (some .boolean), Cond.fieldLink RX8 62 "LeastAsked$Province" "people" "[LLeastAsked$Person;", Cond.fieldLink RX8 66 "LeastAsked$Person" "asked" "I", Cond.fieldLink RX8 71 "LeastAsked$Person" "knows" "I", Cond.methodLink RX8 54 yX8_ask, Cond.instanceMethod yX8_ask, Cond.selects RX8 yX8_ask yX8_ask, Cond.code yX8_ask cX8_ask 4 none, Cond.methodLink RX8 58 yX4_first, Cond.instanceMethod yX4_first, Cond.selects RX4 yX4_first yX4_first, Cond.initialized RX4, Cond.code yX4_first cX4_first 3 (some .int), Cond.fieldLink RX4 21 "LeastAsked$Province" "count" "I", Cond.fieldLink RX4 17 "LeastAsked$Province" "people" "[LLeastAsked$Person;"]
def wsX8_go_r2 : List Cond := [Cond.fieldLink RX4 57 "LeastAsked$Person" "asked" "I", Cond.methodLink RX8 74 yX4_bringing, Cond.instanceMethod yX4_bringing, Cond.selects RX4 yX4_bringing yX4_bringing, Cond.code yX4_bringing cX4_bringing 4 (some .int), Cond.fieldLink RX4 9 "LeastAsked$Province" "worths" "[I", Cond.methodLink RX4 49 yX2_saying, Cond.instanceMethod yX2_saying, Cond.selects RX2 yX2_saying yX2_saying, Cond.initialized RX2, Cond.code yX2_saying cX2_saying 1 (some .int), Cond.fieldLink RX2 9 "LeastAsked$Person" "kind" "I", Cond.fieldLink RX2 21 "LeastAsked$Person" "wit" "I", Cond.methodLink RX4 53 yX2_isKnowing, Cond.instanceMethod yX2_isKnowing, Cond.selects RX2 yX2_isKnowing yX2_isKnowing, Cond.code yX2_isKnowing cX2_isKnowing 2 (some .boolean), Cond.fieldLink RX2 18 "LeastAsked$Person" "knows" "I", Cond.methodLink RX8 78 yX2_isKnowing, Cond.methodLink RX8 47 yX4_hasPerson, Cond.instanceMethod yX4_hasPerson, Cond.selects RX4 yX4_hasPerson yX4_hasPerson, Cond.code yX4_hasPerson cX4_hasPerson 2 (some .boolean), Cond.static yX9_isBelow]
def wsX8_go_r3 : List Cond := [Cond.initialized RX9, Cond.code yX9_isBelow cX9_isBelow 2 (some .boolean)]
def wsX8_go : List Cond := .code yX8_go cX8_go 7 none :: ((wsX8_go_r1 ++ (wsX8_go_r2 ++ wsX8_go_r3)) ++ wsX80 ++ wsX60 ++ wsX40 ++ wsX20)
def wsX8_answer : List Cond := .code yX8_answer cX8_answer 3 (some .int) :: ([.fieldLink RX8 21 "LeastAsked$YearRun" "wrong" "I", .fieldLink RX8 9 "LeastAsked$YearRun" "brought" "I", .fieldLink RX8 15 "LeastAsked$YearRun" "askedSet" "I", .fieldLink RX8 18 "LeastAsked$YearRun" "toKnowing" "I", .fieldLink RX8 62 "LeastAsked$Province" "people" "[LLeastAsked$Person;", .fieldLink RX8 66 "LeastAsked$Person" "asked" "I", .methodLink RX8 58 yX4_first, .instanceMethod yX4_first, .selects RX4 yX4_first yX4_first, .initialized RX4, .code yX4_first cX4_first 3 (some .int), .fieldLink RX4 21 "LeastAsked$Province" "count" "I", .fieldLink RX4 17 "LeastAsked$Province" "people" "[LLeastAsked$Person;", .fieldLink RX4 57 "LeastAsked$Person" "asked" "I", .methodLink RX8 47 yX4_hasPerson, .instanceMethod yX4_hasPerson, .selects RX4 yX4_hasPerson yX4_hasPerson, .code yX4_hasPerson cX4_hasPerson 2 (some .boolean), .static yX9_isBelow, .initialized RX9, .code yX9_isBelow cX9_isBelow 2 (some .boolean)] ++ wsX80 ++ wsX40 ++ wsX20)
def wsX9_init_r1 : List Cond := [Cond.methodLink RX9 3 objectInit, Cond.instanceMethod objectInit, Cond.code objectInit ⟨#[0xb1]⟩ 1 none, Cond.classLink RX9 11 RX6, Cond.fieldLink RX9 13 "LeastAsked" "sheets" "[LLeastAsked$Sheet;", Cond.classLink RX9 17 RX4, Cond.instantiable RX4 3, Cond.initialized RX4, Cond.fieldLink RX9 20 "LeastAsked" "now" "LLeastAsked$Province;", Cond.fieldLink RX9 24 "LeastAsked" "trial" "LLeastAsked$Province;", Cond.classLink RX9 27 RX8, Cond.instantiable RX8 4, Cond.initialized RX8, Cond.fieldLink RX9 30 "LeastAsked" "yearRun" "LLeastAsked$YearRun;", Cond.classLink RX9 34 RX3, Cond.instantiable RX3 5, Cond.initialized RX3, Cond.fieldLink RX9 37 "LeastAsked" "planner" "LLeastAsked$Planner;", Cond.classLink RX9 41 RX1, Cond.instantiable RX1 2, Cond.initialized RX1, Cond.fieldLink RX9 44 "LeastAsked" "giver" "LLeastAsked$Giver;", Cond.classLink RX9 48 RX5, Cond.instantiable RX5 4]
def wsX9_init_r2 : List Cond := [Cond.initialized RX5, Cond.fieldLink RX9 51 "LeastAsked" "readings" "LLeastAsked$Readings;", Cond.classLink RX9 55 RX0, Cond.instantiable RX0 1, Cond.initialized RX0, Cond.fieldLink RX9 58 "LeastAsked" "bodies" "LLeastAsked$Bodies;", Cond.fieldLink RX9 62 "LeastAsked" "questions" "I", Cond.fieldLink RX9 66 "LeastAsked" "brought" "I", Cond.fieldLink RX9 69 "LeastAsked" "lastFault" "I", Cond.instantiable RX6 4, Cond.initialized RX6, Cond.methodLink RX9 19 yX4_init, Cond.instanceMethod yX4_init, Cond.code yX4_init cX4_init 2 none, Cond.methodLink RX4 3 objectInit, Cond.arrayClass .int, Cond.fieldLink RX4 9 "LeastAsked$Province" "worths" "[I", Cond.classLink RX4 15 RX2, Cond.fieldLink RX4 17 "LeastAsked$Province" "people" "[LLeastAsked$Person;", Cond.fieldLink RX4 21 "LeastAsked$Province" "count" "I", Cond.instantiable RX2 4, Cond.initialized RX2, Cond.instanceMethod yX2_init, Cond.code yX2_init cX2_init 1 none]
def wsX9_init_r3 : List Cond := [Cond.methodLink RX2 3 objectInit, Cond.fieldLink RX2 9 "LeastAsked$Person" "kind" "I", Cond.fieldLink RX2 15 "LeastAsked$Person" "asked" "I", Cond.fieldLink RX2 18 "LeastAsked$Person" "knows" "I", Cond.fieldLink RX2 21 "LeastAsked$Person" "wit" "I", Cond.instanceMethod yX8_init, Cond.code yX8_init cX8_init 1 none, Cond.methodLink RX8 3 objectInit, Cond.fieldLink RX8 9 "LeastAsked$YearRun" "brought" "I", Cond.fieldLink RX8 15 "LeastAsked$YearRun" "askedSet" "I", Cond.fieldLink RX8 18 "LeastAsked$YearRun" "toKnowing" "I", Cond.fieldLink RX8 21 "LeastAsked$YearRun" "wrong" "I", Cond.instanceMethod yX3_init, Cond.code yX3_init cX3_init 1 none, Cond.methodLink RX3 3 objectInit, Cond.fieldLink RX3 9 "LeastAsked$Planner" "matters" "[I", Cond.fieldLink RX3 15 "LeastAsked$Planner" "whoIsAsked" "[I", Cond.fieldLink RX3 18 "LeastAsked$Planner" "row" "[I", Cond.fieldLink RX3 21 "LeastAsked$Planner" "mostAfter" "[I", Cond.fieldLink RX3 24 "LeastAsked$Planner" "length" "I", Cond.instanceMethod yX1_init, Cond.code yX1_init cX1_init 1 none, Cond.methodLink RX1 3 objectInit, Cond.fieldLink RX1 9 "LeastAsked$Giver" "row" "[I"]
def wsX9_init_r4 : List Cond := [Cond.fieldLink RX1 15 "LeastAsked$Giver" "most" "I", Cond.instanceMethod yX5_init, Cond.code yX5_init cX5_init 1 none, Cond.methodLink RX5 3 objectInit, Cond.fieldLink RX5 9 "LeastAsked$Readings" "persons" "[I", Cond.fieldLink RX5 15 "LeastAsked$Readings" "matters" "[I", Cond.fieldLink RX5 18 "LeastAsked$Readings" "values" "[I", Cond.fieldLink RX5 21 "LeastAsked$Readings" "count" "I", Cond.instanceMethod yX0_init, Cond.code yX0_init cX0_init 1 none, Cond.methodLink RX0 3 objectInit, Cond.fieldLink RX0 9 "LeastAsked$Bodies" "left" "I", Cond.instanceMethod yX6_init, Cond.code yX6_init cX6_init 1 none, Cond.methodLink RX6 3 objectInit, Cond.fieldLink RX6 9 "LeastAsked$Sheet" "cells" "[I", Cond.fieldLink RX6 15 "LeastAsked$Sheet" "filled" "Z", Cond.fieldLink RX6 19 "LeastAsked$Sheet" "lane" "I", Cond.fieldLink RX6 23 "LeastAsked$Sheet" "length" "I"]
def wsX9_init : List Cond := .code yX9_init cX9_init 2 none :: ((wsX9_init_r1 ++ (wsX9_init_r2 ++ (wsX9_init_r3 ++ wsX9_init_r4))) ++ wsX90 ++ wsX40 ++ wsX80 ++ wsX30 ++ wsX10 ++ wsX50 ++ wsX00 ++ wsX60 ++ wsX20)
def wsX9_isSheet : List Cond := .code yX9_isSheet cX9_isSheet 1 (some .boolean) :: ([.methodLink RX9 140 yX9_isBelow, .static yX9_isBelow, .initialized RX9, .code yX9_isBelow cX9_isBelow 2 (some .boolean)])
def wsX9_isLane : List Cond := .code yX9_isLane cX9_isLane 1 (some .boolean) :: ([])
def wsX9_failed : List Cond := .code yX9_failed cX9_failed 2 (some .int) :: ([.fieldLink RX9 69 "LeastAsked" "lastFault" "I"] ++ wsX90)
def wsX9_province_r1 : List Cond := [Cond.fieldLink RX9 69 "LeastAsked" "lastFault" "I", Cond.fieldLink RX9 13 "LeastAsked" "sheets" "[LLeastAsked$Sheet;", Cond.fieldLink RX9 20 "LeastAsked" "now" "LLeastAsked$Province;", Cond.fieldLink RX9 62 "LeastAsked" "questions" "I", Cond.fieldLink RX9 66 "LeastAsked" "brought" "I", Cond.fieldLink RX9 51 "LeastAsked" "readings" "LLeastAsked$Readings;", Cond.fieldLink RX9 101 "LeastAsked$Readings" "count" "I", Cond.fieldLink RX9 104 "LeastAsked$Province" "count" "I", Cond.methodLink RX9 73 yX9_isSheet, Cond.static yX9_isSheet, Cond.initialized RX9, Cond.code yX9_isSheet cX9_isSheet 1 (some .boolean), Cond.methodLink RX9 140 yX9_isBelow, Cond.static yX9_isBelow, Cond.code yX9_isBelow cX9_isBelow 2 (some .boolean), Cond.methodLink RX9 77 yX9_isLane, Cond.static yX9_isLane, Cond.code yX9_isLane cX9_isLane 1 (some .boolean), Cond.methodLink RX9 80 yX6_faultAs, Cond.instanceMethod yX6_faultAs, Cond.selects RX6 yX6_faultAs yX6_faultAs, Cond.initialized RX6, Cond.code yX6_faultAs cX6_faultAs 2 (some .int), Cond.fieldLink RX6 15 "LeastAsked$Sheet" "filled" "Z"]
def wsX9_province_r2 : List Cond := [Cond.fieldLink RX6 19 "LeastAsked$Sheet" "lane" "I", Cond.methodLink RX9 84 yX6_holds, Cond.instanceMethod yX6_holds, Cond.selects RX6 yX6_holds yX6_holds, Cond.code yX6_holds cX6_holds 3 (some .boolean), Cond.fieldLink RX6 23 "LeastAsked$Sheet" "length" "I", Cond.methodLink RX9 88 yX9_failed, Cond.instanceMethod yX9_failed, Cond.selects RX9 yX9_failed yX9_failed, Cond.code yX9_failed cX9_failed 2 (some .int), Cond.methodLink RX9 91 yX7_firstFault, Cond.static yX7_firstFault, Cond.initialized RX7, Cond.code yX7_firstFault cX7_firstFault 4 (some .int), Cond.fieldLink RX7 9 "LeastAsked$Sheet" "cells" "[I", Cond.methodLink RX7 15 yX7_mayStand, Cond.static yX7_mayStand, Cond.code yX7_mayStand cX7_mayStand 2 (some .boolean), Cond.methodLink RX7 21 yX7_isDigit, Cond.static yX7_isDigit, Cond.code yX7_isDigit cX7_isDigit 2 (some .boolean), Cond.methodLink RX7 24 yX7_kindOf, Cond.static yX7_kindOf, Cond.code yX7_kindOf cX7_kindOf 1 (some .int)]
def wsX9_province_r3 : List Cond := [Cond.methodLink RX9 97 yX7_read, Cond.static yX7_read, Cond.code yX7_read cX7_read 8 none, Cond.fieldLink RX7 28 "LeastAsked$Province" "worths" "[I", Cond.fieldLink RX7 33 "LeastAsked$Province" "count" "I", Cond.fieldLink RX7 37 "LeastAsked$Province" "people" "[LLeastAsked$Person;", Cond.fieldLink RX7 41 "LeastAsked$Person" "kind" "I", Cond.fieldLink RX7 46 "LeastAsked$Person" "asked" "I", Cond.fieldLink RX7 49 "LeastAsked$Person" "knows" "I", Cond.fieldLink RX7 52 "LeastAsked$Person" "wit" "I"]
def wsX9_province : List Cond := .code yX9_province cX9_province 8 (some .int) :: ((wsX9_province_r1 ++ (wsX9_province_r2 ++ wsX9_province_r3)) ++ wsX90 ++ wsX50 ++ wsX40 ++ wsX60 ++ wsX20)
def wsX9_ofPerson_r1 : List Cond := [Cond.fieldLink RX9 20 "LeastAsked" "now" "LLeastAsked$Province;", Cond.fieldLink RX9 108 "LeastAsked$Province" "people" "[LLeastAsked$Person;", Cond.fieldLink RX9 112 "LeastAsked$Person" "kind" "I", Cond.fieldLink RX9 117 "LeastAsked$Person" "asked" "I", Cond.fieldLink RX9 120 "LeastAsked$Person" "knows" "I", Cond.fieldLink RX9 123 "LeastAsked$Person" "wit" "I", Cond.methodLink RX9 105 yX4_hasPerson, Cond.instanceMethod yX4_hasPerson, Cond.selects RX4 yX4_hasPerson yX4_hasPerson, Cond.initialized RX4, Cond.code yX4_hasPerson cX4_hasPerson 2 (some .boolean), Cond.fieldLink RX4 21 "LeastAsked$Province" "count" "I", Cond.static yX9_isBelow, Cond.initialized RX9, Cond.code yX9_isBelow cX9_isBelow 2 (some .boolean), Cond.methodLink RX9 126 yX2_saying, Cond.instanceMethod yX2_saying, Cond.selects RX2 yX2_saying yX2_saying, Cond.initialized RX2, Cond.code yX2_saying cX2_saying 1 (some .int), Cond.fieldLink RX2 9 "LeastAsked$Person" "kind" "I", Cond.fieldLink RX2 21 "LeastAsked$Person" "wit" "I", Cond.methodLink RX9 130 yX4_placeOf, Cond.instanceMethod yX4_placeOf]
def wsX9_ofPerson_r2 : List Cond := [Cond.selects RX4 yX4_placeOf yX4_placeOf, Cond.code yX4_placeOf cX4_placeOf 4 (some .int), Cond.methodLink RX4 60 yX4_timesAhead, Cond.instanceMethod yX4_timesAhead, Cond.selects RX4 yX4_timesAhead yX4_timesAhead, Cond.code yX4_timesAhead cX4_timesAhead 4 (some .int), Cond.fieldLink RX4 17 "LeastAsked$Province" "people" "[LLeastAsked$Person;", Cond.fieldLink RX4 57 "LeastAsked$Person" "asked" "I", Cond.methodLink RX4 68 Lib.Math.max.name, Cond.static Lib.Math.max.name, Cond.initialized "java/lang/Math", Cond.code Lib.Math.max.name Lib.Math.max.code 2 (some .int)]
def wsX9_ofPerson : List Cond := .code yX9_ofPerson cX9_ofPerson 4 (some .int) :: ((wsX9_ofPerson_r1 ++ wsX9_ofPerson_r2) ++ wsX90 ++ wsX40 ++ wsX20)
def wsX9_worth : List Cond := .code yX9_worth cX9_worth 2 (some .int) :: ([.fieldLink RX9 20 "LeastAsked" "now" "LLeastAsked$Province;", .fieldLink RX9 136 "LeastAsked$Province" "worths" "[I", .methodLink RX9 133 yX4_hasMatter, .instanceMethod yX4_hasMatter, .selects RX4 yX4_hasMatter yX4_hasMatter, .initialized RX4, .code yX4_hasMatter cX4_hasMatter 2 (some .boolean), .fieldLink RX4 21 "LeastAsked$Province" "count" "I", .static yX9_isBelow, .initialized RX9, .code yX9_isBelow cX9_isBelow 2 (some .boolean)] ++ wsX90 ++ wsX40)
def wsX9_weigh : List Cond := .code yX9_weigh cX9_weigh 4 (some .int) :: ([.fieldLink RX9 20 "LeastAsked" "now" "LLeastAsked$Province;", .fieldLink RX9 136 "LeastAsked$Province" "worths" "[I", .methodLink RX9 133 yX4_hasMatter, .instanceMethod yX4_hasMatter, .selects RX4 yX4_hasMatter yX4_hasMatter, .initialized RX4, .code yX4_hasMatter cX4_hasMatter 2 (some .boolean), .fieldLink RX4 21 "LeastAsked$Province" "count" "I", .static yX9_isBelow, .initialized RX9, .code yX9_isBelow cX9_isBelow 2 (some .boolean), .methodLink RX9 140 yX9_isBelow] ++ wsX90 ++ wsX40)
def wsX9_teach : List Cond := .code yX9_teach cX9_teach 4 (some .int) :: ([.fieldLink RX9 20 "LeastAsked" "now" "LLeastAsked$Province;", .fieldLink RX9 108 "LeastAsked$Province" "people" "[LLeastAsked$Person;", .fieldLink RX9 120 "LeastAsked$Person" "knows" "I", .methodLink RX9 105 yX4_hasPerson, .instanceMethod yX4_hasPerson, .selects RX4 yX4_hasPerson yX4_hasPerson, .initialized RX4, .code yX4_hasPerson cX4_hasPerson 2 (some .boolean), .fieldLink RX4 21 "LeastAsked$Province" "count" "I", .static yX9_isBelow, .initialized RX9, .code yX9_isBelow cX9_isBelow 2 (some .boolean), .methodLink RX9 140 yX9_isBelow] ++ wsX90 ++ wsX40 ++ wsX20)
def wsX9_sharpen : List Cond := .code yX9_sharpen cX9_sharpen 4 (some .int) :: ([.fieldLink RX9 20 "LeastAsked" "now" "LLeastAsked$Province;", .fieldLink RX9 108 "LeastAsked$Province" "people" "[LLeastAsked$Person;", .fieldLink RX9 123 "LeastAsked$Person" "wit" "I", .methodLink RX9 105 yX4_hasPerson, .instanceMethod yX4_hasPerson, .selects RX4 yX4_hasPerson yX4_hasPerson, .initialized RX4, .code yX4_hasPerson cX4_hasPerson 2 (some .boolean), .fieldLink RX4 21 "LeastAsked$Province" "count" "I", .static yX9_isBelow, .initialized RX9, .code yX9_isBelow cX9_isBelow 2 (some .boolean), .methodLink RX9 140 yX9_isBelow] ++ wsX90 ++ wsX40 ++ wsX20)
def wsX9_brings_r1 : List Cond := [Cond.fieldLink RX9 20 "LeastAsked" "now" "LLeastAsked$Province;", Cond.methodLink RX9 105 yX4_hasPerson, Cond.instanceMethod yX4_hasPerson, Cond.selects RX4 yX4_hasPerson yX4_hasPerson, Cond.initialized RX4, Cond.code yX4_hasPerson cX4_hasPerson 2 (some .boolean), Cond.fieldLink RX4 21 "LeastAsked$Province" "count" "I", Cond.static yX9_isBelow, Cond.initialized RX9, Cond.code yX9_isBelow cX9_isBelow 2 (some .boolean), Cond.methodLink RX9 133 yX4_hasMatter, Cond.instanceMethod yX4_hasMatter, Cond.selects RX4 yX4_hasMatter yX4_hasMatter, Cond.code yX4_hasMatter cX4_hasMatter 2 (some .boolean), Cond.methodLink RX9 143 yX4_bringing, Cond.instanceMethod yX4_bringing, Cond.selects RX4 yX4_bringing yX4_bringing, Cond.code yX4_bringing cX4_bringing 4 (some .int), Cond.fieldLink RX4 17 "LeastAsked$Province" "people" "[LLeastAsked$Person;", Cond.fieldLink RX4 9 "LeastAsked$Province" "worths" "[I", Cond.methodLink RX4 49 yX2_saying, Cond.instanceMethod yX2_saying, Cond.selects RX2 yX2_saying yX2_saying, Cond.initialized RX2]
def wsX9_brings_r2 : List Cond := [Cond.code yX2_saying cX2_saying 1 (some .int), Cond.fieldLink RX2 9 "LeastAsked$Person" "kind" "I", Cond.fieldLink RX2 21 "LeastAsked$Person" "wit" "I", Cond.methodLink RX4 53 yX2_isKnowing, Cond.instanceMethod yX2_isKnowing, Cond.selects RX2 yX2_isKnowing yX2_isKnowing, Cond.code yX2_isKnowing cX2_isKnowing 2 (some .boolean), Cond.fieldLink RX2 18 "LeastAsked$Person" "knows" "I"]
def wsX9_brings : List Cond := .code yX9_brings cX9_brings 3 (some .int) :: ((wsX9_brings_r1 ++ wsX9_brings_r2) ++ wsX90 ++ wsX40 ++ wsX20)
def wsX9_question_r1 : List Cond := [Cond.fieldLink RX9 20 "LeastAsked" "now" "LLeastAsked$Province;", Cond.fieldLink RX9 108 "LeastAsked$Province" "people" "[LLeastAsked$Person;", Cond.fieldLink RX9 117 "LeastAsked$Person" "asked" "I", Cond.fieldLink RX9 62 "LeastAsked" "questions" "I", Cond.fieldLink RX9 66 "LeastAsked" "brought" "I", Cond.methodLink RX9 133 yX4_hasMatter, Cond.instanceMethod yX4_hasMatter, Cond.selects RX4 yX4_hasMatter yX4_hasMatter, Cond.initialized RX4, Cond.code yX4_hasMatter cX4_hasMatter 2 (some .boolean), Cond.fieldLink RX4 21 "LeastAsked$Province" "count" "I", Cond.static yX9_isBelow, Cond.initialized RX9, Cond.code yX9_isBelow cX9_isBelow 2 (some .boolean), Cond.methodLink RX9 147 yX4_first, Cond.instanceMethod yX4_first, Cond.selects RX4 yX4_first yX4_first, Cond.code yX4_first cX4_first 3 (some .int), Cond.fieldLink RX4 17 "LeastAsked$Province" "people" "[LLeastAsked$Person;", Cond.fieldLink RX4 57 "LeastAsked$Person" "asked" "I", Cond.methodLink RX9 143 yX4_bringing, Cond.instanceMethod yX4_bringing, Cond.selects RX4 yX4_bringing yX4_bringing, Cond.code yX4_bringing cX4_bringing 4 (some .int)]
def wsX9_question_r2 : List Cond := [Cond.fieldLink RX4 9 "LeastAsked$Province" "worths" "[I", Cond.methodLink RX4 49 yX2_saying, Cond.instanceMethod yX2_saying, Cond.selects RX2 yX2_saying yX2_saying, Cond.initialized RX2, Cond.code yX2_saying cX2_saying 1 (some .int), Cond.fieldLink RX2 9 "LeastAsked$Person" "kind" "I", Cond.fieldLink RX2 21 "LeastAsked$Person" "wit" "I", Cond.methodLink RX4 53 yX2_isKnowing, Cond.instanceMethod yX2_isKnowing, Cond.selects RX2 yX2_isKnowing yX2_isKnowing, Cond.code yX2_isKnowing cX2_isKnowing 2 (some .boolean), Cond.fieldLink RX2 18 "LeastAsked$Person" "knows" "I"]
def wsX9_question : List Cond := .code yX9_question cX9_question 3 (some .int) :: ((wsX9_question_r1 ++ wsX9_question_r2) ++ wsX90 ++ wsX40 ++ wsX20)
def wsX9_feint : List Cond := .code yX9_feint cX9_feint 2 (some .int) :: ([.fieldLink RX9 20 "LeastAsked" "now" "LLeastAsked$Province;", .fieldLink RX9 108 "LeastAsked$Province" "people" "[LLeastAsked$Person;", .fieldLink RX9 117 "LeastAsked$Person" "asked" "I", .methodLink RX9 105 yX4_hasPerson, .instanceMethod yX4_hasPerson, .selects RX4 yX4_hasPerson yX4_hasPerson, .initialized RX4, .code yX4_hasPerson cX4_hasPerson 2 (some .boolean), .fieldLink RX4 21 "LeastAsked$Province" "count" "I", .static yX9_isBelow, .initialized RX9, .code yX9_isBelow cX9_isBelow 2 (some .boolean), .methodLink RX9 147 yX4_first, .instanceMethod yX4_first, .selects RX4 yX4_first yX4_first, .code yX4_first cX4_first 3 (some .int), .fieldLink RX4 17 "LeastAsked$Province" "people" "[LLeastAsked$Person;", .fieldLink RX4 57 "LeastAsked$Person" "asked" "I"] ++ wsX90 ++ wsX40 ++ wsX20)
def wsX9_rowFault : List Cond := .code yX9_rowFault cX9_rowFault 5 (some .int) :: ([.methodLink RX9 80 yX6_faultAs, .instanceMethod yX6_faultAs, .selects RX6 yX6_faultAs yX6_faultAs, .initialized RX6, .code yX6_faultAs cX6_faultAs 2 (some .int), .fieldLink RX6 15 "LeastAsked$Sheet" "filled" "Z", .fieldLink RX6 19 "LeastAsked$Sheet" "lane" "I", .methodLink RX9 84 yX6_holds, .instanceMethod yX6_holds, .selects RX6 yX6_holds yX6_holds, .code yX6_holds cX6_holds 3 (some .boolean), .fieldLink RX6 23 "LeastAsked$Sheet" "length" "I"] ++ wsX60)
def wsX9_year_r1 : List Cond := [Cond.fieldLink RX9 69 "LeastAsked" "lastFault" "I", Cond.fieldLink RX9 13 "LeastAsked" "sheets" "[LLeastAsked$Sheet;", Cond.fieldLink RX9 20 "LeastAsked" "now" "LLeastAsked$Province;", Cond.fieldLink RX9 104 "LeastAsked$Province" "count" "I", Cond.fieldLink RX9 24 "LeastAsked" "trial" "LLeastAsked$Province;", Cond.fieldLink RX9 30 "LeastAsked" "yearRun" "LLeastAsked$YearRun;", Cond.methodLink RX9 73 yX9_isSheet, Cond.static yX9_isSheet, Cond.initialized RX9, Cond.code yX9_isSheet cX9_isSheet 1 (some .boolean), Cond.methodLink RX9 140 yX9_isBelow, Cond.static yX9_isBelow, Cond.code yX9_isBelow cX9_isBelow 2 (some .boolean), Cond.methodLink RX9 77 yX9_isLane, Cond.static yX9_isLane, Cond.code yX9_isLane cX9_isLane 1 (some .boolean), Cond.methodLink RX9 150 yX8_tells, Cond.static yX8_tells, Cond.initialized RX8, Cond.code yX8_tells cX8_tells 1 (some .boolean), Cond.methodLink RX8 28 yX8_isLearner, Cond.static yX8_isLearner, Cond.code yX8_isLearner cX8_isLearner 1 (some .boolean), Cond.methodLink RX9 153 yX9_rowFault]
def wsX9_year_r2 : List Cond := [Cond.static yX9_rowFault, Cond.code yX9_rowFault cX9_rowFault 5 (some .int), Cond.methodLink RX9 80 yX6_faultAs, Cond.instanceMethod yX6_faultAs, Cond.selects RX6 yX6_faultAs yX6_faultAs, Cond.initialized RX6, Cond.code yX6_faultAs cX6_faultAs 2 (some .int), Cond.fieldLink RX6 15 "LeastAsked$Sheet" "filled" "Z", Cond.fieldLink RX6 19 "LeastAsked$Sheet" "lane" "I", Cond.methodLink RX9 84 yX6_holds, Cond.instanceMethod yX6_holds, Cond.selects RX6 yX6_holds yX6_holds, Cond.code yX6_holds cX6_holds 3 (some .boolean), Cond.fieldLink RX6 23 "LeastAsked$Sheet" "length" "I", Cond.methodLink RX9 88 yX9_failed, Cond.instanceMethod yX9_failed, Cond.selects RX9 yX9_failed yX9_failed, Cond.code yX9_failed cX9_failed 2 (some .int), Cond.methodLink RX9 157 yX8_refusal, Cond.static yX8_refusal, Cond.code yX8_refusal cX8_refusal 7 (some .int), Cond.fieldLink RX8 32 "LeastAsked$Sheet" "cells" "[I", Cond.methodLink RX8 38 yX8_pairRefusal, Cond.static yX8_pairRefusal]
def wsX9_year_r3 : List Cond := [Cond.code yX8_pairRefusal cX8_pairRefusal 3 (some .int), Cond.methodLink RX8 42 yX4_hasMatter, Cond.instanceMethod yX4_hasMatter, Cond.selects RX4 yX4_hasMatter yX4_hasMatter, Cond.initialized RX4, Cond.code yX4_hasMatter cX4_hasMatter 2 (some .boolean), Cond.fieldLink RX4 21 "LeastAsked$Province" "count" "I", Cond.methodLink RX8 47 yX4_hasPerson, Cond.instanceMethod yX4_hasPerson, Cond.selects RX4 yX4_hasPerson yX4_hasPerson, Cond.code yX4_hasPerson cX4_hasPerson 2 (some .boolean), Cond.methodLink RX9 161 yX4_becomeLike, Cond.instanceMethod yX4_becomeLike, Cond.selects RX4 yX4_becomeLike yX4_becomeLike, Cond.code yX4_becomeLike cX4_becomeLike 3 none, Cond.fieldLink RX4 9 "LeastAsked$Province" "worths" "[I", Cond.methodLink RX4 26 arraycopyName, Cond.native arraycopyName, Cond.static arraycopyName, Cond.initialized "java/lang/System", Cond.fieldLink RX4 17 "LeastAsked$Province" "people" "[LLeastAsked$Person;", Cond.methodLink RX4 32 yX2_becomeLike, Cond.instanceMethod yX2_becomeLike, Cond.selects RX2 yX2_becomeLike yX2_becomeLike]
def wsX9_year_r4 : List Cond := [Cond.initialized RX2, Cond.code yX2_becomeLike cX2_becomeLike 2 none, Cond.fieldLink RX2 9 "LeastAsked$Person" "kind" "I", Cond.fieldLink RX2 15 "LeastAsked$Person" "asked" "I", Cond.fieldLink RX2 18 "LeastAsked$Person" "knows" "I", Cond.fieldLink RX2 21 "LeastAsked$Person" "wit" "I", Cond.methodLink RX9 165 yX8_go, Cond.instanceMethod yX8_go, Cond.selects RX8 yX8_go yX8_go, Cond.code yX8_go cX8_go 7 none, Cond.fieldLink RX8 9 "LeastAsked$YearRun" "brought" "I", Cond.fieldLink RX8 15 "LeastAsked$YearRun" "askedSet" "I", Cond.fieldLink RX8 18 "LeastAsked$YearRun" "toKnowing" "I", Cond.fieldLink RX8 21 "LeastAsked$YearRun" "wrong" "I", Cond.methodLink RX8 50 yX8_isDone, Cond.instanceMethod yX8_isDone, Cond.selects RX8 yX8_isDone yX8_isDone, Cond.code yX8_isDone cX8_isDone 5 (some .boolean), Cond.fieldLink RX8 62 "LeastAsked$Province" "people" "[LLeastAsked$Person;", Cond.fieldLink RX8 66 "LeastAsked$Person" "asked" "I", Cond.fieldLink RX8 71 "LeastAsked$Person" "knows" "I", Cond.methodLink RX8 54 yX8_ask, Cond.instanceMethod yX8_ask, Cond.selects RX8 yX8_ask yX8_ask]
def wsX9_year_r5 : List Cond := [Cond.code yX8_ask cX8_ask 4 none, Cond.methodLink RX8 58 yX4_first, Cond.instanceMethod yX4_first, Cond.selects RX4 yX4_first yX4_first, Cond.code yX4_first cX4_first 3 (some .int), Cond.fieldLink RX4 57 "LeastAsked$Person" "asked" "I", Cond.methodLink RX8 74 yX4_bringing, Cond.instanceMethod yX4_bringing, Cond.selects RX4 yX4_bringing yX4_bringing, Cond.code yX4_bringing cX4_bringing 4 (some .int), Cond.methodLink RX4 49 yX2_saying, Cond.instanceMethod yX2_saying, Cond.selects RX2 yX2_saying yX2_saying, Cond.code yX2_saying cX2_saying 1 (some .int), Cond.methodLink RX4 53 yX2_isKnowing, Cond.instanceMethod yX2_isKnowing, Cond.selects RX2 yX2_isKnowing yX2_isKnowing, Cond.code yX2_isKnowing cX2_isKnowing 2 (some .boolean), Cond.methodLink RX8 78 yX2_isKnowing, Cond.methodLink RX9 168 yX8_answer, Cond.instanceMethod yX8_answer, Cond.selects RX8 yX8_answer yX8_answer, Cond.code yX8_answer cX8_answer 3 (some .int)]
def wsX9_year : List Cond := .code yX9_year cX9_year 8 (some .int) :: ((wsX9_year_r1 ++ (wsX9_year_r2 ++ (wsX9_year_r3 ++ (wsX9_year_r4 ++ wsX9_year_r5)))) ++ wsX90 ++ wsX40 ++ wsX60 ++ wsX20 ++ wsX80)
def wsX9_register_r1 : List Cond := [Cond.fieldLink RX9 20 "LeastAsked" "now" "LLeastAsked$Province;", Cond.fieldLink RX9 104 "LeastAsked$Province" "count" "I", Cond.methodLink RX9 140 yX9_isBelow, Cond.static yX9_isBelow, Cond.initialized RX9, Cond.code yX9_isBelow cX9_isBelow 2 (some .boolean), Cond.methodLink RX9 172 yX4_atPlace, Cond.instanceMethod yX4_atPlace, Cond.selects RX4 yX4_atPlace yX4_atPlace, Cond.initialized RX4, Cond.code yX4_atPlace cX4_atPlace 3 (some .int), Cond.fieldLink RX4 21 "LeastAsked$Province" "count" "I", Cond.methodLink RX4 64 yX4_placeOf, Cond.instanceMethod yX4_placeOf, Cond.selects RX4 yX4_placeOf yX4_placeOf, Cond.code yX4_placeOf cX4_placeOf 4 (some .int), Cond.methodLink RX4 60 yX4_timesAhead, Cond.instanceMethod yX4_timesAhead, Cond.selects RX4 yX4_timesAhead yX4_timesAhead, Cond.code yX4_timesAhead cX4_timesAhead 4 (some .int), Cond.fieldLink RX4 17 "LeastAsked$Province" "people" "[LLeastAsked$Person;", Cond.fieldLink RX4 57 "LeastAsked$Person" "asked" "I", Cond.methodLink RX4 68 Lib.Math.max.name, Cond.static Lib.Math.max.name]
def wsX9_register_r2 : List Cond := [Cond.initialized "java/lang/Math", Cond.code Lib.Math.max.name Lib.Math.max.code 2 (some .int)]
def wsX9_register : List Cond := .code yX9_register cX9_register 2 (some .int) :: ((wsX9_register_r1 ++ wsX9_register_r2) ++ wsX90 ++ wsX40 ++ wsX20)
def wsX9_turn : List Cond := .code yX9_turn cX9_turn 2 (some .int) :: ([.fieldLink RX9 20 "LeastAsked" "now" "LLeastAsked$Province;", .methodLink RX9 105 yX4_hasPerson, .instanceMethod yX4_hasPerson, .selects RX4 yX4_hasPerson yX4_hasPerson, .initialized RX4, .code yX4_hasPerson cX4_hasPerson 2 (some .boolean), .fieldLink RX4 21 "LeastAsked$Province" "count" "I", .static yX9_isBelow, .initialized RX9, .code yX9_isBelow cX9_isBelow 2 (some .boolean), .methodLink RX9 175 yX4_questionsAheadOf, .instanceMethod yX4_questionsAheadOf, .selects RX4 yX4_questionsAheadOf yX4_questionsAheadOf, .code yX4_questionsAheadOf cX4_questionsAheadOf 4 (some .int), .methodLink RX4 60 yX4_timesAhead, .instanceMethod yX4_timesAhead, .selects RX4 yX4_timesAhead yX4_timesAhead, .code yX4_timesAhead cX4_timesAhead 4 (some .int), .fieldLink RX4 17 "LeastAsked$Province" "people" "[LLeastAsked$Person;", .fieldLink RX4 57 "LeastAsked$Person" "asked" "I", .methodLink RX4 68 Lib.Math.max.name, .static Lib.Math.max.name, .initialized "java/lang/Math", .code Lib.Math.max.name Lib.Math.max.code 2 (some .int)] ++ wsX90 ++ wsX40 ++ wsX20)
def wsX9_steer_r1 : List Cond := [Cond.fieldLink RX9 20 "LeastAsked" "now" "LLeastAsked$Province;", Cond.methodLink RX9 133 yX4_hasMatter, Cond.instanceMethod yX4_hasMatter, Cond.selects RX4 yX4_hasMatter yX4_hasMatter, Cond.initialized RX4, Cond.code yX4_hasMatter cX4_hasMatter 2 (some .boolean), Cond.fieldLink RX4 21 "LeastAsked$Province" "count" "I", Cond.static yX9_isBelow, Cond.initialized RX9, Cond.code yX9_isBelow cX9_isBelow 2 (some .boolean), Cond.methodLink RX9 178 yX4_feintsTillKnown, Cond.instanceMethod yX4_feintsTillKnown, Cond.selects RX4 yX4_feintsTillKnown yX4_feintsTillKnown, Cond.code yX4_feintsTillKnown cX4_feintsTillKnown 5 (some .int), Cond.fieldLink RX4 17 "LeastAsked$Province" "people" "[LLeastAsked$Person;", Cond.methodLink RX4 76 Lib.Math.min.name, Cond.static Lib.Math.min.name, Cond.initialized "java/lang/Math", Cond.code Lib.Math.min.name Lib.Math.min.code 2 (some .int), Cond.methodLink RX4 53 yX2_isKnowing, Cond.instanceMethod yX2_isKnowing, Cond.selects RX2 yX2_isKnowing yX2_isKnowing, Cond.initialized RX2, Cond.code yX2_isKnowing cX2_isKnowing 2 (some .boolean)]
def wsX9_steer_r2 : List Cond := [Cond.fieldLink RX2 18 "LeastAsked$Person" "knows" "I", Cond.methodLink RX4 73 yX4_questionsAheadOf, Cond.instanceMethod yX4_questionsAheadOf, Cond.selects RX4 yX4_questionsAheadOf yX4_questionsAheadOf, Cond.code yX4_questionsAheadOf cX4_questionsAheadOf 4 (some .int), Cond.methodLink RX4 60 yX4_timesAhead, Cond.instanceMethod yX4_timesAhead, Cond.selects RX4 yX4_timesAhead yX4_timesAhead, Cond.code yX4_timesAhead cX4_timesAhead 4 (some .int), Cond.fieldLink RX4 57 "LeastAsked$Person" "asked" "I", Cond.methodLink RX4 68 Lib.Math.max.name, Cond.static Lib.Math.max.name, Cond.code Lib.Math.max.name Lib.Math.max.code 2 (some .int)]
def wsX9_steer : List Cond := .code yX9_steer cX9_steer 2 (some .int) :: ((wsX9_steer_r1 ++ wsX9_steer_r2) ++ wsX90 ++ wsX40 ++ wsX20)
def wsX9_even : List Cond := .code yX9_even cX9_even 1 (some .int) :: ([.fieldLink RX9 20 "LeastAsked" "now" "LLeastAsked$Province;", .fieldLink RX9 104 "LeastAsked$Province" "count" "I", .methodLink RX9 181 yX4_questionsTillEven, .instanceMethod yX4_questionsTillEven, .selects RX4 yX4_questionsTillEven yX4_questionsTillEven, .initialized RX4, .code yX4_questionsTillEven cX4_questionsTillEven 4 (some .int), .fieldLink RX4 21 "LeastAsked$Province" "count" "I", .fieldLink RX4 17 "LeastAsked$Province" "people" "[LLeastAsked$Person;", .fieldLink RX4 57 "LeastAsked$Person" "asked" "I", .methodLink RX4 68 Lib.Math.max.name, .static Lib.Math.max.name, .initialized "java/lang/Math", .code Lib.Math.max.name Lib.Math.max.code 2 (some .int)] ++ wsX90 ++ wsX40 ++ wsX20)
def wsX9_plan_r1 : List Cond := [Cond.fieldLink RX9 69 "LeastAsked" "lastFault" "I", Cond.fieldLink RX9 13 "LeastAsked" "sheets" "[LLeastAsked$Sheet;", Cond.fieldLink RX9 20 "LeastAsked" "now" "LLeastAsked$Province;", Cond.fieldLink RX9 104 "LeastAsked$Province" "count" "I", Cond.fieldLink RX9 184 "LeastAsked$Sheet" "cells" "[I", Cond.fieldLink RX9 24 "LeastAsked" "trial" "LLeastAsked$Province;", Cond.fieldLink RX9 37 "LeastAsked" "planner" "LLeastAsked$Planner;", Cond.methodLink RX9 73 yX9_isSheet, Cond.static yX9_isSheet, Cond.initialized RX9, Cond.code yX9_isSheet cX9_isSheet 1 (some .boolean), Cond.methodLink RX9 140 yX9_isBelow, Cond.static yX9_isBelow, Cond.code yX9_isBelow cX9_isBelow 2 (some .boolean), Cond.methodLink RX9 77 yX9_isLane, Cond.static yX9_isLane, Cond.code yX9_isLane cX9_isLane 1 (some .boolean), Cond.methodLink RX9 153 yX9_rowFault, Cond.static yX9_rowFault, Cond.code yX9_rowFault cX9_rowFault 5 (some .int), Cond.methodLink RX9 80 yX6_faultAs, Cond.instanceMethod yX6_faultAs, Cond.selects RX6 yX6_faultAs yX6_faultAs, Cond.initialized RX6]
def wsX9_plan_r2 : List Cond := [Cond.code yX6_faultAs cX6_faultAs 2 (some .int), Cond.fieldLink RX6 15 "LeastAsked$Sheet" "filled" "Z", Cond.fieldLink RX6 19 "LeastAsked$Sheet" "lane" "I", Cond.methodLink RX9 84 yX6_holds, Cond.instanceMethod yX6_holds, Cond.selects RX6 yX6_holds yX6_holds, Cond.code yX6_holds cX6_holds 3 (some .boolean), Cond.fieldLink RX6 23 "LeastAsked$Sheet" "length" "I", Cond.methodLink RX9 88 yX9_failed, Cond.instanceMethod yX9_failed, Cond.selects RX9 yX9_failed yX9_failed, Cond.code yX9_failed cX9_failed 2 (some .int), Cond.methodLink RX9 133 yX4_hasMatter, Cond.instanceMethod yX4_hasMatter, Cond.selects RX4 yX4_hasMatter yX4_hasMatter, Cond.initialized RX4, Cond.code yX4_hasMatter cX4_hasMatter 2 (some .boolean), Cond.fieldLink RX4 21 "LeastAsked$Province" "count" "I", Cond.methodLink RX9 161 yX4_becomeLike, Cond.instanceMethod yX4_becomeLike, Cond.selects RX4 yX4_becomeLike yX4_becomeLike, Cond.code yX4_becomeLike cX4_becomeLike 3 none, Cond.fieldLink RX4 9 "LeastAsked$Province" "worths" "[I", Cond.methodLink RX4 26 arraycopyName]
def wsX9_plan_r3 : List Cond := [Cond.native arraycopyName, Cond.static arraycopyName, Cond.initialized "java/lang/System", Cond.fieldLink RX4 17 "LeastAsked$Province" "people" "[LLeastAsked$Person;", Cond.methodLink RX4 32 yX2_becomeLike, Cond.instanceMethod yX2_becomeLike, Cond.selects RX2 yX2_becomeLike yX2_becomeLike, Cond.initialized RX2, Cond.code yX2_becomeLike cX2_becomeLike 2 none, Cond.fieldLink RX2 9 "LeastAsked$Person" "kind" "I", Cond.fieldLink RX2 15 "LeastAsked$Person" "asked" "I", Cond.fieldLink RX2 18 "LeastAsked$Person" "knows" "I", Cond.fieldLink RX2 21 "LeastAsked$Person" "wit" "I", Cond.methodLink RX9 187 yX3_make, Cond.instanceMethod yX3_make, Cond.selects RX3 yX3_make yX3_make, Cond.initialized RX3, Cond.code yX3_make cX3_make 8 none, Cond.fieldLink RX3 24 "LeastAsked$Planner" "length" "I", Cond.fieldLink RX3 9 "LeastAsked$Planner" "matters" "[I", Cond.fieldLink RX3 28 "LeastAsked$Sheet" "cells" "[I", Cond.fieldLink RX3 15 "LeastAsked$Planner" "whoIsAsked" "[I", Cond.fieldLink RX3 39 "LeastAsked$Province" "people" "[LLeastAsked$Person;", Cond.fieldLink RX3 43 "LeastAsked$Person" "asked" "I"]
def wsX9_plan_r4 : List Cond := [Cond.fieldLink RX3 21 "LeastAsked$Planner" "mostAfter" "[I", Cond.fieldLink RX3 18 "LeastAsked$Planner" "row" "[I", Cond.methodLink RX3 33 yX4_first, Cond.instanceMethod yX4_first, Cond.selects RX4 yX4_first yX4_first, Cond.code yX4_first cX4_first 3 (some .int), Cond.fieldLink RX4 57 "LeastAsked$Person" "asked" "I", Cond.methodLink RX3 48 yX3_nextPlace, Cond.instanceMethod yX3_nextPlace, Cond.selects RX3 yX3_nextPlace yX3_nextPlace, Cond.code yX3_nextPlace cX3_nextPlace 7 (some .int), Cond.methodLink RX3 52 yX3_mostWith, Cond.instanceMethod yX3_mostWith, Cond.selects RX3 yX3_mostWith yX3_mostWith, Cond.code yX3_mostWith cX3_mostWith 5 (some .int), Cond.methodLink RX3 56 yJ6_bitCount_0f7a4, Cond.static yJ6_bitCount_0f7a4, Cond.initialized RJ6, Cond.code yJ6_bitCount_0f7a4 cJ6_bitCount_0f7a4 1 (some .int), Cond.constant RJ6 265 (1431655765), Cond.constant RJ6 266 (858993459), Cond.constant RJ6 267 (252645135), Cond.methodLink RX3 62 yX4_bringing, Cond.instanceMethod yX4_bringing]
def wsX9_plan_r5 : List Cond := [Cond.selects RX4 yX4_bringing yX4_bringing, Cond.code yX4_bringing cX4_bringing 4 (some .int), Cond.methodLink RX4 49 yX2_saying, Cond.instanceMethod yX2_saying, Cond.selects RX2 yX2_saying yX2_saying, Cond.code yX2_saying cX2_saying 1 (some .int), Cond.methodLink RX4 53 yX2_isKnowing, Cond.instanceMethod yX2_isKnowing, Cond.selects RX2 yX2_isKnowing yX2_isKnowing, Cond.code yX2_isKnowing cX2_isKnowing 2 (some .boolean), Cond.methodLink RX9 190 yX3_answer, Cond.instanceMethod yX3_answer, Cond.selects RX3 yX3_answer yX3_answer, Cond.code yX3_answer cX3_answer 2 (some .int)]
def wsX9_plan : List Cond := .code yX9_plan cX9_plan 8 (some .int) :: ((wsX9_plan_r1 ++ (wsX9_plan_r2 ++ (wsX9_plan_r3 ++ (wsX9_plan_r4 ++ wsX9_plan_r5)))) ++ wsX90 ++ wsX40 ++ wsX60 ++ wsX20 ++ wsX30)
def wsX9_best_r1 : List Cond := [Cond.fieldLink RX9 20 "LeastAsked" "now" "LLeastAsked$Province;", Cond.fieldLink RX9 104 "LeastAsked$Province" "count" "I", Cond.fieldLink RX9 44 "LeastAsked" "giver" "LLeastAsked$Giver;", Cond.fieldLink RX9 195 "LeastAsked$Giver" "most" "I", Cond.fieldLink RX9 198 "LeastAsked$Giver" "row" "[I", Cond.methodLink RX9 192 yX1_give, Cond.instanceMethod yX1_give, Cond.selects RX1 yX1_give yX1_give, Cond.initialized RX1, Cond.code yX1_give cX1_give 6 none, Cond.fieldLink RX1 19 "LeastAsked$Province" "count" "I", Cond.fieldLink RX1 15 "LeastAsked$Giver" "most" "I", Cond.methodLink RX1 24 yX1_consider, Cond.instanceMethod yX1_consider, Cond.selects RX1 yX1_consider yX1_consider, Cond.code yX1_consider cX1_consider 9 none, Cond.methodLink RX1 28 Lib.Math.min.name, Cond.static Lib.Math.min.name, Cond.initialized "java/lang/Math", Cond.code Lib.Math.min.name Lib.Math.min.code 2 (some .int), Cond.fieldLink RX1 9 "LeastAsked$Giver" "row" "[I", Cond.methodLink RX1 34 yX1_gain, Cond.static yX1_gain, Cond.code yX1_gain cX1_gain 3 (some .int)]
def wsX9_best_r2 : List Cond := [Cond.methodLink RX1 38 yX4_hasPerson, Cond.instanceMethod yX4_hasPerson, Cond.selects RX4 yX4_hasPerson yX4_hasPerson, Cond.initialized RX4, Cond.code yX4_hasPerson cX4_hasPerson 2 (some .boolean), Cond.fieldLink RX4 21 "LeastAsked$Province" "count" "I", Cond.static yX9_isBelow, Cond.initialized RX9, Cond.code yX9_isBelow cX9_isBelow 2 (some .boolean), Cond.methodLink RX1 42 yX4_bringing, Cond.instanceMethod yX4_bringing, Cond.selects RX4 yX4_bringing yX4_bringing, Cond.code yX4_bringing cX4_bringing 4 (some .int), Cond.fieldLink RX4 17 "LeastAsked$Province" "people" "[LLeastAsked$Person;", Cond.fieldLink RX4 9 "LeastAsked$Province" "worths" "[I", Cond.methodLink RX4 49 yX2_saying, Cond.instanceMethod yX2_saying, Cond.selects RX2 yX2_saying yX2_saying, Cond.initialized RX2, Cond.code yX2_saying cX2_saying 1 (some .int), Cond.fieldLink RX2 9 "LeastAsked$Person" "kind" "I", Cond.fieldLink RX2 21 "LeastAsked$Person" "wit" "I", Cond.methodLink RX4 53 yX2_isKnowing, Cond.instanceMethod yX2_isKnowing]
def wsX9_best_r3 : List Cond := [Cond.selects RX2 yX2_isKnowing yX2_isKnowing, Cond.code yX2_isKnowing cX2_isKnowing 2 (some .boolean), Cond.fieldLink RX2 18 "LeastAsked$Person" "knows" "I"]
def wsX9_best : List Cond := .code yX9_best cX9_best 2 (some .int) :: ((wsX9_best_r1 ++ (wsX9_best_r2 ++ wsX9_best_r3)) ++ wsX90 ++ wsX40 ++ wsX10 ++ wsX20)
def wsX9_reading_r1 : List Cond := [Cond.fieldLink RX9 20 "LeastAsked" "now" "LLeastAsked$Province;", Cond.fieldLink RX9 51 "LeastAsked" "readings" "LLeastAsked$Readings;", Cond.fieldLink RX9 101 "LeastAsked$Readings" "count" "I", Cond.methodLink RX9 105 yX4_hasPerson, Cond.instanceMethod yX4_hasPerson, Cond.selects RX4 yX4_hasPerson yX4_hasPerson, Cond.initialized RX4, Cond.code yX4_hasPerson cX4_hasPerson 2 (some .boolean), Cond.fieldLink RX4 21 "LeastAsked$Province" "count" "I", Cond.static yX9_isBelow, Cond.initialized RX9, Cond.code yX9_isBelow cX9_isBelow 2 (some .boolean), Cond.methodLink RX9 133 yX4_hasMatter, Cond.instanceMethod yX4_hasMatter, Cond.selects RX4 yX4_hasMatter yX4_hasMatter, Cond.code yX4_hasMatter cX4_hasMatter 2 (some .boolean), Cond.methodLink RX9 201 yX5_take, Cond.instanceMethod yX5_take, Cond.selects RX5 yX5_take yX5_take, Cond.initialized RX5, Cond.code yX5_take cX5_take 5 (some .int), Cond.fieldLink RX5 21 "LeastAsked$Readings" "count" "I", Cond.fieldLink RX5 9 "LeastAsked$Readings" "persons" "[I", Cond.fieldLink RX5 15 "LeastAsked$Readings" "matters" "[I"]
def wsX9_reading_r2 : List Cond := [Cond.fieldLink RX5 18 "LeastAsked$Readings" "values" "[I"]
def wsX9_reading : List Cond := .code yX9_reading cX9_reading 4 (some .int) :: ((wsX9_reading_r1 ++ wsX9_reading_r2) ++ wsX90 ++ wsX50 ++ wsX40)
def wsX9_back : List Cond := .code yX9_back cX9_back 2 (some .int) :: ([.fieldLink RX9 51 "LeastAsked" "readings" "LLeastAsked$Readings;", .fieldLink RX9 101 "LeastAsked$Readings" "count" "I"] ++ wsX90 ++ wsX50)
def wsX9_possible_r1 : List Cond := [Cond.fieldLink RX9 24 "LeastAsked" "trial" "LLeastAsked$Province;", Cond.fieldLink RX9 20 "LeastAsked" "now" "LLeastAsked$Province;", Cond.fieldLink RX9 51 "LeastAsked" "readings" "LLeastAsked$Readings;", Cond.methodLink RX9 161 yX4_becomeLike, Cond.instanceMethod yX4_becomeLike, Cond.selects RX4 yX4_becomeLike yX4_becomeLike, Cond.initialized RX4, Cond.code yX4_becomeLike cX4_becomeLike 3 none, Cond.fieldLink RX4 21 "LeastAsked$Province" "count" "I", Cond.fieldLink RX4 9 "LeastAsked$Province" "worths" "[I", Cond.methodLink RX4 26 arraycopyName, Cond.native arraycopyName, Cond.static arraycopyName, Cond.initialized "java/lang/System", Cond.fieldLink RX4 17 "LeastAsked$Province" "people" "[LLeastAsked$Person;", Cond.methodLink RX4 32 yX2_becomeLike, Cond.instanceMethod yX2_becomeLike, Cond.selects RX2 yX2_becomeLike yX2_becomeLike, Cond.initialized RX2, Cond.code yX2_becomeLike cX2_becomeLike 2 none, Cond.fieldLink RX2 9 "LeastAsked$Person" "kind" "I", Cond.fieldLink RX2 15 "LeastAsked$Person" "asked" "I", Cond.fieldLink RX2 18 "LeastAsked$Person" "knows" "I", Cond.fieldLink RX2 21 "LeastAsked$Person" "wit" "I"]
def wsX9_possible_r2 : List Cond := [Cond.methodLink RX9 249 yX4_suppose, Cond.instanceMethod yX4_suppose, Cond.selects RX4 yX4_suppose yX4_suppose, Cond.code yX4_suppose cX4_suppose 4 none, Cond.fieldLink RX4 36 "LeastAsked$Person" "knows" "I", Cond.fieldLink RX4 39 "LeastAsked$Person" "wit" "I", Cond.fieldLink RX4 42 "LeastAsked$Person" "kind" "I", Cond.methodLink RX9 253 yX5_allSo, Cond.instanceMethod yX5_allSo, Cond.selects RX5 yX5_allSo yX5_allSo, Cond.initialized RX5, Cond.code yX5_allSo cX5_allSo 3 (some .boolean), Cond.fieldLink RX5 21 "LeastAsked$Readings" "count" "I", Cond.fieldLink RX5 9 "LeastAsked$Readings" "persons" "[I", Cond.fieldLink RX5 15 "LeastAsked$Readings" "matters" "[I", Cond.fieldLink RX5 18 "LeastAsked$Readings" "values" "[I", Cond.methodLink RX5 25 yX4_bringing, Cond.instanceMethod yX4_bringing, Cond.selects RX4 yX4_bringing yX4_bringing, Cond.code yX4_bringing cX4_bringing 4 (some .int), Cond.methodLink RX4 49 yX2_saying, Cond.instanceMethod yX2_saying, Cond.selects RX2 yX2_saying yX2_saying, Cond.code yX2_saying cX2_saying 1 (some .int)]
def wsX9_possible_r3 : List Cond := [Cond.methodLink RX4 53 yX2_isKnowing, Cond.instanceMethod yX2_isKnowing, Cond.selects RX2 yX2_isKnowing yX2_isKnowing, Cond.code yX2_isKnowing cX2_isKnowing 2 (some .boolean)]
def wsX9_possible : List Cond := .code yX9_possible cX9_possible 6 (some .int) :: ((wsX9_possible_r1 ++ (wsX9_possible_r2 ++ wsX9_possible_r3)) ++ wsX90 ++ wsX40 ++ wsX20 ++ wsX50)
def wsX9_knowings_r1 : List Cond := [Cond.fieldLink RX9 20 "LeastAsked" "now" "LLeastAsked$Province;", Cond.methodLink RX9 105 yX4_hasPerson, Cond.instanceMethod yX4_hasPerson, Cond.selects RX4 yX4_hasPerson yX4_hasPerson, Cond.initialized RX4, Cond.code yX4_hasPerson cX4_hasPerson 2 (some .boolean), Cond.fieldLink RX4 21 "LeastAsked$Province" "count" "I", Cond.static yX9_isBelow, Cond.initialized RX9, Cond.code yX9_isBelow cX9_isBelow 2 (some .boolean), Cond.methodLink RX9 205 yX9_possible, Cond.instanceMethod yX9_possible, Cond.selects RX9 yX9_possible yX9_possible, Cond.code yX9_possible cX9_possible 6 (some .int), Cond.fieldLink RX9 24 "LeastAsked" "trial" "LLeastAsked$Province;", Cond.fieldLink RX9 51 "LeastAsked" "readings" "LLeastAsked$Readings;", Cond.methodLink RX9 161 yX4_becomeLike, Cond.instanceMethod yX4_becomeLike, Cond.selects RX4 yX4_becomeLike yX4_becomeLike, Cond.code yX4_becomeLike cX4_becomeLike 3 none, Cond.fieldLink RX4 9 "LeastAsked$Province" "worths" "[I", Cond.methodLink RX4 26 arraycopyName, Cond.native arraycopyName, Cond.static arraycopyName]
def wsX9_knowings_r2 : List Cond := [Cond.initialized "java/lang/System", Cond.fieldLink RX4 17 "LeastAsked$Province" "people" "[LLeastAsked$Person;", Cond.methodLink RX4 32 yX2_becomeLike, Cond.instanceMethod yX2_becomeLike, Cond.selects RX2 yX2_becomeLike yX2_becomeLike, Cond.initialized RX2, Cond.code yX2_becomeLike cX2_becomeLike 2 none, Cond.fieldLink RX2 9 "LeastAsked$Person" "kind" "I", Cond.fieldLink RX2 15 "LeastAsked$Person" "asked" "I", Cond.fieldLink RX2 18 "LeastAsked$Person" "knows" "I", Cond.fieldLink RX2 21 "LeastAsked$Person" "wit" "I", Cond.methodLink RX9 249 yX4_suppose, Cond.instanceMethod yX4_suppose, Cond.selects RX4 yX4_suppose yX4_suppose, Cond.code yX4_suppose cX4_suppose 4 none, Cond.fieldLink RX4 36 "LeastAsked$Person" "knows" "I", Cond.fieldLink RX4 39 "LeastAsked$Person" "wit" "I", Cond.fieldLink RX4 42 "LeastAsked$Person" "kind" "I", Cond.methodLink RX9 253 yX5_allSo, Cond.instanceMethod yX5_allSo, Cond.selects RX5 yX5_allSo yX5_allSo, Cond.initialized RX5, Cond.code yX5_allSo cX5_allSo 3 (some .boolean), Cond.fieldLink RX5 21 "LeastAsked$Readings" "count" "I"]
def wsX9_knowings_r3 : List Cond := [Cond.fieldLink RX5 9 "LeastAsked$Readings" "persons" "[I", Cond.fieldLink RX5 15 "LeastAsked$Readings" "matters" "[I", Cond.fieldLink RX5 18 "LeastAsked$Readings" "values" "[I", Cond.methodLink RX5 25 yX4_bringing, Cond.instanceMethod yX4_bringing, Cond.selects RX4 yX4_bringing yX4_bringing, Cond.code yX4_bringing cX4_bringing 4 (some .int), Cond.methodLink RX4 49 yX2_saying, Cond.instanceMethod yX2_saying, Cond.selects RX2 yX2_saying yX2_saying, Cond.code yX2_saying cX2_saying 1 (some .int), Cond.methodLink RX4 53 yX2_isKnowing, Cond.instanceMethod yX2_isKnowing, Cond.selects RX2 yX2_isKnowing yX2_isKnowing, Cond.code yX2_isKnowing cX2_isKnowing 2 (some .boolean)]
def wsX9_knowings : List Cond := .code yX9_knowings cX9_knowings 2 (some .int) :: ((wsX9_knowings_r1 ++ (wsX9_knowings_r2 ++ wsX9_knowings_r3)) ++ wsX90 ++ wsX40 ++ wsX20 ++ wsX50)
def wsX9_wits_r1 : List Cond := [Cond.fieldLink RX9 20 "LeastAsked" "now" "LLeastAsked$Province;", Cond.methodLink RX9 105 yX4_hasPerson, Cond.instanceMethod yX4_hasPerson, Cond.selects RX4 yX4_hasPerson yX4_hasPerson, Cond.initialized RX4, Cond.code yX4_hasPerson cX4_hasPerson 2 (some .boolean), Cond.fieldLink RX4 21 "LeastAsked$Province" "count" "I", Cond.static yX9_isBelow, Cond.initialized RX9, Cond.code yX9_isBelow cX9_isBelow 2 (some .boolean), Cond.methodLink RX9 205 yX9_possible, Cond.instanceMethod yX9_possible, Cond.selects RX9 yX9_possible yX9_possible, Cond.code yX9_possible cX9_possible 6 (some .int), Cond.fieldLink RX9 24 "LeastAsked" "trial" "LLeastAsked$Province;", Cond.fieldLink RX9 51 "LeastAsked" "readings" "LLeastAsked$Readings;", Cond.methodLink RX9 161 yX4_becomeLike, Cond.instanceMethod yX4_becomeLike, Cond.selects RX4 yX4_becomeLike yX4_becomeLike, Cond.code yX4_becomeLike cX4_becomeLike 3 none, Cond.fieldLink RX4 9 "LeastAsked$Province" "worths" "[I", Cond.methodLink RX4 26 arraycopyName, Cond.native arraycopyName, Cond.static arraycopyName]
def wsX9_wits_r2 : List Cond := [Cond.initialized "java/lang/System", Cond.fieldLink RX4 17 "LeastAsked$Province" "people" "[LLeastAsked$Person;", Cond.methodLink RX4 32 yX2_becomeLike, Cond.instanceMethod yX2_becomeLike, Cond.selects RX2 yX2_becomeLike yX2_becomeLike, Cond.initialized RX2, Cond.code yX2_becomeLike cX2_becomeLike 2 none, Cond.fieldLink RX2 9 "LeastAsked$Person" "kind" "I", Cond.fieldLink RX2 15 "LeastAsked$Person" "asked" "I", Cond.fieldLink RX2 18 "LeastAsked$Person" "knows" "I", Cond.fieldLink RX2 21 "LeastAsked$Person" "wit" "I", Cond.methodLink RX9 249 yX4_suppose, Cond.instanceMethod yX4_suppose, Cond.selects RX4 yX4_suppose yX4_suppose, Cond.code yX4_suppose cX4_suppose 4 none, Cond.fieldLink RX4 36 "LeastAsked$Person" "knows" "I", Cond.fieldLink RX4 39 "LeastAsked$Person" "wit" "I", Cond.fieldLink RX4 42 "LeastAsked$Person" "kind" "I", Cond.methodLink RX9 253 yX5_allSo, Cond.instanceMethod yX5_allSo, Cond.selects RX5 yX5_allSo yX5_allSo, Cond.initialized RX5, Cond.code yX5_allSo cX5_allSo 3 (some .boolean), Cond.fieldLink RX5 21 "LeastAsked$Readings" "count" "I"]
def wsX9_wits_r3 : List Cond := [Cond.fieldLink RX5 9 "LeastAsked$Readings" "persons" "[I", Cond.fieldLink RX5 15 "LeastAsked$Readings" "matters" "[I", Cond.fieldLink RX5 18 "LeastAsked$Readings" "values" "[I", Cond.methodLink RX5 25 yX4_bringing, Cond.instanceMethod yX4_bringing, Cond.selects RX4 yX4_bringing yX4_bringing, Cond.code yX4_bringing cX4_bringing 4 (some .int), Cond.methodLink RX4 49 yX2_saying, Cond.instanceMethod yX2_saying, Cond.selects RX2 yX2_saying yX2_saying, Cond.code yX2_saying cX2_saying 1 (some .int), Cond.methodLink RX4 53 yX2_isKnowing, Cond.instanceMethod yX2_isKnowing, Cond.selects RX2 yX2_isKnowing yX2_isKnowing, Cond.code yX2_isKnowing cX2_isKnowing 2 (some .boolean)]
def wsX9_wits : List Cond := .code yX9_wits cX9_wits 2 (some .int) :: ((wsX9_wits_r1 ++ (wsX9_wits_r2 ++ wsX9_wits_r3)) ++ wsX90 ++ wsX40 ++ wsX20 ++ wsX50)
def wsX9_kinds_r1 : List Cond := [Cond.fieldLink RX9 20 "LeastAsked" "now" "LLeastAsked$Province;", Cond.methodLink RX9 105 yX4_hasPerson, Cond.instanceMethod yX4_hasPerson, Cond.selects RX4 yX4_hasPerson yX4_hasPerson, Cond.initialized RX4, Cond.code yX4_hasPerson cX4_hasPerson 2 (some .boolean), Cond.fieldLink RX4 21 "LeastAsked$Province" "count" "I", Cond.static yX9_isBelow, Cond.initialized RX9, Cond.code yX9_isBelow cX9_isBelow 2 (some .boolean), Cond.methodLink RX9 205 yX9_possible, Cond.instanceMethod yX9_possible, Cond.selects RX9 yX9_possible yX9_possible, Cond.code yX9_possible cX9_possible 6 (some .int), Cond.fieldLink RX9 24 "LeastAsked" "trial" "LLeastAsked$Province;", Cond.fieldLink RX9 51 "LeastAsked" "readings" "LLeastAsked$Readings;", Cond.methodLink RX9 161 yX4_becomeLike, Cond.instanceMethod yX4_becomeLike, Cond.selects RX4 yX4_becomeLike yX4_becomeLike, Cond.code yX4_becomeLike cX4_becomeLike 3 none, Cond.fieldLink RX4 9 "LeastAsked$Province" "worths" "[I", Cond.methodLink RX4 26 arraycopyName, Cond.native arraycopyName, Cond.static arraycopyName]
def wsX9_kinds_r2 : List Cond := [Cond.initialized "java/lang/System", Cond.fieldLink RX4 17 "LeastAsked$Province" "people" "[LLeastAsked$Person;", Cond.methodLink RX4 32 yX2_becomeLike, Cond.instanceMethod yX2_becomeLike, Cond.selects RX2 yX2_becomeLike yX2_becomeLike, Cond.initialized RX2, Cond.code yX2_becomeLike cX2_becomeLike 2 none, Cond.fieldLink RX2 9 "LeastAsked$Person" "kind" "I", Cond.fieldLink RX2 15 "LeastAsked$Person" "asked" "I", Cond.fieldLink RX2 18 "LeastAsked$Person" "knows" "I", Cond.fieldLink RX2 21 "LeastAsked$Person" "wit" "I", Cond.methodLink RX9 249 yX4_suppose, Cond.instanceMethod yX4_suppose, Cond.selects RX4 yX4_suppose yX4_suppose, Cond.code yX4_suppose cX4_suppose 4 none, Cond.fieldLink RX4 36 "LeastAsked$Person" "knows" "I", Cond.fieldLink RX4 39 "LeastAsked$Person" "wit" "I", Cond.fieldLink RX4 42 "LeastAsked$Person" "kind" "I", Cond.methodLink RX9 253 yX5_allSo, Cond.instanceMethod yX5_allSo, Cond.selects RX5 yX5_allSo yX5_allSo, Cond.initialized RX5, Cond.code yX5_allSo cX5_allSo 3 (some .boolean), Cond.fieldLink RX5 21 "LeastAsked$Readings" "count" "I"]
def wsX9_kinds_r3 : List Cond := [Cond.fieldLink RX5 9 "LeastAsked$Readings" "persons" "[I", Cond.fieldLink RX5 15 "LeastAsked$Readings" "matters" "[I", Cond.fieldLink RX5 18 "LeastAsked$Readings" "values" "[I", Cond.methodLink RX5 25 yX4_bringing, Cond.instanceMethod yX4_bringing, Cond.selects RX4 yX4_bringing yX4_bringing, Cond.code yX4_bringing cX4_bringing 4 (some .int), Cond.methodLink RX4 49 yX2_saying, Cond.instanceMethod yX2_saying, Cond.selects RX2 yX2_saying yX2_saying, Cond.code yX2_saying cX2_saying 1 (some .int), Cond.methodLink RX4 53 yX2_isKnowing, Cond.instanceMethod yX2_isKnowing, Cond.selects RX2 yX2_isKnowing yX2_isKnowing, Cond.code yX2_isKnowing cX2_isKnowing 2 (some .boolean)]
def wsX9_kinds : List Cond := .code yX9_kinds cX9_kinds 2 (some .int) :: ((wsX9_kinds_r1 ++ (wsX9_kinds_r2 ++ wsX9_kinds_r3)) ++ wsX90 ++ wsX40 ++ wsX20 ++ wsX50)
def wsX9_worths_r1 : List Cond := [Cond.fieldLink RX9 20 "LeastAsked" "now" "LLeastAsked$Province;", Cond.methodLink RX9 133 yX4_hasMatter, Cond.instanceMethod yX4_hasMatter, Cond.selects RX4 yX4_hasMatter yX4_hasMatter, Cond.initialized RX4, Cond.code yX4_hasMatter cX4_hasMatter 2 (some .boolean), Cond.fieldLink RX4 21 "LeastAsked$Province" "count" "I", Cond.static yX9_isBelow, Cond.initialized RX9, Cond.code yX9_isBelow cX9_isBelow 2 (some .boolean), Cond.methodLink RX9 205 yX9_possible, Cond.instanceMethod yX9_possible, Cond.selects RX9 yX9_possible yX9_possible, Cond.code yX9_possible cX9_possible 6 (some .int), Cond.fieldLink RX9 24 "LeastAsked" "trial" "LLeastAsked$Province;", Cond.fieldLink RX9 51 "LeastAsked" "readings" "LLeastAsked$Readings;", Cond.methodLink RX9 161 yX4_becomeLike, Cond.instanceMethod yX4_becomeLike, Cond.selects RX4 yX4_becomeLike yX4_becomeLike, Cond.code yX4_becomeLike cX4_becomeLike 3 none, Cond.fieldLink RX4 9 "LeastAsked$Province" "worths" "[I", Cond.methodLink RX4 26 arraycopyName, Cond.native arraycopyName, Cond.static arraycopyName]
def wsX9_worths_r2 : List Cond := [Cond.initialized "java/lang/System", Cond.fieldLink RX4 17 "LeastAsked$Province" "people" "[LLeastAsked$Person;", Cond.methodLink RX4 32 yX2_becomeLike, Cond.instanceMethod yX2_becomeLike, Cond.selects RX2 yX2_becomeLike yX2_becomeLike, Cond.initialized RX2, Cond.code yX2_becomeLike cX2_becomeLike 2 none, Cond.fieldLink RX2 9 "LeastAsked$Person" "kind" "I", Cond.fieldLink RX2 15 "LeastAsked$Person" "asked" "I", Cond.fieldLink RX2 18 "LeastAsked$Person" "knows" "I", Cond.fieldLink RX2 21 "LeastAsked$Person" "wit" "I", Cond.methodLink RX9 249 yX4_suppose, Cond.instanceMethod yX4_suppose, Cond.selects RX4 yX4_suppose yX4_suppose, Cond.code yX4_suppose cX4_suppose 4 none, Cond.fieldLink RX4 36 "LeastAsked$Person" "knows" "I", Cond.fieldLink RX4 39 "LeastAsked$Person" "wit" "I", Cond.fieldLink RX4 42 "LeastAsked$Person" "kind" "I", Cond.methodLink RX9 253 yX5_allSo, Cond.instanceMethod yX5_allSo, Cond.selects RX5 yX5_allSo yX5_allSo, Cond.initialized RX5, Cond.code yX5_allSo cX5_allSo 3 (some .boolean), Cond.fieldLink RX5 21 "LeastAsked$Readings" "count" "I"]
def wsX9_worths_r3 : List Cond := [Cond.fieldLink RX5 9 "LeastAsked$Readings" "persons" "[I", Cond.fieldLink RX5 15 "LeastAsked$Readings" "matters" "[I", Cond.fieldLink RX5 18 "LeastAsked$Readings" "values" "[I", Cond.methodLink RX5 25 yX4_bringing, Cond.instanceMethod yX4_bringing, Cond.selects RX4 yX4_bringing yX4_bringing, Cond.code yX4_bringing cX4_bringing 4 (some .int), Cond.methodLink RX4 49 yX2_saying, Cond.instanceMethod yX2_saying, Cond.selects RX2 yX2_saying yX2_saying, Cond.code yX2_saying cX2_saying 1 (some .int), Cond.methodLink RX4 53 yX2_isKnowing, Cond.instanceMethod yX2_isKnowing, Cond.selects RX2 yX2_isKnowing yX2_isKnowing, Cond.code yX2_isKnowing cX2_isKnowing 2 (some .boolean)]
def wsX9_worths : List Cond := .code yX9_worths cX9_worths 2 (some .int) :: ((wsX9_worths_r1 ++ (wsX9_worths_r2 ++ wsX9_worths_r3)) ++ wsX90 ++ wsX40 ++ wsX20 ++ wsX50)
def wsX9_waysToBring_r1 : List Cond := [Cond.fieldLink RX9 24 "LeastAsked" "trial" "LLeastAsked$Province;", Cond.fieldLink RX9 20 "LeastAsked" "now" "LLeastAsked$Province;", Cond.fieldLink RX9 108 "LeastAsked$Province" "people" "[LLeastAsked$Person;", Cond.fieldLink RX9 120 "LeastAsked$Person" "knows" "I", Cond.methodLink RX9 161 yX4_becomeLike, Cond.instanceMethod yX4_becomeLike, Cond.selects RX4 yX4_becomeLike yX4_becomeLike, Cond.initialized RX4, Cond.code yX4_becomeLike cX4_becomeLike 3 none, Cond.fieldLink RX4 21 "LeastAsked$Province" "count" "I", Cond.fieldLink RX4 9 "LeastAsked$Province" "worths" "[I", Cond.methodLink RX4 26 arraycopyName, Cond.native arraycopyName, Cond.static arraycopyName, Cond.initialized "java/lang/System", Cond.fieldLink RX4 17 "LeastAsked$Province" "people" "[LLeastAsked$Person;", Cond.methodLink RX4 32 yX2_becomeLike, Cond.instanceMethod yX2_becomeLike, Cond.selects RX2 yX2_becomeLike yX2_becomeLike, Cond.initialized RX2, Cond.code yX2_becomeLike cX2_becomeLike 2 none, Cond.fieldLink RX2 9 "LeastAsked$Person" "kind" "I", Cond.fieldLink RX2 15 "LeastAsked$Person" "asked" "I", Cond.fieldLink RX2 18 "LeastAsked$Person" "knows" "I"]
def wsX9_waysToBring_r2 : List Cond := [Cond.fieldLink RX2 21 "LeastAsked$Person" "wit" "I", Cond.methodLink RX9 143 yX4_bringing, Cond.instanceMethod yX4_bringing, Cond.selects RX4 yX4_bringing yX4_bringing, Cond.code yX4_bringing cX4_bringing 4 (some .int), Cond.methodLink RX4 49 yX2_saying, Cond.instanceMethod yX2_saying, Cond.selects RX2 yX2_saying yX2_saying, Cond.code yX2_saying cX2_saying 1 (some .int), Cond.methodLink RX4 53 yX2_isKnowing, Cond.instanceMethod yX2_isKnowing, Cond.selects RX2 yX2_isKnowing yX2_isKnowing, Cond.code yX2_isKnowing cX2_isKnowing 2 (some .boolean)]
def wsX9_waysToBring : List Cond := .code yX9_waysToBring cX9_waysToBring 6 (some .int) :: ((wsX9_waysToBring_r1 ++ wsX9_waysToBring_r2) ++ wsX90 ++ wsX40 ++ wsX20)
def wsX9_commonDivisor : List Cond := .code yX9_commonDivisor cX9_commonDivisor 3 (some .int) :: ([])
def wsX9_odds_r1 : List Cond := [Cond.fieldLink RX9 20 "LeastAsked" "now" "LLeastAsked$Province;", Cond.constantLong RX9 208 (-9223372036854775808), Cond.methodLink RX9 105 yX4_hasPerson, Cond.instanceMethod yX4_hasPerson, Cond.selects RX4 yX4_hasPerson yX4_hasPerson, Cond.initialized RX4, Cond.code yX4_hasPerson cX4_hasPerson 2 (some .boolean), Cond.fieldLink RX4 21 "LeastAsked$Province" "count" "I", Cond.static yX9_isBelow, Cond.initialized RX9, Cond.code yX9_isBelow cX9_isBelow 2 (some .boolean), Cond.methodLink RX9 210 yX9_waysToBring, Cond.instanceMethod yX9_waysToBring, Cond.selects RX9 yX9_waysToBring yX9_waysToBring, Cond.code yX9_waysToBring cX9_waysToBring 6 (some .int), Cond.fieldLink RX9 24 "LeastAsked" "trial" "LLeastAsked$Province;", Cond.fieldLink RX9 108 "LeastAsked$Province" "people" "[LLeastAsked$Person;", Cond.fieldLink RX9 120 "LeastAsked$Person" "knows" "I", Cond.methodLink RX9 161 yX4_becomeLike, Cond.instanceMethod yX4_becomeLike, Cond.selects RX4 yX4_becomeLike yX4_becomeLike, Cond.code yX4_becomeLike cX4_becomeLike 3 none, Cond.fieldLink RX4 9 "LeastAsked$Province" "worths" "[I", Cond.methodLink RX4 26 arraycopyName]
def wsX9_odds_r2 : List Cond := [Cond.native arraycopyName, Cond.static arraycopyName, Cond.initialized "java/lang/System", Cond.fieldLink RX4 17 "LeastAsked$Province" "people" "[LLeastAsked$Person;", Cond.methodLink RX4 32 yX2_becomeLike, Cond.instanceMethod yX2_becomeLike, Cond.selects RX2 yX2_becomeLike yX2_becomeLike, Cond.initialized RX2, Cond.code yX2_becomeLike cX2_becomeLike 2 none, Cond.fieldLink RX2 9 "LeastAsked$Person" "kind" "I", Cond.fieldLink RX2 15 "LeastAsked$Person" "asked" "I", Cond.fieldLink RX2 18 "LeastAsked$Person" "knows" "I", Cond.fieldLink RX2 21 "LeastAsked$Person" "wit" "I", Cond.methodLink RX9 143 yX4_bringing, Cond.instanceMethod yX4_bringing, Cond.selects RX4 yX4_bringing yX4_bringing, Cond.code yX4_bringing cX4_bringing 4 (some .int), Cond.methodLink RX4 49 yX2_saying, Cond.instanceMethod yX2_saying, Cond.selects RX2 yX2_saying yX2_saying, Cond.code yX2_saying cX2_saying 1 (some .int), Cond.methodLink RX4 53 yX2_isKnowing, Cond.instanceMethod yX2_isKnowing, Cond.selects RX2 yX2_isKnowing yX2_isKnowing]
def wsX9_odds_r3 : List Cond := [Cond.code yX2_isKnowing cX2_isKnowing 2 (some .boolean), Cond.methodLink RX9 213 yX9_commonDivisor, Cond.static yX9_commonDivisor, Cond.code yX9_commonDivisor cX9_commonDivisor 3 (some .int)]
def wsX9_odds : List Cond := .code yX9_odds cX9_odds 7 (some .long) :: ((wsX9_odds_r1 ++ (wsX9_odds_r2 ++ wsX9_odds_r3)) ++ wsX90 ++ wsX40 ++ wsX20)
def wsX9_sheet_r1 : List Cond := [Cond.fieldLink RX9 69 "LeastAsked" "lastFault" "I", Cond.fieldLink RX9 13 "LeastAsked" "sheets" "[LLeastAsked$Sheet;", Cond.methodLink RX9 73 yX9_isSheet, Cond.static yX9_isSheet, Cond.initialized RX9, Cond.code yX9_isSheet cX9_isSheet 1 (some .boolean), Cond.methodLink RX9 140 yX9_isBelow, Cond.static yX9_isBelow, Cond.code yX9_isBelow cX9_isBelow 2 (some .boolean), Cond.methodLink RX9 77 yX9_isLane, Cond.static yX9_isLane, Cond.code yX9_isLane cX9_isLane 1 (some .boolean), Cond.methodLink RX9 88 yX9_failed, Cond.instanceMethod yX9_failed, Cond.selects RX9 yX9_failed yX9_failed, Cond.code yX9_failed cX9_failed 2 (some .int), Cond.methodLink RX9 216 yX6_begin, Cond.instanceMethod yX6_begin, Cond.selects RX6 yX6_begin yX6_begin, Cond.initialized RX6, Cond.code yX6_begin cX6_begin 3 none, Cond.fieldLink RX6 9 "LeastAsked$Sheet" "cells" "[I", Cond.fieldLink RX6 15 "LeastAsked$Sheet" "filled" "Z", Cond.fieldLink RX6 19 "LeastAsked$Sheet" "lane" "I"]
def wsX9_sheet_r2 : List Cond := [Cond.fieldLink RX6 23 "LeastAsked$Sheet" "length" "I", Cond.methodLink RX6 26 yJ7_fill_53178, Cond.static yJ7_fill_53178, Cond.initialized RJ7, Cond.code yJ7_fill_53178 cJ7_fill_53178 4 none]
def wsX9_sheet : List Cond := .code yX9_sheet cX9_sheet 4 (some .int) :: ((wsX9_sheet_r1 ++ wsX9_sheet_r2) ++ wsX90 ++ wsX60)
def wsX9_lose : List Cond := .code yX9_lose cX9_lose 3 (some .int) :: ([.fieldLink RX9 13 "LeastAsked" "sheets" "[LLeastAsked$Sheet;", .fieldLink RX9 220 "LeastAsked$Sheet" "filled" "Z", .methodLink RX9 73 yX9_isSheet, .static yX9_isSheet, .initialized RX9, .code yX9_isSheet cX9_isSheet 1 (some .boolean), .methodLink RX9 140 yX9_isBelow, .static yX9_isBelow, .code yX9_isBelow cX9_isBelow 2 (some .boolean)] ++ wsX90 ++ wsX60)
def wsX9_put : List Cond := .code yX9_put cX9_put 5 (some .int) :: ([.fieldLink RX9 69 "LeastAsked" "lastFault" "I", .fieldLink RX9 13 "LeastAsked" "sheets" "[LLeastAsked$Sheet;", .fieldLink RX9 220 "LeastAsked$Sheet" "filled" "Z", .fieldLink RX9 224 "LeastAsked$Sheet" "length" "I", .fieldLink RX9 184 "LeastAsked$Sheet" "cells" "[I", .methodLink RX9 73 yX9_isSheet, .static yX9_isSheet, .initialized RX9, .code yX9_isSheet cX9_isSheet 1 (some .boolean), .methodLink RX9 140 yX9_isBelow, .static yX9_isBelow, .code yX9_isBelow cX9_isBelow 2 (some .boolean), .methodLink RX9 88 yX9_failed, .instanceMethod yX9_failed, .selects RX9 yX9_failed yX9_failed, .code yX9_failed cX9_failed 2 (some .int), .methodLink RX9 227 yX6_cut, .instanceMethod yX6_cut, .selects RX6 yX6_cut yX6_cut, .initialized RX6, .code yX6_cut cX6_cut 2 (some .int), .fieldLink RX6 19 "LeastAsked$Sheet" "lane" "I"] ++ wsX90 ++ wsX60)
def wsX9_cell : List Cond := .code yX9_cell cX9_cell 5 (some .long) :: ([.fieldLink RX9 69 "LeastAsked" "lastFault" "I", .constantLong RX9 208 (-9223372036854775808), .fieldLink RX9 13 "LeastAsked" "sheets" "[LLeastAsked$Sheet;", .fieldLink RX9 224 "LeastAsked$Sheet" "length" "I", .fieldLink RX9 184 "LeastAsked$Sheet" "cells" "[I", .methodLink RX9 73 yX9_isSheet, .static yX9_isSheet, .initialized RX9, .code yX9_isSheet cX9_isSheet 1 (some .boolean), .methodLink RX9 140 yX9_isBelow, .static yX9_isBelow, .code yX9_isBelow cX9_isBelow 2 (some .boolean), .methodLink RX9 77 yX9_isLane, .static yX9_isLane, .code yX9_isLane cX9_isLane 1 (some .boolean), .methodLink RX9 80 yX6_faultAs, .instanceMethod yX6_faultAs, .selects RX6 yX6_faultAs yX6_faultAs, .initialized RX6, .code yX6_faultAs cX6_faultAs 2 (some .int), .fieldLink RX6 15 "LeastAsked$Sheet" "filled" "Z", .fieldLink RX6 19 "LeastAsked$Sheet" "lane" "I"] ++ wsX90 ++ wsX60)
def wsX9_copy_r1 : List Cond := [Cond.fieldLink RX9 69 "LeastAsked" "lastFault" "I", Cond.fieldLink RX9 13 "LeastAsked" "sheets" "[LLeastAsked$Sheet;", Cond.fieldLink RX9 220 "LeastAsked$Sheet" "filled" "Z", Cond.fieldLink RX9 230 "LeastAsked$Sheet" "lane" "I", Cond.fieldLink RX9 184 "LeastAsked$Sheet" "cells" "[I", Cond.methodLink RX9 233 arraycopyName, Cond.native arraycopyName, Cond.static arraycopyName, Cond.initialized "java/lang/System", Cond.methodLink RX9 73 yX9_isSheet, Cond.static yX9_isSheet, Cond.initialized RX9, Cond.code yX9_isSheet cX9_isSheet 1 (some .boolean), Cond.methodLink RX9 140 yX9_isBelow, Cond.static yX9_isBelow, Cond.code yX9_isBelow cX9_isBelow 2 (some .boolean), Cond.methodLink RX9 88 yX9_failed, Cond.instanceMethod yX9_failed, Cond.selects RX9 yX9_failed yX9_failed, Cond.code yX9_failed cX9_failed 2 (some .int), Cond.methodLink RX9 84 yX6_holds, Cond.instanceMethod yX6_holds, Cond.selects RX6 yX6_holds yX6_holds, Cond.initialized RX6]
def wsX9_copy_r2 : List Cond := [Cond.code yX6_holds cX6_holds 3 (some .boolean), Cond.fieldLink RX6 23 "LeastAsked$Sheet" "length" "I"]
def wsX9_copy : List Cond := .code yX9_copy cX9_copy 8 (some .int) :: ((wsX9_copy_r1 ++ wsX9_copy_r2) ++ wsX90 ++ wsX60)
def wsX9_tell_r1 : List Cond := [Cond.fieldLink RX9 20 "LeastAsked" "now" "LLeastAsked$Province;", Cond.fieldLink RX9 58 "LeastAsked" "bodies" "LLeastAsked$Bodies;", Cond.fieldLink RX9 108 "LeastAsked$Province" "people" "[LLeastAsked$Person;", Cond.methodLink RX9 105 yX4_hasPerson, Cond.instanceMethod yX4_hasPerson, Cond.selects RX4 yX4_hasPerson yX4_hasPerson, Cond.initialized RX4, Cond.code yX4_hasPerson cX4_hasPerson 2 (some .boolean), Cond.fieldLink RX4 21 "LeastAsked$Province" "count" "I", Cond.static yX9_isBelow, Cond.initialized RX9, Cond.code yX9_isBelow cX9_isBelow 2 (some .boolean), Cond.methodLink RX9 239 yX0_telling, Cond.instanceMethod yX0_telling, Cond.selects RX0 yX0_telling yX0_telling, Cond.initialized RX0, Cond.code yX0_telling cX0_telling 2 (some .int), Cond.fieldLink RX0 15 "LeastAsked$Person" "kind" "I", Cond.methodLink RX0 20 yX0_twinTelling, Cond.instanceMethod yX0_twinTelling, Cond.selects RX0 yX0_twinTelling yX0_twinTelling, Cond.code yX0_twinTelling cX0_twinTelling 2 (some .int), Cond.methodLink RX0 30 yX0_begin, Cond.instanceMethod yX0_begin]
def wsX9_tell_r2 : List Cond := [Cond.selects RX0 yX0_begin yX0_begin, Cond.code yX0_begin cX0_begin 2 none, Cond.fieldLink RX0 9 "LeastAsked$Bodies" "left" "I", Cond.methodLink RX0 27 yX0_gooseherdTelling, Cond.instanceMethod yX0_gooseherdTelling, Cond.selects RX0 yX0_gooseherdTelling yX0_gooseherdTelling, Cond.code yX0_gooseherdTelling cX0_gooseherdTelling 2 (some .int), Cond.fieldLink RX0 34 "LeastAsked$Person" "wit" "I", Cond.methodLink RX0 24 yX0_hermitTelling, Cond.instanceMethod yX0_hermitTelling, Cond.selects RX0 yX0_hermitTelling yX0_hermitTelling, Cond.code yX0_hermitTelling cX0_hermitTelling 3 (some .int)]
def wsX9_tell : List Cond := .code yX9_tell cX9_tell 2 (some .int) :: ((wsX9_tell_r1 ++ wsX9_tell_r2) ++ wsX90 ++ wsX40 ++ wsX20 ++ wsX00)
def wsX9_greet : List Cond := .code yX9_greet cX9_greet 2 (some .int) :: ([.fieldLink RX9 20 "LeastAsked" "now" "LLeastAsked$Province;", .fieldLink RX9 58 "LeastAsked" "bodies" "LLeastAsked$Bodies;", .fieldLink RX9 108 "LeastAsked$Province" "people" "[LLeastAsked$Person;", .methodLink RX9 105 yX4_hasPerson, .instanceMethod yX4_hasPerson, .selects RX4 yX4_hasPerson yX4_hasPerson, .initialized RX4, .code yX4_hasPerson cX4_hasPerson 2 (some .boolean), .fieldLink RX4 21 "LeastAsked$Province" "count" "I", .static yX9_isBelow, .initialized RX9, .code yX9_isBelow cX9_isBelow 2 (some .boolean), .methodLink RX9 243 yX0_greeting, .instanceMethod yX0_greeting, .selects RX0 yX0_greeting yX0_greeting, .initialized RX0, .code yX0_greeting cX0_greeting 2 (some .int), .fieldLink RX0 15 "LeastAsked$Person" "kind" "I", .fieldLink RX0 37 "LeastAsked$Person" "asked" "I", .methodLink RX0 30 yX0_begin, .instanceMethod yX0_begin, .selects RX0 yX0_begin yX0_begin, .code yX0_begin cX0_begin 2 none, .fieldLink RX0 9 "LeastAsked$Bodies" "left" "I"] ++ wsX90 ++ wsX40 ++ wsX20 ++ wsX00)
def wsX9_as : List Cond := .code yX9_as cX9_as 3 (some .int) :: ([.fieldLink RX9 69 "LeastAsked" "lastFault" "I", .fieldLink RX9 20 "LeastAsked" "now" "LLeastAsked$Province;", .fieldLink RX9 108 "LeastAsked$Province" "people" "[LLeastAsked$Person;", .fieldLink RX9 112 "LeastAsked$Person" "kind" "I", .methodLink RX9 105 yX4_hasPerson, .instanceMethod yX4_hasPerson, .selects RX4 yX4_hasPerson yX4_hasPerson, .initialized RX4, .code yX4_hasPerson cX4_hasPerson 2 (some .boolean), .fieldLink RX4 21 "LeastAsked$Province" "count" "I", .static yX9_isBelow, .initialized RX9, .code yX9_isBelow cX9_isBelow 2 (some .boolean), .methodLink RX9 140 yX9_isBelow, .methodLink RX9 88 yX9_failed, .instanceMethod yX9_failed, .selects RX9 yX9_failed yX9_failed, .code yX9_failed cX9_failed 2 (some .int)] ++ wsX90 ++ wsX40 ++ wsX20)
def wsX9_trace : List Cond := .code yX9_trace cX9_trace 1 (some .int) :: ([.fieldLink RX9 58 "LeastAsked" "bodies" "LLeastAsked$Bodies;", .fieldLink RX9 246 "LeastAsked$Bodies" "left" "I"] ++ wsX90 ++ wsX00)
def wsX9_fault : List Cond := .code yX9_fault cX9_fault 1 (some .int) :: ([.fieldLink RX9 69 "LeastAsked" "lastFault" "I"] ++ wsX90)
def wsX9_many : List Cond := .code yX9_many cX9_many 2 (some .int) :: ([.fieldLink RX9 20 "LeastAsked" "now" "LLeastAsked$Province;", .fieldLink RX9 104 "LeastAsked$Province" "count" "I", .fieldLink RX9 62 "LeastAsked" "questions" "I", .fieldLink RX9 66 "LeastAsked" "brought" "I", .fieldLink RX9 51 "LeastAsked" "readings" "LLeastAsked$Readings;", .fieldLink RX9 101 "LeastAsked$Readings" "count" "I"] ++ wsX90 ++ wsX40 ++ wsX50)
def wsX10_init : List Cond := .code yX10_init cX10_init 1 none :: ([.methodLink RX10 1 objectInit, .instanceMethod objectInit, .code objectInit ⟨#[0xb1]⟩ 1 none, .arrayClass .int, .fieldLink RX10 9 "LeastAskedModel" "sorts" "[I", .fieldLink RX10 13 "LeastAskedModel" "sheetLong" "[I", .fieldLink RX10 16 "LeastAskedModel" "cells" "[I", .fieldLink RX10 19 "LeastAskedModel" "worths" "[I", .fieldLink RX10 22 "LeastAskedModel" "kind" "[I", .fieldLink RX10 25 "LeastAskedModel" "asked" "[I", .fieldLink RX10 28 "LeastAskedModel" "knows" "[I", .fieldLink RX10 31 "LeastAskedModel" "wit" "[I", .fieldLink RX10 34 "LeastAskedModel" "readWorths" "[I", .fieldLink RX10 37 "LeastAskedModel" "read" "[I", .fieldLink RX10 40 "LeastAskedModel" "keptAsked" "[I", .fieldLink RX10 43 "LeastAskedModel" "keptKnows" "[I", .fieldLink RX10 46 "LeastAskedModel" "row" "[I", .fieldLink RX10 49 "LeastAskedModel" "askedThen" "[I", .fieldLink RX10 52 "LeastAskedModel" "given" "[I", .fieldLink RX10 55 "LeastAskedModel" "bestGiven" "[I", .fieldLink RX10 58 "LeastAskedModel" "readWho" "[I", .fieldLink RX10 61 "LeastAskedModel" "readWhat" "[I", .fieldLink RX10 64 "LeastAskedModel" "readBrought" "[I"] ++ wsX100)
def wsX10_fails : List Cond := .code yX10_fails cX10_fails 2 (some .int) :: ([.fieldLink RX10 67 "LeastAskedModel" "fault" "I"] ++ wsX100)
def wsX10_lost : List Cond := .code yX10_lost cX10_lost 2 (some .long) :: ([.fieldLink RX10 67 "LeastAskedModel" "fault" "I", .constantLong RX10 71 (-9223372036854775808)] ++ wsX100)
def wsX10_within : List Cond := .code yX10_within cX10_within 3 (some .boolean) :: ([])
def wsX10_isSheet : List Cond := .code yX10_isSheet cX10_isSheet 1 (some .boolean) :: ([.methodLink RX10 73 yX10_within, .static yX10_within, .initialized RX10, .code yX10_within cX10_within 3 (some .boolean)])
def wsX10_isSort : List Cond := .code yX10_isSort cX10_isSort 1 (some .boolean) :: ([.methodLink RX10 73 yX10_within, .static yX10_within, .initialized RX10, .code yX10_within cX10_within 3 (some .boolean)])
def wsX10_against : List Cond := .code yX10_against cX10_against 5 (some .int) :: ([.fieldLink RX10 9 "LeastAskedModel" "sorts" "[I", .fieldLink RX10 13 "LeastAskedModel" "sheetLong" "[I"] ++ wsX100)
def wsX10_isPerson : List Cond := .code yX10_isPerson cX10_isPerson 2 (some .boolean) :: ([.fieldLink RX10 77 "LeastAskedModel" "people" "I"] ++ wsX100)
def wsX10_isMatter : List Cond := .code yX10_isMatter cX10_isMatter 2 (some .boolean) :: ([.fieldLink RX10 77 "LeastAskedModel" "people" "I"] ++ wsX100)
def wsX10_isOf : List Cond := .code yX10_isOf cX10_isOf 2 (some .boolean) :: ([])
def wsX10_digit : List Cond := .code yX10_digit cX10_digit 3 (some .int) :: ([.fieldLink RX10 80 "LeastAskedModel" "at" "I", .fieldLink RX10 16 "LeastAskedModel" "cells" "[I", .methodLink RX10 73 yX10_within, .static yX10_within, .initialized RX10, .code yX10_within cX10_within 3 (some .boolean)] ++ wsX100)
def wsX10_isSign : List Cond := .code yX10_isSign cX10_isSign 3 (some .boolean) :: ([.fieldLink RX10 80 "LeastAskedModel" "at" "I", .fieldLink RX10 16 "LeastAskedModel" "cells" "[I"] ++ wsX100)
def wsX10_readPerson : List Cond := .code yX10_readPerson cX10_readPerson 5 (some .boolean) :: ([.fieldLink RX10 80 "LeastAskedModel" "at" "I", .fieldLink RX10 16 "LeastAskedModel" "cells" "[I", .fieldLink RX10 104 "LeastAskedModel" "readPeople" "I", .fieldLink RX10 37 "LeastAskedModel" "read" "[I", .methodLink RX10 120 yX10_digit, .instanceMethod yX10_digit, .selects RX10 yX10_digit yX10_digit, .initialized RX10, .code yX10_digit cX10_digit 3 (some .int), .methodLink RX10 73 yX10_within, .static yX10_within, .code yX10_within cX10_within 3 (some .boolean)] ++ wsX100)
def wsX10_readProvince : List Cond := .code yX10_readProvince cX10_readProvince 3 (some .boolean) :: ([.fieldLink RX10 104 "LeastAskedModel" "readPeople" "I", .fieldLink RX10 34 "LeastAskedModel" "readWorths" "[I", .fieldLink RX10 80 "LeastAskedModel" "at" "I", .methodLink RX10 116 yX10_isSign, .instanceMethod yX10_isSign, .selects RX10 yX10_isSign yX10_isSign, .initialized RX10, .code yX10_isSign cX10_isSign 3 (some .boolean), .fieldLink RX10 16 "LeastAskedModel" "cells" "[I", .methodLink RX10 120 yX10_digit, .instanceMethod yX10_digit, .selects RX10 yX10_digit yX10_digit, .code yX10_digit cX10_digit 3 (some .int), .methodLink RX10 73 yX10_within, .static yX10_within, .code yX10_within cX10_within 3 (some .boolean), .methodLink RX10 124 yX10_readPerson, .instanceMethod yX10_readPerson, .selects RX10 yX10_readPerson yX10_readPerson, .code yX10_readPerson cX10_readPerson 5 (some .boolean), .fieldLink RX10 37 "LeastAskedModel" "read" "[I"] ++ wsX100)
def wsX10_takeProvince : List Cond := .code yX10_takeProvince cX10_takeProvince 2 none :: ([.fieldLink RX10 19 "LeastAskedModel" "worths" "[I", .fieldLink RX10 34 "LeastAskedModel" "readWorths" "[I", .fieldLink RX10 104 "LeastAskedModel" "readPeople" "I", .fieldLink RX10 77 "LeastAskedModel" "people" "I", .fieldLink RX10 22 "LeastAskedModel" "kind" "[I", .fieldLink RX10 37 "LeastAskedModel" "read" "[I", .fieldLink RX10 25 "LeastAskedModel" "asked" "[I", .fieldLink RX10 28 "LeastAskedModel" "knows" "[I", .fieldLink RX10 31 "LeastAskedModel" "wit" "[I", .fieldLink RX10 107 "LeastAskedModel" "questions" "I", .fieldLink RX10 110 "LeastAskedModel" "allBrought" "I", .fieldLink RX10 113 "LeastAskedModel" "readings" "I"] ++ wsX100)
def wsX10_province_r1 : List Cond := [Cond.fieldLink RX10 67 "LeastAskedModel" "fault" "I", Cond.fieldLink RX10 80 "LeastAskedModel" "at" "I", Cond.fieldLink RX10 77 "LeastAskedModel" "people" "I", Cond.methodLink RX10 83 yX10_isSheet, Cond.static yX10_isSheet, Cond.initialized RX10, Cond.code yX10_isSheet cX10_isSheet 1 (some .boolean), Cond.methodLink RX10 73 yX10_within, Cond.static yX10_within, Cond.code yX10_within cX10_within 3 (some .boolean), Cond.methodLink RX10 87 yX10_isSort, Cond.static yX10_isSort, Cond.code yX10_isSort cX10_isSort 1 (some .boolean), Cond.methodLink RX10 90 yX10_against, Cond.instanceMethod yX10_against, Cond.selects RX10 yX10_against yX10_against, Cond.code yX10_against cX10_against 5 (some .int), Cond.fieldLink RX10 9 "LeastAskedModel" "sorts" "[I", Cond.fieldLink RX10 13 "LeastAskedModel" "sheetLong" "[I", Cond.methodLink RX10 94 yX10_fails, Cond.instanceMethod yX10_fails, Cond.selects RX10 yX10_fails yX10_fails, Cond.code yX10_fails cX10_fails 2 (some .int), Cond.methodLink RX10 98 yX10_readProvince]
def wsX10_province_r2 : List Cond := [Cond.instanceMethod yX10_readProvince, Cond.selects RX10 yX10_readProvince yX10_readProvince, Cond.code yX10_readProvince cX10_readProvince 3 (some .boolean), Cond.fieldLink RX10 104 "LeastAskedModel" "readPeople" "I", Cond.fieldLink RX10 34 "LeastAskedModel" "readWorths" "[I", Cond.methodLink RX10 116 yX10_isSign, Cond.instanceMethod yX10_isSign, Cond.selects RX10 yX10_isSign yX10_isSign, Cond.code yX10_isSign cX10_isSign 3 (some .boolean), Cond.fieldLink RX10 16 "LeastAskedModel" "cells" "[I", Cond.methodLink RX10 120 yX10_digit, Cond.instanceMethod yX10_digit, Cond.selects RX10 yX10_digit yX10_digit, Cond.code yX10_digit cX10_digit 3 (some .int), Cond.methodLink RX10 124 yX10_readPerson, Cond.instanceMethod yX10_readPerson, Cond.selects RX10 yX10_readPerson yX10_readPerson, Cond.code yX10_readPerson cX10_readPerson 5 (some .boolean), Cond.fieldLink RX10 37 "LeastAskedModel" "read" "[I", Cond.methodLink RX10 101 yX10_takeProvince, Cond.instanceMethod yX10_takeProvince, Cond.selects RX10 yX10_takeProvince yX10_takeProvince, Cond.code yX10_takeProvince cX10_takeProvince 2 none, Cond.fieldLink RX10 19 "LeastAskedModel" "worths" "[I"]
def wsX10_province_r3 : List Cond := [Cond.fieldLink RX10 22 "LeastAskedModel" "kind" "[I", Cond.fieldLink RX10 25 "LeastAskedModel" "asked" "[I", Cond.fieldLink RX10 28 "LeastAskedModel" "knows" "[I", Cond.fieldLink RX10 31 "LeastAskedModel" "wit" "[I", Cond.fieldLink RX10 107 "LeastAskedModel" "questions" "I", Cond.fieldLink RX10 110 "LeastAskedModel" "allBrought" "I", Cond.fieldLink RX10 113 "LeastAskedModel" "readings" "I"]
def wsX10_province : List Cond := .code yX10_province cX10_province 7 (some .int) :: ((wsX10_province_r1 ++ (wsX10_province_r2 ++ wsX10_province_r3)) ++ wsX100)
def wsX10_saysOf : List Cond := .code yX10_saysOf cX10_saysOf 2 (some .int) :: ([.fieldLink RX10 22 "LeastAskedModel" "kind" "[I", .fieldLink RX10 31 "LeastAskedModel" "wit" "[I"] ++ wsX100)
def wsX10_bringsOf : List Cond := .code yX10_bringsOf cX10_bringsOf 3 (some .int) :: ([.fieldLink RX10 28 "LeastAskedModel" "knows" "[I", .fieldLink RX10 19 "LeastAskedModel" "worths" "[I", .methodLink RX10 127 yX10_isOf, .static yX10_isOf, .initialized RX10, .code yX10_isOf cX10_isOf 2 (some .boolean), .methodLink RX10 130 yX10_saysOf, .instanceMethod yX10_saysOf, .selects RX10 yX10_saysOf yX10_saysOf, .code yX10_saysOf cX10_saysOf 2 (some .int), .fieldLink RX10 22 "LeastAskedModel" "kind" "[I", .fieldLink RX10 31 "LeastAskedModel" "wit" "[I"] ++ wsX100)
def wsX10_firstOf : List Cond := .code yX10_firstOf cX10_firstOf 3 (some .int) :: ([.fieldLink RX10 77 "LeastAskedModel" "people" "I", .fieldLink RX10 25 "LeastAskedModel" "asked" "[I"] ++ wsX100)
def wsX10_placeOf : List Cond := .code yX10_placeOf cX10_placeOf 4 (some .int) :: ([.fieldLink RX10 77 "LeastAskedModel" "people" "I", .fieldLink RX10 25 "LeastAskedModel" "asked" "[I"] ++ wsX100)
def wsX10_ofPerson : List Cond := .code yX10_ofPerson cX10_ofPerson 3 (some .int) :: ([.fieldLink RX10 22 "LeastAskedModel" "kind" "[I", .fieldLink RX10 25 "LeastAskedModel" "asked" "[I", .fieldLink RX10 28 "LeastAskedModel" "knows" "[I", .fieldLink RX10 31 "LeastAskedModel" "wit" "[I", .methodLink RX10 133 yX10_isPerson, .instanceMethod yX10_isPerson, .selects RX10 yX10_isPerson yX10_isPerson, .initialized RX10, .code yX10_isPerson cX10_isPerson 2 (some .boolean), .fieldLink RX10 77 "LeastAskedModel" "people" "I", .methodLink RX10 130 yX10_saysOf, .instanceMethod yX10_saysOf, .selects RX10 yX10_saysOf yX10_saysOf, .code yX10_saysOf cX10_saysOf 2 (some .int), .methodLink RX10 136 yX10_placeOf, .instanceMethod yX10_placeOf, .selects RX10 yX10_placeOf yX10_placeOf, .code yX10_placeOf cX10_placeOf 4 (some .int)] ++ wsX100)
def wsX10_worth : List Cond := .code yX10_worth cX10_worth 2 (some .int) :: ([.fieldLink RX10 19 "LeastAskedModel" "worths" "[I", .methodLink RX10 139 yX10_isMatter, .instanceMethod yX10_isMatter, .selects RX10 yX10_isMatter yX10_isMatter, .initialized RX10, .code yX10_isMatter cX10_isMatter 2 (some .boolean), .fieldLink RX10 77 "LeastAskedModel" "people" "I"] ++ wsX100)
def wsX10_weigh : List Cond := .code yX10_weigh cX10_weigh 4 (some .int) :: ([.fieldLink RX10 19 "LeastAskedModel" "worths" "[I", .methodLink RX10 139 yX10_isMatter, .instanceMethod yX10_isMatter, .selects RX10 yX10_isMatter yX10_isMatter, .initialized RX10, .code yX10_isMatter cX10_isMatter 2 (some .boolean), .fieldLink RX10 77 "LeastAskedModel" "people" "I", .methodLink RX10 73 yX10_within, .static yX10_within, .code yX10_within cX10_within 3 (some .boolean)] ++ wsX100)
def wsX10_teach : List Cond := .code yX10_teach cX10_teach 4 (some .int) :: ([.fieldLink RX10 28 "LeastAskedModel" "knows" "[I", .methodLink RX10 133 yX10_isPerson, .instanceMethod yX10_isPerson, .selects RX10 yX10_isPerson yX10_isPerson, .initialized RX10, .code yX10_isPerson cX10_isPerson 2 (some .boolean), .fieldLink RX10 77 "LeastAskedModel" "people" "I", .methodLink RX10 73 yX10_within, .static yX10_within, .code yX10_within cX10_within 3 (some .boolean)] ++ wsX100)
def wsX10_sharpen : List Cond := .code yX10_sharpen cX10_sharpen 4 (some .int) :: ([.fieldLink RX10 31 "LeastAskedModel" "wit" "[I", .methodLink RX10 133 yX10_isPerson, .instanceMethod yX10_isPerson, .selects RX10 yX10_isPerson yX10_isPerson, .initialized RX10, .code yX10_isPerson cX10_isPerson 2 (some .boolean), .fieldLink RX10 77 "LeastAskedModel" "people" "I", .methodLink RX10 73 yX10_within, .static yX10_within, .code yX10_within cX10_within 3 (some .boolean)] ++ wsX100)
def wsX10_brings_r1 : List Cond := [Cond.methodLink RX10 133 yX10_isPerson, Cond.instanceMethod yX10_isPerson, Cond.selects RX10 yX10_isPerson yX10_isPerson, Cond.initialized RX10, Cond.code yX10_isPerson cX10_isPerson 2 (some .boolean), Cond.fieldLink RX10 77 "LeastAskedModel" "people" "I", Cond.methodLink RX10 139 yX10_isMatter, Cond.instanceMethod yX10_isMatter, Cond.selects RX10 yX10_isMatter yX10_isMatter, Cond.code yX10_isMatter cX10_isMatter 2 (some .boolean), Cond.methodLink RX10 142 yX10_bringsOf, Cond.instanceMethod yX10_bringsOf, Cond.selects RX10 yX10_bringsOf yX10_bringsOf, Cond.code yX10_bringsOf cX10_bringsOf 3 (some .int), Cond.fieldLink RX10 28 "LeastAskedModel" "knows" "[I", Cond.fieldLink RX10 19 "LeastAskedModel" "worths" "[I", Cond.methodLink RX10 127 yX10_isOf, Cond.static yX10_isOf, Cond.code yX10_isOf cX10_isOf 2 (some .boolean), Cond.methodLink RX10 130 yX10_saysOf, Cond.instanceMethod yX10_saysOf, Cond.selects RX10 yX10_saysOf yX10_saysOf, Cond.code yX10_saysOf cX10_saysOf 2 (some .int), Cond.fieldLink RX10 22 "LeastAskedModel" "kind" "[I"]
def wsX10_brings_r2 : List Cond := [Cond.fieldLink RX10 31 "LeastAskedModel" "wit" "[I"]
def wsX10_brings : List Cond := .code yX10_brings cX10_brings 3 (some .int) :: ((wsX10_brings_r1 ++ wsX10_brings_r2) ++ wsX100)
def wsX10_question_r1 : List Cond := [Cond.fieldLink RX10 25 "LeastAskedModel" "asked" "[I", Cond.fieldLink RX10 107 "LeastAskedModel" "questions" "I", Cond.fieldLink RX10 110 "LeastAskedModel" "allBrought" "I", Cond.methodLink RX10 139 yX10_isMatter, Cond.instanceMethod yX10_isMatter, Cond.selects RX10 yX10_isMatter yX10_isMatter, Cond.initialized RX10, Cond.code yX10_isMatter cX10_isMatter 2 (some .boolean), Cond.fieldLink RX10 77 "LeastAskedModel" "people" "I", Cond.methodLink RX10 145 yX10_firstOf, Cond.instanceMethod yX10_firstOf, Cond.selects RX10 yX10_firstOf yX10_firstOf, Cond.code yX10_firstOf cX10_firstOf 3 (some .int), Cond.methodLink RX10 142 yX10_bringsOf, Cond.instanceMethod yX10_bringsOf, Cond.selects RX10 yX10_bringsOf yX10_bringsOf, Cond.code yX10_bringsOf cX10_bringsOf 3 (some .int), Cond.fieldLink RX10 28 "LeastAskedModel" "knows" "[I", Cond.fieldLink RX10 19 "LeastAskedModel" "worths" "[I", Cond.methodLink RX10 127 yX10_isOf, Cond.static yX10_isOf, Cond.code yX10_isOf cX10_isOf 2 (some .boolean), Cond.methodLink RX10 130 yX10_saysOf, Cond.instanceMethod yX10_saysOf]
def wsX10_question_r2 : List Cond := [Cond.selects RX10 yX10_saysOf yX10_saysOf, Cond.code yX10_saysOf cX10_saysOf 2 (some .int), Cond.fieldLink RX10 22 "LeastAskedModel" "kind" "[I", Cond.fieldLink RX10 31 "LeastAskedModel" "wit" "[I"]
def wsX10_question : List Cond := .code yX10_question cX10_question 3 (some .int) :: ((wsX10_question_r1 ++ wsX10_question_r2) ++ wsX100)
def wsX10_feint : List Cond := .code yX10_feint cX10_feint 2 (some .int) :: ([.fieldLink RX10 25 "LeastAskedModel" "asked" "[I", .methodLink RX10 133 yX10_isPerson, .instanceMethod yX10_isPerson, .selects RX10 yX10_isPerson yX10_isPerson, .initialized RX10, .code yX10_isPerson cX10_isPerson 2 (some .boolean), .fieldLink RX10 77 "LeastAskedModel" "people" "I", .methodLink RX10 145 yX10_firstOf, .instanceMethod yX10_firstOf, .selects RX10 yX10_firstOf yX10_firstOf, .code yX10_firstOf cX10_firstOf 3 (some .int)] ++ wsX100)
def wsX10_keep : List Cond := .code yX10_keep cX10_keep 2 none :: ([.fieldLink RX10 77 "LeastAskedModel" "people" "I", .fieldLink RX10 40 "LeastAskedModel" "keptAsked" "[I", .fieldLink RX10 25 "LeastAskedModel" "asked" "[I", .fieldLink RX10 43 "LeastAskedModel" "keptKnows" "[I", .fieldLink RX10 28 "LeastAskedModel" "knows" "[I"] ++ wsX100)
def wsX10_putBack : List Cond := .code yX10_putBack cX10_putBack 2 none :: ([.fieldLink RX10 77 "LeastAskedModel" "people" "I", .fieldLink RX10 25 "LeastAskedModel" "asked" "[I", .fieldLink RX10 40 "LeastAskedModel" "keptAsked" "[I", .fieldLink RX10 28 "LeastAskedModel" "knows" "[I", .fieldLink RX10 43 "LeastAskedModel" "keptKnows" "[I"] ++ wsX100)
def wsX10_does_r1 : List Cond := [Cond.fieldLink RX10 28 "LeastAskedModel" "knows" "[I", Cond.fieldLink RX10 25 "LeastAskedModel" "asked" "[I", Cond.fieldLink RX10 149 "LeastAskedModel" "yearBrought" "I", Cond.fieldLink RX10 152 "LeastAskedModel" "yearAsked" "I", Cond.fieldLink RX10 155 "LeastAskedModel" "yearKnown" "I", Cond.methodLink RX10 145 yX10_firstOf, Cond.instanceMethod yX10_firstOf, Cond.selects RX10 yX10_firstOf yX10_firstOf, Cond.initialized RX10, Cond.code yX10_firstOf cX10_firstOf 3 (some .int), Cond.fieldLink RX10 77 "LeastAskedModel" "people" "I", Cond.methodLink RX10 133 yX10_isPerson, Cond.instanceMethod yX10_isPerson, Cond.selects RX10 yX10_isPerson yX10_isPerson, Cond.code yX10_isPerson cX10_isPerson 2 (some .boolean), Cond.methodLink RX10 142 yX10_bringsOf, Cond.instanceMethod yX10_bringsOf, Cond.selects RX10 yX10_bringsOf yX10_bringsOf, Cond.code yX10_bringsOf cX10_bringsOf 3 (some .int), Cond.fieldLink RX10 19 "LeastAskedModel" "worths" "[I", Cond.methodLink RX10 127 yX10_isOf, Cond.static yX10_isOf, Cond.code yX10_isOf cX10_isOf 2 (some .boolean), Cond.methodLink RX10 130 yX10_saysOf]
def wsX10_does_r2 : List Cond := [Cond.instanceMethod yX10_saysOf, Cond.selects RX10 yX10_saysOf yX10_saysOf, Cond.code yX10_saysOf cX10_saysOf 2 (some .int), Cond.fieldLink RX10 22 "LeastAskedModel" "kind" "[I", Cond.fieldLink RX10 31 "LeastAskedModel" "wit" "[I"]
def wsX10_does : List Cond := .code yX10_does cX10_does 4 (some .boolean) :: ((wsX10_does_r1 ++ wsX10_does_r2) ++ wsX100)
def wsX10_goYear_r1 : List Cond := [Cond.fieldLink RX10 149 "LeastAskedModel" "yearBrought" "I", Cond.fieldLink RX10 152 "LeastAskedModel" "yearAsked" "I", Cond.fieldLink RX10 155 "LeastAskedModel" "yearKnown" "I", Cond.fieldLink RX10 16 "LeastAskedModel" "cells" "[I", Cond.methodLink RX10 158 yX10_does, Cond.instanceMethod yX10_does, Cond.selects RX10 yX10_does yX10_does, Cond.initialized RX10, Cond.code yX10_does cX10_does 4 (some .boolean), Cond.fieldLink RX10 28 "LeastAskedModel" "knows" "[I", Cond.fieldLink RX10 25 "LeastAskedModel" "asked" "[I", Cond.methodLink RX10 145 yX10_firstOf, Cond.instanceMethod yX10_firstOf, Cond.selects RX10 yX10_firstOf yX10_firstOf, Cond.code yX10_firstOf cX10_firstOf 3 (some .int), Cond.fieldLink RX10 77 "LeastAskedModel" "people" "I", Cond.methodLink RX10 133 yX10_isPerson, Cond.instanceMethod yX10_isPerson, Cond.selects RX10 yX10_isPerson yX10_isPerson, Cond.code yX10_isPerson cX10_isPerson 2 (some .boolean), Cond.methodLink RX10 142 yX10_bringsOf, Cond.instanceMethod yX10_bringsOf, Cond.selects RX10 yX10_bringsOf yX10_bringsOf, Cond.code yX10_bringsOf cX10_bringsOf 3 (some .int)]
def wsX10_goYear_r2 : List Cond := [Cond.fieldLink RX10 19 "LeastAskedModel" "worths" "[I", Cond.methodLink RX10 127 yX10_isOf, Cond.static yX10_isOf, Cond.code yX10_isOf cX10_isOf 2 (some .boolean), Cond.methodLink RX10 130 yX10_saysOf, Cond.instanceMethod yX10_saysOf, Cond.selects RX10 yX10_saysOf yX10_saysOf, Cond.code yX10_saysOf cX10_saysOf 2 (some .int), Cond.fieldLink RX10 22 "LeastAskedModel" "kind" "[I", Cond.fieldLink RX10 31 "LeastAskedModel" "wit" "[I"]
def wsX10_goYear : List Cond := .code yX10_goYear cX10_goYear 4 (some .int) :: ((wsX10_goYear_r1 ++ wsX10_goYear_r2) ++ wsX100)
def wsX10_refusesPair : List Cond := .code yX10_refusesPair cX10_refusesPair 5 (some .int) :: ([.methodLink RX10 73 yX10_within, .static yX10_within, .initialized RX10, .code yX10_within cX10_within 3 (some .boolean), .methodLink RX10 139 yX10_isMatter, .instanceMethod yX10_isMatter, .selects RX10 yX10_isMatter yX10_isMatter, .code yX10_isMatter cX10_isMatter 2 (some .boolean), .fieldLink RX10 77 "LeastAskedModel" "people" "I", .methodLink RX10 133 yX10_isPerson, .instanceMethod yX10_isPerson, .selects RX10 yX10_isPerson yX10_isPerson, .code yX10_isPerson cX10_isPerson 2 (some .boolean)] ++ wsX100)
def wsX10_tellYear : List Cond := .code yX10_tellYear cX10_tellYear 2 (some .int) :: ([.fieldLink RX10 25 "LeastAskedModel" "asked" "[I", .fieldLink RX10 149 "LeastAskedModel" "yearBrought" "I", .fieldLink RX10 152 "LeastAskedModel" "yearAsked" "I", .fieldLink RX10 155 "LeastAskedModel" "yearKnown" "I", .methodLink RX10 133 yX10_isPerson, .instanceMethod yX10_isPerson, .selects RX10 yX10_isPerson yX10_isPerson, .initialized RX10, .code yX10_isPerson cX10_isPerson 2 (some .boolean), .fieldLink RX10 77 "LeastAskedModel" "people" "I", .methodLink RX10 145 yX10_firstOf, .instanceMethod yX10_firstOf, .selects RX10 yX10_firstOf yX10_firstOf, .code yX10_firstOf cX10_firstOf 3 (some .int)] ++ wsX100)
def wsX10_year_r1 : List Cond := [Cond.fieldLink RX10 67 "LeastAskedModel" "fault" "I", Cond.fieldLink RX10 77 "LeastAskedModel" "people" "I", Cond.fieldLink RX10 16 "LeastAskedModel" "cells" "[I", Cond.methodLink RX10 83 yX10_isSheet, Cond.static yX10_isSheet, Cond.initialized RX10, Cond.code yX10_isSheet cX10_isSheet 1 (some .boolean), Cond.methodLink RX10 73 yX10_within, Cond.static yX10_within, Cond.code yX10_within cX10_within 3 (some .boolean), Cond.methodLink RX10 87 yX10_isSort, Cond.static yX10_isSort, Cond.code yX10_isSort cX10_isSort 1 (some .boolean), Cond.methodLink RX10 90 yX10_against, Cond.instanceMethod yX10_against, Cond.selects RX10 yX10_against yX10_against, Cond.code yX10_against cX10_against 5 (some .int), Cond.fieldLink RX10 9 "LeastAskedModel" "sorts" "[I", Cond.fieldLink RX10 13 "LeastAskedModel" "sheetLong" "[I", Cond.methodLink RX10 94 yX10_fails, Cond.instanceMethod yX10_fails, Cond.selects RX10 yX10_fails yX10_fails, Cond.code yX10_fails cX10_fails 2 (some .int), Cond.methodLink RX10 161 yX10_refusesPair]
def wsX10_year_r2 : List Cond := [Cond.instanceMethod yX10_refusesPair, Cond.selects RX10 yX10_refusesPair yX10_refusesPair, Cond.code yX10_refusesPair cX10_refusesPair 5 (some .int), Cond.methodLink RX10 139 yX10_isMatter, Cond.instanceMethod yX10_isMatter, Cond.selects RX10 yX10_isMatter yX10_isMatter, Cond.code yX10_isMatter cX10_isMatter 2 (some .boolean), Cond.methodLink RX10 133 yX10_isPerson, Cond.instanceMethod yX10_isPerson, Cond.selects RX10 yX10_isPerson yX10_isPerson, Cond.code yX10_isPerson cX10_isPerson 2 (some .boolean), Cond.methodLink RX10 164 yX10_keep, Cond.instanceMethod yX10_keep, Cond.selects RX10 yX10_keep yX10_keep, Cond.code yX10_keep cX10_keep 2 none, Cond.fieldLink RX10 40 "LeastAskedModel" "keptAsked" "[I", Cond.fieldLink RX10 25 "LeastAskedModel" "asked" "[I", Cond.fieldLink RX10 43 "LeastAskedModel" "keptKnows" "[I", Cond.fieldLink RX10 28 "LeastAskedModel" "knows" "[I", Cond.methodLink RX10 167 yX10_goYear, Cond.instanceMethod yX10_goYear, Cond.selects RX10 yX10_goYear yX10_goYear, Cond.code yX10_goYear cX10_goYear 4 (some .int), Cond.fieldLink RX10 149 "LeastAskedModel" "yearBrought" "I"]
def wsX10_year_r3 : List Cond := [Cond.fieldLink RX10 152 "LeastAskedModel" "yearAsked" "I", Cond.fieldLink RX10 155 "LeastAskedModel" "yearKnown" "I", Cond.methodLink RX10 158 yX10_does, Cond.instanceMethod yX10_does, Cond.selects RX10 yX10_does yX10_does, Cond.code yX10_does cX10_does 4 (some .boolean), Cond.methodLink RX10 145 yX10_firstOf, Cond.instanceMethod yX10_firstOf, Cond.selects RX10 yX10_firstOf yX10_firstOf, Cond.code yX10_firstOf cX10_firstOf 3 (some .int), Cond.methodLink RX10 142 yX10_bringsOf, Cond.instanceMethod yX10_bringsOf, Cond.selects RX10 yX10_bringsOf yX10_bringsOf, Cond.code yX10_bringsOf cX10_bringsOf 3 (some .int), Cond.fieldLink RX10 19 "LeastAskedModel" "worths" "[I", Cond.methodLink RX10 127 yX10_isOf, Cond.static yX10_isOf, Cond.code yX10_isOf cX10_isOf 2 (some .boolean), Cond.methodLink RX10 130 yX10_saysOf, Cond.instanceMethod yX10_saysOf, Cond.selects RX10 yX10_saysOf yX10_saysOf, Cond.code yX10_saysOf cX10_saysOf 2 (some .int), Cond.fieldLink RX10 22 "LeastAskedModel" "kind" "[I", Cond.fieldLink RX10 31 "LeastAskedModel" "wit" "[I"]
def wsX10_year_r4 : List Cond := [Cond.methodLink RX10 170 yX10_tellYear, Cond.instanceMethod yX10_tellYear, Cond.selects RX10 yX10_tellYear yX10_tellYear, Cond.code yX10_tellYear cX10_tellYear 2 (some .int), Cond.methodLink RX10 173 yX10_putBack, Cond.instanceMethod yX10_putBack, Cond.selects RX10 yX10_putBack yX10_putBack, Cond.code yX10_putBack cX10_putBack 2 none]
def wsX10_year : List Cond := .code yX10_year cX10_year 10 (some .int) :: ((wsX10_year_r1 ++ (wsX10_year_r2 ++ (wsX10_year_r3 ++ wsX10_year_r4))) ++ wsX100)
def wsX10_register : List Cond := .code yX10_register cX10_register 3 (some .int) :: ([.fieldLink RX10 77 "LeastAskedModel" "people" "I", .methodLink RX10 73 yX10_within, .static yX10_within, .initialized RX10, .code yX10_within cX10_within 3 (some .boolean), .methodLink RX10 136 yX10_placeOf, .instanceMethod yX10_placeOf, .selects RX10 yX10_placeOf yX10_placeOf, .code yX10_placeOf cX10_placeOf 4 (some .int), .fieldLink RX10 25 "LeastAskedModel" "asked" "[I"] ++ wsX100)
def wsX10_turn : List Cond := .code yX10_turn cX10_turn 4 (some .int) :: ([.fieldLink RX10 25 "LeastAskedModel" "asked" "[I", .methodLink RX10 133 yX10_isPerson, .instanceMethod yX10_isPerson, .selects RX10 yX10_isPerson yX10_isPerson, .initialized RX10, .code yX10_isPerson cX10_isPerson 2 (some .boolean), .fieldLink RX10 77 "LeastAskedModel" "people" "I", .methodLink RX10 164 yX10_keep, .instanceMethod yX10_keep, .selects RX10 yX10_keep yX10_keep, .code yX10_keep cX10_keep 2 none, .fieldLink RX10 40 "LeastAskedModel" "keptAsked" "[I", .fieldLink RX10 43 "LeastAskedModel" "keptKnows" "[I", .fieldLink RX10 28 "LeastAskedModel" "knows" "[I", .methodLink RX10 145 yX10_firstOf, .instanceMethod yX10_firstOf, .selects RX10 yX10_firstOf yX10_firstOf, .code yX10_firstOf cX10_firstOf 3 (some .int), .methodLink RX10 173 yX10_putBack, .instanceMethod yX10_putBack, .selects RX10 yX10_putBack yX10_putBack, .code yX10_putBack cX10_putBack 2 none] ++ wsX100)
def wsX10_steer_r1 : List Cond := [Cond.fieldLink RX10 77 "LeastAskedModel" "people" "I", Cond.fieldLink RX10 28 "LeastAskedModel" "knows" "[I", Cond.fieldLink RX10 25 "LeastAskedModel" "asked" "[I", Cond.methodLink RX10 139 yX10_isMatter, Cond.instanceMethod yX10_isMatter, Cond.selects RX10 yX10_isMatter yX10_isMatter, Cond.initialized RX10, Cond.code yX10_isMatter cX10_isMatter 2 (some .boolean), Cond.methodLink RX10 127 yX10_isOf, Cond.static yX10_isOf, Cond.code yX10_isOf cX10_isOf 2 (some .boolean), Cond.methodLink RX10 164 yX10_keep, Cond.instanceMethod yX10_keep, Cond.selects RX10 yX10_keep yX10_keep, Cond.code yX10_keep cX10_keep 2 none, Cond.fieldLink RX10 40 "LeastAskedModel" "keptAsked" "[I", Cond.fieldLink RX10 43 "LeastAskedModel" "keptKnows" "[I", Cond.methodLink RX10 145 yX10_firstOf, Cond.instanceMethod yX10_firstOf, Cond.selects RX10 yX10_firstOf yX10_firstOf, Cond.code yX10_firstOf cX10_firstOf 3 (some .int), Cond.methodLink RX10 173 yX10_putBack, Cond.instanceMethod yX10_putBack, Cond.selects RX10 yX10_putBack yX10_putBack]
def wsX10_steer_r2 : List Cond := [Cond.code yX10_putBack cX10_putBack 2 none]
def wsX10_steer : List Cond := .code yX10_steer cX10_steer 5 (some .int) :: ((wsX10_steer_r1 ++ wsX10_steer_r2) ++ wsX100)
def wsX10_even : List Cond := .code yX10_even cX10_even 4 (some .int) :: ([.fieldLink RX10 77 "LeastAskedModel" "people" "I", .fieldLink RX10 25 "LeastAskedModel" "asked" "[I"] ++ wsX100)
def wsX10_ordersOf : List Cond := .code yX10_ordersOf cX10_ordersOf 3 (some .int) :: ([])
def wsX10_findRow : List Cond := .code yX10_findRow cX10_findRow 9 none :: ([.fieldLink RX10 46 "LeastAskedModel" "row" "[I", .methodLink RX10 176 yX10_ordersOf, .static yX10_ordersOf, .initialized RX10, .code yX10_ordersOf cX10_ordersOf 3 (some .int), .methodLink RX10 127 yX10_isOf, .static yX10_isOf, .code yX10_isOf cX10_isOf 2 (some .boolean)] ++ wsX100)
def wsX10_findAsked : List Cond := .code yX10_findAsked cX10_findAsked 3 none :: ([.fieldLink RX10 49 "LeastAskedModel" "askedThen" "[I", .fieldLink RX10 25 "LeastAskedModel" "asked" "[I", .methodLink RX10 164 yX10_keep, .instanceMethod yX10_keep, .selects RX10 yX10_keep yX10_keep, .initialized RX10, .code yX10_keep cX10_keep 2 none, .fieldLink RX10 77 "LeastAskedModel" "people" "I", .fieldLink RX10 40 "LeastAskedModel" "keptAsked" "[I", .fieldLink RX10 43 "LeastAskedModel" "keptKnows" "[I", .fieldLink RX10 28 "LeastAskedModel" "knows" "[I", .methodLink RX10 145 yX10_firstOf, .instanceMethod yX10_firstOf, .selects RX10 yX10_firstOf yX10_firstOf, .code yX10_firstOf cX10_firstOf 3 (some .int), .methodLink RX10 173 yX10_putBack, .instanceMethod yX10_putBack, .selects RX10 yX10_putBack yX10_putBack, .code yX10_putBack cX10_putBack 2 none] ++ wsX100)
def wsX10_broughtByRow : List Cond := .code yX10_broughtByRow cX10_broughtByRow 5 (some .int) :: ([.fieldLink RX10 49 "LeastAskedModel" "askedThen" "[I", .fieldLink RX10 16 "LeastAskedModel" "cells" "[I", .fieldLink RX10 46 "LeastAskedModel" "row" "[I", .methodLink RX10 142 yX10_bringsOf, .instanceMethod yX10_bringsOf, .selects RX10 yX10_bringsOf yX10_bringsOf, .initialized RX10, .code yX10_bringsOf cX10_bringsOf 3 (some .int), .fieldLink RX10 28 "LeastAskedModel" "knows" "[I", .fieldLink RX10 19 "LeastAskedModel" "worths" "[I", .methodLink RX10 127 yX10_isOf, .static yX10_isOf, .code yX10_isOf cX10_isOf 2 (some .boolean), .methodLink RX10 130 yX10_saysOf, .instanceMethod yX10_saysOf, .selects RX10 yX10_saysOf yX10_saysOf, .code yX10_saysOf cX10_saysOf 2 (some .int), .fieldLink RX10 22 "LeastAskedModel" "kind" "[I", .fieldLink RX10 31 "LeastAskedModel" "wit" "[I"] ++ wsX100)
def wsX10_planOf_r1 : List Cond := [Cond.fieldLink RX10 46 "LeastAskedModel" "row" "[I", Cond.methodLink RX10 183 yX10_findAsked, Cond.instanceMethod yX10_findAsked, Cond.selects RX10 yX10_findAsked yX10_findAsked, Cond.initialized RX10, Cond.code yX10_findAsked cX10_findAsked 3 none, Cond.fieldLink RX10 49 "LeastAskedModel" "askedThen" "[I", Cond.fieldLink RX10 25 "LeastAskedModel" "asked" "[I", Cond.methodLink RX10 164 yX10_keep, Cond.instanceMethod yX10_keep, Cond.selects RX10 yX10_keep yX10_keep, Cond.code yX10_keep cX10_keep 2 none, Cond.fieldLink RX10 77 "LeastAskedModel" "people" "I", Cond.fieldLink RX10 40 "LeastAskedModel" "keptAsked" "[I", Cond.fieldLink RX10 43 "LeastAskedModel" "keptKnows" "[I", Cond.fieldLink RX10 28 "LeastAskedModel" "knows" "[I", Cond.methodLink RX10 145 yX10_firstOf, Cond.instanceMethod yX10_firstOf, Cond.selects RX10 yX10_firstOf yX10_firstOf, Cond.code yX10_firstOf cX10_firstOf 3 (some .int), Cond.methodLink RX10 173 yX10_putBack, Cond.instanceMethod yX10_putBack, Cond.selects RX10 yX10_putBack yX10_putBack, Cond.code yX10_putBack cX10_putBack 2 none]
def wsX10_planOf_r2 : List Cond := [Cond.methodLink RX10 176 yX10_ordersOf, Cond.static yX10_ordersOf, Cond.code yX10_ordersOf cX10_ordersOf 3 (some .int), Cond.methodLink RX10 187 yX10_findRow, Cond.instanceMethod yX10_findRow, Cond.selects RX10 yX10_findRow yX10_findRow, Cond.code yX10_findRow cX10_findRow 9 none, Cond.methodLink RX10 127 yX10_isOf, Cond.static yX10_isOf, Cond.code yX10_isOf cX10_isOf 2 (some .boolean), Cond.methodLink RX10 191 yX10_broughtByRow, Cond.instanceMethod yX10_broughtByRow, Cond.selects RX10 yX10_broughtByRow yX10_broughtByRow, Cond.code yX10_broughtByRow cX10_broughtByRow 5 (some .int), Cond.fieldLink RX10 16 "LeastAskedModel" "cells" "[I", Cond.methodLink RX10 142 yX10_bringsOf, Cond.instanceMethod yX10_bringsOf, Cond.selects RX10 yX10_bringsOf yX10_bringsOf, Cond.code yX10_bringsOf cX10_bringsOf 3 (some .int), Cond.fieldLink RX10 19 "LeastAskedModel" "worths" "[I", Cond.methodLink RX10 130 yX10_saysOf, Cond.instanceMethod yX10_saysOf, Cond.selects RX10 yX10_saysOf yX10_saysOf, Cond.code yX10_saysOf cX10_saysOf 2 (some .int)]
def wsX10_planOf_r3 : List Cond := [Cond.fieldLink RX10 22 "LeastAskedModel" "kind" "[I", Cond.fieldLink RX10 31 "LeastAskedModel" "wit" "[I"]
def wsX10_planOf : List Cond := .code yX10_planOf cX10_planOf 8 (some .int) :: ((wsX10_planOf_r1 ++ (wsX10_planOf_r2 ++ wsX10_planOf_r3)) ++ wsX100)
def wsX10_plan_r1 : List Cond := [Cond.fieldLink RX10 67 "LeastAskedModel" "fault" "I", Cond.fieldLink RX10 77 "LeastAskedModel" "people" "I", Cond.fieldLink RX10 16 "LeastAskedModel" "cells" "[I", Cond.methodLink RX10 83 yX10_isSheet, Cond.static yX10_isSheet, Cond.initialized RX10, Cond.code yX10_isSheet cX10_isSheet 1 (some .boolean), Cond.methodLink RX10 73 yX10_within, Cond.static yX10_within, Cond.code yX10_within cX10_within 3 (some .boolean), Cond.methodLink RX10 87 yX10_isSort, Cond.static yX10_isSort, Cond.code yX10_isSort cX10_isSort 1 (some .boolean), Cond.methodLink RX10 90 yX10_against, Cond.instanceMethod yX10_against, Cond.selects RX10 yX10_against yX10_against, Cond.code yX10_against cX10_against 5 (some .int), Cond.fieldLink RX10 9 "LeastAskedModel" "sorts" "[I", Cond.fieldLink RX10 13 "LeastAskedModel" "sheetLong" "[I", Cond.methodLink RX10 94 yX10_fails, Cond.instanceMethod yX10_fails, Cond.selects RX10 yX10_fails yX10_fails, Cond.code yX10_fails cX10_fails 2 (some .int), Cond.methodLink RX10 139 yX10_isMatter]
def wsX10_plan_r2 : List Cond := [Cond.instanceMethod yX10_isMatter, Cond.selects RX10 yX10_isMatter yX10_isMatter, Cond.code yX10_isMatter cX10_isMatter 2 (some .boolean), Cond.methodLink RX10 179 yX10_planOf, Cond.instanceMethod yX10_planOf, Cond.selects RX10 yX10_planOf yX10_planOf, Cond.code yX10_planOf cX10_planOf 8 (some .int), Cond.fieldLink RX10 46 "LeastAskedModel" "row" "[I", Cond.methodLink RX10 183 yX10_findAsked, Cond.instanceMethod yX10_findAsked, Cond.selects RX10 yX10_findAsked yX10_findAsked, Cond.code yX10_findAsked cX10_findAsked 3 none, Cond.fieldLink RX10 49 "LeastAskedModel" "askedThen" "[I", Cond.fieldLink RX10 25 "LeastAskedModel" "asked" "[I", Cond.methodLink RX10 164 yX10_keep, Cond.instanceMethod yX10_keep, Cond.selects RX10 yX10_keep yX10_keep, Cond.code yX10_keep cX10_keep 2 none, Cond.fieldLink RX10 40 "LeastAskedModel" "keptAsked" "[I", Cond.fieldLink RX10 43 "LeastAskedModel" "keptKnows" "[I", Cond.fieldLink RX10 28 "LeastAskedModel" "knows" "[I", Cond.methodLink RX10 145 yX10_firstOf, Cond.instanceMethod yX10_firstOf, Cond.selects RX10 yX10_firstOf yX10_firstOf]
def wsX10_plan_r3 : List Cond := [Cond.code yX10_firstOf cX10_firstOf 3 (some .int), Cond.methodLink RX10 173 yX10_putBack, Cond.instanceMethod yX10_putBack, Cond.selects RX10 yX10_putBack yX10_putBack, Cond.code yX10_putBack cX10_putBack 2 none, Cond.methodLink RX10 176 yX10_ordersOf, Cond.static yX10_ordersOf, Cond.code yX10_ordersOf cX10_ordersOf 3 (some .int), Cond.methodLink RX10 187 yX10_findRow, Cond.instanceMethod yX10_findRow, Cond.selects RX10 yX10_findRow yX10_findRow, Cond.code yX10_findRow cX10_findRow 9 none, Cond.methodLink RX10 127 yX10_isOf, Cond.static yX10_isOf, Cond.code yX10_isOf cX10_isOf 2 (some .boolean), Cond.methodLink RX10 191 yX10_broughtByRow, Cond.instanceMethod yX10_broughtByRow, Cond.selects RX10 yX10_broughtByRow yX10_broughtByRow, Cond.code yX10_broughtByRow cX10_broughtByRow 5 (some .int), Cond.methodLink RX10 142 yX10_bringsOf, Cond.instanceMethod yX10_bringsOf, Cond.selects RX10 yX10_bringsOf yX10_bringsOf, Cond.code yX10_bringsOf cX10_bringsOf 3 (some .int), Cond.fieldLink RX10 19 "LeastAskedModel" "worths" "[I"]
def wsX10_plan_r4 : List Cond := [Cond.methodLink RX10 130 yX10_saysOf, Cond.instanceMethod yX10_saysOf, Cond.selects RX10 yX10_saysOf yX10_saysOf, Cond.code yX10_saysOf cX10_saysOf 2 (some .int), Cond.fieldLink RX10 22 "LeastAskedModel" "kind" "[I", Cond.fieldLink RX10 31 "LeastAskedModel" "wit" "[I"]
def wsX10_plan : List Cond := .code yX10_plan cX10_plan 9 (some .int) :: ((wsX10_plan_r1 ++ (wsX10_plan_r2 ++ (wsX10_plan_r3 ++ wsX10_plan_r4))) ++ wsX100)
def wsX10_canGive : List Cond := .code yX10_canGive cX10_canGive 5 (some .boolean) :: ([.fieldLink RX10 52 "LeastAskedModel" "given" "[I", .fieldLink RX10 77 "LeastAskedModel" "people" "I"] ++ wsX100)
def wsX10_tryGiven : List Cond := .code yX10_tryGiven cX10_tryGiven 4 none :: ([.fieldLink RX10 52 "LeastAskedModel" "given" "[I", .fieldLink RX10 77 "LeastAskedModel" "people" "I", .fieldLink RX10 194 "LeastAskedModel" "bestMany" "I", .fieldLink RX10 197 "LeastAskedModel" "bestSum" "I", .fieldLink RX10 55 "LeastAskedModel" "bestGiven" "[I", .methodLink RX10 142 yX10_bringsOf, .instanceMethod yX10_bringsOf, .selects RX10 yX10_bringsOf yX10_bringsOf, .initialized RX10, .code yX10_bringsOf cX10_bringsOf 3 (some .int), .fieldLink RX10 28 "LeastAskedModel" "knows" "[I", .fieldLink RX10 19 "LeastAskedModel" "worths" "[I", .methodLink RX10 127 yX10_isOf, .static yX10_isOf, .code yX10_isOf cX10_isOf 2 (some .boolean), .methodLink RX10 130 yX10_saysOf, .instanceMethod yX10_saysOf, .selects RX10 yX10_saysOf yX10_saysOf, .code yX10_saysOf cX10_saysOf 2 (some .int), .fieldLink RX10 22 "LeastAskedModel" "kind" "[I", .fieldLink RX10 31 "LeastAskedModel" "wit" "[I"] ++ wsX100)
def wsX10_best_r1 : List Cond := [Cond.fieldLink RX10 77 "LeastAskedModel" "people" "I", Cond.fieldLink RX10 194 "LeastAskedModel" "bestMany" "I", Cond.fieldLink RX10 197 "LeastAskedModel" "bestSum" "I", Cond.fieldLink RX10 55 "LeastAskedModel" "bestGiven" "[I", Cond.methodLink RX10 73 yX10_within, Cond.static yX10_within, Cond.initialized RX10, Cond.code yX10_within cX10_within 3 (some .boolean), Cond.methodLink RX10 200 yX10_canGive, Cond.instanceMethod yX10_canGive, Cond.selects RX10 yX10_canGive yX10_canGive, Cond.code yX10_canGive cX10_canGive 5 (some .boolean), Cond.fieldLink RX10 52 "LeastAskedModel" "given" "[I", Cond.methodLink RX10 203 yX10_tryGiven, Cond.instanceMethod yX10_tryGiven, Cond.selects RX10 yX10_tryGiven yX10_tryGiven, Cond.code yX10_tryGiven cX10_tryGiven 4 none, Cond.methodLink RX10 142 yX10_bringsOf, Cond.instanceMethod yX10_bringsOf, Cond.selects RX10 yX10_bringsOf yX10_bringsOf, Cond.code yX10_bringsOf cX10_bringsOf 3 (some .int), Cond.fieldLink RX10 28 "LeastAskedModel" "knows" "[I", Cond.fieldLink RX10 19 "LeastAskedModel" "worths" "[I", Cond.methodLink RX10 127 yX10_isOf]
def wsX10_best_r2 : List Cond := [Cond.static yX10_isOf, Cond.code yX10_isOf cX10_isOf 2 (some .boolean), Cond.methodLink RX10 130 yX10_saysOf, Cond.instanceMethod yX10_saysOf, Cond.selects RX10 yX10_saysOf yX10_saysOf, Cond.code yX10_saysOf cX10_saysOf 2 (some .int), Cond.fieldLink RX10 22 "LeastAskedModel" "kind" "[I", Cond.fieldLink RX10 31 "LeastAskedModel" "wit" "[I"]
def wsX10_best : List Cond := .code yX10_best cX10_best 4 (some .int) :: ((wsX10_best_r1 ++ wsX10_best_r2) ++ wsX100)
def wsX10_reading : List Cond := .code yX10_reading cX10_reading 4 (some .int) :: ([.fieldLink RX10 113 "LeastAskedModel" "readings" "I", .fieldLink RX10 58 "LeastAskedModel" "readWho" "[I", .fieldLink RX10 61 "LeastAskedModel" "readWhat" "[I", .fieldLink RX10 64 "LeastAskedModel" "readBrought" "[I", .methodLink RX10 133 yX10_isPerson, .instanceMethod yX10_isPerson, .selects RX10 yX10_isPerson yX10_isPerson, .initialized RX10, .code yX10_isPerson cX10_isPerson 2 (some .boolean), .fieldLink RX10 77 "LeastAskedModel" "people" "I", .methodLink RX10 139 yX10_isMatter, .instanceMethod yX10_isMatter, .selects RX10 yX10_isMatter yX10_isMatter, .code yX10_isMatter cX10_isMatter 2 (some .boolean), .methodLink RX10 73 yX10_within, .static yX10_within, .code yX10_within cX10_within 3 (some .boolean)] ++ wsX100)
def wsX10_back : List Cond := .code yX10_back cX10_back 2 (some .int) :: ([.fieldLink RX10 113 "LeastAskedModel" "readings" "I", .methodLink RX10 73 yX10_within, .static yX10_within, .initialized RX10, .code yX10_within cX10_within 3 (some .boolean)] ++ wsX100)
def wsX10_areSo : List Cond := .code yX10_areSo cX10_areSo 2 (some .boolean) :: ([.fieldLink RX10 113 "LeastAskedModel" "readings" "I", .fieldLink RX10 58 "LeastAskedModel" "readWho" "[I", .fieldLink RX10 61 "LeastAskedModel" "readWhat" "[I", .fieldLink RX10 64 "LeastAskedModel" "readBrought" "[I", .methodLink RX10 142 yX10_bringsOf, .instanceMethod yX10_bringsOf, .selects RX10 yX10_bringsOf yX10_bringsOf, .initialized RX10, .code yX10_bringsOf cX10_bringsOf 3 (some .int), .fieldLink RX10 28 "LeastAskedModel" "knows" "[I", .fieldLink RX10 19 "LeastAskedModel" "worths" "[I", .methodLink RX10 127 yX10_isOf, .static yX10_isOf, .code yX10_isOf cX10_isOf 2 (some .boolean), .methodLink RX10 130 yX10_saysOf, .instanceMethod yX10_saysOf, .selects RX10 yX10_saysOf yX10_saysOf, .code yX10_saysOf cX10_saysOf 2 (some .int), .fieldLink RX10 22 "LeastAskedModel" "kind" "[I", .fieldLink RX10 31 "LeastAskedModel" "wit" "[I"] ++ wsX100)
def wsX10_knowings_r1 : List Cond := [Cond.fieldLink RX10 28 "LeastAskedModel" "knows" "[I", Cond.methodLink RX10 133 yX10_isPerson, Cond.instanceMethod yX10_isPerson, Cond.selects RX10 yX10_isPerson yX10_isPerson, Cond.initialized RX10, Cond.code yX10_isPerson cX10_isPerson 2 (some .boolean), Cond.fieldLink RX10 77 "LeastAskedModel" "people" "I", Cond.methodLink RX10 206 yX10_areSo, Cond.instanceMethod yX10_areSo, Cond.selects RX10 yX10_areSo yX10_areSo, Cond.code yX10_areSo cX10_areSo 2 (some .boolean), Cond.fieldLink RX10 113 "LeastAskedModel" "readings" "I", Cond.fieldLink RX10 58 "LeastAskedModel" "readWho" "[I", Cond.fieldLink RX10 61 "LeastAskedModel" "readWhat" "[I", Cond.fieldLink RX10 64 "LeastAskedModel" "readBrought" "[I", Cond.methodLink RX10 142 yX10_bringsOf, Cond.instanceMethod yX10_bringsOf, Cond.selects RX10 yX10_bringsOf yX10_bringsOf, Cond.code yX10_bringsOf cX10_bringsOf 3 (some .int), Cond.fieldLink RX10 19 "LeastAskedModel" "worths" "[I", Cond.methodLink RX10 127 yX10_isOf, Cond.static yX10_isOf, Cond.code yX10_isOf cX10_isOf 2 (some .boolean), Cond.methodLink RX10 130 yX10_saysOf]
def wsX10_knowings_r2 : List Cond := [Cond.instanceMethod yX10_saysOf, Cond.selects RX10 yX10_saysOf yX10_saysOf, Cond.code yX10_saysOf cX10_saysOf 2 (some .int), Cond.fieldLink RX10 22 "LeastAskedModel" "kind" "[I", Cond.fieldLink RX10 31 "LeastAskedModel" "wit" "[I"]
def wsX10_knowings : List Cond := .code yX10_knowings cX10_knowings 5 (some .int) :: ((wsX10_knowings_r1 ++ wsX10_knowings_r2) ++ wsX100)
def wsX10_wits_r1 : List Cond := [Cond.fieldLink RX10 31 "LeastAskedModel" "wit" "[I", Cond.methodLink RX10 133 yX10_isPerson, Cond.instanceMethod yX10_isPerson, Cond.selects RX10 yX10_isPerson yX10_isPerson, Cond.initialized RX10, Cond.code yX10_isPerson cX10_isPerson 2 (some .boolean), Cond.fieldLink RX10 77 "LeastAskedModel" "people" "I", Cond.methodLink RX10 206 yX10_areSo, Cond.instanceMethod yX10_areSo, Cond.selects RX10 yX10_areSo yX10_areSo, Cond.code yX10_areSo cX10_areSo 2 (some .boolean), Cond.fieldLink RX10 113 "LeastAskedModel" "readings" "I", Cond.fieldLink RX10 58 "LeastAskedModel" "readWho" "[I", Cond.fieldLink RX10 61 "LeastAskedModel" "readWhat" "[I", Cond.fieldLink RX10 64 "LeastAskedModel" "readBrought" "[I", Cond.methodLink RX10 142 yX10_bringsOf, Cond.instanceMethod yX10_bringsOf, Cond.selects RX10 yX10_bringsOf yX10_bringsOf, Cond.code yX10_bringsOf cX10_bringsOf 3 (some .int), Cond.fieldLink RX10 28 "LeastAskedModel" "knows" "[I", Cond.fieldLink RX10 19 "LeastAskedModel" "worths" "[I", Cond.methodLink RX10 127 yX10_isOf, Cond.static yX10_isOf, Cond.code yX10_isOf cX10_isOf 2 (some .boolean)]
def wsX10_wits_r2 : List Cond := [Cond.methodLink RX10 130 yX10_saysOf, Cond.instanceMethod yX10_saysOf, Cond.selects RX10 yX10_saysOf yX10_saysOf, Cond.code yX10_saysOf cX10_saysOf 2 (some .int), Cond.fieldLink RX10 22 "LeastAskedModel" "kind" "[I"]
def wsX10_wits : List Cond := .code yX10_wits cX10_wits 5 (some .int) :: ((wsX10_wits_r1 ++ wsX10_wits_r2) ++ wsX100)
def wsX10_kinds_r1 : List Cond := [Cond.fieldLink RX10 22 "LeastAskedModel" "kind" "[I", Cond.methodLink RX10 133 yX10_isPerson, Cond.instanceMethod yX10_isPerson, Cond.selects RX10 yX10_isPerson yX10_isPerson, Cond.initialized RX10, Cond.code yX10_isPerson cX10_isPerson 2 (some .boolean), Cond.fieldLink RX10 77 "LeastAskedModel" "people" "I", Cond.methodLink RX10 206 yX10_areSo, Cond.instanceMethod yX10_areSo, Cond.selects RX10 yX10_areSo yX10_areSo, Cond.code yX10_areSo cX10_areSo 2 (some .boolean), Cond.fieldLink RX10 113 "LeastAskedModel" "readings" "I", Cond.fieldLink RX10 58 "LeastAskedModel" "readWho" "[I", Cond.fieldLink RX10 61 "LeastAskedModel" "readWhat" "[I", Cond.fieldLink RX10 64 "LeastAskedModel" "readBrought" "[I", Cond.methodLink RX10 142 yX10_bringsOf, Cond.instanceMethod yX10_bringsOf, Cond.selects RX10 yX10_bringsOf yX10_bringsOf, Cond.code yX10_bringsOf cX10_bringsOf 3 (some .int), Cond.fieldLink RX10 28 "LeastAskedModel" "knows" "[I", Cond.fieldLink RX10 19 "LeastAskedModel" "worths" "[I", Cond.methodLink RX10 127 yX10_isOf, Cond.static yX10_isOf, Cond.code yX10_isOf cX10_isOf 2 (some .boolean)]
def wsX10_kinds_r2 : List Cond := [Cond.methodLink RX10 130 yX10_saysOf, Cond.instanceMethod yX10_saysOf, Cond.selects RX10 yX10_saysOf yX10_saysOf, Cond.code yX10_saysOf cX10_saysOf 2 (some .int), Cond.fieldLink RX10 31 "LeastAskedModel" "wit" "[I"]
def wsX10_kinds : List Cond := .code yX10_kinds cX10_kinds 5 (some .int) :: ((wsX10_kinds_r1 ++ wsX10_kinds_r2) ++ wsX100)
def wsX10_worths_r1 : List Cond := [Cond.fieldLink RX10 19 "LeastAskedModel" "worths" "[I", Cond.methodLink RX10 139 yX10_isMatter, Cond.instanceMethod yX10_isMatter, Cond.selects RX10 yX10_isMatter yX10_isMatter, Cond.initialized RX10, Cond.code yX10_isMatter cX10_isMatter 2 (some .boolean), Cond.fieldLink RX10 77 "LeastAskedModel" "people" "I", Cond.methodLink RX10 206 yX10_areSo, Cond.instanceMethod yX10_areSo, Cond.selects RX10 yX10_areSo yX10_areSo, Cond.code yX10_areSo cX10_areSo 2 (some .boolean), Cond.fieldLink RX10 113 "LeastAskedModel" "readings" "I", Cond.fieldLink RX10 58 "LeastAskedModel" "readWho" "[I", Cond.fieldLink RX10 61 "LeastAskedModel" "readWhat" "[I", Cond.fieldLink RX10 64 "LeastAskedModel" "readBrought" "[I", Cond.methodLink RX10 142 yX10_bringsOf, Cond.instanceMethod yX10_bringsOf, Cond.selects RX10 yX10_bringsOf yX10_bringsOf, Cond.code yX10_bringsOf cX10_bringsOf 3 (some .int), Cond.fieldLink RX10 28 "LeastAskedModel" "knows" "[I", Cond.methodLink RX10 127 yX10_isOf, Cond.static yX10_isOf, Cond.code yX10_isOf cX10_isOf 2 (some .boolean), Cond.methodLink RX10 130 yX10_saysOf]
def wsX10_worths_r2 : List Cond := [Cond.instanceMethod yX10_saysOf, Cond.selects RX10 yX10_saysOf yX10_saysOf, Cond.code yX10_saysOf cX10_saysOf 2 (some .int), Cond.fieldLink RX10 22 "LeastAskedModel" "kind" "[I", Cond.fieldLink RX10 31 "LeastAskedModel" "wit" "[I"]
def wsX10_worths : List Cond := .code yX10_worths cX10_worths 5 (some .int) :: ((wsX10_worths_r1 ++ wsX10_worths_r2) ++ wsX100)
def wsX10_inLeastTerms : List Cond := .code yX10_inLeastTerms cX10_inLeastTerms 11 (some .long) :: ([])
def wsX10_odds_r1 : List Cond := [Cond.constantLong RX10 71 (-9223372036854775808), Cond.fieldLink RX10 28 "LeastAskedModel" "knows" "[I", Cond.constantLong RX10 210 (24), Cond.methodLink RX10 133 yX10_isPerson, Cond.instanceMethod yX10_isPerson, Cond.selects RX10 yX10_isPerson yX10_isPerson, Cond.initialized RX10, Cond.code yX10_isPerson cX10_isPerson 2 (some .boolean), Cond.fieldLink RX10 77 "LeastAskedModel" "people" "I", Cond.methodLink RX10 73 yX10_within, Cond.static yX10_within, Cond.code yX10_within cX10_within 3 (some .boolean), Cond.methodLink RX10 142 yX10_bringsOf, Cond.instanceMethod yX10_bringsOf, Cond.selects RX10 yX10_bringsOf yX10_bringsOf, Cond.code yX10_bringsOf cX10_bringsOf 3 (some .int), Cond.fieldLink RX10 19 "LeastAskedModel" "worths" "[I", Cond.methodLink RX10 127 yX10_isOf, Cond.static yX10_isOf, Cond.code yX10_isOf cX10_isOf 2 (some .boolean), Cond.methodLink RX10 130 yX10_saysOf, Cond.instanceMethod yX10_saysOf, Cond.selects RX10 yX10_saysOf yX10_saysOf, Cond.code yX10_saysOf cX10_saysOf 2 (some .int)]
def wsX10_odds_r2 : List Cond := [Cond.fieldLink RX10 22 "LeastAskedModel" "kind" "[I", Cond.fieldLink RX10 31 "LeastAskedModel" "wit" "[I", Cond.methodLink RX10 212 yX10_inLeastTerms, Cond.static yX10_inLeastTerms, Cond.code yX10_inLeastTerms cX10_inLeastTerms 11 (some .long)]
def wsX10_odds : List Cond := .code yX10_odds cX10_odds 8 (some .long) :: ((wsX10_odds_r1 ++ wsX10_odds_r2) ++ wsX100)
def wsX10_sheet : List Cond := .code yX10_sheet cX10_sheet 5 (some .int) :: ([.fieldLink RX10 67 "LeastAskedModel" "fault" "I", .fieldLink RX10 9 "LeastAskedModel" "sorts" "[I", .fieldLink RX10 13 "LeastAskedModel" "sheetLong" "[I", .fieldLink RX10 16 "LeastAskedModel" "cells" "[I", .methodLink RX10 83 yX10_isSheet, .static yX10_isSheet, .initialized RX10, .code yX10_isSheet cX10_isSheet 1 (some .boolean), .methodLink RX10 73 yX10_within, .static yX10_within, .code yX10_within cX10_within 3 (some .boolean), .methodLink RX10 87 yX10_isSort, .static yX10_isSort, .code yX10_isSort cX10_isSort 1 (some .boolean), .methodLink RX10 94 yX10_fails, .instanceMethod yX10_fails, .selects RX10 yX10_fails yX10_fails, .code yX10_fails cX10_fails 2 (some .int)] ++ wsX100)
def wsX10_lose : List Cond := .code yX10_lose cX10_lose 3 (some .int) :: ([.fieldLink RX10 9 "LeastAskedModel" "sorts" "[I", .methodLink RX10 83 yX10_isSheet, .static yX10_isSheet, .initialized RX10, .code yX10_isSheet cX10_isSheet 1 (some .boolean), .methodLink RX10 73 yX10_within, .static yX10_within, .code yX10_within cX10_within 3 (some .boolean)] ++ wsX100)
def wsX10_put : List Cond := .code yX10_put cX10_put 4 (some .int) :: ([.fieldLink RX10 67 "LeastAskedModel" "fault" "I", .fieldLink RX10 9 "LeastAskedModel" "sorts" "[I", .fieldLink RX10 13 "LeastAskedModel" "sheetLong" "[I", .fieldLink RX10 16 "LeastAskedModel" "cells" "[I", .methodLink RX10 83 yX10_isSheet, .static yX10_isSheet, .initialized RX10, .code yX10_isSheet cX10_isSheet 1 (some .boolean), .methodLink RX10 73 yX10_within, .static yX10_within, .code yX10_within cX10_within 3 (some .boolean), .methodLink RX10 94 yX10_fails, .instanceMethod yX10_fails, .selects RX10 yX10_fails yX10_fails, .code yX10_fails cX10_fails 2 (some .int)] ++ wsX100)
def wsX10_cell : List Cond := .code yX10_cell cX10_cell 4 (some .long) :: ([.fieldLink RX10 67 "LeastAskedModel" "fault" "I", .constantLong RX10 71 (-9223372036854775808), .fieldLink RX10 9 "LeastAskedModel" "sorts" "[I", .fieldLink RX10 13 "LeastAskedModel" "sheetLong" "[I", .fieldLink RX10 16 "LeastAskedModel" "cells" "[I", .methodLink RX10 83 yX10_isSheet, .static yX10_isSheet, .initialized RX10, .code yX10_isSheet cX10_isSheet 1 (some .boolean), .methodLink RX10 73 yX10_within, .static yX10_within, .code yX10_within cX10_within 3 (some .boolean), .methodLink RX10 87 yX10_isSort, .static yX10_isSort, .code yX10_isSort cX10_isSort 1 (some .boolean), .methodLink RX10 216 yX10_lost, .instanceMethod yX10_lost, .selects RX10 yX10_lost yX10_lost, .code yX10_lost cX10_lost 2 (some .long)] ++ wsX100)
def wsX10_copy : List Cond := .code yX10_copy cX10_copy 10 (some .int) :: ([.fieldLink RX10 67 "LeastAskedModel" "fault" "I", .fieldLink RX10 9 "LeastAskedModel" "sorts" "[I", .fieldLink RX10 13 "LeastAskedModel" "sheetLong" "[I", .fieldLink RX10 16 "LeastAskedModel" "cells" "[I", .methodLink RX10 83 yX10_isSheet, .static yX10_isSheet, .initialized RX10, .code yX10_isSheet cX10_isSheet 1 (some .boolean), .methodLink RX10 73 yX10_within, .static yX10_within, .code yX10_within cX10_within 3 (some .boolean), .methodLink RX10 94 yX10_fails, .instanceMethod yX10_fails, .selects RX10 yX10_fails yX10_fails, .code yX10_fails cX10_fails 2 (some .int)] ++ wsX100)
def wsX10_begins : List Cond := .code yX10_begins cX10_begins 2 none :: ([.fieldLink RX10 220 "LeastAskedModel" "trace" "I"] ++ wsX100)
def wsX10_tell : List Cond := .code yX10_tell cX10_tell 3 (some .int) :: ([.fieldLink RX10 31 "LeastAskedModel" "wit" "[I", .fieldLink RX10 22 "LeastAskedModel" "kind" "[I", .methodLink RX10 133 yX10_isPerson, .instanceMethod yX10_isPerson, .selects RX10 yX10_isPerson yX10_isPerson, .initialized RX10, .code yX10_isPerson cX10_isPerson 2 (some .boolean), .fieldLink RX10 77 "LeastAskedModel" "people" "I", .methodLink RX10 223 yX10_begins, .instanceMethod yX10_begins, .selects RX10 yX10_begins yX10_begins, .code yX10_begins cX10_begins 2 none, .fieldLink RX10 220 "LeastAskedModel" "trace" "I"] ++ wsX100)
def wsX10_greet : List Cond := .code yX10_greet cX10_greet 2 (some .int) :: ([.fieldLink RX10 22 "LeastAskedModel" "kind" "[I", .fieldLink RX10 25 "LeastAskedModel" "asked" "[I", .methodLink RX10 133 yX10_isPerson, .instanceMethod yX10_isPerson, .selects RX10 yX10_isPerson yX10_isPerson, .initialized RX10, .code yX10_isPerson cX10_isPerson 2 (some .boolean), .fieldLink RX10 77 "LeastAskedModel" "people" "I", .methodLink RX10 223 yX10_begins, .instanceMethod yX10_begins, .selects RX10 yX10_begins yX10_begins, .code yX10_begins cX10_begins 2 none, .fieldLink RX10 220 "LeastAskedModel" "trace" "I"] ++ wsX100)
def wsX10_as : List Cond := .code yX10_as cX10_as 3 (some .int) :: ([.fieldLink RX10 67 "LeastAskedModel" "fault" "I", .fieldLink RX10 22 "LeastAskedModel" "kind" "[I", .methodLink RX10 133 yX10_isPerson, .instanceMethod yX10_isPerson, .selects RX10 yX10_isPerson yX10_isPerson, .initialized RX10, .code yX10_isPerson cX10_isPerson 2 (some .boolean), .fieldLink RX10 77 "LeastAskedModel" "people" "I", .methodLink RX10 73 yX10_within, .static yX10_within, .code yX10_within cX10_within 3 (some .boolean), .methodLink RX10 94 yX10_fails, .instanceMethod yX10_fails, .selects RX10 yX10_fails yX10_fails, .code yX10_fails cX10_fails 2 (some .int)] ++ wsX100)
def wsX10_trace : List Cond := .code yX10_trace cX10_trace 1 (some .int) :: ([.fieldLink RX10 220 "LeastAskedModel" "trace" "I"] ++ wsX100)
def wsX10_fault : List Cond := .code yX10_fault cX10_fault 1 (some .int) :: ([.fieldLink RX10 67 "LeastAskedModel" "fault" "I"] ++ wsX100)
def wsX10_many : List Cond := .code yX10_many cX10_many 2 (some .int) :: ([.fieldLink RX10 77 "LeastAskedModel" "people" "I", .fieldLink RX10 107 "LeastAskedModel" "questions" "I", .fieldLink RX10 110 "LeastAskedModel" "allBrought" "I", .fieldLink RX10 113 "LeastAskedModel" "readings" "I"] ++ wsX100)
def wsJ9_max_7cf53 : List Cond := .code yJ9_max_7cf53 cJ9_max_7cf53 2 (some .int) :: ([])
def wsJ9_min_7cf53 : List Cond := .code yJ9_min_7cf53 cJ9_min_7cf53 2 (some .int) :: ([])
def wsL_law_r1 : List Cond := [Cond.classLink RL 7 RX9, Cond.instantiable RX9 11, Cond.initialized RX9, Cond.classLink RL 10 RX10, Cond.instantiable RX10 32, Cond.initialized RX10, Cond.methodLink RL 9 yX9_init, Cond.instanceMethod yX9_init, Cond.code yX9_init cX9_init 2 none, Cond.methodLink RX9 3 objectInit, Cond.instanceMethod objectInit, Cond.code objectInit ⟨#[0xb1]⟩ 1 none, Cond.classLink RX9 11 RX6, Cond.fieldLink RX9 13 "LeastAsked" "sheets" "[LLeastAsked$Sheet;", Cond.classLink RX9 17 RX4, Cond.instantiable RX4 3, Cond.initialized RX4, Cond.fieldLink RX9 20 "LeastAsked" "now" "LLeastAsked$Province;", Cond.fieldLink RX9 24 "LeastAsked" "trial" "LLeastAsked$Province;", Cond.classLink RX9 27 RX8, Cond.instantiable RX8 4, Cond.initialized RX8, Cond.fieldLink RX9 30 "LeastAsked" "yearRun" "LLeastAsked$YearRun;", Cond.classLink RX9 34 RX3]
def wsL_law_r2 : List Cond := [Cond.instantiable RX3 5, Cond.initialized RX3, Cond.fieldLink RX9 37 "LeastAsked" "planner" "LLeastAsked$Planner;", Cond.classLink RX9 41 RX1, Cond.instantiable RX1 2, Cond.initialized RX1, Cond.fieldLink RX9 44 "LeastAsked" "giver" "LLeastAsked$Giver;", Cond.classLink RX9 48 RX5, Cond.instantiable RX5 4, Cond.initialized RX5, Cond.fieldLink RX9 51 "LeastAsked" "readings" "LLeastAsked$Readings;", Cond.classLink RX9 55 RX0, Cond.instantiable RX0 1, Cond.initialized RX0, Cond.fieldLink RX9 58 "LeastAsked" "bodies" "LLeastAsked$Bodies;", Cond.fieldLink RX9 62 "LeastAsked" "questions" "I", Cond.fieldLink RX9 66 "LeastAsked" "brought" "I", Cond.fieldLink RX9 69 "LeastAsked" "lastFault" "I", Cond.instantiable RX6 4, Cond.initialized RX6, Cond.methodLink RX9 19 yX4_init, Cond.instanceMethod yX4_init, Cond.code yX4_init cX4_init 2 none, Cond.methodLink RX4 3 objectInit]
def wsL_law_r3 : List Cond := [Cond.arrayClass .int, Cond.fieldLink RX4 9 "LeastAsked$Province" "worths" "[I", Cond.classLink RX4 15 RX2, Cond.fieldLink RX4 17 "LeastAsked$Province" "people" "[LLeastAsked$Person;", Cond.fieldLink RX4 21 "LeastAsked$Province" "count" "I", Cond.instantiable RX2 4, Cond.initialized RX2, Cond.instanceMethod yX2_init, Cond.code yX2_init cX2_init 1 none, Cond.methodLink RX2 3 objectInit, Cond.fieldLink RX2 9 "LeastAsked$Person" "kind" "I", Cond.fieldLink RX2 15 "LeastAsked$Person" "asked" "I", Cond.fieldLink RX2 18 "LeastAsked$Person" "knows" "I", Cond.fieldLink RX2 21 "LeastAsked$Person" "wit" "I", Cond.instanceMethod yX8_init, Cond.code yX8_init cX8_init 1 none, Cond.methodLink RX8 3 objectInit, Cond.fieldLink RX8 9 "LeastAsked$YearRun" "brought" "I", Cond.fieldLink RX8 15 "LeastAsked$YearRun" "askedSet" "I", Cond.fieldLink RX8 18 "LeastAsked$YearRun" "toKnowing" "I", Cond.fieldLink RX8 21 "LeastAsked$YearRun" "wrong" "I", Cond.instanceMethod yX3_init, Cond.code yX3_init cX3_init 1 none, Cond.methodLink RX3 3 objectInit]
def wsL_law_r4 : List Cond := [Cond.fieldLink RX3 9 "LeastAsked$Planner" "matters" "[I", Cond.fieldLink RX3 15 "LeastAsked$Planner" "whoIsAsked" "[I", Cond.fieldLink RX3 18 "LeastAsked$Planner" "row" "[I", Cond.fieldLink RX3 21 "LeastAsked$Planner" "mostAfter" "[I", Cond.fieldLink RX3 24 "LeastAsked$Planner" "length" "I", Cond.instanceMethod yX1_init, Cond.code yX1_init cX1_init 1 none, Cond.methodLink RX1 3 objectInit, Cond.fieldLink RX1 9 "LeastAsked$Giver" "row" "[I", Cond.fieldLink RX1 15 "LeastAsked$Giver" "most" "I", Cond.instanceMethod yX5_init, Cond.code yX5_init cX5_init 1 none, Cond.methodLink RX5 3 objectInit, Cond.fieldLink RX5 9 "LeastAsked$Readings" "persons" "[I", Cond.fieldLink RX5 15 "LeastAsked$Readings" "matters" "[I", Cond.fieldLink RX5 18 "LeastAsked$Readings" "values" "[I", Cond.fieldLink RX5 21 "LeastAsked$Readings" "count" "I", Cond.instanceMethod yX0_init, Cond.code yX0_init cX0_init 1 none, Cond.methodLink RX0 3 objectInit, Cond.fieldLink RX0 9 "LeastAsked$Bodies" "left" "I", Cond.instanceMethod yX6_init, Cond.code yX6_init cX6_init 1 none, Cond.methodLink RX6 3 objectInit]
def wsL_law_r5 : List Cond := [Cond.fieldLink RX6 9 "LeastAsked$Sheet" "cells" "[I", Cond.fieldLink RX6 15 "LeastAsked$Sheet" "filled" "Z", Cond.fieldLink RX6 19 "LeastAsked$Sheet" "lane" "I", Cond.fieldLink RX6 23 "LeastAsked$Sheet" "length" "I", Cond.methodLink RL 12 yX10_init, Cond.instanceMethod yX10_init, Cond.code yX10_init cX10_init 1 none, Cond.methodLink RX10 1 objectInit, Cond.fieldLink RX10 9 "LeastAskedModel" "sorts" "[I", Cond.fieldLink RX10 13 "LeastAskedModel" "sheetLong" "[I", Cond.fieldLink RX10 16 "LeastAskedModel" "cells" "[I", Cond.fieldLink RX10 19 "LeastAskedModel" "worths" "[I", Cond.fieldLink RX10 22 "LeastAskedModel" "kind" "[I", Cond.fieldLink RX10 25 "LeastAskedModel" "asked" "[I", Cond.fieldLink RX10 28 "LeastAskedModel" "knows" "[I", Cond.fieldLink RX10 31 "LeastAskedModel" "wit" "[I", Cond.fieldLink RX10 34 "LeastAskedModel" "readWorths" "[I", Cond.fieldLink RX10 37 "LeastAskedModel" "read" "[I", Cond.fieldLink RX10 40 "LeastAskedModel" "keptAsked" "[I", Cond.fieldLink RX10 43 "LeastAskedModel" "keptKnows" "[I", Cond.fieldLink RX10 46 "LeastAskedModel" "row" "[I", Cond.fieldLink RX10 49 "LeastAskedModel" "askedThen" "[I", Cond.fieldLink RX10 52 "LeastAskedModel" "given" "[I", Cond.fieldLink RX10 55 "LeastAskedModel" "bestGiven" "[I"]
def wsL_law_r6 : List Cond := [Cond.fieldLink RX10 58 "LeastAskedModel" "readWho" "[I", Cond.fieldLink RX10 61 "LeastAskedModel" "readWhat" "[I", Cond.fieldLink RX10 64 "LeastAskedModel" "readBrought" "[I", Cond.methodLink RL 13 yX9_province, Cond.instanceMethod yX9_province, Cond.selects RX9 yX9_province yX9_province, Cond.code yX9_province cX9_province 8 (some .int), Cond.fieldLink RX9 101 "LeastAsked$Readings" "count" "I", Cond.fieldLink RX9 104 "LeastAsked$Province" "count" "I", Cond.methodLink RX9 73 yX9_isSheet, Cond.static yX9_isSheet, Cond.code yX9_isSheet cX9_isSheet 1 (some .boolean), Cond.methodLink RX9 140 yX9_isBelow, Cond.static yX9_isBelow, Cond.code yX9_isBelow cX9_isBelow 2 (some .boolean), Cond.methodLink RX9 77 yX9_isLane, Cond.static yX9_isLane, Cond.code yX9_isLane cX9_isLane 1 (some .boolean), Cond.methodLink RX9 80 yX6_faultAs, Cond.instanceMethod yX6_faultAs, Cond.selects RX6 yX6_faultAs yX6_faultAs, Cond.code yX6_faultAs cX6_faultAs 2 (some .int), Cond.methodLink RX9 84 yX6_holds, Cond.instanceMethod yX6_holds]
def wsL_law_r7 : List Cond := [Cond.selects RX6 yX6_holds yX6_holds, Cond.code yX6_holds cX6_holds 3 (some .boolean), Cond.methodLink RX9 88 yX9_failed, Cond.instanceMethod yX9_failed, Cond.selects RX9 yX9_failed yX9_failed, Cond.code yX9_failed cX9_failed 2 (some .int), Cond.methodLink RX9 91 yX7_firstFault, Cond.static yX7_firstFault, Cond.initialized RX7, Cond.code yX7_firstFault cX7_firstFault 4 (some .int), Cond.fieldLink RX7 9 "LeastAsked$Sheet" "cells" "[I", Cond.methodLink RX7 15 yX7_mayStand, Cond.static yX7_mayStand, Cond.code yX7_mayStand cX7_mayStand 2 (some .boolean), Cond.methodLink RX7 21 yX7_isDigit, Cond.static yX7_isDigit, Cond.code yX7_isDigit cX7_isDigit 2 (some .boolean), Cond.methodLink RX7 24 yX7_kindOf, Cond.static yX7_kindOf, Cond.code yX7_kindOf cX7_kindOf 1 (some .int), Cond.methodLink RX9 97 yX7_read, Cond.static yX7_read, Cond.code yX7_read cX7_read 8 none, Cond.fieldLink RX7 28 "LeastAsked$Province" "worths" "[I"]
def wsL_law_r8 : List Cond := [Cond.fieldLink RX7 33 "LeastAsked$Province" "count" "I", Cond.fieldLink RX7 37 "LeastAsked$Province" "people" "[LLeastAsked$Person;", Cond.fieldLink RX7 41 "LeastAsked$Person" "kind" "I", Cond.fieldLink RX7 46 "LeastAsked$Person" "asked" "I", Cond.fieldLink RX7 49 "LeastAsked$Person" "knows" "I", Cond.fieldLink RX7 52 "LeastAsked$Person" "wit" "I", Cond.methodLink RL 17 yX10_province, Cond.instanceMethod yX10_province, Cond.selects RX10 yX10_province yX10_province, Cond.code yX10_province cX10_province 7 (some .int), Cond.fieldLink RX10 67 "LeastAskedModel" "fault" "I", Cond.fieldLink RX10 80 "LeastAskedModel" "at" "I", Cond.fieldLink RX10 77 "LeastAskedModel" "people" "I", Cond.methodLink RX10 83 yX10_isSheet, Cond.static yX10_isSheet, Cond.code yX10_isSheet cX10_isSheet 1 (some .boolean), Cond.methodLink RX10 73 yX10_within, Cond.static yX10_within, Cond.code yX10_within cX10_within 3 (some .boolean), Cond.methodLink RX10 87 yX10_isSort, Cond.static yX10_isSort, Cond.code yX10_isSort cX10_isSort 1 (some .boolean), Cond.methodLink RX10 90 yX10_against, Cond.instanceMethod yX10_against]
def wsL_law_r9 : List Cond := [Cond.selects RX10 yX10_against yX10_against, Cond.code yX10_against cX10_against 5 (some .int), Cond.methodLink RX10 94 yX10_fails, Cond.instanceMethod yX10_fails, Cond.selects RX10 yX10_fails yX10_fails, Cond.code yX10_fails cX10_fails 2 (some .int), Cond.methodLink RX10 98 yX10_readProvince, Cond.instanceMethod yX10_readProvince, Cond.selects RX10 yX10_readProvince yX10_readProvince, Cond.code yX10_readProvince cX10_readProvince 3 (some .boolean), Cond.fieldLink RX10 104 "LeastAskedModel" "readPeople" "I", Cond.methodLink RX10 116 yX10_isSign, Cond.instanceMethod yX10_isSign, Cond.selects RX10 yX10_isSign yX10_isSign, Cond.code yX10_isSign cX10_isSign 3 (some .boolean), Cond.methodLink RX10 120 yX10_digit, Cond.instanceMethod yX10_digit, Cond.selects RX10 yX10_digit yX10_digit, Cond.code yX10_digit cX10_digit 3 (some .int), Cond.methodLink RX10 124 yX10_readPerson, Cond.instanceMethod yX10_readPerson, Cond.selects RX10 yX10_readPerson yX10_readPerson, Cond.code yX10_readPerson cX10_readPerson 5 (some .boolean), Cond.methodLink RX10 101 yX10_takeProvince]
def wsL_law_r10 : List Cond := [Cond.instanceMethod yX10_takeProvince, Cond.selects RX10 yX10_takeProvince yX10_takeProvince, Cond.code yX10_takeProvince cX10_takeProvince 2 none, Cond.fieldLink RX10 107 "LeastAskedModel" "questions" "I", Cond.fieldLink RX10 110 "LeastAskedModel" "allBrought" "I", Cond.fieldLink RX10 113 "LeastAskedModel" "readings" "I", Cond.methodLink RL 18 yX9_ofPerson, Cond.instanceMethod yX9_ofPerson, Cond.selects RX9 yX9_ofPerson yX9_ofPerson, Cond.code yX9_ofPerson cX9_ofPerson 4 (some .int), Cond.fieldLink RX9 108 "LeastAsked$Province" "people" "[LLeastAsked$Person;", Cond.fieldLink RX9 112 "LeastAsked$Person" "kind" "I", Cond.fieldLink RX9 117 "LeastAsked$Person" "asked" "I", Cond.fieldLink RX9 120 "LeastAsked$Person" "knows" "I", Cond.fieldLink RX9 123 "LeastAsked$Person" "wit" "I", Cond.methodLink RX9 105 yX4_hasPerson, Cond.instanceMethod yX4_hasPerson, Cond.selects RX4 yX4_hasPerson yX4_hasPerson, Cond.code yX4_hasPerson cX4_hasPerson 2 (some .boolean), Cond.methodLink RX9 126 yX2_saying, Cond.instanceMethod yX2_saying, Cond.selects RX2 yX2_saying yX2_saying, Cond.code yX2_saying cX2_saying 1 (some .int), Cond.methodLink RX9 130 yX4_placeOf]
def wsL_law_r11 : List Cond := [Cond.instanceMethod yX4_placeOf, Cond.selects RX4 yX4_placeOf yX4_placeOf, Cond.code yX4_placeOf cX4_placeOf 4 (some .int), Cond.methodLink RX4 60 yX4_timesAhead, Cond.instanceMethod yX4_timesAhead, Cond.selects RX4 yX4_timesAhead yX4_timesAhead, Cond.code yX4_timesAhead cX4_timesAhead 4 (some .int), Cond.fieldLink RX4 57 "LeastAsked$Person" "asked" "I", Cond.methodLink RX4 68 Lib.Math.max.name, Cond.static Lib.Math.max.name, Cond.initialized "java/lang/Math", Cond.code Lib.Math.max.name Lib.Math.max.code 2 (some .int), Cond.methodLink RL 22 yX10_ofPerson, Cond.instanceMethod yX10_ofPerson, Cond.selects RX10 yX10_ofPerson yX10_ofPerson, Cond.code yX10_ofPerson cX10_ofPerson 3 (some .int), Cond.methodLink RX10 133 yX10_isPerson, Cond.instanceMethod yX10_isPerson, Cond.selects RX10 yX10_isPerson yX10_isPerson, Cond.code yX10_isPerson cX10_isPerson 2 (some .boolean), Cond.methodLink RX10 130 yX10_saysOf, Cond.instanceMethod yX10_saysOf, Cond.selects RX10 yX10_saysOf yX10_saysOf, Cond.code yX10_saysOf cX10_saysOf 2 (some .int)]
def wsL_law_r12 : List Cond := [Cond.methodLink RX10 136 yX10_placeOf, Cond.instanceMethod yX10_placeOf, Cond.selects RX10 yX10_placeOf yX10_placeOf, Cond.code yX10_placeOf cX10_placeOf 4 (some .int), Cond.methodLink RL 23 yX9_worth, Cond.instanceMethod yX9_worth, Cond.selects RX9 yX9_worth yX9_worth, Cond.code yX9_worth cX9_worth 2 (some .int), Cond.fieldLink RX9 136 "LeastAsked$Province" "worths" "[I", Cond.methodLink RX9 133 yX4_hasMatter, Cond.instanceMethod yX4_hasMatter, Cond.selects RX4 yX4_hasMatter yX4_hasMatter, Cond.code yX4_hasMatter cX4_hasMatter 2 (some .boolean), Cond.methodLink RL 27 yX10_worth, Cond.instanceMethod yX10_worth, Cond.selects RX10 yX10_worth yX10_worth, Cond.code yX10_worth cX10_worth 2 (some .int), Cond.methodLink RX10 139 yX10_isMatter, Cond.instanceMethod yX10_isMatter, Cond.selects RX10 yX10_isMatter yX10_isMatter, Cond.code yX10_isMatter cX10_isMatter 2 (some .boolean), Cond.methodLink RL 28 yX9_weigh, Cond.instanceMethod yX9_weigh, Cond.selects RX9 yX9_weigh yX9_weigh]
def wsL_law_r13 : List Cond := [Cond.code yX9_weigh cX9_weigh 4 (some .int), Cond.methodLink RL 31 yX10_weigh, Cond.instanceMethod yX10_weigh, Cond.selects RX10 yX10_weigh yX10_weigh, Cond.code yX10_weigh cX10_weigh 4 (some .int), Cond.methodLink RL 32 yX9_teach, Cond.instanceMethod yX9_teach, Cond.selects RX9 yX9_teach yX9_teach, Cond.code yX9_teach cX9_teach 4 (some .int), Cond.methodLink RL 35 yX10_teach, Cond.instanceMethod yX10_teach, Cond.selects RX10 yX10_teach yX10_teach, Cond.code yX10_teach cX10_teach 4 (some .int), Cond.methodLink RL 36 yX9_sharpen, Cond.instanceMethod yX9_sharpen, Cond.selects RX9 yX9_sharpen yX9_sharpen, Cond.code yX9_sharpen cX9_sharpen 4 (some .int), Cond.methodLink RL 39 yX10_sharpen, Cond.instanceMethod yX10_sharpen, Cond.selects RX10 yX10_sharpen yX10_sharpen, Cond.code yX10_sharpen cX10_sharpen 4 (some .int), Cond.methodLink RL 40 yX9_brings, Cond.instanceMethod yX9_brings, Cond.selects RX9 yX9_brings yX9_brings]
def wsL_law_r14 : List Cond := [Cond.code yX9_brings cX9_brings 3 (some .int), Cond.methodLink RX9 143 yX4_bringing, Cond.instanceMethod yX4_bringing, Cond.selects RX4 yX4_bringing yX4_bringing, Cond.code yX4_bringing cX4_bringing 4 (some .int), Cond.methodLink RX4 49 yX2_saying, Cond.methodLink RX4 53 yX2_isKnowing, Cond.instanceMethod yX2_isKnowing, Cond.selects RX2 yX2_isKnowing yX2_isKnowing, Cond.code yX2_isKnowing cX2_isKnowing 2 (some .boolean), Cond.methodLink RL 43 yX10_brings, Cond.instanceMethod yX10_brings, Cond.selects RX10 yX10_brings yX10_brings, Cond.code yX10_brings cX10_brings 3 (some .int), Cond.methodLink RX10 142 yX10_bringsOf, Cond.instanceMethod yX10_bringsOf, Cond.selects RX10 yX10_bringsOf yX10_bringsOf, Cond.code yX10_bringsOf cX10_bringsOf 3 (some .int), Cond.methodLink RX10 127 yX10_isOf, Cond.static yX10_isOf, Cond.code yX10_isOf cX10_isOf 2 (some .boolean), Cond.methodLink RL 44 yX9_question, Cond.instanceMethod yX9_question, Cond.selects RX9 yX9_question yX9_question]
def wsL_law_r15 : List Cond := [Cond.code yX9_question cX9_question 3 (some .int), Cond.methodLink RX9 147 yX4_first, Cond.instanceMethod yX4_first, Cond.selects RX4 yX4_first yX4_first, Cond.code yX4_first cX4_first 3 (some .int), Cond.methodLink RL 47 yX10_question, Cond.instanceMethod yX10_question, Cond.selects RX10 yX10_question yX10_question, Cond.code yX10_question cX10_question 3 (some .int), Cond.methodLink RX10 145 yX10_firstOf, Cond.instanceMethod yX10_firstOf, Cond.selects RX10 yX10_firstOf yX10_firstOf, Cond.code yX10_firstOf cX10_firstOf 3 (some .int), Cond.methodLink RL 48 yX9_feint, Cond.instanceMethod yX9_feint, Cond.selects RX9 yX9_feint yX9_feint, Cond.code yX9_feint cX9_feint 2 (some .int), Cond.methodLink RL 51 yX10_feint, Cond.instanceMethod yX10_feint, Cond.selects RX10 yX10_feint yX10_feint, Cond.code yX10_feint cX10_feint 2 (some .int), Cond.methodLink RL 52 yX9_year, Cond.instanceMethod yX9_year, Cond.selects RX9 yX9_year yX9_year]
def wsL_law_r16 : List Cond := [Cond.code yX9_year cX9_year 8 (some .int), Cond.methodLink RX9 150 yX8_tells, Cond.static yX8_tells, Cond.code yX8_tells cX8_tells 1 (some .boolean), Cond.methodLink RX8 28 yX8_isLearner, Cond.static yX8_isLearner, Cond.code yX8_isLearner cX8_isLearner 1 (some .boolean), Cond.methodLink RX9 153 yX9_rowFault, Cond.static yX9_rowFault, Cond.code yX9_rowFault cX9_rowFault 5 (some .int), Cond.methodLink RX9 157 yX8_refusal, Cond.static yX8_refusal, Cond.code yX8_refusal cX8_refusal 7 (some .int), Cond.fieldLink RX8 32 "LeastAsked$Sheet" "cells" "[I", Cond.methodLink RX8 38 yX8_pairRefusal, Cond.static yX8_pairRefusal, Cond.code yX8_pairRefusal cX8_pairRefusal 3 (some .int), Cond.methodLink RX8 42 yX4_hasMatter, Cond.methodLink RX8 47 yX4_hasPerson, Cond.methodLink RX9 161 yX4_becomeLike, Cond.instanceMethod yX4_becomeLike, Cond.selects RX4 yX4_becomeLike yX4_becomeLike, Cond.code yX4_becomeLike cX4_becomeLike 3 none, Cond.methodLink RX4 26 arraycopyName]
def wsL_law_r17 : List Cond := [Cond.native arraycopyName, Cond.static arraycopyName, Cond.initialized "java/lang/System", Cond.methodLink RX4 32 yX2_becomeLike, Cond.instanceMethod yX2_becomeLike, Cond.selects RX2 yX2_becomeLike yX2_becomeLike, Cond.code yX2_becomeLike cX2_becomeLike 2 none, Cond.methodLink RX9 165 yX8_go, Cond.instanceMethod yX8_go, Cond.selects RX8 yX8_go yX8_go, Cond.code yX8_go cX8_go 7 none, Cond.methodLink RX8 50 yX8_isDone, Cond.instanceMethod yX8_isDone, Cond.selects RX8 yX8_isDone yX8_isDone, Cond.code yX8_isDone cX8_isDone 5 (some .boolean), Cond.fieldLink RX8 62 "LeastAsked$Province" "people" "[LLeastAsked$Person;", Cond.fieldLink RX8 66 "LeastAsked$Person" "asked" "I", Cond.fieldLink RX8 71 "LeastAsked$Person" "knows" "I", Cond.methodLink RX8 54 yX8_ask, Cond.instanceMethod yX8_ask, Cond.selects RX8 yX8_ask yX8_ask, Cond.code yX8_ask cX8_ask 4 none, Cond.methodLink RX8 58 yX4_first, Cond.methodLink RX8 74 yX4_bringing]
def wsL_law_r18 : List Cond := [Cond.methodLink RX8 78 yX2_isKnowing, Cond.methodLink RX9 168 yX8_answer, Cond.instanceMethod yX8_answer, Cond.selects RX8 yX8_answer yX8_answer, Cond.code yX8_answer cX8_answer 3 (some .int), Cond.methodLink RL 56 yX10_year, Cond.instanceMethod yX10_year, Cond.selects RX10 yX10_year yX10_year, Cond.code yX10_year cX10_year 10 (some .int), Cond.methodLink RX10 161 yX10_refusesPair, Cond.instanceMethod yX10_refusesPair, Cond.selects RX10 yX10_refusesPair yX10_refusesPair, Cond.code yX10_refusesPair cX10_refusesPair 5 (some .int), Cond.methodLink RX10 164 yX10_keep, Cond.instanceMethod yX10_keep, Cond.selects RX10 yX10_keep yX10_keep, Cond.code yX10_keep cX10_keep 2 none, Cond.methodLink RX10 167 yX10_goYear, Cond.instanceMethod yX10_goYear, Cond.selects RX10 yX10_goYear yX10_goYear, Cond.code yX10_goYear cX10_goYear 4 (some .int), Cond.fieldLink RX10 149 "LeastAskedModel" "yearBrought" "I", Cond.fieldLink RX10 152 "LeastAskedModel" "yearAsked" "I", Cond.fieldLink RX10 155 "LeastAskedModel" "yearKnown" "I"]
def wsL_law_r19 : List Cond := [Cond.methodLink RX10 158 yX10_does, Cond.instanceMethod yX10_does, Cond.selects RX10 yX10_does yX10_does, Cond.code yX10_does cX10_does 4 (some .boolean), Cond.methodLink RX10 170 yX10_tellYear, Cond.instanceMethod yX10_tellYear, Cond.selects RX10 yX10_tellYear yX10_tellYear, Cond.code yX10_tellYear cX10_tellYear 2 (some .int), Cond.methodLink RX10 173 yX10_putBack, Cond.instanceMethod yX10_putBack, Cond.selects RX10 yX10_putBack yX10_putBack, Cond.code yX10_putBack cX10_putBack 2 none, Cond.methodLink RL 57 yX9_register, Cond.instanceMethod yX9_register, Cond.selects RX9 yX9_register yX9_register, Cond.code yX9_register cX9_register 2 (some .int), Cond.methodLink RX9 172 yX4_atPlace, Cond.instanceMethod yX4_atPlace, Cond.selects RX4 yX4_atPlace yX4_atPlace, Cond.code yX4_atPlace cX4_atPlace 3 (some .int), Cond.methodLink RX4 64 yX4_placeOf, Cond.methodLink RL 60 yX10_register, Cond.instanceMethod yX10_register, Cond.selects RX10 yX10_register yX10_register]
def wsL_law_r20 : List Cond := [Cond.code yX10_register cX10_register 3 (some .int), Cond.methodLink RL 61 yX9_turn, Cond.instanceMethod yX9_turn, Cond.selects RX9 yX9_turn yX9_turn, Cond.code yX9_turn cX9_turn 2 (some .int), Cond.methodLink RX9 175 yX4_questionsAheadOf, Cond.instanceMethod yX4_questionsAheadOf, Cond.selects RX4 yX4_questionsAheadOf yX4_questionsAheadOf, Cond.code yX4_questionsAheadOf cX4_questionsAheadOf 4 (some .int), Cond.methodLink RL 64 yX10_turn, Cond.instanceMethod yX10_turn, Cond.selects RX10 yX10_turn yX10_turn, Cond.code yX10_turn cX10_turn 4 (some .int), Cond.methodLink RL 65 yX9_steer, Cond.instanceMethod yX9_steer, Cond.selects RX9 yX9_steer yX9_steer, Cond.code yX9_steer cX9_steer 2 (some .int), Cond.methodLink RX9 178 yX4_feintsTillKnown, Cond.instanceMethod yX4_feintsTillKnown, Cond.selects RX4 yX4_feintsTillKnown yX4_feintsTillKnown, Cond.code yX4_feintsTillKnown cX4_feintsTillKnown 5 (some .int), Cond.methodLink RX4 76 Lib.Math.min.name, Cond.static Lib.Math.min.name, Cond.code Lib.Math.min.name Lib.Math.min.code 2 (some .int)]
def wsL_law_r21 : List Cond := [Cond.methodLink RX4 73 yX4_questionsAheadOf, Cond.methodLink RL 68 yX10_steer, Cond.instanceMethod yX10_steer, Cond.selects RX10 yX10_steer yX10_steer, Cond.code yX10_steer cX10_steer 5 (some .int), Cond.methodLink RL 69 yX9_even, Cond.instanceMethod yX9_even, Cond.selects RX9 yX9_even yX9_even, Cond.code yX9_even cX9_even 1 (some .int), Cond.methodLink RX9 181 yX4_questionsTillEven, Cond.instanceMethod yX4_questionsTillEven, Cond.selects RX4 yX4_questionsTillEven yX4_questionsTillEven, Cond.code yX4_questionsTillEven cX4_questionsTillEven 4 (some .int), Cond.methodLink RL 73 yX10_even, Cond.instanceMethod yX10_even, Cond.selects RX10 yX10_even yX10_even, Cond.code yX10_even cX10_even 4 (some .int), Cond.methodLink RL 74 yX9_plan, Cond.instanceMethod yX9_plan, Cond.selects RX9 yX9_plan yX9_plan, Cond.code yX9_plan cX9_plan 8 (some .int), Cond.fieldLink RX9 184 "LeastAsked$Sheet" "cells" "[I", Cond.methodLink RX9 187 yX3_make, Cond.instanceMethod yX3_make]
def wsL_law_r22 : List Cond := [Cond.selects RX3 yX3_make yX3_make, Cond.code yX3_make cX3_make 8 none, Cond.fieldLink RX3 28 "LeastAsked$Sheet" "cells" "[I", Cond.fieldLink RX3 39 "LeastAsked$Province" "people" "[LLeastAsked$Person;", Cond.fieldLink RX3 43 "LeastAsked$Person" "asked" "I", Cond.methodLink RX3 33 yX4_first, Cond.methodLink RX3 48 yX3_nextPlace, Cond.instanceMethod yX3_nextPlace, Cond.selects RX3 yX3_nextPlace yX3_nextPlace, Cond.code yX3_nextPlace cX3_nextPlace 7 (some .int), Cond.methodLink RX3 52 yX3_mostWith, Cond.instanceMethod yX3_mostWith, Cond.selects RX3 yX3_mostWith yX3_mostWith, Cond.code yX3_mostWith cX3_mostWith 5 (some .int), Cond.methodLink RX3 56 yJ6_bitCount_0f7a4, Cond.static yJ6_bitCount_0f7a4, Cond.initialized RJ6, Cond.code yJ6_bitCount_0f7a4 cJ6_bitCount_0f7a4 1 (some .int), Cond.constant RJ6 265 (1431655765), Cond.constant RJ6 266 (858993459), Cond.constant RJ6 267 (252645135), Cond.methodLink RX3 62 yX4_bringing, Cond.methodLink RX9 190 yX3_answer, Cond.instanceMethod yX3_answer]
def wsL_law_r23 : List Cond := [Cond.selects RX3 yX3_answer yX3_answer, Cond.code yX3_answer cX3_answer 2 (some .int), Cond.methodLink RL 77 yX10_plan, Cond.instanceMethod yX10_plan, Cond.selects RX10 yX10_plan yX10_plan, Cond.code yX10_plan cX10_plan 9 (some .int), Cond.methodLink RX10 179 yX10_planOf, Cond.instanceMethod yX10_planOf, Cond.selects RX10 yX10_planOf yX10_planOf, Cond.code yX10_planOf cX10_planOf 8 (some .int), Cond.methodLink RX10 183 yX10_findAsked, Cond.instanceMethod yX10_findAsked, Cond.selects RX10 yX10_findAsked yX10_findAsked, Cond.code yX10_findAsked cX10_findAsked 3 none, Cond.methodLink RX10 176 yX10_ordersOf, Cond.static yX10_ordersOf, Cond.code yX10_ordersOf cX10_ordersOf 3 (some .int), Cond.methodLink RX10 187 yX10_findRow, Cond.instanceMethod yX10_findRow, Cond.selects RX10 yX10_findRow yX10_findRow, Cond.code yX10_findRow cX10_findRow 9 none, Cond.methodLink RX10 191 yX10_broughtByRow, Cond.instanceMethod yX10_broughtByRow, Cond.selects RX10 yX10_broughtByRow yX10_broughtByRow]
def wsL_law_r24 : List Cond := [Cond.code yX10_broughtByRow cX10_broughtByRow 5 (some .int), Cond.methodLink RL 78 yX9_best, Cond.instanceMethod yX9_best, Cond.selects RX9 yX9_best yX9_best, Cond.code yX9_best cX9_best 2 (some .int), Cond.fieldLink RX9 195 "LeastAsked$Giver" "most" "I", Cond.fieldLink RX9 198 "LeastAsked$Giver" "row" "[I", Cond.methodLink RX9 192 yX1_give, Cond.instanceMethod yX1_give, Cond.selects RX1 yX1_give yX1_give, Cond.code yX1_give cX1_give 6 none, Cond.fieldLink RX1 19 "LeastAsked$Province" "count" "I", Cond.methodLink RX1 24 yX1_consider, Cond.instanceMethod yX1_consider, Cond.selects RX1 yX1_consider yX1_consider, Cond.code yX1_consider cX1_consider 9 none, Cond.methodLink RX1 28 Lib.Math.min.name, Cond.methodLink RX1 34 yX1_gain, Cond.static yX1_gain, Cond.code yX1_gain cX1_gain 3 (some .int), Cond.methodLink RX1 38 yX4_hasPerson, Cond.methodLink RX1 42 yX4_bringing, Cond.methodLink RL 81 yX10_best, Cond.instanceMethod yX10_best]
def wsL_law_r25 : List Cond := [Cond.selects RX10 yX10_best yX10_best, Cond.code yX10_best cX10_best 4 (some .int), Cond.fieldLink RX10 194 "LeastAskedModel" "bestMany" "I", Cond.fieldLink RX10 197 "LeastAskedModel" "bestSum" "I", Cond.methodLink RX10 200 yX10_canGive, Cond.instanceMethod yX10_canGive, Cond.selects RX10 yX10_canGive yX10_canGive, Cond.code yX10_canGive cX10_canGive 5 (some .boolean), Cond.methodLink RX10 203 yX10_tryGiven, Cond.instanceMethod yX10_tryGiven, Cond.selects RX10 yX10_tryGiven yX10_tryGiven, Cond.code yX10_tryGiven cX10_tryGiven 4 none, Cond.methodLink RL 82 yX9_reading, Cond.instanceMethod yX9_reading, Cond.selects RX9 yX9_reading yX9_reading, Cond.code yX9_reading cX9_reading 4 (some .int), Cond.methodLink RX9 201 yX5_take, Cond.instanceMethod yX5_take, Cond.selects RX5 yX5_take yX5_take, Cond.code yX5_take cX5_take 5 (some .int), Cond.methodLink RL 86 yX10_reading, Cond.instanceMethod yX10_reading, Cond.selects RX10 yX10_reading yX10_reading, Cond.code yX10_reading cX10_reading 4 (some .int)]
def wsL_law_r26 : List Cond := [Cond.methodLink RL 87 yX9_back, Cond.instanceMethod yX9_back, Cond.selects RX9 yX9_back yX9_back, Cond.code yX9_back cX9_back 2 (some .int), Cond.methodLink RL 90 yX10_back, Cond.instanceMethod yX10_back, Cond.selects RX10 yX10_back yX10_back, Cond.code yX10_back cX10_back 2 (some .int), Cond.methodLink RL 91 yX9_knowings, Cond.instanceMethod yX9_knowings, Cond.selects RX9 yX9_knowings yX9_knowings, Cond.code yX9_knowings cX9_knowings 2 (some .int), Cond.methodLink RX9 205 yX9_possible, Cond.instanceMethod yX9_possible, Cond.selects RX9 yX9_possible yX9_possible, Cond.code yX9_possible cX9_possible 6 (some .int), Cond.methodLink RX9 249 yX4_suppose, Cond.instanceMethod yX4_suppose, Cond.selects RX4 yX4_suppose yX4_suppose, Cond.code yX4_suppose cX4_suppose 4 none, Cond.fieldLink RX4 36 "LeastAsked$Person" "knows" "I", Cond.fieldLink RX4 39 "LeastAsked$Person" "wit" "I", Cond.fieldLink RX4 42 "LeastAsked$Person" "kind" "I", Cond.methodLink RX9 253 yX5_allSo]
def wsL_law_r27 : List Cond := [Cond.instanceMethod yX5_allSo, Cond.selects RX5 yX5_allSo yX5_allSo, Cond.code yX5_allSo cX5_allSo 3 (some .boolean), Cond.methodLink RX5 25 yX4_bringing, Cond.methodLink RL 94 yX10_knowings, Cond.instanceMethod yX10_knowings, Cond.selects RX10 yX10_knowings yX10_knowings, Cond.code yX10_knowings cX10_knowings 5 (some .int), Cond.methodLink RX10 206 yX10_areSo, Cond.instanceMethod yX10_areSo, Cond.selects RX10 yX10_areSo yX10_areSo, Cond.code yX10_areSo cX10_areSo 2 (some .boolean), Cond.methodLink RL 95 yX9_wits, Cond.instanceMethod yX9_wits, Cond.selects RX9 yX9_wits yX9_wits, Cond.code yX9_wits cX9_wits 2 (some .int), Cond.methodLink RL 98 yX10_wits, Cond.instanceMethod yX10_wits, Cond.selects RX10 yX10_wits yX10_wits, Cond.code yX10_wits cX10_wits 5 (some .int), Cond.methodLink RL 99 yX9_kinds, Cond.instanceMethod yX9_kinds, Cond.selects RX9 yX9_kinds yX9_kinds, Cond.code yX9_kinds cX9_kinds 2 (some .int)]
def wsL_law_r28 : List Cond := [Cond.methodLink RL 102 yX10_kinds, Cond.instanceMethod yX10_kinds, Cond.selects RX10 yX10_kinds yX10_kinds, Cond.code yX10_kinds cX10_kinds 5 (some .int), Cond.methodLink RL 103 yX9_worths, Cond.instanceMethod yX9_worths, Cond.selects RX9 yX9_worths yX9_worths, Cond.code yX9_worths cX9_worths 2 (some .int), Cond.methodLink RL 106 yX10_worths, Cond.instanceMethod yX10_worths, Cond.selects RX10 yX10_worths yX10_worths, Cond.code yX10_worths cX10_worths 5 (some .int), Cond.methodLink RL 107 yX9_odds, Cond.instanceMethod yX9_odds, Cond.selects RX9 yX9_odds yX9_odds, Cond.code yX9_odds cX9_odds 7 (some .long), Cond.constantLong RX9 208 (-9223372036854775808), Cond.methodLink RX9 210 yX9_waysToBring, Cond.instanceMethod yX9_waysToBring, Cond.selects RX9 yX9_waysToBring yX9_waysToBring, Cond.code yX9_waysToBring cX9_waysToBring 6 (some .int), Cond.methodLink RX9 213 yX9_commonDivisor, Cond.static yX9_commonDivisor, Cond.code yX9_commonDivisor cX9_commonDivisor 3 (some .int)]
def wsL_law_r29 : List Cond := [Cond.methodLink RL 111 yX10_odds, Cond.instanceMethod yX10_odds, Cond.selects RX10 yX10_odds yX10_odds, Cond.code yX10_odds cX10_odds 8 (some .long), Cond.constantLong RX10 71 (-9223372036854775808), Cond.constantLong RX10 210 (24), Cond.methodLink RX10 212 yX10_inLeastTerms, Cond.static yX10_inLeastTerms, Cond.code yX10_inLeastTerms cX10_inLeastTerms 11 (some .long), Cond.methodLink RL 112 yX9_sheet, Cond.instanceMethod yX9_sheet, Cond.selects RX9 yX9_sheet yX9_sheet, Cond.code yX9_sheet cX9_sheet 4 (some .int), Cond.methodLink RX9 216 yX6_begin, Cond.instanceMethod yX6_begin, Cond.selects RX6 yX6_begin yX6_begin, Cond.code yX6_begin cX6_begin 3 none, Cond.methodLink RX6 26 yJ7_fill_53178, Cond.static yJ7_fill_53178, Cond.initialized RJ7, Cond.code yJ7_fill_53178 cJ7_fill_53178 4 none, Cond.methodLink RL 115 yX10_sheet, Cond.instanceMethod yX10_sheet, Cond.selects RX10 yX10_sheet yX10_sheet]
def wsL_law_r30 : List Cond := [Cond.code yX10_sheet cX10_sheet 5 (some .int), Cond.methodLink RL 116 yX9_lose, Cond.instanceMethod yX9_lose, Cond.selects RX9 yX9_lose yX9_lose, Cond.code yX9_lose cX9_lose 3 (some .int), Cond.fieldLink RX9 220 "LeastAsked$Sheet" "filled" "Z", Cond.methodLink RL 119 yX10_lose, Cond.instanceMethod yX10_lose, Cond.selects RX10 yX10_lose yX10_lose, Cond.code yX10_lose cX10_lose 3 (some .int), Cond.methodLink RL 120 yX9_put, Cond.instanceMethod yX9_put, Cond.selects RX9 yX9_put yX9_put, Cond.code yX9_put cX9_put 5 (some .int), Cond.fieldLink RX9 224 "LeastAsked$Sheet" "length" "I", Cond.methodLink RX9 227 yX6_cut, Cond.instanceMethod yX6_cut, Cond.selects RX6 yX6_cut yX6_cut, Cond.code yX6_cut cX6_cut 2 (some .int), Cond.methodLink RL 123 yX10_put, Cond.instanceMethod yX10_put, Cond.selects RX10 yX10_put yX10_put, Cond.code yX10_put cX10_put 4 (some .int), Cond.methodLink RL 124 yX9_cell]
def wsL_law_r31 : List Cond := [Cond.instanceMethod yX9_cell, Cond.selects RX9 yX9_cell yX9_cell, Cond.code yX9_cell cX9_cell 5 (some .long), Cond.methodLink RL 127 yX10_cell, Cond.instanceMethod yX10_cell, Cond.selects RX10 yX10_cell yX10_cell, Cond.code yX10_cell cX10_cell 4 (some .long), Cond.methodLink RX10 216 yX10_lost, Cond.instanceMethod yX10_lost, Cond.selects RX10 yX10_lost yX10_lost, Cond.code yX10_lost cX10_lost 2 (some .long), Cond.methodLink RL 128 yX9_copy, Cond.instanceMethod yX9_copy, Cond.selects RX9 yX9_copy yX9_copy, Cond.code yX9_copy cX9_copy 8 (some .int), Cond.fieldLink RX9 230 "LeastAsked$Sheet" "lane" "I", Cond.methodLink RX9 233 arraycopyName, Cond.methodLink RL 131 yX10_copy, Cond.instanceMethod yX10_copy, Cond.selects RX10 yX10_copy yX10_copy, Cond.code yX10_copy cX10_copy 10 (some .int), Cond.methodLink RL 132 yX9_tell, Cond.instanceMethod yX9_tell, Cond.selects RX9 yX9_tell yX9_tell]
def wsL_law_r32 : List Cond := [Cond.code yX9_tell cX9_tell 2 (some .int), Cond.methodLink RX9 239 yX0_telling, Cond.instanceMethod yX0_telling, Cond.selects RX0 yX0_telling yX0_telling, Cond.code yX0_telling cX0_telling 2 (some .int), Cond.fieldLink RX0 15 "LeastAsked$Person" "kind" "I", Cond.methodLink RX0 20 yX0_twinTelling, Cond.instanceMethod yX0_twinTelling, Cond.selects RX0 yX0_twinTelling yX0_twinTelling, Cond.code yX0_twinTelling cX0_twinTelling 2 (some .int), Cond.methodLink RX0 30 yX0_begin, Cond.instanceMethod yX0_begin, Cond.selects RX0 yX0_begin yX0_begin, Cond.code yX0_begin cX0_begin 2 none, Cond.methodLink RX0 27 yX0_gooseherdTelling, Cond.instanceMethod yX0_gooseherdTelling, Cond.selects RX0 yX0_gooseherdTelling yX0_gooseherdTelling, Cond.code yX0_gooseherdTelling cX0_gooseherdTelling 2 (some .int), Cond.fieldLink RX0 34 "LeastAsked$Person" "wit" "I", Cond.methodLink RX0 24 yX0_hermitTelling, Cond.instanceMethod yX0_hermitTelling, Cond.selects RX0 yX0_hermitTelling yX0_hermitTelling, Cond.code yX0_hermitTelling cX0_hermitTelling 3 (some .int), Cond.methodLink RL 135 yX10_tell]
def wsL_law_r33 : List Cond := [Cond.instanceMethod yX10_tell, Cond.selects RX10 yX10_tell yX10_tell, Cond.code yX10_tell cX10_tell 3 (some .int), Cond.methodLink RX10 223 yX10_begins, Cond.instanceMethod yX10_begins, Cond.selects RX10 yX10_begins yX10_begins, Cond.code yX10_begins cX10_begins 2 none, Cond.fieldLink RX10 220 "LeastAskedModel" "trace" "I", Cond.methodLink RL 136 yX9_greet, Cond.instanceMethod yX9_greet, Cond.selects RX9 yX9_greet yX9_greet, Cond.code yX9_greet cX9_greet 2 (some .int), Cond.methodLink RX9 243 yX0_greeting, Cond.instanceMethod yX0_greeting, Cond.selects RX0 yX0_greeting yX0_greeting, Cond.code yX0_greeting cX0_greeting 2 (some .int), Cond.fieldLink RX0 37 "LeastAsked$Person" "asked" "I", Cond.methodLink RL 139 yX10_greet, Cond.instanceMethod yX10_greet, Cond.selects RX10 yX10_greet yX10_greet, Cond.code yX10_greet cX10_greet 2 (some .int), Cond.methodLink RL 140 yX9_as, Cond.instanceMethod yX9_as, Cond.selects RX9 yX9_as yX9_as]
def wsL_law_r34 : List Cond := [Cond.code yX9_as cX9_as 3 (some .int), Cond.methodLink RL 143 yX10_as, Cond.instanceMethod yX10_as, Cond.selects RX10 yX10_as yX10_as, Cond.code yX10_as cX10_as 3 (some .int), Cond.methodLink RL 144 yX9_trace, Cond.instanceMethod yX9_trace, Cond.selects RX9 yX9_trace yX9_trace, Cond.code yX9_trace cX9_trace 1 (some .int), Cond.fieldLink RX9 246 "LeastAsked$Bodies" "left" "I", Cond.methodLink RL 147 yX10_trace, Cond.instanceMethod yX10_trace, Cond.selects RX10 yX10_trace yX10_trace, Cond.code yX10_trace cX10_trace 1 (some .int), Cond.methodLink RL 148 yX9_fault, Cond.instanceMethod yX9_fault, Cond.selects RX9 yX9_fault yX9_fault, Cond.code yX9_fault cX9_fault 1 (some .int), Cond.methodLink RL 151 yX10_fault, Cond.instanceMethod yX10_fault, Cond.selects RX10 yX10_fault yX10_fault, Cond.code yX10_fault cX10_fault 1 (some .int), Cond.methodLink RL 152 yX9_many, Cond.instanceMethod yX9_many]
def wsL_law_r35 : List Cond := [Cond.selects RX9 yX9_many yX9_many, Cond.code yX9_many cX9_many 2 (some .int), Cond.methodLink RL 155 yX10_many, Cond.instanceMethod yX10_many, Cond.selects RX10 yX10_many yX10_many, Cond.code yX10_many cX10_many 2 (some .int)]
def wsL_law : List Cond := (wsL_law_r1 ++ (wsL_law_r2 ++ (wsL_law_r3 ++ (wsL_law_r4 ++ (wsL_law_r5 ++ (wsL_law_r6 ++ (wsL_law_r7 ++ (wsL_law_r8 ++ (wsL_law_r9 ++ (wsL_law_r10 ++ (wsL_law_r11 ++ (wsL_law_r12 ++ (wsL_law_r13 ++ (wsL_law_r14 ++ (wsL_law_r15 ++ (wsL_law_r16 ++ (wsL_law_r17 ++ (wsL_law_r18 ++ (wsL_law_r19 ++ (wsL_law_r20 ++ (wsL_law_r21 ++ (wsL_law_r22 ++ (wsL_law_r23 ++ (wsL_law_r24 ++ (wsL_law_r25 ++ (wsL_law_r26 ++ (wsL_law_r27 ++ (wsL_law_r28 ++ (wsL_law_r29 ++ (wsL_law_r30 ++ (wsL_law_r31 ++ (wsL_law_r32 ++ (wsL_law_r33 ++ (wsL_law_r34 ++ wsL_law_r35)))))))))))))))))))))))))))))))))) ++ wsX90 ++ wsX100 ++ wsX40 ++ wsX80 ++ wsX30 ++ wsX10 ++ wsX50 ++ wsX00 ++ wsX60 ++ wsX20 ++ ([] : List Cond)
theorem zin_r {big ws : List Cond} (ps : List Nat) (hp : ws = ps.filterMap (fun i => big[i]?)) : ∀ w ∈ ws, w ∈ big := by
  intro w hw
  rw [hp] at hw
  obtain ⟨i, -, hi⟩ := List.mem_filterMap.mp hw
  exact List.mem_of_getElem? hi
theorem zin_app {big a b : List Cond} (ha : ∀ w ∈ a, w ∈ big) (hb : ∀ w ∈ b, w ∈ big) : ∀ w ∈ a ++ b, w ∈ big := fun w h => (List.mem_append.mp h).elim (ha w) (hb w)
set_option maxRecDepth 20000 in
theorem zwL_1 : ∀ w ∈ wsL_law_r1, w ∈ lw_tbl := zin_r [47, 48, 32, 644, 645, 41, 49, 50, 51, 52, 53, 54, 55, 233, 57, 58, 33, 234, 235, 121, 122, 35, 236, 140] (by decide +kernel)
set_option maxRecDepth 20000 in
theorem zwL_2 : ∀ w ∈ wsL_law_r2, w ∈ lw_tbl := zin_r [141, 36, 237, 162, 163, 37, 238, 177, 178, 38, 239, 197, 198, 39, 240, 241, 242, 243, 208, 40, 59, 60, 61, 62] (by decide +kernel)
set_option maxRecDepth 20000 in
theorem zwL_3 : ∀ w ∈ wsL_law_r3, w ∈ lw_tbl := zin_r [101, 102, 63, 105, 110, 65, 34, 67, 68, 69, 70, 75, 82, 87, 124, 125, 126, 127, 128, 129, 130, 143, 144, 145] (by decide +kernel)
set_option maxRecDepth 20000 in
theorem zwL_4 : ∀ w ∈ wsL_law_r4, w ∈ lw_tbl := zin_r [146, 147, 148, 149, 150, 165, 166, 167, 168, 170, 180, 181, 182, 183, 184, 185, 186, 200, 201, 202, 203, 210, 211, 212] (by decide +kernel)
set_option maxRecDepth 20000 in
theorem zwL_5 : ∀ w ∈ wsL_law_r5, w ∈ lw_tbl := zin_r [213, 218, 220, 222, 646, 647, 648, 649, 652, 653, 654, 658, 659, 660, 661, 662, 665, 666, 667, 668, 672, 673, 674, 675] (by decide +kernel)
set_option maxRecDepth 20000 in
theorem zwL_6 : ∀ w ∈ wsL_law_r6, w ∈ lw_tbl := zin_r [679, 680, 681, 267, 268, 269, 270, 187, 112, 271, 272, 273, 274, 275, 276, 277, 278, 279, 280, 281, 282, 283, 284, 285] (by decide +kernel)
set_option maxRecDepth 20000 in
theorem zwL_7 : ∀ w ∈ wsL_law_r7, w ∈ lw_tbl := zin_r [286, 287, 288, 290, 0, 291, 292, 293, 42, 294, 214, 295, 296, 297, 298, 299, 300, 301, 302, 303, 304, 305, 306, 104] (by decide +kernel)
set_option maxRecDepth 20000 in
theorem zwL_8 : ∀ w ∈ wsL_law_r8, w ∈ lw_tbl := zin_r [113, 108, 74, 78, 85, 91, 747, 748, 749, 750, 650, 663, 655, 751, 752, 753, 754, 755, 756, 757, 758, 759, 760, 762] (by decide +kernel)
set_option maxRecDepth 20000 in
theorem zwL_9 : ∀ w ∈ wsL_law_r9, w ∈ lw_tbl := zin_r [3, 763, 764, 766, 4, 767, 768, 770, 5, 771, 664, 772, 774, 6, 775, 776, 778, 7, 779, 780, 782, 8, 783, 784] (by decide +kernel)
set_option maxRecDepth 20000 in
theorem zwL_10 : ∀ w ∈ wsL_law_r10, w ∈ lw_tbl := zin_r [786, 9, 787, 656, 657, 678, 307, 308, 309, 310, 107, 73, 77, 84, 89, 311, 312, 313, 314, 316, 317, 318, 319, 320] (by decide +kernel)
set_option maxRecDepth 20000 in
theorem zwL_11 : ∀ w ∈ wsL_law_r11, w ∈ lw_tbl := zin_r [321, 322, 323, 324, 325, 326, 327, 79, 328, 329, 43, 330, 788, 789, 790, 791, 792, 794, 10, 795, 796, 798, 11, 799] (by decide +kernel)
set_option maxRecDepth 20000 in
theorem zwL_12 : ∀ w ∈ wsL_law_r12, w ∈ lw_tbl := zin_r [800, 802, 12, 803, 331, 332, 333, 334, 103, 335, 336, 337, 338, 804, 805, 806, 807, 808, 810, 13, 811, 339, 340, 341] (by decide +kernel)
set_option maxRecDepth 20000 in
theorem zwL_13 : ∀ w ∈ wsL_law_r13, w ∈ lw_tbl := zin_r [342, 812, 813, 814, 815, 343, 344, 345, 346, 816, 817, 818, 819, 347, 348, 349, 350, 820, 821, 822, 823, 351, 352, 353] (by decide +kernel)
set_option maxRecDepth 20000 in
theorem zwL_14 : ∀ w ∈ wsL_law_r14, w ∈ lw_tbl := zin_r [354, 355, 356, 357, 358, 359, 360, 361, 362, 363, 824, 825, 826, 827, 828, 830, 14, 831, 832, 833, 834, 364, 365, 366] (by decide +kernel)
set_option maxRecDepth 20000 in
theorem zwL_15 : ∀ w ∈ wsL_law_r15, w ∈ lw_tbl := zin_r [367, 368, 369, 370, 371, 835, 836, 837, 838, 839, 841, 15, 842, 372, 373, 374, 375, 843, 844, 845, 846, 376, 377, 378] (by decide +kernel)
set_option maxRecDepth 20000 in
theorem zwL_16 : ∀ w ∈ wsL_law_r16, w ∈ lw_tbl := zin_r [379, 380, 381, 382, 384, 385, 386, 387, 388, 389, 390, 391, 392, 216, 393, 394, 395, 396, 397, 398, 399, 400, 401, 402] (by decide +kernel)
set_option maxRecDepth 20000 in
theorem zwL_17 : ∀ w ∈ wsL_law_r17, w ∈ lw_tbl := zin_r [404, 403, 44, 405, 406, 407, 408, 409, 410, 411, 412, 413, 414, 415, 416, 109, 81, 86, 417, 418, 419, 420, 421, 422] (by decide +kernel)
set_option maxRecDepth 20000 in
theorem zwL_18 : ∀ w ∈ wsL_law_r18, w ∈ lw_tbl := zin_r [423, 424, 425, 426, 427, 847, 848, 849, 850, 851, 853, 16, 854, 855, 857, 17, 858, 859, 861, 18, 862, 669, 670, 671] (by decide +kernel)
set_option maxRecDepth 20000 in
theorem zwL_19 : ∀ w ∈ wsL_law_r19, w ∈ lw_tbl := zin_r [863, 865, 19, 866, 867, 869, 20, 870, 871, 873, 21, 874, 428, 429, 430, 431, 432, 433, 434, 435, 436, 875, 876, 877] (by decide +kernel)
set_option maxRecDepth 20000 in
theorem zwL_20 : ∀ w ∈ wsL_law_r20, w ∈ lw_tbl := zin_r [878, 437, 438, 439, 440, 441, 442, 443, 444, 879, 880, 881, 882, 445, 446, 447, 448, 449, 450, 451, 452, 454, 455, 456] (by decide +kernel)
set_option maxRecDepth 20000 in
theorem zwL_21 : ∀ w ∈ wsL_law_r21, w ∈ lw_tbl := zin_r [453, 883, 884, 885, 886, 457, 458, 459, 460, 461, 462, 463, 464, 887, 888, 889, 890, 465, 466, 467, 468, 217, 469, 470] (by decide +kernel)
set_option maxRecDepth 20000 in
theorem zwL_22 : ∀ w ∈ wsL_law_r22, w ∈ lw_tbl := zin_r [471, 472, 215, 106, 76, 473, 474, 475, 476, 477, 478, 479, 480, 481, 482, 483, 45, 484, 485, 486, 487, 488, 489, 490] (by decide +kernel)
set_option maxRecDepth 20000 in
theorem zwL_23 : ∀ w ∈ wsL_law_r23, w ∈ lw_tbl := zin_r [491, 492, 891, 892, 893, 894, 895, 897, 22, 898, 899, 901, 23, 902, 903, 904, 905, 906, 908, 24, 909, 910, 912, 25] (by decide +kernel)
set_option maxRecDepth 20000 in
theorem zwL_24 : ∀ w ∈ wsL_law_r24, w ∈ lw_tbl := zin_r [913, 493, 494, 495, 496, 171, 169, 497, 498, 499, 500, 111, 501, 502, 503, 504, 505, 506, 507, 508, 509, 510, 914, 915] (by decide +kernel)
set_option maxRecDepth 20000 in
theorem zwL_25 : ∀ w ∈ wsL_law_r25, w ∈ lw_tbl := zin_r [916, 917, 676, 677, 918, 920, 26, 921, 922, 924, 27, 925, 511, 512, 513, 514, 515, 516, 517, 518, 926, 927, 928, 929] (by decide +kernel)
set_option maxRecDepth 20000 in
theorem zwL_26 : ∀ w ∈ wsL_law_r26, w ∈ lw_tbl := zin_r [519, 520, 521, 522, 930, 931, 932, 933, 523, 524, 525, 526, 527, 529, 1, 530, 531, 532, 533, 534, 83, 88, 72, 535] (by decide +kernel)
set_option maxRecDepth 20000 in
theorem zwL_27 : ∀ w ∈ wsL_law_r27, w ∈ lw_tbl := zin_r [536, 537, 538, 539, 934, 935, 936, 937, 938, 940, 28, 941, 540, 541, 542, 543, 942, 943, 944, 945, 544, 545, 546, 547] (by decide +kernel)
set_option maxRecDepth 20000 in
theorem zwL_28 : ∀ w ∈ wsL_law_r28, w ∈ lw_tbl := zin_r [946, 947, 948, 949, 548, 549, 550, 551, 950, 951, 952, 953, 552, 553, 554, 555, 556, 557, 559, 2, 560, 561, 562, 563] (by decide +kernel)
set_option maxRecDepth 20000 in
theorem zwL_29 : ∀ w ∈ wsL_law_r29, w ∈ lw_tbl := zin_r [954, 955, 956, 957, 958, 959, 960, 961, 962, 564, 565, 566, 567, 568, 569, 570, 571, 572, 573, 46, 574, 963, 964, 965] (by decide +kernel)
set_option maxRecDepth 20000 in
theorem zwL_30 : ∀ w ∈ wsL_law_r30, w ∈ lw_tbl := zin_r [966, 575, 576, 577, 578, 219, 967, 968, 969, 970, 579, 580, 581, 582, 223, 583, 584, 585, 586, 971, 972, 973, 974, 587] (by decide +kernel)
set_option maxRecDepth 20000 in
theorem zwL_31 : ∀ w ∈ wsL_law_r31, w ∈ lw_tbl := zin_r [588, 589, 590, 975, 976, 977, 978, 979, 981, 29, 982, 591, 592, 593, 594, 221, 595, 983, 984, 985, 986, 596, 597, 598] (by decide +kernel)
set_option maxRecDepth 20000 in
theorem zwL_32 : ∀ w ∈ wsL_law_r32, w ∈ lw_tbl := zin_r [599, 600, 601, 602, 603, 71, 604, 605, 606, 607, 608, 609, 610, 611, 612, 613, 614, 615, 90, 616, 617, 618, 619, 987] (by decide +kernel)
set_option maxRecDepth 20000 in
theorem zwL_33 : ∀ w ∈ wsL_law_r33, w ∈ lw_tbl := zin_r [988, 989, 990, 991, 993, 30, 994, 651, 620, 621, 622, 623, 624, 625, 626, 627, 80, 995, 996, 997, 998, 628, 629, 630] (by decide +kernel)
set_option maxRecDepth 20000 in
theorem zwL_34 : ∀ w ∈ wsL_law_r34, w ∈ lw_tbl := zin_r [631, 999, 1000, 1001, 1002, 632, 633, 634, 635, 204, 1003, 1004, 1005, 1006, 636, 637, 638, 639, 1007, 1008, 1009, 1010, 640, 641] (by decide +kernel)
set_option maxRecDepth 20000 in
theorem zwL_35 : ∀ w ∈ wsL_law_r35, w ∈ lw_tbl := zin_r [642, 643, 1011, 1012, 1013, 1014] (by decide +kernel)
set_option maxRecDepth 20000 in
theorem zwX_9 : ∀ w ∈ wsX90, w ∈ lw_tbl := zin_r [244, 246, 248, 250, 252, 254, 256, 258, 260, 262, 264] (by decide +kernel)
set_option maxRecDepth 20000 in
theorem zwX_10 : ∀ w ∈ wsX100, w ∈ lw_tbl := zin_r [682, 684, 686, 688, 690, 692, 694, 696, 698, 700, 702, 704, 706, 708, 710, 712, 714, 716, 718, 720, 722, 724, 726, 728, 730, 732, 734, 736, 738, 740, 742, 744] (by decide +kernel)
set_option maxRecDepth 20000 in
theorem zwX_4 : ∀ w ∈ wsX40, w ∈ lw_tbl := zin_r [114, 116, 118] (by decide +kernel)
set_option maxRecDepth 20000 in
theorem zwX_8 : ∀ w ∈ wsX80, w ∈ lw_tbl := zin_r [131, 133, 135, 137] (by decide +kernel)
set_option maxRecDepth 20000 in
theorem zwX_3 : ∀ w ∈ wsX30, w ∈ lw_tbl := zin_r [151, 153, 155, 157, 159] (by decide +kernel)
set_option maxRecDepth 20000 in
theorem zwX_1 : ∀ w ∈ wsX10, w ∈ lw_tbl := zin_r [172, 174] (by decide +kernel)
set_option maxRecDepth 20000 in
theorem zwX_5 : ∀ w ∈ wsX50, w ∈ lw_tbl := zin_r [188, 190, 192, 194] (by decide +kernel)
set_option maxRecDepth 20000 in
theorem zwX_0 : ∀ w ∈ wsX00, w ∈ lw_tbl := zin_r [205] (by decide +kernel)
set_option maxRecDepth 20000 in
theorem zwX_6 : ∀ w ∈ wsX60, w ∈ lw_tbl := zin_r [224, 226, 228, 230] (by decide +kernel)
set_option maxRecDepth 20000 in
theorem zwX_2 : ∀ w ∈ wsX20, w ∈ lw_tbl := zin_r [92, 94, 96, 98] (by decide +kernel)
theorem wsL_law_in : ∀ w ∈ wsL_law, w ∈ lw_tbl := zin_app (zin_app (zin_app (zin_app (zin_app (zin_app (zin_app (zin_app (zin_app (zin_app (zin_app (zin_app zwL_1 (zin_app zwL_2 (zin_app zwL_3 (zin_app zwL_4 (zin_app zwL_5 (zin_app zwL_6 (zin_app zwL_7 (zin_app zwL_8 (zin_app zwL_9 (zin_app zwL_10 (zin_app zwL_11 (zin_app zwL_12 (zin_app zwL_13 (zin_app zwL_14 (zin_app zwL_15 (zin_app zwL_16 (zin_app zwL_17 (zin_app zwL_18 (zin_app zwL_19 (zin_app zwL_20 (zin_app zwL_21 (zin_app zwL_22 (zin_app zwL_23 (zin_app zwL_24 (zin_app zwL_25 (zin_app zwL_26 (zin_app zwL_27 (zin_app zwL_28 (zin_app zwL_29 (zin_app zwL_30 (zin_app zwL_31 (zin_app zwL_32 (zin_app zwL_33 (zin_app zwL_34 (zwL_35))))))))))))))))))))))))))))))))))) zwX_9) zwX_10) zwX_4) zwX_8) zwX_3) zwX_1) zwX_5) zwX_0) zwX_6) zwX_2) (fun _ h => absurd h List.not_mem_nil)
theorem inlX0 : ∀ w ∈ wsX00, w ∈ wsL_law := fun _ h => List.mem_append_left _ (List.mem_append_left _ (List.mem_append_left _ (List.mem_append_right _ h)))
theorem inX0 : ∀ w ∈ wsX00, w ∈ lw_tbl := fun w h => wsL_law_in w (inlX0 w h)
theorem inlX1 : ∀ w ∈ wsX10, w ∈ wsL_law := fun _ h => List.mem_append_left _ (List.mem_append_left _ (List.mem_append_left _ (List.mem_append_left _ (List.mem_append_left _ (List.mem_append_right _ h)))))
theorem inX1 : ∀ w ∈ wsX10, w ∈ lw_tbl := fun w h => wsL_law_in w (inlX1 w h)
theorem inlX2 : ∀ w ∈ wsX20, w ∈ wsL_law := fun _ h => List.mem_append_left _ (List.mem_append_right _ h)
theorem inX2 : ∀ w ∈ wsX20, w ∈ lw_tbl := fun w h => wsL_law_in w (inlX2 w h)
theorem inlX3 : ∀ w ∈ wsX30, w ∈ wsL_law := fun _ h => List.mem_append_left _ (List.mem_append_left _ (List.mem_append_left _ (List.mem_append_left _ (List.mem_append_left _ (List.mem_append_left _ (List.mem_append_right _ h))))))
theorem inX3 : ∀ w ∈ wsX30, w ∈ lw_tbl := fun w h => wsL_law_in w (inlX3 w h)
theorem inlX4 : ∀ w ∈ wsX40, w ∈ wsL_law := fun _ h => List.mem_append_left _ (List.mem_append_left _ (List.mem_append_left _ (List.mem_append_left _ (List.mem_append_left _ (List.mem_append_left _ (List.mem_append_left _ (List.mem_append_left _ (List.mem_append_right _ h))))))))
theorem inX4 : ∀ w ∈ wsX40, w ∈ lw_tbl := fun w h => wsL_law_in w (inlX4 w h)
theorem inlX5 : ∀ w ∈ wsX50, w ∈ wsL_law := fun _ h => List.mem_append_left _ (List.mem_append_left _ (List.mem_append_left _ (List.mem_append_left _ (List.mem_append_right _ h))))
theorem inX5 : ∀ w ∈ wsX50, w ∈ lw_tbl := fun w h => wsL_law_in w (inlX5 w h)
theorem inlX6 : ∀ w ∈ wsX60, w ∈ wsL_law := fun _ h => List.mem_append_left _ (List.mem_append_left _ (List.mem_append_right _ h))
theorem inX6 : ∀ w ∈ wsX60, w ∈ lw_tbl := fun w h => wsL_law_in w (inlX6 w h)
theorem inX7 : ∀ w ∈ wsX70, w ∈ lw_tbl := by decide +kernel
theorem inlX8 : ∀ w ∈ wsX80, w ∈ wsL_law := fun _ h => List.mem_append_left _ (List.mem_append_left _ (List.mem_append_left _ (List.mem_append_left _ (List.mem_append_left _ (List.mem_append_left _ (List.mem_append_left _ (List.mem_append_right _ h)))))))
theorem inX8 : ∀ w ∈ wsX80, w ∈ lw_tbl := fun w h => wsL_law_in w (inlX8 w h)
theorem inlX9 : ∀ w ∈ wsX90, w ∈ wsL_law := fun _ h => List.mem_append_left _ (List.mem_append_left _ (List.mem_append_left _ (List.mem_append_left _ (List.mem_append_left _ (List.mem_append_left _ (List.mem_append_left _ (List.mem_append_left _ (List.mem_append_left _ (List.mem_append_left _ (List.mem_append_right _ h))))))))))
theorem inX9 : ∀ w ∈ wsX90, w ∈ lw_tbl := fun w h => wsL_law_in w (inlX9 w h)
theorem inlX10 : ∀ w ∈ wsX100, w ∈ wsL_law := fun _ h => List.mem_append_left _ (List.mem_append_left _ (List.mem_append_left _ (List.mem_append_left _ (List.mem_append_left _ (List.mem_append_left _ (List.mem_append_left _ (List.mem_append_left _ (List.mem_append_left _ (List.mem_append_right _ h)))))))))
theorem inX10 : ∀ w ∈ wsX100, w ∈ lw_tbl := fun w h => wsL_law_in w (inlX10 w h)
theorem inJ6 : ∀ w ∈ wsJ60, w ∈ lw_tbl := by decide +kernel
theorem inJ9 : ∀ w ∈ wsJ90, w ∈ lw_tbl := by decide +kernel
theorem inJ10 : ∀ w ∈ wsJ100, w ∈ lw_tbl := by decide +kernel
theorem inJ7 : ∀ w ∈ wsJ70, w ∈ lw_tbl := by decide +kernel
abbrev vwCl : List vw_C := [(RX0, TX0, 1), (RX1, TX1, 2), (RX2, TX2, 4), (RX3, TX3, 5), (RX4, TX4, 3), (RX5, TX5, 4), (RX6, TX6, 4), (RX8, TX8, 4), (RX9, TX9, 11), (RX10, TX10, 32)]
end
section
theorem dX0_init_0 : decode cX0_init 0 = .ok (.aload_n 0, 1) := by decide +kernel
theorem dX0_init_1 : decode cX0_init 1 = .ok (.invokespecial 3, 3) := by decide +kernel
theorem dX0_init_4 : decode cX0_init 4 = .ok (.aload_n 0, 1) := by decide +kernel
theorem dX0_init_5 : decode cX0_init 5 = .ok (.iconst 0, 1) := by decide +kernel
theorem dX0_init_6 : decode cX0_init 6 = .ok (.putfield 9, 3) := by decide +kernel
theorem dX0_init_9 : decode cX0_init 9 = .ok (.return_, 1) := by decide +kernel
theorem dX0_begin_0 : decode cX0_begin 0 = .ok (.aload_n 0, 1) := by decide +kernel
theorem dX0_begin_1 : decode cX0_begin 1 = .ok (.bipush 31, 2) := by decide +kernel
theorem dX0_begin_3 : decode cX0_begin 3 = .ok (.aload_n 0, 1) := by decide +kernel
theorem dX0_begin_4 : decode cX0_begin 4 = .ok (.getfield 9, 3) := by decide +kernel
theorem dX0_begin_7 : decode cX0_begin 7 = .ok (.imul, 1) := by decide +kernel
theorem dX0_begin_8 : decode cX0_begin 8 = .ok (.iload_n 1, 1) := by decide +kernel
theorem dX0_begin_9 : decode cX0_begin 9 = .ok (.iadd, 1) := by decide +kernel
theorem dX0_begin_10 : decode cX0_begin 10 = .ok (.putfield 9, 3) := by decide +kernel
theorem dX0_begin_13 : decode cX0_begin 13 = .ok (.return_, 1) := by decide +kernel
set_option maxRecDepth 20000 in
theorem ggX0_telling_X0_twinTelling : GoodIn wsX0_telling wsX0_twinTelling := goodIn_r _ [6, 7, 8, 9, 5, 10, 11, 12, 13, 14, 15, 16, 25, 21, 22, 23, 24] (by decide +kernel) (by decide +kernel)
set_option maxRecDepth 20000 in
theorem gX0_telling_X0_twinTelling : GoodIn wsX0_telling (wsV RX0 20 RX0 yX0_twinTelling wsX0_twinTelling) := goodIn_app (goodIn_of _ (by decide +kernel)) ggX0_telling_X0_twinTelling
set_option maxRecDepth 20000 in
theorem ggX0_telling_X0_hermitTelling : GoodIn wsX0_telling wsX0_hermitTelling := goodIn_r _ [20, 7, 8, 9, 5, 10, 11, 2, 3, 4, 6, 12, 13, 14, 15, 16, 25, 21, 22, 23, 24] (by decide +kernel) (by decide +kernel)
set_option maxRecDepth 20000 in
theorem gX0_telling_X0_hermitTelling : GoodIn wsX0_telling (wsV RX0 24 RX0 yX0_hermitTelling wsX0_hermitTelling) := goodIn_app (goodIn_of _ (by decide +kernel)) ggX0_telling_X0_hermitTelling
set_option maxRecDepth 20000 in
theorem ggX0_telling_X0_gooseherdTelling : GoodIn wsX0_telling wsX0_gooseherdTelling := goodIn_r _ [15, 16, 7, 8, 9, 5, 10, 11, 21, 22, 23, 24, 25] (by decide +kernel) (by decide +kernel)
set_option maxRecDepth 20000 in
theorem gX0_telling_X0_gooseherdTelling : GoodIn wsX0_telling (wsV RX0 27 RX0 yX0_gooseherdTelling wsX0_gooseherdTelling) := goodIn_app (goodIn_of _ (by decide +kernel)) ggX0_telling_X0_gooseherdTelling
theorem dX0_telling_0 : decode cX0_telling 0 = .ok (.aload_n 1, 1) := by decide +kernel
theorem dX0_telling_1 : decode cX0_telling 1 = .ok (.getfield 15, 3) := by decide +kernel
theorem dX0_telling_4 : decode cX0_telling 4 = .ok (.lookupswitch 40 #[(1, 28), (2, 34)], 28) := by decide +kernel
theorem dX0_telling_32 : decode cX0_telling 32 = .ok (.aload_n 0, 1) := by decide +kernel
theorem dX0_telling_33 : decode cX0_telling 33 = .ok (.aload_n 1, 1) := by decide +kernel
theorem dX0_telling_34 : decode cX0_telling 34 = .ok (.invokevirtual 20, 3) := by decide +kernel
theorem dX0_telling_37 : decode cX0_telling 37 = .ok (.ireturn, 1) := by decide +kernel
theorem dX0_telling_38 : decode cX0_telling 38 = .ok (.aload_n 0, 1) := by decide +kernel
theorem dX0_telling_39 : decode cX0_telling 39 = .ok (.aload_n 1, 1) := by decide +kernel
theorem dX0_telling_40 : decode cX0_telling 40 = .ok (.invokevirtual 24, 3) := by decide +kernel
theorem dX0_telling_43 : decode cX0_telling 43 = .ok (.ireturn, 1) := by decide +kernel
theorem dX0_telling_44 : decode cX0_telling 44 = .ok (.aload_n 0, 1) := by decide +kernel
theorem dX0_telling_45 : decode cX0_telling 45 = .ok (.aload_n 1, 1) := by decide +kernel
theorem dX0_telling_46 : decode cX0_telling 46 = .ok (.invokevirtual 27, 3) := by decide +kernel
theorem dX0_telling_49 : decode cX0_telling 49 = .ok (.ireturn, 1) := by decide +kernel
set_option maxRecDepth 20000 in
theorem ggX0_gooseherdTelling_X0_begin : GoodIn wsX0_gooseherdTelling wsX0_begin := goodIn_r _ [6, 7, 12] (by decide +kernel) (by decide +kernel)
set_option maxRecDepth 20000 in
theorem gX0_gooseherdTelling_X0_begin : GoodIn wsX0_gooseherdTelling (wsV RX0 30 RX0 yX0_begin wsX0_begin) := goodIn_app (goodIn_of _ (by decide +kernel)) ggX0_gooseherdTelling_X0_begin
theorem dX0_gooseherdTelling_0 : decode cX0_gooseherdTelling 0 = .ok (.aload_n 0, 1) := by decide +kernel
theorem dX0_gooseherdTelling_1 : decode cX0_gooseherdTelling 1 = .ok (.iconst 1, 1) := by decide +kernel
theorem dX0_gooseherdTelling_2 : decode cX0_gooseherdTelling 2 = .ok (.invokevirtual 30, 3) := by decide +kernel
theorem dX0_gooseherdTelling_5 : decode cX0_gooseherdTelling 5 = .ok (.aload_n 1, 1) := by decide +kernel
theorem dX0_gooseherdTelling_6 : decode cX0_gooseherdTelling 6 = .ok (.getfield 34, 3) := by decide +kernel
theorem dX0_gooseherdTelling_9 : decode cX0_gooseherdTelling 9 = .ok (.ireturn, 1) := by decide +kernel
set_option maxRecDepth 20000 in
theorem ggX0_twinTelling_X0_begin : GoodIn wsX0_twinTelling wsX0_begin := goodIn_r _ [5, 6, 12] (by decide +kernel) (by decide +kernel)
set_option maxRecDepth 20000 in
theorem gX0_twinTelling_X0_begin : GoodIn wsX0_twinTelling (wsV RX0 30 RX0 yX0_begin wsX0_begin) := goodIn_app (goodIn_of _ (by decide +kernel)) ggX0_twinTelling_X0_begin
set_option maxRecDepth 20000 in
theorem ggX0_twinTelling_X0_gooseherdTelling : GoodIn wsX0_twinTelling wsX0_gooseherdTelling := goodIn_r _ [10, 11, 1, 2, 3, 4, 5, 6, 13, 14, 15, 16, 12] (by decide +kernel) (by decide +kernel)
set_option maxRecDepth 20000 in
theorem gX0_twinTelling_X0_gooseherdTelling : GoodIn wsX0_twinTelling (wsV RX0 27 RX0 yX0_gooseherdTelling wsX0_gooseherdTelling) := goodIn_app (goodIn_of _ (by decide +kernel)) ggX0_twinTelling_X0_gooseherdTelling
theorem dX0_twinTelling_0 : decode cX0_twinTelling 0 = .ok (.aload_n 0, 1) := by decide +kernel
theorem dX0_twinTelling_1 : decode cX0_twinTelling 1 = .ok (.iconst 2, 1) := by decide +kernel
theorem dX0_twinTelling_2 : decode cX0_twinTelling 2 = .ok (.invokevirtual 30, 3) := by decide +kernel
theorem dX0_twinTelling_5 : decode cX0_twinTelling 5 = .ok (.aload_n 0, 1) := by decide +kernel
theorem dX0_twinTelling_6 : decode cX0_twinTelling 6 = .ok (.aload_n 1, 1) := by decide +kernel
theorem dX0_twinTelling_7 : decode cX0_twinTelling 7 = .ok (.invokevirtual 27, 3) := by decide +kernel
theorem dX0_twinTelling_10 : decode cX0_twinTelling 10 = .ok (.bipush 100, 2) := by decide +kernel
theorem dX0_twinTelling_12 : decode cX0_twinTelling 12 = .ok (.iadd, 1) := by decide +kernel
theorem dX0_twinTelling_13 : decode cX0_twinTelling 13 = .ok (.ireturn, 1) := by decide +kernel
set_option maxRecDepth 20000 in
theorem ggX0_hermitTelling_X0_begin : GoodIn wsX0_hermitTelling wsX0_begin := goodIn_r _ [5, 6, 16] (by decide +kernel) (by decide +kernel)
set_option maxRecDepth 20000 in
theorem gX0_hermitTelling_X0_begin : GoodIn wsX0_hermitTelling (wsV RX0 30 RX0 yX0_begin wsX0_begin) := goodIn_app (goodIn_of _ (by decide +kernel)) ggX0_hermitTelling_X0_begin
set_option maxRecDepth 20000 in
theorem ggX0_hermitTelling_X0_twinTelling : GoodIn wsX0_hermitTelling wsX0_twinTelling := goodIn_r _ [10, 1, 2, 3, 4, 5, 6, 11, 12, 13, 14, 15, 16, 17, 18, 19, 20] (by decide +kernel) (by decide +kernel)
set_option maxRecDepth 20000 in
theorem gX0_hermitTelling_X0_twinTelling : GoodIn wsX0_hermitTelling (wsV RX0 20 RX0 yX0_twinTelling wsX0_twinTelling) := goodIn_app (goodIn_of _ (by decide +kernel)) ggX0_hermitTelling_X0_twinTelling
set_option maxRecDepth 20000 in
theorem ggX0_hermitTelling_X0_gooseherdTelling : GoodIn wsX0_hermitTelling wsX0_gooseherdTelling := goodIn_r _ [14, 15, 1, 2, 3, 4, 5, 6, 17, 18, 19, 20, 16] (by decide +kernel) (by decide +kernel)
set_option maxRecDepth 20000 in
theorem gX0_hermitTelling_X0_gooseherdTelling : GoodIn wsX0_hermitTelling (wsV RX0 27 RX0 yX0_gooseherdTelling wsX0_gooseherdTelling) := goodIn_app (goodIn_of _ (by decide +kernel)) ggX0_hermitTelling_X0_gooseherdTelling
theorem dX0_hermitTelling_0 : decode cX0_hermitTelling 0 = .ok (.aload_n 0, 1) := by decide +kernel
theorem dX0_hermitTelling_1 : decode cX0_hermitTelling 1 = .ok (.iconst 3, 1) := by decide +kernel
theorem dX0_hermitTelling_2 : decode cX0_hermitTelling 2 = .ok (.invokevirtual 30, 3) := by decide +kernel
theorem dX0_hermitTelling_5 : decode cX0_hermitTelling 5 = .ok (.aload_n 0, 1) := by decide +kernel
theorem dX0_hermitTelling_6 : decode cX0_hermitTelling 6 = .ok (.aload_n 1, 1) := by decide +kernel
theorem dX0_hermitTelling_7 : decode cX0_hermitTelling 7 = .ok (.invokevirtual 20, 3) := by decide +kernel
theorem dX0_hermitTelling_10 : decode cX0_hermitTelling 10 = .ok (.istore_n 2, 1) := by decide +kernel
theorem dX0_hermitTelling_11 : decode cX0_hermitTelling 11 = .ok (.iload_n 2, 1) := by decide +kernel
theorem dX0_hermitTelling_12 : decode cX0_hermitTelling 12 = .ok (.aload_n 0, 1) := by decide +kernel
theorem dX0_hermitTelling_13 : decode cX0_hermitTelling 13 = .ok (.aload_n 1, 1) := by decide +kernel
theorem dX0_hermitTelling_14 : decode cX0_hermitTelling 14 = .ok (.invokevirtual 27, 3) := by decide +kernel
theorem dX0_hermitTelling_17 : decode cX0_hermitTelling 17 = .ok (.iadd, 1) := by decide +kernel
theorem dX0_hermitTelling_18 : decode cX0_hermitTelling 18 = .ok (.ireturn, 1) := by decide +kernel
set_option maxRecDepth 20000 in
theorem ggX0_greeting_X0_begin : GoodIn wsX0_greeting wsX0_begin := goodIn_r _ [7, 8, 13] (by decide +kernel) (by decide +kernel)
set_option maxRecDepth 20000 in
theorem gX0_greeting_X0_begin : GoodIn wsX0_greeting (wsV RX0 30 RX0 yX0_begin wsX0_begin) := goodIn_app (goodIn_of _ (by decide +kernel)) ggX0_greeting_X0_begin
theorem dX0_greeting_0 : decode cX0_greeting 0 = .ok (.aload_n 1, 1) := by decide +kernel
theorem dX0_greeting_1 : decode cX0_greeting 1 = .ok (.getfield 15, 3) := by decide +kernel
theorem dX0_greeting_4 : decode cX0_greeting 4 = .ok (.iconst 2, 1) := by decide +kernel
theorem dX0_greeting_5 : decode cX0_greeting 5 = .ok (.if_icmp .ne 11, 3) := by decide +kernel
theorem dX0_greeting_8 : decode cX0_greeting 8 = .ok (.aload_n 0, 1) := by decide +kernel
theorem dX0_greeting_9 : decode cX0_greeting 9 = .ok (.iconst 5, 1) := by decide +kernel
theorem dX0_greeting_10 : decode cX0_greeting 10 = .ok (.invokevirtual 30, 3) := by decide +kernel
theorem dX0_greeting_13 : decode cX0_greeting 13 = .ok (.bipush 40, 2) := by decide +kernel
theorem dX0_greeting_15 : decode cX0_greeting 15 = .ok (.ireturn, 1) := by decide +kernel
theorem dX0_greeting_16 : decode cX0_greeting 16 = .ok (.aload_n 0, 1) := by decide +kernel
theorem dX0_greeting_17 : decode cX0_greeting 17 = .ok (.iconst 4, 1) := by decide +kernel
theorem dX0_greeting_18 : decode cX0_greeting 18 = .ok (.invokevirtual 30, 3) := by decide +kernel
theorem dX0_greeting_21 : decode cX0_greeting 21 = .ok (.aload_n 1, 1) := by decide +kernel
theorem dX0_greeting_22 : decode cX0_greeting 22 = .ok (.getfield 37, 3) := by decide +kernel
theorem dX0_greeting_25 : decode cX0_greeting 25 = .ok (.ireturn, 1) := by decide +kernel
theorem dX1_init_0 : decode cX1_init 0 = .ok (.aload_n 0, 1) := by decide +kernel
theorem dX1_init_1 : decode cX1_init 1 = .ok (.invokespecial 3, 3) := by decide +kernel
theorem dX1_init_4 : decode cX1_init 4 = .ok (.aload_n 0, 1) := by decide +kernel
theorem dX1_init_5 : decode cX1_init 5 = .ok (.iconst 3, 1) := by decide +kernel
theorem dX1_init_6 : decode cX1_init 6 = .ok (.newarray .int, 2) := by decide +kernel
theorem dX1_init_8 : decode cX1_init 8 = .ok (.putfield 9, 3) := by decide +kernel
theorem dX1_init_11 : decode cX1_init 11 = .ok (.aload_n 0, 1) := by decide +kernel
theorem dX1_init_12 : decode cX1_init 12 = .ok (.iconst 0, 1) := by decide +kernel
theorem dX1_init_13 : decode cX1_init 13 = .ok (.putfield 15, 3) := by decide +kernel
theorem dX1_init_16 : decode cX1_init 16 = .ok (.return_, 1) := by decide +kernel
set_option maxRecDepth 20000 in
theorem ggX1_give_X1_consider : GoodIn wsX1_give wsX1_consider := goodIn_r _ [7, 1, 8, 9, 10, 11, 2, 12, 13, 14, 6, 15, 16, 17, 18, 19, 20, 21, 22, 23, 24, 25, 26, 27, 28, 29, 30, 31, 32, 33, 34, 35, 36, 37, 38, 39, 40, 41, 42, 43, 44, 45, 46, 47, 48, 49, 50, 51] (by decide +kernel) (by decide +kernel)
set_option maxRecDepth 20000 in
theorem gX1_give_X1_consider : GoodIn wsX1_give (wsV RX1 24 RX1 yX1_consider wsX1_consider) := goodIn_app (goodIn_of _ (by decide +kernel)) ggX1_give_X1_consider
theorem dX1_give_0 : decode cX1_give 0 = .ok (.aload_n 1, 1) := by decide +kernel
theorem dX1_give_1 : decode cX1_give 1 = .ok (.getfield 19, 3) := by decide +kernel
theorem dX1_give_4 : decode cX1_give 4 = .ok (.istore_n 2, 1) := by decide +kernel
theorem dX1_give_5 : decode cX1_give 5 = .ok (.aload_n 0, 1) := by decide +kernel
theorem dX1_give_6 : decode cX1_give 6 = .ok (.iconst (-1), 1) := by decide +kernel
theorem dX1_give_7 : decode cX1_give 7 = .ok (.putfield 15, 3) := by decide +kernel
theorem dX1_give_10 : decode cX1_give 10 = .ok (.iconst 0, 1) := by decide +kernel
theorem dX1_give_11 : decode cX1_give 11 = .ok (.istore_n 3, 1) := by decide +kernel
theorem dX1_give_12 : decode cX1_give 12 = .ok (.iload_n 3, 1) := by decide +kernel
theorem dX1_give_13 : decode cX1_give 13 = .ok (.iload_n 2, 1) := by decide +kernel
theorem dX1_give_14 : decode cX1_give 14 = .ok (.if_icmp .gt 49, 3) := by decide +kernel
theorem dX1_give_17 : decode cX1_give 17 = .ok (.iconst 0, 1) := by decide +kernel
theorem dX1_give_18 : decode cX1_give 18 = .ok (.istore 4, 2) := by decide +kernel
theorem dX1_give_20 : decode cX1_give 20 = .ok (.iload 4, 2) := by decide +kernel
theorem dX1_give_22 : decode cX1_give 22 = .ok (.iload_n 2, 1) := by decide +kernel
theorem dX1_give_23 : decode cX1_give 23 = .ok (.if_icmp .gt 34, 3) := by decide +kernel
theorem dX1_give_26 : decode cX1_give 26 = .ok (.iconst 0, 1) := by decide +kernel
theorem dX1_give_27 : decode cX1_give 27 = .ok (.istore 5, 2) := by decide +kernel
theorem dX1_give_29 : decode cX1_give 29 = .ok (.iload 5, 2) := by decide +kernel
theorem dX1_give_31 : decode cX1_give 31 = .ok (.iload_n 2, 1) := by decide +kernel
theorem dX1_give_32 : decode cX1_give 32 = .ok (.if_icmp .gt 19, 3) := by decide +kernel
theorem dX1_give_35 : decode cX1_give 35 = .ok (.aload_n 0, 1) := by decide +kernel
theorem dX1_give_36 : decode cX1_give 36 = .ok (.iload_n 3, 1) := by decide +kernel
theorem dX1_give_37 : decode cX1_give 37 = .ok (.iload 4, 2) := by decide +kernel
theorem dX1_give_39 : decode cX1_give 39 = .ok (.iload 5, 2) := by decide +kernel
theorem dX1_give_41 : decode cX1_give 41 = .ok (.aload_n 1, 1) := by decide +kernel
theorem dX1_give_42 : decode cX1_give 42 = .ok (.invokevirtual 24, 3) := by decide +kernel
theorem dX1_give_45 : decode cX1_give 45 = .ok (.iinc 5 1, 3) := by decide +kernel
theorem dX1_give_48 : decode cX1_give 48 = .ok (.goto (-19), 3) := by decide +kernel
theorem dX1_give_51 : decode cX1_give 51 = .ok (.iinc 4 1, 3) := by decide +kernel
theorem dX1_give_54 : decode cX1_give 54 = .ok (.goto (-34), 3) := by decide +kernel
theorem dX1_give_57 : decode cX1_give 57 = .ok (.iinc 3 1, 3) := by decide +kernel
theorem dX1_give_60 : decode cX1_give 60 = .ok (.goto (-48), 3) := by decide +kernel
theorem dX1_give_63 : decode cX1_give 63 = .ok (.return_, 1) := by decide +kernel
set_option maxRecDepth 20000 in
theorem ggX1_consider_X1_gain : GoodIn wsX1_consider wsX1_gain := goodIn_r _ [11, 12, 13, 14, 15, 16, 17, 18, 19, 20, 21, 22, 23, 24, 25, 26, 27, 28, 29, 30, 31, 32, 33, 34, 35, 36, 37, 38, 39, 40, 41, 44, 45, 46, 47] (by decide +kernel) (by decide +kernel)
set_option maxRecDepth 20000 in
theorem gX1_consider_X1_gain : GoodIn wsX1_consider (va_wsS RX1 34 yX1_gain wsX1_gain) := goodIn_app (goodIn_of _ (by decide +kernel)) ggX1_consider_X1_gain
theorem dX1_consider_0 : decode cX1_consider 0 = .ok (.aload 4, 2) := by decide +kernel
theorem dX1_consider_2 : decode cX1_consider 2 = .ok (.getfield 19, 3) := by decide +kernel
theorem dX1_consider_5 : decode cX1_consider 5 = .ok (.istore 5, 2) := by decide +kernel
theorem dX1_consider_7 : decode cX1_consider 7 = .ok (.iload_n 1, 1) := by decide +kernel
theorem dX1_consider_8 : decode cX1_consider 8 = .ok (.iload_n 2, 1) := by decide +kernel
theorem dX1_consider_9 : decode cX1_consider 9 = .ok (.if_icmp .ne 9, 3) := by decide +kernel
theorem dX1_consider_12 : decode cX1_consider 12 = .ok (.iload_n 1, 1) := by decide +kernel
theorem dX1_consider_13 : decode cX1_consider 13 = .ok (.iload 5, 2) := by decide +kernel
theorem dX1_consider_15 : decode cX1_consider 15 = .ok (.if_icmp .ne 25, 3) := by decide +kernel
theorem dX1_consider_18 : decode cX1_consider 18 = .ok (.iload_n 1, 1) := by decide +kernel
theorem dX1_consider_19 : decode cX1_consider 19 = .ok (.iload_n 3, 1) := by decide +kernel
theorem dX1_consider_20 : decode cX1_consider 20 = .ok (.if_icmp .ne 9, 3) := by decide +kernel
theorem dX1_consider_23 : decode cX1_consider 23 = .ok (.iload_n 1, 1) := by decide +kernel
theorem dX1_consider_24 : decode cX1_consider 24 = .ok (.iload 5, 2) := by decide +kernel
theorem dX1_consider_26 : decode cX1_consider 26 = .ok (.if_icmp .ne 14, 3) := by decide +kernel
theorem dX1_consider_29 : decode cX1_consider 29 = .ok (.iload_n 2, 1) := by decide +kernel
theorem dX1_consider_30 : decode cX1_consider 30 = .ok (.iload_n 3, 1) := by decide +kernel
theorem dX1_consider_31 : decode cX1_consider 31 = .ok (.if_icmp .ne 13, 3) := by decide +kernel
theorem dX1_consider_34 : decode cX1_consider 34 = .ok (.iload_n 2, 1) := by decide +kernel
theorem dX1_consider_35 : decode cX1_consider 35 = .ok (.iload 5, 2) := by decide +kernel
theorem dX1_consider_37 : decode cX1_consider 37 = .ok (.if_icmp .eq 7, 3) := by decide +kernel
theorem dX1_consider_40 : decode cX1_consider 40 = .ok (.iconst 1, 1) := by decide +kernel
theorem dX1_consider_41 : decode cX1_consider 41 = .ok (.goto 4, 3) := by decide +kernel
theorem dX1_consider_44 : decode cX1_consider 44 = .ok (.iconst 0, 1) := by decide +kernel
theorem dX1_consider_45 : decode cX1_consider 45 = .ok (.istore 6, 2) := by decide +kernel
theorem dX1_consider_47 : decode cX1_consider 47 = .ok (.iload_n 1, 1) := by decide +kernel
theorem dX1_consider_48 : decode cX1_consider 48 = .ok (.iload 5, 2) := by decide +kernel
theorem dX1_consider_50 : decode cX1_consider 50 = .ok (.if_icmp .eq 7, 3) := by decide +kernel
theorem dX1_consider_53 : decode cX1_consider 53 = .ok (.iconst 1, 1) := by decide +kernel
theorem dX1_consider_54 : decode cX1_consider 54 = .ok (.goto 4, 3) := by decide +kernel
theorem dX1_consider_57 : decode cX1_consider 57 = .ok (.iconst 0, 1) := by decide +kernel
theorem dX1_consider_58 : decode cX1_consider 58 = .ok (.iload_n 2, 1) := by decide +kernel
theorem dX1_consider_59 : decode cX1_consider 59 = .ok (.iload 5, 2) := by decide +kernel
theorem dX1_consider_61 : decode cX1_consider 61 = .ok (.if_icmp .eq 7, 3) := by decide +kernel
theorem dX1_consider_64 : decode cX1_consider 64 = .ok (.iconst 1, 1) := by decide +kernel
theorem dX1_consider_65 : decode cX1_consider 65 = .ok (.goto 4, 3) := by decide +kernel
theorem dX1_consider_68 : decode cX1_consider 68 = .ok (.iconst 0, 1) := by decide +kernel
theorem dX1_consider_69 : decode cX1_consider 69 = .ok (.iadd, 1) := by decide +kernel
theorem dX1_consider_70 : decode cX1_consider 70 = .ok (.iload_n 3, 1) := by decide +kernel
theorem dX1_consider_71 : decode cX1_consider 71 = .ok (.iload 5, 2) := by decide +kernel
theorem dX1_consider_73 : decode cX1_consider 73 = .ok (.if_icmp .eq 7, 3) := by decide +kernel
theorem dX1_consider_76 : decode cX1_consider 76 = .ok (.iconst 1, 1) := by decide +kernel
theorem dX1_consider_77 : decode cX1_consider 77 = .ok (.goto 4, 3) := by decide +kernel
theorem dX1_consider_80 : decode cX1_consider 80 = .ok (.iconst 0, 1) := by decide +kernel
theorem dX1_consider_81 : decode cX1_consider 81 = .ok (.iadd, 1) := by decide +kernel
theorem dX1_consider_82 : decode cX1_consider 82 = .ok (.istore 7, 2) := by decide +kernel
theorem dX1_consider_84 : decode cX1_consider 84 = .ok (.iload 6, 2) := by decide +kernel
theorem dX1_consider_86 : decode cX1_consider 86 = .ok (.ifCond .ne 14, 3) := by decide +kernel
theorem dX1_consider_89 : decode cX1_consider 89 = .ok (.iload 7, 2) := by decide +kernel
theorem dX1_consider_91 : decode cX1_consider 91 = .ok (.iconst 3, 1) := by decide +kernel
theorem dX1_consider_92 : decode cX1_consider 92 = .ok (.iload 5, 2) := by decide +kernel
theorem dX1_consider_94 : decode cX1_consider 94 = .ok (.invokestatic 28, 3) := by decide +kernel
theorem dX1_consider_97 : decode cX1_consider 97 = .ok (.if_icmp .eq 4, 3) := by decide +kernel
theorem dX1_consider_100 : decode cX1_consider 100 = .ok (.return_, 1) := by decide +kernel
theorem dX1_consider_101 : decode cX1_consider 101 = .ok (.iload_n 1, 1) := by decide +kernel
theorem dX1_consider_102 : decode cX1_consider 102 = .ok (.iconst 0, 1) := by decide +kernel
theorem dX1_consider_103 : decode cX1_consider 103 = .ok (.aload 4, 2) := by decide +kernel
theorem dX1_consider_105 : decode cX1_consider 105 = .ok (.invokestatic 34, 3) := by decide +kernel
theorem dX1_consider_108 : decode cX1_consider 108 = .ok (.iload_n 2, 1) := by decide +kernel
theorem dX1_consider_109 : decode cX1_consider 109 = .ok (.iconst 1, 1) := by decide +kernel
theorem dX1_consider_110 : decode cX1_consider 110 = .ok (.aload 4, 2) := by decide +kernel
theorem dX1_consider_112 : decode cX1_consider 112 = .ok (.invokestatic 34, 3) := by decide +kernel
theorem dX1_consider_115 : decode cX1_consider 115 = .ok (.iadd, 1) := by decide +kernel
theorem dX1_consider_116 : decode cX1_consider 116 = .ok (.iload_n 3, 1) := by decide +kernel
theorem dX1_consider_117 : decode cX1_consider 117 = .ok (.iconst 2, 1) := by decide +kernel
theorem dX1_consider_118 : decode cX1_consider 118 = .ok (.aload 4, 2) := by decide +kernel
theorem dX1_consider_120 : decode cX1_consider 120 = .ok (.invokestatic 34, 3) := by decide +kernel
theorem dX1_consider_123 : decode cX1_consider 123 = .ok (.iadd, 1) := by decide +kernel
theorem dX1_consider_124 : decode cX1_consider 124 = .ok (.istore 8, 2) := by decide +kernel
theorem dX1_consider_126 : decode cX1_consider 126 = .ok (.iload 8, 2) := by decide +kernel
theorem dX1_consider_128 : decode cX1_consider 128 = .ok (.aload_n 0, 1) := by decide +kernel
theorem dX1_consider_129 : decode cX1_consider 129 = .ok (.getfield 15, 3) := by decide +kernel
theorem dX1_consider_132 : decode cX1_consider 132 = .ok (.if_icmp .le 63, 3) := by decide +kernel
theorem dX1_consider_135 : decode cX1_consider 135 = .ok (.aload_n 0, 1) := by decide +kernel
theorem dX1_consider_136 : decode cX1_consider 136 = .ok (.iload 8, 2) := by decide +kernel
theorem dX1_consider_138 : decode cX1_consider 138 = .ok (.putfield 15, 3) := by decide +kernel
theorem dX1_consider_141 : decode cX1_consider 141 = .ok (.aload_n 0, 1) := by decide +kernel
theorem dX1_consider_142 : decode cX1_consider 142 = .ok (.getfield 9, 3) := by decide +kernel
theorem dX1_consider_145 : decode cX1_consider 145 = .ok (.iconst 0, 1) := by decide +kernel
theorem dX1_consider_146 : decode cX1_consider 146 = .ok (.iload_n 1, 1) := by decide +kernel
theorem dX1_consider_147 : decode cX1_consider 147 = .ok (.iload 5, 2) := by decide +kernel
theorem dX1_consider_149 : decode cX1_consider 149 = .ok (.if_icmp .ne 8, 3) := by decide +kernel
theorem dX1_consider_152 : decode cX1_consider 152 = .ok (.bipush (-9), 2) := by decide +kernel
theorem dX1_consider_154 : decode cX1_consider 154 = .ok (.goto 4, 3) := by decide +kernel
theorem dX1_consider_157 : decode cX1_consider 157 = .ok (.iload_n 1, 1) := by decide +kernel
theorem dX1_consider_158 : decode cX1_consider 158 = .ok (.iastore, 1) := by decide +kernel
theorem dX1_consider_159 : decode cX1_consider 159 = .ok (.aload_n 0, 1) := by decide +kernel
theorem dX1_consider_160 : decode cX1_consider 160 = .ok (.getfield 9, 3) := by decide +kernel
theorem dX1_consider_163 : decode cX1_consider 163 = .ok (.iconst 1, 1) := by decide +kernel
theorem dX1_consider_164 : decode cX1_consider 164 = .ok (.iload_n 2, 1) := by decide +kernel
theorem dX1_consider_165 : decode cX1_consider 165 = .ok (.iload 5, 2) := by decide +kernel
theorem dX1_consider_167 : decode cX1_consider 167 = .ok (.if_icmp .ne 8, 3) := by decide +kernel
theorem dX1_consider_170 : decode cX1_consider 170 = .ok (.bipush (-9), 2) := by decide +kernel
theorem dX1_consider_172 : decode cX1_consider 172 = .ok (.goto 4, 3) := by decide +kernel
theorem dX1_consider_175 : decode cX1_consider 175 = .ok (.iload_n 2, 1) := by decide +kernel
theorem dX1_consider_176 : decode cX1_consider 176 = .ok (.iastore, 1) := by decide +kernel
theorem dX1_consider_177 : decode cX1_consider 177 = .ok (.aload_n 0, 1) := by decide +kernel
theorem dX1_consider_178 : decode cX1_consider 178 = .ok (.getfield 9, 3) := by decide +kernel
theorem dX1_consider_181 : decode cX1_consider 181 = .ok (.iconst 2, 1) := by decide +kernel
theorem dX1_consider_182 : decode cX1_consider 182 = .ok (.iload_n 3, 1) := by decide +kernel
theorem dX1_consider_183 : decode cX1_consider 183 = .ok (.iload 5, 2) := by decide +kernel
theorem dX1_consider_185 : decode cX1_consider 185 = .ok (.if_icmp .ne 8, 3) := by decide +kernel
theorem dX1_consider_188 : decode cX1_consider 188 = .ok (.bipush (-9), 2) := by decide +kernel
theorem dX1_consider_190 : decode cX1_consider 190 = .ok (.goto 4, 3) := by decide +kernel
theorem dX1_consider_193 : decode cX1_consider 193 = .ok (.iload_n 3, 1) := by decide +kernel
theorem dX1_consider_194 : decode cX1_consider 194 = .ok (.iastore, 1) := by decide +kernel
theorem dX1_consider_195 : decode cX1_consider 195 = .ok (.return_, 1) := by decide +kernel
set_option maxRecDepth 20000 in
theorem ggX1_gain_X4_hasPerson : GoodIn wsX1_gain wsX4_hasPerson := goodIn_r _ [5, 6, 7, 8, 9, 28, 29, 30] (by decide +kernel) (by decide +kernel)
set_option maxRecDepth 20000 in
theorem gX1_gain_X4_hasPerson : GoodIn wsX1_gain (wsV RX1 38 RX4 yX4_hasPerson wsX4_hasPerson) := goodIn_app (goodIn_of _ (by decide +kernel)) ggX1_gain_X4_hasPerson
set_option maxRecDepth 20000 in
theorem ggX1_gain_X4_bringing : GoodIn wsX1_gain wsX4_bringing := goodIn_r _ [13, 14, 15, 16, 17, 18, 19, 20, 21, 22, 23, 24, 25, 26, 27, 28, 29, 30, 31, 32, 33, 34] (by decide +kernel) (by decide +kernel)
set_option maxRecDepth 20000 in
theorem gX1_gain_X4_bringing : GoodIn wsX1_gain (wsV RX1 42 RX4 yX4_bringing wsX4_bringing) := goodIn_app (goodIn_of _ (by decide +kernel)) ggX1_gain_X4_bringing
theorem dX1_gain_0 : decode cX1_gain 0 = .ok (.aload_n 2, 1) := by decide +kernel
theorem dX1_gain_1 : decode cX1_gain 1 = .ok (.iload_n 0, 1) := by decide +kernel
theorem dX1_gain_2 : decode cX1_gain 2 = .ok (.invokevirtual 38, 3) := by decide +kernel
theorem dX1_gain_5 : decode cX1_gain 5 = .ok (.ifCond .eq 12, 3) := by decide +kernel
theorem dX1_gain_8 : decode cX1_gain 8 = .ok (.aload_n 2, 1) := by decide +kernel
theorem dX1_gain_9 : decode cX1_gain 9 = .ok (.iload_n 0, 1) := by decide +kernel
theorem dX1_gain_10 : decode cX1_gain 10 = .ok (.iload_n 1, 1) := by decide +kernel
theorem dX1_gain_11 : decode cX1_gain 11 = .ok (.invokevirtual 42, 3) := by decide +kernel
theorem dX1_gain_14 : decode cX1_gain 14 = .ok (.goto 4, 3) := by decide +kernel
theorem dX1_gain_17 : decode cX1_gain 17 = .ok (.iconst 0, 1) := by decide +kernel
theorem dX1_gain_18 : decode cX1_gain 18 = .ok (.ireturn, 1) := by decide +kernel
theorem dX2_init_0 : decode cX2_init 0 = .ok (.aload_n 0, 1) := by decide +kernel
theorem dX2_init_1 : decode cX2_init 1 = .ok (.invokespecial 3, 3) := by decide +kernel
theorem dX2_init_4 : decode cX2_init 4 = .ok (.aload_n 0, 1) := by decide +kernel
theorem dX2_init_5 : decode cX2_init 5 = .ok (.iconst 0, 1) := by decide +kernel
theorem dX2_init_6 : decode cX2_init 6 = .ok (.putfield 9, 3) := by decide +kernel
theorem dX2_init_9 : decode cX2_init 9 = .ok (.aload_n 0, 1) := by decide +kernel
theorem dX2_init_10 : decode cX2_init 10 = .ok (.iconst 0, 1) := by decide +kernel
theorem dX2_init_11 : decode cX2_init 11 = .ok (.putfield 15, 3) := by decide +kernel
theorem dX2_init_14 : decode cX2_init 14 = .ok (.aload_n 0, 1) := by decide +kernel
theorem dX2_init_15 : decode cX2_init 15 = .ok (.iconst 0, 1) := by decide +kernel
theorem dX2_init_16 : decode cX2_init 16 = .ok (.putfield 18, 3) := by decide +kernel
theorem dX2_init_19 : decode cX2_init 19 = .ok (.aload_n 0, 1) := by decide +kernel
theorem dX2_init_20 : decode cX2_init 20 = .ok (.iconst 0, 1) := by decide +kernel
theorem dX2_init_21 : decode cX2_init 21 = .ok (.putfield 21, 3) := by decide +kernel
theorem dX2_init_24 : decode cX2_init 24 = .ok (.return_, 1) := by decide +kernel
theorem dX2_isKnowing_0 : decode cX2_isKnowing 0 = .ok (.aload_n 0, 1) := by decide +kernel
theorem dX2_isKnowing_1 : decode cX2_isKnowing 1 = .ok (.getfield 18, 3) := by decide +kernel
theorem dX2_isKnowing_4 : decode cX2_isKnowing 4 = .ok (.iload_n 1, 1) := by decide +kernel
theorem dX2_isKnowing_5 : decode cX2_isKnowing 5 = .ok (.ishr, 1) := by decide +kernel
theorem dX2_isKnowing_6 : decode cX2_isKnowing 6 = .ok (.iconst 1, 1) := by decide +kernel
theorem dX2_isKnowing_7 : decode cX2_isKnowing 7 = .ok (.iand, 1) := by decide +kernel
theorem dX2_isKnowing_8 : decode cX2_isKnowing 8 = .ok (.iconst 1, 1) := by decide +kernel
theorem dX2_isKnowing_9 : decode cX2_isKnowing 9 = .ok (.if_icmp .ne 7, 3) := by decide +kernel
theorem dX2_isKnowing_12 : decode cX2_isKnowing 12 = .ok (.iconst 1, 1) := by decide +kernel
theorem dX2_isKnowing_13 : decode cX2_isKnowing 13 = .ok (.goto 4, 3) := by decide +kernel
theorem dX2_isKnowing_16 : decode cX2_isKnowing 16 = .ok (.iconst 0, 1) := by decide +kernel
theorem dX2_isKnowing_17 : decode cX2_isKnowing 17 = .ok (.ireturn, 1) := by decide +kernel
theorem dX2_saying_0 : decode cX2_saying 0 = .ok (.aload_n 0, 1) := by decide +kernel
theorem dX2_saying_1 : decode cX2_saying 1 = .ok (.getfield 9, 3) := by decide +kernel
theorem dX2_saying_4 : decode cX2_saying 4 = .ok (.iconst 1, 1) := by decide +kernel
theorem dX2_saying_5 : decode cX2_saying 5 = .ok (.if_icmp .ne 10, 3) := by decide +kernel
theorem dX2_saying_8 : decode cX2_saying 8 = .ok (.aload_n 0, 1) := by decide +kernel
theorem dX2_saying_9 : decode cX2_saying 9 = .ok (.getfield 21, 3) := by decide +kernel
theorem dX2_saying_12 : decode cX2_saying 12 = .ok (.iconst 1, 1) := by decide +kernel
theorem dX2_saying_13 : decode cX2_saying 13 = .ok (.iadd, 1) := by decide +kernel
theorem dX2_saying_14 : decode cX2_saying 14 = .ok (.ireturn, 1) := by decide +kernel
theorem dX2_saying_15 : decode cX2_saying 15 = .ok (.aload_n 0, 1) := by decide +kernel
theorem dX2_saying_16 : decode cX2_saying 16 = .ok (.getfield 9, 3) := by decide +kernel
theorem dX2_saying_19 : decode cX2_saying 19 = .ok (.iconst 2, 1) := by decide +kernel
theorem dX2_saying_20 : decode cX2_saying 20 = .ok (.if_icmp .ne 12, 3) := by decide +kernel
theorem dX2_saying_23 : decode cX2_saying 23 = .ok (.iconst 2, 1) := by decide +kernel
theorem dX2_saying_24 : decode cX2_saying 24 = .ok (.aload_n 0, 1) := by decide +kernel
theorem dX2_saying_25 : decode cX2_saying 25 = .ok (.getfield 21, 3) := by decide +kernel
theorem dX2_saying_28 : decode cX2_saying 28 = .ok (.imul, 1) := by decide +kernel
theorem dX2_saying_29 : decode cX2_saying 29 = .ok (.goto 7, 3) := by decide +kernel
theorem dX2_saying_32 : decode cX2_saying 32 = .ok (.aload_n 0, 1) := by decide +kernel
theorem dX2_saying_33 : decode cX2_saying 33 = .ok (.getfield 21, 3) := by decide +kernel
theorem dX2_saying_36 : decode cX2_saying 36 = .ok (.ireturn, 1) := by decide +kernel
theorem dX2_becomeLike_0 : decode cX2_becomeLike 0 = .ok (.aload_n 0, 1) := by decide +kernel
theorem dX2_becomeLike_1 : decode cX2_becomeLike 1 = .ok (.aload_n 1, 1) := by decide +kernel
theorem dX2_becomeLike_2 : decode cX2_becomeLike 2 = .ok (.getfield 9, 3) := by decide +kernel
theorem dX2_becomeLike_5 : decode cX2_becomeLike 5 = .ok (.putfield 9, 3) := by decide +kernel
theorem dX2_becomeLike_8 : decode cX2_becomeLike 8 = .ok (.aload_n 0, 1) := by decide +kernel
theorem dX2_becomeLike_9 : decode cX2_becomeLike 9 = .ok (.aload_n 1, 1) := by decide +kernel
theorem dX2_becomeLike_10 : decode cX2_becomeLike 10 = .ok (.getfield 15, 3) := by decide +kernel
theorem dX2_becomeLike_13 : decode cX2_becomeLike 13 = .ok (.putfield 15, 3) := by decide +kernel
theorem dX2_becomeLike_16 : decode cX2_becomeLike 16 = .ok (.aload_n 0, 1) := by decide +kernel
theorem dX2_becomeLike_17 : decode cX2_becomeLike 17 = .ok (.aload_n 1, 1) := by decide +kernel
theorem dX2_becomeLike_18 : decode cX2_becomeLike 18 = .ok (.getfield 18, 3) := by decide +kernel
theorem dX2_becomeLike_21 : decode cX2_becomeLike 21 = .ok (.putfield 18, 3) := by decide +kernel
theorem dX2_becomeLike_24 : decode cX2_becomeLike 24 = .ok (.aload_n 0, 1) := by decide +kernel
theorem dX2_becomeLike_25 : decode cX2_becomeLike 25 = .ok (.aload_n 1, 1) := by decide +kernel
theorem dX2_becomeLike_26 : decode cX2_becomeLike 26 = .ok (.getfield 21, 3) := by decide +kernel
theorem dX2_becomeLike_29 : decode cX2_becomeLike 29 = .ok (.putfield 21, 3) := by decide +kernel
theorem dX2_becomeLike_32 : decode cX2_becomeLike 32 = .ok (.return_, 1) := by decide +kernel
theorem dX3_init_0 : decode cX3_init 0 = .ok (.aload_n 0, 1) := by decide +kernel
theorem dX3_init_1 : decode cX3_init 1 = .ok (.invokespecial 3, 3) := by decide +kernel
theorem dX3_init_4 : decode cX3_init 4 = .ok (.aload_n 0, 1) := by decide +kernel
theorem dX3_init_5 : decode cX3_init 5 = .ok (.bipush 7, 2) := by decide +kernel
theorem dX3_init_7 : decode cX3_init 7 = .ok (.newarray .int, 2) := by decide +kernel
theorem dX3_init_9 : decode cX3_init 9 = .ok (.putfield 9, 3) := by decide +kernel
theorem dX3_init_12 : decode cX3_init 12 = .ok (.aload_n 0, 1) := by decide +kernel
theorem dX3_init_13 : decode cX3_init 13 = .ok (.bipush 7, 2) := by decide +kernel
theorem dX3_init_15 : decode cX3_init 15 = .ok (.newarray .int, 2) := by decide +kernel
theorem dX3_init_17 : decode cX3_init 17 = .ok (.putfield 15, 3) := by decide +kernel
theorem dX3_init_20 : decode cX3_init 20 = .ok (.aload_n 0, 1) := by decide +kernel
theorem dX3_init_21 : decode cX3_init 21 = .ok (.bipush 7, 2) := by decide +kernel
theorem dX3_init_23 : decode cX3_init 23 = .ok (.newarray .int, 2) := by decide +kernel
theorem dX3_init_25 : decode cX3_init 25 = .ok (.putfield 18, 3) := by decide +kernel
theorem dX3_init_28 : decode cX3_init 28 = .ok (.aload_n 0, 1) := by decide +kernel
theorem dX3_init_29 : decode cX3_init 29 = .ok (.sipush 128, 3) := by decide +kernel
theorem dX3_init_32 : decode cX3_init 32 = .ok (.newarray .int, 2) := by decide +kernel
theorem dX3_init_34 : decode cX3_init 34 = .ok (.putfield 21, 3) := by decide +kernel
theorem dX3_init_37 : decode cX3_init 37 = .ok (.aload_n 0, 1) := by decide +kernel
theorem dX3_init_38 : decode cX3_init 38 = .ok (.iconst 0, 1) := by decide +kernel
theorem dX3_init_39 : decode cX3_init 39 = .ok (.putfield 24, 3) := by decide +kernel
theorem dX3_init_42 : decode cX3_init 42 = .ok (.return_, 1) := by decide +kernel
set_option maxRecDepth 20000 in
theorem ggX3_make_X4_first : GoodIn wsX3_make wsX4_first := goodIn_r _ [13, 14, 15, 16, 59, 60, 61, 62, 63, 64, 65] (by decide +kernel) (by decide +kernel)
set_option maxRecDepth 20000 in
theorem gX3_make_X4_first : GoodIn wsX3_make (wsV RX3 33 RX4 yX4_first wsX4_first) := goodIn_app (goodIn_of _ (by decide +kernel)) ggX3_make_X4_first
set_option maxRecDepth 20000 in
theorem ggX3_make_X3_nextPlace : GoodIn wsX3_make wsX3_nextPlace := goodIn_r _ [21, 1, 22, 23, 24, 20, 25, 4, 2, 7, 26, 27, 28, 29, 30, 31, 32, 33, 34, 35, 12, 36, 15, 37, 38, 39, 40, 41, 42, 43, 44, 45, 46, 47, 48, 49, 50, 51, 52, 53, 54, 59, 60, 61, 62, 63, 64, 65] (by decide +kernel) (by decide +kernel)
set_option maxRecDepth 20000 in
theorem gX3_make_X3_nextPlace : GoodIn wsX3_make (wsV RX3 48 RX3 yX3_nextPlace wsX3_nextPlace) := goodIn_app (goodIn_of _ (by decide +kernel)) ggX3_make_X3_nextPlace
set_option maxRecDepth 20000 in
theorem ggX3_make_X3_mostWith : GoodIn wsX3_make wsX3_mostWith := goodIn_r _ [25, 4, 2, 7, 26, 27, 28, 29, 30, 31, 32, 33, 34, 35, 12, 36, 15, 37, 38, 39, 40, 41, 42, 43, 44, 45, 46, 47, 48, 49, 50, 51, 52, 53, 54, 59, 60, 61, 62, 63, 64, 65] (by decide +kernel) (by decide +kernel)
set_option maxRecDepth 20000 in
theorem gX3_make_X3_mostWith : GoodIn wsX3_make (wsV RX3 52 RX3 yX3_mostWith wsX3_mostWith) := goodIn_app (goodIn_of _ (by decide +kernel)) ggX3_make_X3_mostWith
theorem dX3_make_0 : decode cX3_make 0 = .ok (.aload_n 0, 1) := by decide +kernel
theorem dX3_make_1 : decode cX3_make 1 = .ok (.iload_n 3, 1) := by decide +kernel
theorem dX3_make_2 : decode cX3_make 2 = .ok (.putfield 24, 3) := by decide +kernel
theorem dX3_make_5 : decode cX3_make 5 = .ok (.iconst 0, 1) := by decide +kernel
theorem dX3_make_6 : decode cX3_make 6 = .ok (.istore 5, 2) := by decide +kernel
theorem dX3_make_8 : decode cX3_make 8 = .ok (.iload 5, 2) := by decide +kernel
theorem dX3_make_10 : decode cX3_make 10 = .ok (.iload_n 3, 1) := by decide +kernel
theorem dX3_make_11 : decode cX3_make 11 = .ok (.if_icmp .ge 59, 3) := by decide +kernel
theorem dX3_make_14 : decode cX3_make 14 = .ok (.aload_n 0, 1) := by decide +kernel
theorem dX3_make_15 : decode cX3_make 15 = .ok (.getfield 9, 3) := by decide +kernel
theorem dX3_make_18 : decode cX3_make 18 = .ok (.iload 5, 2) := by decide +kernel
theorem dX3_make_20 : decode cX3_make 20 = .ok (.aload_n 1, 1) := by decide +kernel
theorem dX3_make_21 : decode cX3_make 21 = .ok (.getfield 28, 3) := by decide +kernel
theorem dX3_make_24 : decode cX3_make 24 = .ok (.iload_n 2, 1) := by decide +kernel
theorem dX3_make_25 : decode cX3_make 25 = .ok (.iload 5, 2) := by decide +kernel
theorem dX3_make_27 : decode cX3_make 27 = .ok (.iadd, 1) := by decide +kernel
theorem dX3_make_28 : decode cX3_make 28 = .ok (.iaload, 1) := by decide +kernel
theorem dX3_make_29 : decode cX3_make 29 = .ok (.iastore, 1) := by decide +kernel
theorem dX3_make_30 : decode cX3_make 30 = .ok (.aload_n 0, 1) := by decide +kernel
theorem dX3_make_31 : decode cX3_make 31 = .ok (.getfield 15, 3) := by decide +kernel
theorem dX3_make_34 : decode cX3_make 34 = .ok (.iload 5, 2) := by decide +kernel
theorem dX3_make_36 : decode cX3_make 36 = .ok (.aload 4, 2) := by decide +kernel
theorem dX3_make_38 : decode cX3_make 38 = .ok (.invokevirtual 33, 3) := by decide +kernel
theorem dX3_make_41 : decode cX3_make 41 = .ok (.iastore, 1) := by decide +kernel
theorem dX3_make_42 : decode cX3_make 42 = .ok (.aload 4, 2) := by decide +kernel
theorem dX3_make_44 : decode cX3_make 44 = .ok (.getfield 39, 3) := by decide +kernel
theorem dX3_make_47 : decode cX3_make 47 = .ok (.aload_n 0, 1) := by decide +kernel
theorem dX3_make_48 : decode cX3_make 48 = .ok (.getfield 15, 3) := by decide +kernel
theorem dX3_make_51 : decode cX3_make 51 = .ok (.iload 5, 2) := by decide +kernel
theorem dX3_make_53 : decode cX3_make 53 = .ok (.iaload, 1) := by decide +kernel
theorem dX3_make_54 : decode cX3_make 54 = .ok (.aaload, 1) := by decide +kernel
theorem dX3_make_55 : decode cX3_make 55 = .ok (.dup, 1) := by decide +kernel
theorem dX3_make_56 : decode cX3_make 56 = .ok (.getfield 43, 3) := by decide +kernel
theorem dX3_make_59 : decode cX3_make 59 = .ok (.iconst 1, 1) := by decide +kernel
theorem dX3_make_60 : decode cX3_make 60 = .ok (.iadd, 1) := by decide +kernel
theorem dX3_make_61 : decode cX3_make 61 = .ok (.putfield 43, 3) := by decide +kernel
theorem dX3_make_64 : decode cX3_make 64 = .ok (.iinc 5 1, 3) := by decide +kernel
theorem dX3_make_67 : decode cX3_make 67 = .ok (.goto (-59), 3) := by decide +kernel
theorem dX3_make_70 : decode cX3_make 70 = .ok (.iconst 1, 1) := by decide +kernel
theorem dX3_make_71 : decode cX3_make 71 = .ok (.iload_n 3, 1) := by decide +kernel
theorem dX3_make_72 : decode cX3_make 72 = .ok (.ishl, 1) := by decide +kernel
theorem dX3_make_73 : decode cX3_make 73 = .ok (.iconst 1, 1) := by decide +kernel
theorem dX3_make_74 : decode cX3_make 74 = .ok (.isub, 1) := by decide +kernel
theorem dX3_make_75 : decode cX3_make 75 = .ok (.istore 5, 2) := by decide +kernel
theorem dX3_make_77 : decode cX3_make 77 = .ok (.aload_n 0, 1) := by decide +kernel
theorem dX3_make_78 : decode cX3_make 78 = .ok (.getfield 21, 3) := by decide +kernel
theorem dX3_make_81 : decode cX3_make 81 = .ok (.iload 5, 2) := by decide +kernel
theorem dX3_make_83 : decode cX3_make 83 = .ok (.iconst 0, 1) := by decide +kernel
theorem dX3_make_84 : decode cX3_make 84 = .ok (.iastore, 1) := by decide +kernel
theorem dX3_make_85 : decode cX3_make 85 = .ok (.iload 5, 2) := by decide +kernel
theorem dX3_make_87 : decode cX3_make 87 = .ok (.iconst 1, 1) := by decide +kernel
theorem dX3_make_88 : decode cX3_make 88 = .ok (.isub, 1) := by decide +kernel
theorem dX3_make_89 : decode cX3_make 89 = .ok (.istore 6, 2) := by decide +kernel
theorem dX3_make_91 : decode cX3_make 91 = .ok (.iload 6, 2) := by decide +kernel
theorem dX3_make_93 : decode cX3_make 93 = .ok (.ifCond .lt 32, 3) := by decide +kernel
theorem dX3_make_96 : decode cX3_make 96 = .ok (.aload_n 0, 1) := by decide +kernel
theorem dX3_make_97 : decode cX3_make 97 = .ok (.getfield 21, 3) := by decide +kernel
theorem dX3_make_100 : decode cX3_make 100 = .ok (.iload 6, 2) := by decide +kernel
theorem dX3_make_102 : decode cX3_make 102 = .ok (.aload_n 0, 1) := by decide +kernel
theorem dX3_make_103 : decode cX3_make 103 = .ok (.iload 6, 2) := by decide +kernel
theorem dX3_make_105 : decode cX3_make 105 = .ok (.aload_n 0, 1) := by decide +kernel
theorem dX3_make_106 : decode cX3_make 106 = .ok (.iload 6, 2) := by decide +kernel
theorem dX3_make_108 : decode cX3_make 108 = .ok (.aload 4, 2) := by decide +kernel
theorem dX3_make_110 : decode cX3_make 110 = .ok (.invokevirtual 48, 3) := by decide +kernel
theorem dX3_make_113 : decode cX3_make 113 = .ok (.aload 4, 2) := by decide +kernel
theorem dX3_make_115 : decode cX3_make 115 = .ok (.invokevirtual 52, 3) := by decide +kernel
theorem dX3_make_118 : decode cX3_make 118 = .ok (.iastore, 1) := by decide +kernel
theorem dX3_make_119 : decode cX3_make 119 = .ok (.iinc 6 (-1), 3) := by decide +kernel
theorem dX3_make_122 : decode cX3_make 122 = .ok (.goto (-31), 3) := by decide +kernel
theorem dX3_make_125 : decode cX3_make 125 = .ok (.iconst 0, 1) := by decide +kernel
theorem dX3_make_126 : decode cX3_make 126 = .ok (.istore 6, 2) := by decide +kernel
theorem dX3_make_128 : decode cX3_make 128 = .ok (.iconst 0, 1) := by decide +kernel
theorem dX3_make_129 : decode cX3_make 129 = .ok (.istore 7, 2) := by decide +kernel
theorem dX3_make_131 : decode cX3_make 131 = .ok (.iload 7, 2) := by decide +kernel
theorem dX3_make_133 : decode cX3_make 133 = .ok (.iload_n 3, 1) := by decide +kernel
theorem dX3_make_134 : decode cX3_make 134 = .ok (.if_icmp .ge 38, 3) := by decide +kernel
theorem dX3_make_137 : decode cX3_make 137 = .ok (.aload_n 0, 1) := by decide +kernel
theorem dX3_make_138 : decode cX3_make 138 = .ok (.getfield 18, 3) := by decide +kernel
theorem dX3_make_141 : decode cX3_make 141 = .ok (.iload 7, 2) := by decide +kernel
theorem dX3_make_143 : decode cX3_make 143 = .ok (.aload_n 0, 1) := by decide +kernel
theorem dX3_make_144 : decode cX3_make 144 = .ok (.iload 6, 2) := by decide +kernel
theorem dX3_make_146 : decode cX3_make 146 = .ok (.aload 4, 2) := by decide +kernel
theorem dX3_make_148 : decode cX3_make 148 = .ok (.invokevirtual 48, 3) := by decide +kernel
theorem dX3_make_151 : decode cX3_make 151 = .ok (.iastore, 1) := by decide +kernel
theorem dX3_make_152 : decode cX3_make 152 = .ok (.iload 6, 2) := by decide +kernel
theorem dX3_make_154 : decode cX3_make 154 = .ok (.iconst 1, 1) := by decide +kernel
theorem dX3_make_155 : decode cX3_make 155 = .ok (.aload_n 0, 1) := by decide +kernel
theorem dX3_make_156 : decode cX3_make 156 = .ok (.getfield 18, 3) := by decide +kernel
theorem dX3_make_159 : decode cX3_make 159 = .ok (.iload 7, 2) := by decide +kernel
theorem dX3_make_161 : decode cX3_make 161 = .ok (.iaload, 1) := by decide +kernel
theorem dX3_make_162 : decode cX3_make 162 = .ok (.ishl, 1) := by decide +kernel
theorem dX3_make_163 : decode cX3_make 163 = .ok (.ior, 1) := by decide +kernel
theorem dX3_make_164 : decode cX3_make 164 = .ok (.istore 6, 2) := by decide +kernel
theorem dX3_make_166 : decode cX3_make 166 = .ok (.iinc 7 1, 3) := by decide +kernel
theorem dX3_make_169 : decode cX3_make 169 = .ok (.goto (-38), 3) := by decide +kernel
theorem dX3_make_172 : decode cX3_make 172 = .ok (.return_, 1) := by decide +kernel
set_option maxRecDepth 20000 in
theorem ggX3_mostWith_J6_bitCount_0f7a4 : GoodIn wsX3_mostWith wsJ6_bitCount_0f7a4 := goodIn_r _ [7, 8, 9, 10] (by decide +kernel) (by decide +kernel)
set_option maxRecDepth 20000 in
theorem gX3_mostWith_J6_bitCount_0f7a4 : GoodIn wsX3_mostWith (va_wsS RX3 56 yJ6_bitCount_0f7a4 wsJ6_bitCount_0f7a4) := goodIn_app (goodIn_of _ (by decide +kernel)) ggX3_mostWith_J6_bitCount_0f7a4
set_option maxRecDepth 20000 in
theorem ggX3_mostWith_X4_bringing : GoodIn wsX3_mostWith wsX4_bringing := goodIn_r _ [15, 16, 17, 18, 19, 20, 21, 22, 23, 24, 25, 26, 27, 28, 29, 35, 36, 37, 38, 39, 40, 41] (by decide +kernel) (by decide +kernel)
set_option maxRecDepth 20000 in
theorem gX3_mostWith_X4_bringing : GoodIn wsX3_mostWith (wsV RX3 62 RX4 yX4_bringing wsX4_bringing) := goodIn_app (goodIn_of _ (by decide +kernel)) ggX3_mostWith_X4_bringing
theorem dX3_mostWith_0 : decode cX3_mostWith 0 = .ok (.iload_n 1, 1) := by decide +kernel
theorem dX3_mostWith_1 : decode cX3_mostWith 1 = .ok (.invokestatic 56, 3) := by decide +kernel
theorem dX3_mostWith_4 : decode cX3_mostWith 4 = .ok (.istore 4, 2) := by decide +kernel
theorem dX3_mostWith_6 : decode cX3_mostWith 6 = .ok (.aload_n 3, 1) := by decide +kernel
theorem dX3_mostWith_7 : decode cX3_mostWith 7 = .ok (.aload_n 0, 1) := by decide +kernel
theorem dX3_mostWith_8 : decode cX3_mostWith 8 = .ok (.getfield 15, 3) := by decide +kernel
theorem dX3_mostWith_11 : decode cX3_mostWith 11 = .ok (.iload 4, 2) := by decide +kernel
theorem dX3_mostWith_13 : decode cX3_mostWith 13 = .ok (.iaload, 1) := by decide +kernel
theorem dX3_mostWith_14 : decode cX3_mostWith 14 = .ok (.aload_n 0, 1) := by decide +kernel
theorem dX3_mostWith_15 : decode cX3_mostWith 15 = .ok (.getfield 9, 3) := by decide +kernel
theorem dX3_mostWith_18 : decode cX3_mostWith 18 = .ok (.iload_n 2, 1) := by decide +kernel
theorem dX3_mostWith_19 : decode cX3_mostWith 19 = .ok (.iaload, 1) := by decide +kernel
theorem dX3_mostWith_20 : decode cX3_mostWith 20 = .ok (.invokevirtual 62, 3) := by decide +kernel
theorem dX3_mostWith_23 : decode cX3_mostWith 23 = .ok (.aload_n 0, 1) := by decide +kernel
theorem dX3_mostWith_24 : decode cX3_mostWith 24 = .ok (.getfield 21, 3) := by decide +kernel
theorem dX3_mostWith_27 : decode cX3_mostWith 27 = .ok (.iload_n 1, 1) := by decide +kernel
theorem dX3_mostWith_28 : decode cX3_mostWith 28 = .ok (.iconst 1, 1) := by decide +kernel
theorem dX3_mostWith_29 : decode cX3_mostWith 29 = .ok (.iload_n 2, 1) := by decide +kernel
theorem dX3_mostWith_30 : decode cX3_mostWith 30 = .ok (.ishl, 1) := by decide +kernel
theorem dX3_mostWith_31 : decode cX3_mostWith 31 = .ok (.ior, 1) := by decide +kernel
theorem dX3_mostWith_32 : decode cX3_mostWith 32 = .ok (.iaload, 1) := by decide +kernel
theorem dX3_mostWith_33 : decode cX3_mostWith 33 = .ok (.iadd, 1) := by decide +kernel
theorem dX3_mostWith_34 : decode cX3_mostWith 34 = .ok (.ireturn, 1) := by decide +kernel
set_option maxRecDepth 20000 in
theorem ggX3_nextPlace_X3_mostWith : GoodIn wsX3_nextPlace wsX3_mostWith := goodIn_r _ [6, 7, 8, 9, 10, 11, 12, 13, 14, 15, 16, 17, 18, 19, 20, 21, 22, 23, 24, 25, 26, 27, 28, 29, 30, 31, 32, 33, 34, 35, 36, 37, 38, 39, 40, 41, 42, 43, 44, 45, 46, 47] (by decide +kernel) (by decide +kernel)
set_option maxRecDepth 20000 in
theorem gX3_nextPlace_X3_mostWith : GoodIn wsX3_nextPlace (wsV RX3 52 RX3 yX3_mostWith wsX3_mostWith) := goodIn_app (goodIn_of _ (by decide +kernel)) ggX3_nextPlace_X3_mostWith
theorem dX3_nextPlace_0 : decode cX3_nextPlace 0 = .ok (.iconst 0, 1) := by decide +kernel
theorem dX3_nextPlace_1 : decode cX3_nextPlace 1 = .ok (.istore_n 3, 1) := by decide +kernel
theorem dX3_nextPlace_2 : decode cX3_nextPlace 2 = .ok (.iconst (-1), 1) := by decide +kernel
theorem dX3_nextPlace_3 : decode cX3_nextPlace 3 = .ok (.istore 4, 2) := by decide +kernel
theorem dX3_nextPlace_5 : decode cX3_nextPlace 5 = .ok (.iconst 0, 1) := by decide +kernel
theorem dX3_nextPlace_6 : decode cX3_nextPlace 6 = .ok (.istore 5, 2) := by decide +kernel
theorem dX3_nextPlace_8 : decode cX3_nextPlace 8 = .ok (.iload 5, 2) := by decide +kernel
theorem dX3_nextPlace_10 : decode cX3_nextPlace 10 = .ok (.aload_n 0, 1) := by decide +kernel
theorem dX3_nextPlace_11 : decode cX3_nextPlace 11 = .ok (.getfield 24, 3) := by decide +kernel
theorem dX3_nextPlace_14 : decode cX3_nextPlace 14 = .ok (.if_icmp .ge 56, 3) := by decide +kernel
theorem dX3_nextPlace_17 : decode cX3_nextPlace 17 = .ok (.iload_n 1, 1) := by decide +kernel
theorem dX3_nextPlace_18 : decode cX3_nextPlace 18 = .ok (.iload 5, 2) := by decide +kernel
theorem dX3_nextPlace_20 : decode cX3_nextPlace 20 = .ok (.ishr, 1) := by decide +kernel
theorem dX3_nextPlace_21 : decode cX3_nextPlace 21 = .ok (.iconst 1, 1) := by decide +kernel
theorem dX3_nextPlace_22 : decode cX3_nextPlace 22 = .ok (.iand, 1) := by decide +kernel
theorem dX3_nextPlace_23 : decode cX3_nextPlace 23 = .ok (.ifCond .ne 7, 3) := by decide +kernel
theorem dX3_nextPlace_26 : decode cX3_nextPlace 26 = .ok (.iconst 1, 1) := by decide +kernel
theorem dX3_nextPlace_27 : decode cX3_nextPlace 27 = .ok (.goto 4, 3) := by decide +kernel
theorem dX3_nextPlace_30 : decode cX3_nextPlace 30 = .ok (.iconst 0, 1) := by decide +kernel
theorem dX3_nextPlace_31 : decode cX3_nextPlace 31 = .ok (.istore 6, 2) := by decide +kernel
theorem dX3_nextPlace_33 : decode cX3_nextPlace 33 = .ok (.iload 6, 2) := by decide +kernel
theorem dX3_nextPlace_35 : decode cX3_nextPlace 35 = .ok (.ifCond .eq 29, 3) := by decide +kernel
theorem dX3_nextPlace_38 : decode cX3_nextPlace 38 = .ok (.aload_n 0, 1) := by decide +kernel
theorem dX3_nextPlace_39 : decode cX3_nextPlace 39 = .ok (.iload_n 1, 1) := by decide +kernel
theorem dX3_nextPlace_40 : decode cX3_nextPlace 40 = .ok (.iload 5, 2) := by decide +kernel
theorem dX3_nextPlace_42 : decode cX3_nextPlace 42 = .ok (.aload_n 2, 1) := by decide +kernel
theorem dX3_nextPlace_43 : decode cX3_nextPlace 43 = .ok (.invokevirtual 52, 3) := by decide +kernel
theorem dX3_nextPlace_46 : decode cX3_nextPlace 46 = .ok (.iload 4, 2) := by decide +kernel
theorem dX3_nextPlace_48 : decode cX3_nextPlace 48 = .ok (.if_icmp .le 16, 3) := by decide +kernel
theorem dX3_nextPlace_51 : decode cX3_nextPlace 51 = .ok (.aload_n 0, 1) := by decide +kernel
theorem dX3_nextPlace_52 : decode cX3_nextPlace 52 = .ok (.iload_n 1, 1) := by decide +kernel
theorem dX3_nextPlace_53 : decode cX3_nextPlace 53 = .ok (.iload 5, 2) := by decide +kernel
theorem dX3_nextPlace_55 : decode cX3_nextPlace 55 = .ok (.aload_n 2, 1) := by decide +kernel
theorem dX3_nextPlace_56 : decode cX3_nextPlace 56 = .ok (.invokevirtual 52, 3) := by decide +kernel
theorem dX3_nextPlace_59 : decode cX3_nextPlace 59 = .ok (.istore 4, 2) := by decide +kernel
theorem dX3_nextPlace_61 : decode cX3_nextPlace 61 = .ok (.iload 5, 2) := by decide +kernel
theorem dX3_nextPlace_63 : decode cX3_nextPlace 63 = .ok (.istore_n 3, 1) := by decide +kernel
theorem dX3_nextPlace_64 : decode cX3_nextPlace 64 = .ok (.iinc 5 1, 3) := by decide +kernel
theorem dX3_nextPlace_67 : decode cX3_nextPlace 67 = .ok (.goto (-59), 3) := by decide +kernel
theorem dX3_nextPlace_70 : decode cX3_nextPlace 70 = .ok (.iload_n 3, 1) := by decide +kernel
theorem dX3_nextPlace_71 : decode cX3_nextPlace 71 = .ok (.ireturn, 1) := by decide +kernel
theorem dX3_answer_0 : decode cX3_answer 0 = .ok (.iload_n 1, 1) := by decide +kernel
theorem dX3_answer_1 : decode cX3_answer 1 = .ok (.iconst (-1), 1) := by decide +kernel
theorem dX3_answer_2 : decode cX3_answer 2 = .ok (.if_icmp .ne 10, 3) := by decide +kernel
theorem dX3_answer_5 : decode cX3_answer 5 = .ok (.aload_n 0, 1) := by decide +kernel
theorem dX3_answer_6 : decode cX3_answer 6 = .ok (.getfield 21, 3) := by decide +kernel
theorem dX3_answer_9 : decode cX3_answer 9 = .ok (.iconst 0, 1) := by decide +kernel
theorem dX3_answer_10 : decode cX3_answer 10 = .ok (.iaload, 1) := by decide +kernel
theorem dX3_answer_11 : decode cX3_answer 11 = .ok (.ireturn, 1) := by decide +kernel
theorem dX3_answer_12 : decode cX3_answer 12 = .ok (.iload_n 1, 1) := by decide +kernel
theorem dX3_answer_13 : decode cX3_answer 13 = .ok (.aload_n 0, 1) := by decide +kernel
theorem dX3_answer_14 : decode cX3_answer 14 = .ok (.getfield 24, 3) := by decide +kernel
theorem dX3_answer_17 : decode cX3_answer 17 = .ok (.if_icmp .ge 12, 3) := by decide +kernel
theorem dX3_answer_20 : decode cX3_answer 20 = .ok (.aload_n 0, 1) := by decide +kernel
theorem dX3_answer_21 : decode cX3_answer 21 = .ok (.getfield 18, 3) := by decide +kernel
theorem dX3_answer_24 : decode cX3_answer 24 = .ok (.iload_n 1, 1) := by decide +kernel
theorem dX3_answer_25 : decode cX3_answer 25 = .ok (.iaload, 1) := by decide +kernel
theorem dX3_answer_26 : decode cX3_answer 26 = .ok (.goto 5, 3) := by decide +kernel
theorem dX3_answer_29 : decode cX3_answer 29 = .ok (.bipush (-9), 2) := by decide +kernel
theorem dX3_answer_31 : decode cX3_answer 31 = .ok (.ireturn, 1) := by decide +kernel
set_option maxRecDepth 20000 in
theorem ggX4_init_X2_init : GoodIn wsX4_init wsX2_init := goodIn_r _ [12, 13, 2, 3, 14, 15, 16, 17, 21, 22, 23, 24] (by decide +kernel) (by decide +kernel)
set_option maxRecDepth 20000 in
theorem gX4_init_X2_init_n25 : GoodIn wsX4_init (wsX2_init) := ggX4_init_X2_init
theorem dX4_init_0 : decode cX4_init 0 = .ok (.aload_n 0, 1) := by decide +kernel
theorem dX4_init_1 : decode cX4_init 1 = .ok (.invokespecial 3, 3) := by decide +kernel
theorem dX4_init_4 : decode cX4_init 4 = .ok (.aload_n 0, 1) := by decide +kernel
theorem dX4_init_5 : decode cX4_init 5 = .ok (.iconst 3, 1) := by decide +kernel
theorem dX4_init_6 : decode cX4_init 6 = .ok (.newarray .int, 2) := by decide +kernel
theorem dX4_init_8 : decode cX4_init 8 = .ok (.putfield 9, 3) := by decide +kernel
theorem dX4_init_11 : decode cX4_init 11 = .ok (.aload_n 0, 1) := by decide +kernel
theorem dX4_init_12 : decode cX4_init 12 = .ok (.bipush 6, 2) := by decide +kernel
theorem dX4_init_14 : decode cX4_init 14 = .ok (.anewarray 15, 3) := by decide +kernel
theorem dX4_init_17 : decode cX4_init 17 = .ok (.putfield 17, 3) := by decide +kernel
theorem dX4_init_20 : decode cX4_init 20 = .ok (.aload_n 0, 1) := by decide +kernel
theorem dX4_init_21 : decode cX4_init 21 = .ok (.iconst 0, 1) := by decide +kernel
theorem dX4_init_22 : decode cX4_init 22 = .ok (.putfield 21, 3) := by decide +kernel
theorem dX4_init_25 : decode cX4_init 25 = .ok (.iconst 0, 1) := by decide +kernel
theorem dX4_init_26 : decode cX4_init 26 = .ok (.istore_n 1, 1) := by decide +kernel
theorem dX4_init_27 : decode cX4_init 27 = .ok (.iload_n 1, 1) := by decide +kernel
theorem dX4_init_28 : decode cX4_init 28 = .ok (.bipush 6, 2) := by decide +kernel
theorem dX4_init_30 : decode cX4_init 30 = .ok (.if_icmp .ge 22, 3) := by decide +kernel
theorem dX4_init_33 : decode cX4_init 33 = .ok (.aload_n 0, 1) := by decide +kernel
theorem dX4_init_34 : decode cX4_init 34 = .ok (.getfield 17, 3) := by decide +kernel
theorem dX4_init_37 : decode cX4_init 37 = .ok (.iload_n 1, 1) := by decide +kernel
theorem dX4_init_38 : decode cX4_init 38 = .ok (.new 15, 3) := by decide +kernel
theorem dX4_init_41 : decode cX4_init 41 = .ok (.dup, 1) := by decide +kernel
theorem dX4_init_42 : decode cX4_init 42 = .ok (.invokespecial 25, 3) := by decide +kernel
theorem dX4_init_45 : decode cX4_init 45 = .ok (.aastore, 1) := by decide +kernel
theorem dX4_init_46 : decode cX4_init 46 = .ok (.iinc 1 1, 3) := by decide +kernel
theorem dX4_init_49 : decode cX4_init 49 = .ok (.goto (-22), 3) := by decide +kernel
theorem dX4_init_52 : decode cX4_init 52 = .ok (.return_, 1) := by decide +kernel
set_option maxRecDepth 20000 in
theorem ggX4_becomeLike_X2_becomeLike : GoodIn wsX4_becomeLike wsX2_becomeLike := goodIn_r _ [12, 13, 14, 15, 16, 20, 21, 22, 23] (by decide +kernel) (by decide +kernel)
set_option maxRecDepth 20000 in
theorem gX4_becomeLike_X2_becomeLike : GoodIn wsX4_becomeLike (wsV RX4 32 RX2 yX2_becomeLike wsX2_becomeLike) := goodIn_app (goodIn_of _ (by decide +kernel)) ggX4_becomeLike_X2_becomeLike
theorem dX4_becomeLike_0 : decode cX4_becomeLike 0 = .ok (.aload_n 0, 1) := by decide +kernel
theorem dX4_becomeLike_1 : decode cX4_becomeLike 1 = .ok (.aload_n 1, 1) := by decide +kernel
theorem dX4_becomeLike_2 : decode cX4_becomeLike 2 = .ok (.getfield 21, 3) := by decide +kernel
theorem dX4_becomeLike_5 : decode cX4_becomeLike 5 = .ok (.putfield 21, 3) := by decide +kernel
theorem dX4_becomeLike_8 : decode cX4_becomeLike 8 = .ok (.aload_n 1, 1) := by decide +kernel
theorem dX4_becomeLike_9 : decode cX4_becomeLike 9 = .ok (.getfield 9, 3) := by decide +kernel
theorem dX4_becomeLike_12 : decode cX4_becomeLike 12 = .ok (.iconst 0, 1) := by decide +kernel
theorem dX4_becomeLike_13 : decode cX4_becomeLike 13 = .ok (.aload_n 0, 1) := by decide +kernel
theorem dX4_becomeLike_14 : decode cX4_becomeLike 14 = .ok (.getfield 9, 3) := by decide +kernel
theorem dX4_becomeLike_17 : decode cX4_becomeLike 17 = .ok (.iconst 0, 1) := by decide +kernel
theorem dX4_becomeLike_18 : decode cX4_becomeLike 18 = .ok (.iconst 3, 1) := by decide +kernel
theorem dX4_becomeLike_19 : decode cX4_becomeLike 19 = .ok (.invokestatic 26, 3) := by decide +kernel
theorem dX4_becomeLike_22 : decode cX4_becomeLike 22 = .ok (.iconst 0, 1) := by decide +kernel
theorem dX4_becomeLike_23 : decode cX4_becomeLike 23 = .ok (.istore_n 2, 1) := by decide +kernel
theorem dX4_becomeLike_24 : decode cX4_becomeLike 24 = .ok (.iload_n 2, 1) := by decide +kernel
theorem dX4_becomeLike_25 : decode cX4_becomeLike 25 = .ok (.bipush 6, 2) := by decide +kernel
theorem dX4_becomeLike_27 : decode cX4_becomeLike 27 = .ok (.if_icmp .ge 24, 3) := by decide +kernel
theorem dX4_becomeLike_30 : decode cX4_becomeLike 30 = .ok (.aload_n 0, 1) := by decide +kernel
theorem dX4_becomeLike_31 : decode cX4_becomeLike 31 = .ok (.getfield 17, 3) := by decide +kernel
theorem dX4_becomeLike_34 : decode cX4_becomeLike 34 = .ok (.iload_n 2, 1) := by decide +kernel
theorem dX4_becomeLike_35 : decode cX4_becomeLike 35 = .ok (.aaload, 1) := by decide +kernel
theorem dX4_becomeLike_36 : decode cX4_becomeLike 36 = .ok (.aload_n 1, 1) := by decide +kernel
theorem dX4_becomeLike_37 : decode cX4_becomeLike 37 = .ok (.getfield 17, 3) := by decide +kernel
theorem dX4_becomeLike_40 : decode cX4_becomeLike 40 = .ok (.iload_n 2, 1) := by decide +kernel
theorem dX4_becomeLike_41 : decode cX4_becomeLike 41 = .ok (.aaload, 1) := by decide +kernel
theorem dX4_becomeLike_42 : decode cX4_becomeLike 42 = .ok (.invokevirtual 32, 3) := by decide +kernel
theorem dX4_becomeLike_45 : decode cX4_becomeLike 45 = .ok (.iinc 2 1, 3) := by decide +kernel
theorem dX4_becomeLike_48 : decode cX4_becomeLike 48 = .ok (.goto (-24), 3) := by decide +kernel
theorem dX4_becomeLike_51 : decode cX4_becomeLike 51 = .ok (.return_, 1) := by decide +kernel
theorem dX4_suppose_0 : decode cX4_suppose 0 = .ok (.iload_n 1, 1) := by decide +kernel
theorem dX4_suppose_1 : decode cX4_suppose 1 = .ok (.tableswitch 66 0 2 #[27, 40, 53], 27) := by decide +kernel
theorem dX4_suppose_28 : decode cX4_suppose 28 = .ok (.aload_n 0, 1) := by decide +kernel
theorem dX4_suppose_29 : decode cX4_suppose 29 = .ok (.getfield 17, 3) := by decide +kernel
theorem dX4_suppose_32 : decode cX4_suppose 32 = .ok (.iload_n 2, 1) := by decide +kernel
theorem dX4_suppose_33 : decode cX4_suppose 33 = .ok (.aaload, 1) := by decide +kernel
theorem dX4_suppose_34 : decode cX4_suppose 34 = .ok (.iload_n 3, 1) := by decide +kernel
theorem dX4_suppose_35 : decode cX4_suppose 35 = .ok (.putfield 36, 3) := by decide +kernel
theorem dX4_suppose_38 : decode cX4_suppose 38 = .ok (.goto 36, 3) := by decide +kernel
theorem dX4_suppose_41 : decode cX4_suppose 41 = .ok (.aload_n 0, 1) := by decide +kernel
theorem dX4_suppose_42 : decode cX4_suppose 42 = .ok (.getfield 17, 3) := by decide +kernel
theorem dX4_suppose_45 : decode cX4_suppose 45 = .ok (.iload_n 2, 1) := by decide +kernel
theorem dX4_suppose_46 : decode cX4_suppose 46 = .ok (.aaload, 1) := by decide +kernel
theorem dX4_suppose_47 : decode cX4_suppose 47 = .ok (.iload_n 3, 1) := by decide +kernel
theorem dX4_suppose_48 : decode cX4_suppose 48 = .ok (.putfield 39, 3) := by decide +kernel
theorem dX4_suppose_51 : decode cX4_suppose 51 = .ok (.goto 23, 3) := by decide +kernel
theorem dX4_suppose_54 : decode cX4_suppose 54 = .ok (.aload_n 0, 1) := by decide +kernel
theorem dX4_suppose_55 : decode cX4_suppose 55 = .ok (.getfield 17, 3) := by decide +kernel
theorem dX4_suppose_58 : decode cX4_suppose 58 = .ok (.iload_n 2, 1) := by decide +kernel
theorem dX4_suppose_59 : decode cX4_suppose 59 = .ok (.aaload, 1) := by decide +kernel
theorem dX4_suppose_60 : decode cX4_suppose 60 = .ok (.iload_n 3, 1) := by decide +kernel
theorem dX4_suppose_61 : decode cX4_suppose 61 = .ok (.putfield 42, 3) := by decide +kernel
theorem dX4_suppose_64 : decode cX4_suppose 64 = .ok (.goto 10, 3) := by decide +kernel
theorem dX4_suppose_67 : decode cX4_suppose 67 = .ok (.aload_n 0, 1) := by decide +kernel
theorem dX4_suppose_68 : decode cX4_suppose 68 = .ok (.getfield 9, 3) := by decide +kernel
theorem dX4_suppose_71 : decode cX4_suppose 71 = .ok (.iload_n 2, 1) := by decide +kernel
theorem dX4_suppose_72 : decode cX4_suppose 72 = .ok (.iload_n 3, 1) := by decide +kernel
theorem dX4_suppose_73 : decode cX4_suppose 73 = .ok (.iastore, 1) := by decide +kernel
theorem dX4_suppose_74 : decode cX4_suppose 74 = .ok (.return_, 1) := by decide +kernel
set_option maxRecDepth 20000 in
theorem ggX4_hasPerson_X9_isBelow : GoodIn wsX4_hasPerson wsX9_isBelow := goodIn_r _ [4] (by decide +kernel) (by decide +kernel)
set_option maxRecDepth 20000 in
theorem gX4_hasPerson_X9_isBelow_n45 : GoodIn wsX4_hasPerson (wsX9_isBelow) := ggX4_hasPerson_X9_isBelow
theorem dX4_hasPerson_0 : decode cX4_hasPerson 0 = .ok (.iload_n 1, 1) := by decide +kernel
theorem dX4_hasPerson_1 : decode cX4_hasPerson 1 = .ok (.aload_n 0, 1) := by decide +kernel
theorem dX4_hasPerson_2 : decode cX4_hasPerson 2 = .ok (.getfield 21, 3) := by decide +kernel
theorem dX4_hasPerson_5 : decode cX4_hasPerson 5 = .ok (.invokestatic 45, 3) := by decide +kernel
theorem dX4_hasPerson_8 : decode cX4_hasPerson 8 = .ok (.ireturn, 1) := by decide +kernel
set_option maxRecDepth 20000 in
theorem ggX4_hasMatter_X9_isBelow : GoodIn wsX4_hasMatter wsX9_isBelow := goodIn_r _ [4] (by decide +kernel) (by decide +kernel)
set_option maxRecDepth 20000 in
theorem gX4_hasMatter_X9_isBelow_n45 : GoodIn wsX4_hasMatter (wsX9_isBelow) := ggX4_hasMatter_X9_isBelow
theorem dX4_hasMatter_0 : decode cX4_hasMatter 0 = .ok (.aload_n 0, 1) := by decide +kernel
theorem dX4_hasMatter_1 : decode cX4_hasMatter 1 = .ok (.getfield 21, 3) := by decide +kernel
theorem dX4_hasMatter_4 : decode cX4_hasMatter 4 = .ok (.ifCond .le 15, 3) := by decide +kernel
theorem dX4_hasMatter_7 : decode cX4_hasMatter 7 = .ok (.iload_n 1, 1) := by decide +kernel
theorem dX4_hasMatter_8 : decode cX4_hasMatter 8 = .ok (.iconst 3, 1) := by decide +kernel
theorem dX4_hasMatter_9 : decode cX4_hasMatter 9 = .ok (.invokestatic 45, 3) := by decide +kernel
theorem dX4_hasMatter_12 : decode cX4_hasMatter 12 = .ok (.ifCond .eq 7, 3) := by decide +kernel
theorem dX4_hasMatter_15 : decode cX4_hasMatter 15 = .ok (.iconst 1, 1) := by decide +kernel
theorem dX4_hasMatter_16 : decode cX4_hasMatter 16 = .ok (.goto 4, 3) := by decide +kernel
theorem dX4_hasMatter_19 : decode cX4_hasMatter 19 = .ok (.iconst 0, 1) := by decide +kernel
theorem dX4_hasMatter_20 : decode cX4_hasMatter 20 = .ok (.ireturn, 1) := by decide +kernel
set_option maxRecDepth 20000 in
theorem ggX4_bringing_X2_saying : GoodIn wsX4_bringing wsX2_saying := goodIn_r _ [7, 8, 9, 18, 19, 20, 21] (by decide +kernel) (by decide +kernel)
set_option maxRecDepth 20000 in
theorem gX4_bringing_X2_saying : GoodIn wsX4_bringing (wsV RX4 49 RX2 yX2_saying wsX2_saying) := goodIn_app (goodIn_of _ (by decide +kernel)) ggX4_bringing_X2_saying
set_option maxRecDepth 20000 in
theorem ggX4_bringing_X2_isKnowing : GoodIn wsX4_bringing wsX2_isKnowing := goodIn_r _ [13, 14, 18, 19, 20, 21] (by decide +kernel) (by decide +kernel)
set_option maxRecDepth 20000 in
theorem gX4_bringing_X2_isKnowing : GoodIn wsX4_bringing (wsV RX4 53 RX2 yX2_isKnowing wsX2_isKnowing) := goodIn_app (goodIn_of _ (by decide +kernel)) ggX4_bringing_X2_isKnowing
theorem dX4_bringing_0 : decode cX4_bringing 0 = .ok (.aload_n 0, 1) := by decide +kernel
theorem dX4_bringing_1 : decode cX4_bringing 1 = .ok (.getfield 17, 3) := by decide +kernel
theorem dX4_bringing_4 : decode cX4_bringing 4 = .ok (.iload_n 1, 1) := by decide +kernel
theorem dX4_bringing_5 : decode cX4_bringing 5 = .ok (.aaload, 1) := by decide +kernel
theorem dX4_bringing_6 : decode cX4_bringing 6 = .ok (.invokevirtual 49, 3) := by decide +kernel
theorem dX4_bringing_9 : decode cX4_bringing 9 = .ok (.istore_n 3, 1) := by decide +kernel
theorem dX4_bringing_10 : decode cX4_bringing 10 = .ok (.aload_n 0, 1) := by decide +kernel
theorem dX4_bringing_11 : decode cX4_bringing 11 = .ok (.getfield 17, 3) := by decide +kernel
theorem dX4_bringing_14 : decode cX4_bringing 14 = .ok (.iload_n 1, 1) := by decide +kernel
theorem dX4_bringing_15 : decode cX4_bringing 15 = .ok (.aaload, 1) := by decide +kernel
theorem dX4_bringing_16 : decode cX4_bringing 16 = .ok (.iload_n 2, 1) := by decide +kernel
theorem dX4_bringing_17 : decode cX4_bringing 17 = .ok (.invokevirtual 53, 3) := by decide +kernel
theorem dX4_bringing_20 : decode cX4_bringing 20 = .ok (.ifCond .eq 14, 3) := by decide +kernel
theorem dX4_bringing_23 : decode cX4_bringing 23 = .ok (.iload_n 3, 1) := by decide +kernel
theorem dX4_bringing_24 : decode cX4_bringing 24 = .ok (.aload_n 0, 1) := by decide +kernel
theorem dX4_bringing_25 : decode cX4_bringing 25 = .ok (.getfield 9, 3) := by decide +kernel
theorem dX4_bringing_28 : decode cX4_bringing 28 = .ok (.iload_n 2, 1) := by decide +kernel
theorem dX4_bringing_29 : decode cX4_bringing 29 = .ok (.iaload, 1) := by decide +kernel
theorem dX4_bringing_30 : decode cX4_bringing 30 = .ok (.imul, 1) := by decide +kernel
theorem dX4_bringing_31 : decode cX4_bringing 31 = .ok (.goto 4, 3) := by decide +kernel
theorem dX4_bringing_34 : decode cX4_bringing 34 = .ok (.iload_n 3, 1) := by decide +kernel
theorem dX4_bringing_35 : decode cX4_bringing 35 = .ok (.ireturn, 1) := by decide +kernel
theorem dX4_first_0 : decode cX4_first 0 = .ok (.iconst 0, 1) := by decide +kernel
theorem dX4_first_1 : decode cX4_first 1 = .ok (.istore_n 1, 1) := by decide +kernel
theorem dX4_first_2 : decode cX4_first 2 = .ok (.iconst 1, 1) := by decide +kernel
theorem dX4_first_3 : decode cX4_first 3 = .ok (.istore_n 2, 1) := by decide +kernel
theorem dX4_first_4 : decode cX4_first 4 = .ok (.iload_n 2, 1) := by decide +kernel
theorem dX4_first_5 : decode cX4_first 5 = .ok (.aload_n 0, 1) := by decide +kernel
theorem dX4_first_6 : decode cX4_first 6 = .ok (.getfield 21, 3) := by decide +kernel
theorem dX4_first_9 : decode cX4_first 9 = .ok (.if_icmp .ge 32, 3) := by decide +kernel
theorem dX4_first_12 : decode cX4_first 12 = .ok (.aload_n 0, 1) := by decide +kernel
theorem dX4_first_13 : decode cX4_first 13 = .ok (.getfield 17, 3) := by decide +kernel
theorem dX4_first_16 : decode cX4_first 16 = .ok (.iload_n 2, 1) := by decide +kernel
theorem dX4_first_17 : decode cX4_first 17 = .ok (.aaload, 1) := by decide +kernel
theorem dX4_first_18 : decode cX4_first 18 = .ok (.getfield 57, 3) := by decide +kernel
theorem dX4_first_21 : decode cX4_first 21 = .ok (.aload_n 0, 1) := by decide +kernel
theorem dX4_first_22 : decode cX4_first 22 = .ok (.getfield 17, 3) := by decide +kernel
theorem dX4_first_25 : decode cX4_first 25 = .ok (.iload_n 1, 1) := by decide +kernel
theorem dX4_first_26 : decode cX4_first 26 = .ok (.aaload, 1) := by decide +kernel
theorem dX4_first_27 : decode cX4_first 27 = .ok (.getfield 57, 3) := by decide +kernel
theorem dX4_first_30 : decode cX4_first 30 = .ok (.if_icmp .ge 5, 3) := by decide +kernel
theorem dX4_first_33 : decode cX4_first 33 = .ok (.iload_n 2, 1) := by decide +kernel
theorem dX4_first_34 : decode cX4_first 34 = .ok (.istore_n 1, 1) := by decide +kernel
theorem dX4_first_35 : decode cX4_first 35 = .ok (.iinc 2 1, 3) := by decide +kernel
theorem dX4_first_38 : decode cX4_first 38 = .ok (.goto (-34), 3) := by decide +kernel
theorem dX4_first_41 : decode cX4_first 41 = .ok (.iload_n 1, 1) := by decide +kernel
theorem dX4_first_42 : decode cX4_first 42 = .ok (.ireturn, 1) := by decide +kernel
set_option maxRecDepth 20000 in
theorem ggX4_placeOf_X4_timesAhead : GoodIn wsX4_placeOf wsX4_timesAhead := goodIn_r _ [6, 7, 8, 9, 10, 11, 12, 13, 14, 15, 16, 17, 18, 19] (by decide +kernel) (by decide +kernel)
set_option maxRecDepth 20000 in
theorem gX4_placeOf_X4_timesAhead : GoodIn wsX4_placeOf (wsV RX4 60 RX4 yX4_timesAhead wsX4_timesAhead) := goodIn_app (goodIn_of _ (by decide +kernel)) ggX4_placeOf_X4_timesAhead
theorem dX4_placeOf_0 : decode cX4_placeOf 0 = .ok (.iconst 0, 1) := by decide +kernel
theorem dX4_placeOf_1 : decode cX4_placeOf 1 = .ok (.istore_n 2, 1) := by decide +kernel
theorem dX4_placeOf_2 : decode cX4_placeOf 2 = .ok (.iconst 0, 1) := by decide +kernel
theorem dX4_placeOf_3 : decode cX4_placeOf 3 = .ok (.istore_n 3, 1) := by decide +kernel
theorem dX4_placeOf_4 : decode cX4_placeOf 4 = .ok (.iload_n 3, 1) := by decide +kernel
theorem dX4_placeOf_5 : decode cX4_placeOf 5 = .ok (.aload_n 0, 1) := by decide +kernel
theorem dX4_placeOf_6 : decode cX4_placeOf 6 = .ok (.getfield 21, 3) := by decide +kernel
theorem dX4_placeOf_9 : decode cX4_placeOf 9 = .ok (.if_icmp .ge 21, 3) := by decide +kernel
theorem dX4_placeOf_12 : decode cX4_placeOf 12 = .ok (.aload_n 0, 1) := by decide +kernel
theorem dX4_placeOf_13 : decode cX4_placeOf 13 = .ok (.iload_n 3, 1) := by decide +kernel
theorem dX4_placeOf_14 : decode cX4_placeOf 14 = .ok (.iload_n 1, 1) := by decide +kernel
theorem dX4_placeOf_15 : decode cX4_placeOf 15 = .ok (.invokevirtual 60, 3) := by decide +kernel
theorem dX4_placeOf_18 : decode cX4_placeOf 18 = .ok (.ifCond .le 6, 3) := by decide +kernel
theorem dX4_placeOf_21 : decode cX4_placeOf 21 = .ok (.iinc 2 1, 3) := by decide +kernel
theorem dX4_placeOf_24 : decode cX4_placeOf 24 = .ok (.iinc 3 1, 3) := by decide +kernel
theorem dX4_placeOf_27 : decode cX4_placeOf 27 = .ok (.goto (-23), 3) := by decide +kernel
theorem dX4_placeOf_30 : decode cX4_placeOf 30 = .ok (.iload_n 2, 1) := by decide +kernel
theorem dX4_placeOf_31 : decode cX4_placeOf 31 = .ok (.ireturn, 1) := by decide +kernel
set_option maxRecDepth 20000 in
theorem ggX4_atPlace_X4_placeOf : GoodIn wsX4_atPlace wsX4_placeOf := goodIn_r _ [6, 1, 7, 8, 9, 5, 10, 11, 12, 13, 14, 15, 16, 17, 18, 19, 20, 21, 22, 23] (by decide +kernel) (by decide +kernel)
set_option maxRecDepth 20000 in
theorem gX4_atPlace_X4_placeOf : GoodIn wsX4_atPlace (wsV RX4 64 RX4 yX4_placeOf wsX4_placeOf) := goodIn_app (goodIn_of _ (by decide +kernel)) ggX4_atPlace_X4_placeOf
theorem dX4_atPlace_0 : decode cX4_atPlace 0 = .ok (.iconst 0, 1) := by decide +kernel
theorem dX4_atPlace_1 : decode cX4_atPlace 1 = .ok (.istore_n 2, 1) := by decide +kernel
theorem dX4_atPlace_2 : decode cX4_atPlace 2 = .ok (.iload_n 2, 1) := by decide +kernel
theorem dX4_atPlace_3 : decode cX4_atPlace 3 = .ok (.aload_n 0, 1) := by decide +kernel
theorem dX4_atPlace_4 : decode cX4_atPlace 4 = .ok (.getfield 21, 3) := by decide +kernel
theorem dX4_atPlace_7 : decode cX4_atPlace 7 = .ok (.if_icmp .ge 20, 3) := by decide +kernel
theorem dX4_atPlace_10 : decode cX4_atPlace 10 = .ok (.aload_n 0, 1) := by decide +kernel
theorem dX4_atPlace_11 : decode cX4_atPlace 11 = .ok (.iload_n 2, 1) := by decide +kernel
theorem dX4_atPlace_12 : decode cX4_atPlace 12 = .ok (.invokevirtual 64, 3) := by decide +kernel
theorem dX4_atPlace_15 : decode cX4_atPlace 15 = .ok (.iload_n 1, 1) := by decide +kernel
theorem dX4_atPlace_16 : decode cX4_atPlace 16 = .ok (.if_icmp .ne 5, 3) := by decide +kernel
theorem dX4_atPlace_19 : decode cX4_atPlace 19 = .ok (.iload_n 2, 1) := by decide +kernel
theorem dX4_atPlace_20 : decode cX4_atPlace 20 = .ok (.ireturn, 1) := by decide +kernel
theorem dX4_atPlace_21 : decode cX4_atPlace 21 = .ok (.iinc 2 1, 3) := by decide +kernel
theorem dX4_atPlace_24 : decode cX4_atPlace 24 = .ok (.goto (-22), 3) := by decide +kernel
theorem dX4_atPlace_27 : decode cX4_atPlace 27 = .ok (.bipush (-9), 2) := by decide +kernel
theorem dX4_atPlace_29 : decode cX4_atPlace 29 = .ok (.ireturn, 1) := by decide +kernel
theorem dX4_timesAhead_0 : decode cX4_timesAhead 0 = .ok (.aload_n 0, 1) := by decide +kernel
theorem dX4_timesAhead_1 : decode cX4_timesAhead 1 = .ok (.getfield 17, 3) := by decide +kernel
theorem dX4_timesAhead_4 : decode cX4_timesAhead 4 = .ok (.iload_n 2, 1) := by decide +kernel
theorem dX4_timesAhead_5 : decode cX4_timesAhead 5 = .ok (.aaload, 1) := by decide +kernel
theorem dX4_timesAhead_6 : decode cX4_timesAhead 6 = .ok (.getfield 57, 3) := by decide +kernel
theorem dX4_timesAhead_9 : decode cX4_timesAhead 9 = .ok (.iload_n 1, 1) := by decide +kernel
theorem dX4_timesAhead_10 : decode cX4_timesAhead 10 = .ok (.iload_n 2, 1) := by decide +kernel
theorem dX4_timesAhead_11 : decode cX4_timesAhead 11 = .ok (.if_icmp .ge 7, 3) := by decide +kernel
theorem dX4_timesAhead_14 : decode cX4_timesAhead 14 = .ok (.iconst 1, 1) := by decide +kernel
theorem dX4_timesAhead_15 : decode cX4_timesAhead 15 = .ok (.goto 4, 3) := by decide +kernel
theorem dX4_timesAhead_18 : decode cX4_timesAhead 18 = .ok (.iconst 0, 1) := by decide +kernel
theorem dX4_timesAhead_19 : decode cX4_timesAhead 19 = .ok (.iadd, 1) := by decide +kernel
theorem dX4_timesAhead_20 : decode cX4_timesAhead 20 = .ok (.istore_n 3, 1) := by decide +kernel
theorem dX4_timesAhead_21 : decode cX4_timesAhead 21 = .ok (.iconst 0, 1) := by decide +kernel
theorem dX4_timesAhead_22 : decode cX4_timesAhead 22 = .ok (.iload_n 3, 1) := by decide +kernel
theorem dX4_timesAhead_23 : decode cX4_timesAhead 23 = .ok (.aload_n 0, 1) := by decide +kernel
theorem dX4_timesAhead_24 : decode cX4_timesAhead 24 = .ok (.getfield 17, 3) := by decide +kernel
theorem dX4_timesAhead_27 : decode cX4_timesAhead 27 = .ok (.iload_n 1, 1) := by decide +kernel
theorem dX4_timesAhead_28 : decode cX4_timesAhead 28 = .ok (.aaload, 1) := by decide +kernel
theorem dX4_timesAhead_29 : decode cX4_timesAhead 29 = .ok (.getfield 57, 3) := by decide +kernel
theorem dX4_timesAhead_32 : decode cX4_timesAhead 32 = .ok (.isub, 1) := by decide +kernel
theorem dX4_timesAhead_33 : decode cX4_timesAhead 33 = .ok (.invokestatic 68, 3) := by decide +kernel
theorem dX4_timesAhead_36 : decode cX4_timesAhead 36 = .ok (.ireturn, 1) := by decide +kernel
set_option maxRecDepth 20000 in
theorem ggX4_questionsAheadOf_X4_timesAhead : GoodIn wsX4_questionsAheadOf wsX4_timesAhead := goodIn_r _ [6, 7, 8, 9, 10, 11, 12, 13, 14, 15, 16, 17, 18, 19] (by decide +kernel) (by decide +kernel)
set_option maxRecDepth 20000 in
theorem gX4_questionsAheadOf_X4_timesAhead : GoodIn wsX4_questionsAheadOf (wsV RX4 60 RX4 yX4_timesAhead wsX4_timesAhead) := goodIn_app (goodIn_of _ (by decide +kernel)) ggX4_questionsAheadOf_X4_timesAhead
theorem dX4_questionsAheadOf_0 : decode cX4_questionsAheadOf 0 = .ok (.iconst 0, 1) := by decide +kernel
theorem dX4_questionsAheadOf_1 : decode cX4_questionsAheadOf 1 = .ok (.istore_n 2, 1) := by decide +kernel
theorem dX4_questionsAheadOf_2 : decode cX4_questionsAheadOf 2 = .ok (.iconst 0, 1) := by decide +kernel
theorem dX4_questionsAheadOf_3 : decode cX4_questionsAheadOf 3 = .ok (.istore_n 3, 1) := by decide +kernel
theorem dX4_questionsAheadOf_4 : decode cX4_questionsAheadOf 4 = .ok (.iload_n 3, 1) := by decide +kernel
theorem dX4_questionsAheadOf_5 : decode cX4_questionsAheadOf 5 = .ok (.aload_n 0, 1) := by decide +kernel
theorem dX4_questionsAheadOf_6 : decode cX4_questionsAheadOf 6 = .ok (.getfield 21, 3) := by decide +kernel
theorem dX4_questionsAheadOf_9 : decode cX4_questionsAheadOf 9 = .ok (.if_icmp .ge 18, 3) := by decide +kernel
theorem dX4_questionsAheadOf_12 : decode cX4_questionsAheadOf 12 = .ok (.iload_n 2, 1) := by decide +kernel
theorem dX4_questionsAheadOf_13 : decode cX4_questionsAheadOf 13 = .ok (.aload_n 0, 1) := by decide +kernel
theorem dX4_questionsAheadOf_14 : decode cX4_questionsAheadOf 14 = .ok (.iload_n 3, 1) := by decide +kernel
theorem dX4_questionsAheadOf_15 : decode cX4_questionsAheadOf 15 = .ok (.iload_n 1, 1) := by decide +kernel
theorem dX4_questionsAheadOf_16 : decode cX4_questionsAheadOf 16 = .ok (.invokevirtual 60, 3) := by decide +kernel
theorem dX4_questionsAheadOf_19 : decode cX4_questionsAheadOf 19 = .ok (.iadd, 1) := by decide +kernel
theorem dX4_questionsAheadOf_20 : decode cX4_questionsAheadOf 20 = .ok (.istore_n 2, 1) := by decide +kernel
theorem dX4_questionsAheadOf_21 : decode cX4_questionsAheadOf 21 = .ok (.iinc 3 1, 3) := by decide +kernel
theorem dX4_questionsAheadOf_24 : decode cX4_questionsAheadOf 24 = .ok (.goto (-20), 3) := by decide +kernel
theorem dX4_questionsAheadOf_27 : decode cX4_questionsAheadOf 27 = .ok (.iload_n 2, 1) := by decide +kernel
theorem dX4_questionsAheadOf_28 : decode cX4_questionsAheadOf 28 = .ok (.ireturn, 1) := by decide +kernel
set_option maxRecDepth 20000 in
theorem ggX4_feintsTillKnown_X2_isKnowing : GoodIn wsX4_feintsTillKnown wsX2_isKnowing := goodIn_r _ [11, 12, 29, 30, 31, 32] (by decide +kernel) (by decide +kernel)
set_option maxRecDepth 20000 in
theorem gX4_feintsTillKnown_X2_isKnowing : GoodIn wsX4_feintsTillKnown (wsV RX4 53 RX2 yX2_isKnowing wsX2_isKnowing) := goodIn_app (goodIn_of _ (by decide +kernel)) ggX4_feintsTillKnown_X2_isKnowing
set_option maxRecDepth 20000 in
theorem ggX4_feintsTillKnown_X4_questionsAheadOf : GoodIn wsX4_feintsTillKnown wsX4_questionsAheadOf := goodIn_r _ [17, 1, 18, 19, 20, 16, 21, 2, 22, 23, 24, 5, 25, 26, 27, 28, 29, 30, 31, 32] (by decide +kernel) (by decide +kernel)
set_option maxRecDepth 20000 in
theorem gX4_feintsTillKnown_X4_questionsAheadOf : GoodIn wsX4_feintsTillKnown (wsV RX4 73 RX4 yX4_questionsAheadOf wsX4_questionsAheadOf) := goodIn_app (goodIn_of _ (by decide +kernel)) ggX4_feintsTillKnown_X4_questionsAheadOf
theorem dX4_feintsTillKnown_0 : decode cX4_feintsTillKnown 0 = .ok (.bipush (-9), 2) := by decide +kernel
theorem dX4_feintsTillKnown_2 : decode cX4_feintsTillKnown 2 = .ok (.istore_n 2, 1) := by decide +kernel
theorem dX4_feintsTillKnown_3 : decode cX4_feintsTillKnown 3 = .ok (.iconst 0, 1) := by decide +kernel
theorem dX4_feintsTillKnown_4 : decode cX4_feintsTillKnown 4 = .ok (.istore_n 3, 1) := by decide +kernel
theorem dX4_feintsTillKnown_5 : decode cX4_feintsTillKnown 5 = .ok (.iload_n 3, 1) := by decide +kernel
theorem dX4_feintsTillKnown_6 : decode cX4_feintsTillKnown 6 = .ok (.aload_n 0, 1) := by decide +kernel
theorem dX4_feintsTillKnown_7 : decode cX4_feintsTillKnown 7 = .ok (.getfield 21, 3) := by decide +kernel
theorem dX4_feintsTillKnown_10 : decode cX4_feintsTillKnown 10 = .ok (.if_icmp .ge 47, 3) := by decide +kernel
theorem dX4_feintsTillKnown_13 : decode cX4_feintsTillKnown 13 = .ok (.aload_n 0, 1) := by decide +kernel
theorem dX4_feintsTillKnown_14 : decode cX4_feintsTillKnown 14 = .ok (.getfield 17, 3) := by decide +kernel
theorem dX4_feintsTillKnown_17 : decode cX4_feintsTillKnown 17 = .ok (.iload_n 3, 1) := by decide +kernel
theorem dX4_feintsTillKnown_18 : decode cX4_feintsTillKnown 18 = .ok (.aaload, 1) := by decide +kernel
theorem dX4_feintsTillKnown_19 : decode cX4_feintsTillKnown 19 = .ok (.iload_n 1, 1) := by decide +kernel
theorem dX4_feintsTillKnown_20 : decode cX4_feintsTillKnown 20 = .ok (.invokevirtual 53, 3) := by decide +kernel
theorem dX4_feintsTillKnown_23 : decode cX4_feintsTillKnown 23 = .ok (.ifCond .eq 28, 3) := by decide +kernel
theorem dX4_feintsTillKnown_26 : decode cX4_feintsTillKnown 26 = .ok (.aload_n 0, 1) := by decide +kernel
theorem dX4_feintsTillKnown_27 : decode cX4_feintsTillKnown 27 = .ok (.iload_n 3, 1) := by decide +kernel
theorem dX4_feintsTillKnown_28 : decode cX4_feintsTillKnown 28 = .ok (.invokevirtual 73, 3) := by decide +kernel
theorem dX4_feintsTillKnown_31 : decode cX4_feintsTillKnown 31 = .ok (.istore 4, 2) := by decide +kernel
theorem dX4_feintsTillKnown_33 : decode cX4_feintsTillKnown 33 = .ok (.iload_n 2, 1) := by decide +kernel
theorem dX4_feintsTillKnown_34 : decode cX4_feintsTillKnown 34 = .ok (.bipush (-9), 2) := by decide +kernel
theorem dX4_feintsTillKnown_36 : decode cX4_feintsTillKnown 36 = .ok (.if_icmp .ne 8, 3) := by decide +kernel
theorem dX4_feintsTillKnown_39 : decode cX4_feintsTillKnown 39 = .ok (.iload 4, 2) := by decide +kernel
theorem dX4_feintsTillKnown_41 : decode cX4_feintsTillKnown 41 = .ok (.goto 9, 3) := by decide +kernel
theorem dX4_feintsTillKnown_44 : decode cX4_feintsTillKnown 44 = .ok (.iload_n 2, 1) := by decide +kernel
theorem dX4_feintsTillKnown_45 : decode cX4_feintsTillKnown 45 = .ok (.iload 4, 2) := by decide +kernel
theorem dX4_feintsTillKnown_47 : decode cX4_feintsTillKnown 47 = .ok (.invokestatic 76, 3) := by decide +kernel
theorem dX4_feintsTillKnown_50 : decode cX4_feintsTillKnown 50 = .ok (.istore_n 2, 1) := by decide +kernel
theorem dX4_feintsTillKnown_51 : decode cX4_feintsTillKnown 51 = .ok (.iinc 3 1, 3) := by decide +kernel
theorem dX4_feintsTillKnown_54 : decode cX4_feintsTillKnown 54 = .ok (.goto (-49), 3) := by decide +kernel
theorem dX4_feintsTillKnown_57 : decode cX4_feintsTillKnown 57 = .ok (.iload_n 2, 1) := by decide +kernel
theorem dX4_feintsTillKnown_58 : decode cX4_feintsTillKnown 58 = .ok (.ireturn, 1) := by decide +kernel
theorem dX4_questionsTillEven_0 : decode cX4_questionsTillEven 0 = .ok (.iconst 0, 1) := by decide +kernel
theorem dX4_questionsTillEven_1 : decode cX4_questionsTillEven 1 = .ok (.istore_n 1, 1) := by decide +kernel
theorem dX4_questionsTillEven_2 : decode cX4_questionsTillEven 2 = .ok (.iconst 0, 1) := by decide +kernel
theorem dX4_questionsTillEven_3 : decode cX4_questionsTillEven 3 = .ok (.istore_n 2, 1) := by decide +kernel
theorem dX4_questionsTillEven_4 : decode cX4_questionsTillEven 4 = .ok (.iconst 0, 1) := by decide +kernel
theorem dX4_questionsTillEven_5 : decode cX4_questionsTillEven 5 = .ok (.istore_n 3, 1) := by decide +kernel
theorem dX4_questionsTillEven_6 : decode cX4_questionsTillEven 6 = .ok (.iload_n 3, 1) := by decide +kernel
theorem dX4_questionsTillEven_7 : decode cX4_questionsTillEven 7 = .ok (.aload_n 0, 1) := by decide +kernel
theorem dX4_questionsTillEven_8 : decode cX4_questionsTillEven 8 = .ok (.getfield 21, 3) := by decide +kernel
theorem dX4_questionsTillEven_11 : decode cX4_questionsTillEven 11 = .ok (.if_icmp .ge 35, 3) := by decide +kernel
theorem dX4_questionsTillEven_14 : decode cX4_questionsTillEven 14 = .ok (.iload_n 1, 1) := by decide +kernel
theorem dX4_questionsTillEven_15 : decode cX4_questionsTillEven 15 = .ok (.aload_n 0, 1) := by decide +kernel
theorem dX4_questionsTillEven_16 : decode cX4_questionsTillEven 16 = .ok (.getfield 17, 3) := by decide +kernel
theorem dX4_questionsTillEven_19 : decode cX4_questionsTillEven 19 = .ok (.iload_n 3, 1) := by decide +kernel
theorem dX4_questionsTillEven_20 : decode cX4_questionsTillEven 20 = .ok (.aaload, 1) := by decide +kernel
theorem dX4_questionsTillEven_21 : decode cX4_questionsTillEven 21 = .ok (.getfield 57, 3) := by decide +kernel
theorem dX4_questionsTillEven_24 : decode cX4_questionsTillEven 24 = .ok (.invokestatic 68, 3) := by decide +kernel
theorem dX4_questionsTillEven_27 : decode cX4_questionsTillEven 27 = .ok (.istore_n 1, 1) := by decide +kernel
theorem dX4_questionsTillEven_28 : decode cX4_questionsTillEven 28 = .ok (.iload_n 2, 1) := by decide +kernel
theorem dX4_questionsTillEven_29 : decode cX4_questionsTillEven 29 = .ok (.aload_n 0, 1) := by decide +kernel
theorem dX4_questionsTillEven_30 : decode cX4_questionsTillEven 30 = .ok (.getfield 17, 3) := by decide +kernel
theorem dX4_questionsTillEven_33 : decode cX4_questionsTillEven 33 = .ok (.iload_n 3, 1) := by decide +kernel
theorem dX4_questionsTillEven_34 : decode cX4_questionsTillEven 34 = .ok (.aaload, 1) := by decide +kernel
theorem dX4_questionsTillEven_35 : decode cX4_questionsTillEven 35 = .ok (.getfield 57, 3) := by decide +kernel
theorem dX4_questionsTillEven_38 : decode cX4_questionsTillEven 38 = .ok (.iadd, 1) := by decide +kernel
theorem dX4_questionsTillEven_39 : decode cX4_questionsTillEven 39 = .ok (.istore_n 2, 1) := by decide +kernel
theorem dX4_questionsTillEven_40 : decode cX4_questionsTillEven 40 = .ok (.iinc 3 1, 3) := by decide +kernel
theorem dX4_questionsTillEven_43 : decode cX4_questionsTillEven 43 = .ok (.goto (-37), 3) := by decide +kernel
theorem dX4_questionsTillEven_46 : decode cX4_questionsTillEven 46 = .ok (.iload_n 1, 1) := by decide +kernel
theorem dX4_questionsTillEven_47 : decode cX4_questionsTillEven 47 = .ok (.aload_n 0, 1) := by decide +kernel
theorem dX4_questionsTillEven_48 : decode cX4_questionsTillEven 48 = .ok (.getfield 21, 3) := by decide +kernel
theorem dX4_questionsTillEven_51 : decode cX4_questionsTillEven 51 = .ok (.imul, 1) := by decide +kernel
theorem dX4_questionsTillEven_52 : decode cX4_questionsTillEven 52 = .ok (.iload_n 2, 1) := by decide +kernel
theorem dX4_questionsTillEven_53 : decode cX4_questionsTillEven 53 = .ok (.isub, 1) := by decide +kernel
theorem dX4_questionsTillEven_54 : decode cX4_questionsTillEven 54 = .ok (.ireturn, 1) := by decide +kernel
theorem dX5_init_0 : decode cX5_init 0 = .ok (.aload_n 0, 1) := by decide +kernel
theorem dX5_init_1 : decode cX5_init 1 = .ok (.invokespecial 3, 3) := by decide +kernel
theorem dX5_init_4 : decode cX5_init 4 = .ok (.aload_n 0, 1) := by decide +kernel
theorem dX5_init_5 : decode cX5_init 5 = .ok (.bipush 8, 2) := by decide +kernel
theorem dX5_init_7 : decode cX5_init 7 = .ok (.newarray .int, 2) := by decide +kernel
theorem dX5_init_9 : decode cX5_init 9 = .ok (.putfield 9, 3) := by decide +kernel
theorem dX5_init_12 : decode cX5_init 12 = .ok (.aload_n 0, 1) := by decide +kernel
theorem dX5_init_13 : decode cX5_init 13 = .ok (.bipush 8, 2) := by decide +kernel
theorem dX5_init_15 : decode cX5_init 15 = .ok (.newarray .int, 2) := by decide +kernel
theorem dX5_init_17 : decode cX5_init 17 = .ok (.putfield 15, 3) := by decide +kernel
theorem dX5_init_20 : decode cX5_init 20 = .ok (.aload_n 0, 1) := by decide +kernel
theorem dX5_init_21 : decode cX5_init 21 = .ok (.bipush 8, 2) := by decide +kernel
theorem dX5_init_23 : decode cX5_init 23 = .ok (.newarray .int, 2) := by decide +kernel
theorem dX5_init_25 : decode cX5_init 25 = .ok (.putfield 18, 3) := by decide +kernel
theorem dX5_init_28 : decode cX5_init 28 = .ok (.aload_n 0, 1) := by decide +kernel
theorem dX5_init_29 : decode cX5_init 29 = .ok (.iconst 0, 1) := by decide +kernel
theorem dX5_init_30 : decode cX5_init 30 = .ok (.putfield 21, 3) := by decide +kernel
theorem dX5_init_33 : decode cX5_init 33 = .ok (.return_, 1) := by decide +kernel
theorem dX5_take_0 : decode cX5_take 0 = .ok (.aload_n 0, 1) := by decide +kernel
theorem dX5_take_1 : decode cX5_take 1 = .ok (.getfield 21, 3) := by decide +kernel
theorem dX5_take_4 : decode cX5_take 4 = .ok (.istore 4, 2) := by decide +kernel
theorem dX5_take_6 : decode cX5_take 6 = .ok (.aload_n 0, 1) := by decide +kernel
theorem dX5_take_7 : decode cX5_take 7 = .ok (.getfield 9, 3) := by decide +kernel
theorem dX5_take_10 : decode cX5_take 10 = .ok (.iload 4, 2) := by decide +kernel
theorem dX5_take_12 : decode cX5_take 12 = .ok (.iload_n 1, 1) := by decide +kernel
theorem dX5_take_13 : decode cX5_take 13 = .ok (.iastore, 1) := by decide +kernel
theorem dX5_take_14 : decode cX5_take 14 = .ok (.aload_n 0, 1) := by decide +kernel
theorem dX5_take_15 : decode cX5_take 15 = .ok (.getfield 15, 3) := by decide +kernel
theorem dX5_take_18 : decode cX5_take 18 = .ok (.iload 4, 2) := by decide +kernel
theorem dX5_take_20 : decode cX5_take 20 = .ok (.iload_n 2, 1) := by decide +kernel
theorem dX5_take_21 : decode cX5_take 21 = .ok (.iastore, 1) := by decide +kernel
theorem dX5_take_22 : decode cX5_take 22 = .ok (.aload_n 0, 1) := by decide +kernel
theorem dX5_take_23 : decode cX5_take 23 = .ok (.getfield 18, 3) := by decide +kernel
theorem dX5_take_26 : decode cX5_take 26 = .ok (.iload 4, 2) := by decide +kernel
theorem dX5_take_28 : decode cX5_take 28 = .ok (.iload_n 3, 1) := by decide +kernel
theorem dX5_take_29 : decode cX5_take 29 = .ok (.iastore, 1) := by decide +kernel
theorem dX5_take_30 : decode cX5_take 30 = .ok (.aload_n 0, 1) := by decide +kernel
theorem dX5_take_31 : decode cX5_take 31 = .ok (.dup, 1) := by decide +kernel
theorem dX5_take_32 : decode cX5_take 32 = .ok (.getfield 21, 3) := by decide +kernel
theorem dX5_take_35 : decode cX5_take 35 = .ok (.iconst 1, 1) := by decide +kernel
theorem dX5_take_36 : decode cX5_take 36 = .ok (.iadd, 1) := by decide +kernel
theorem dX5_take_37 : decode cX5_take 37 = .ok (.putfield 21, 3) := by decide +kernel
theorem dX5_take_40 : decode cX5_take 40 = .ok (.iload 4, 2) := by decide +kernel
theorem dX5_take_42 : decode cX5_take 42 = .ok (.ireturn, 1) := by decide +kernel
set_option maxRecDepth 20000 in
theorem ggX5_allSo_X4_bringing : GoodIn wsX5_allSo wsX4_bringing := goodIn_r _ [9, 10, 11, 12, 13, 14, 15, 16, 17, 18, 19, 20, 21, 22, 23, 28, 29, 30, 31, 32, 33, 34] (by decide +kernel) (by decide +kernel)
set_option maxRecDepth 20000 in
theorem gX5_allSo_X4_bringing : GoodIn wsX5_allSo (wsV RX5 25 RX4 yX4_bringing wsX4_bringing) := goodIn_app (goodIn_of _ (by decide +kernel)) ggX5_allSo_X4_bringing
theorem dX5_allSo_0 : decode cX5_allSo 0 = .ok (.iconst 0, 1) := by decide +kernel
theorem dX5_allSo_1 : decode cX5_allSo 1 = .ok (.istore_n 2, 1) := by decide +kernel
theorem dX5_allSo_2 : decode cX5_allSo 2 = .ok (.iload_n 2, 1) := by decide +kernel
theorem dX5_allSo_3 : decode cX5_allSo 3 = .ok (.aload_n 0, 1) := by decide +kernel
theorem dX5_allSo_4 : decode cX5_allSo 4 = .ok (.getfield 21, 3) := by decide +kernel
theorem dX5_allSo_7 : decode cX5_allSo 7 = .ok (.if_icmp .ge 36, 3) := by decide +kernel
theorem dX5_allSo_10 : decode cX5_allSo 10 = .ok (.aload_n 1, 1) := by decide +kernel
theorem dX5_allSo_11 : decode cX5_allSo 11 = .ok (.aload_n 0, 1) := by decide +kernel
theorem dX5_allSo_12 : decode cX5_allSo 12 = .ok (.getfield 9, 3) := by decide +kernel
theorem dX5_allSo_15 : decode cX5_allSo 15 = .ok (.iload_n 2, 1) := by decide +kernel
theorem dX5_allSo_16 : decode cX5_allSo 16 = .ok (.iaload, 1) := by decide +kernel
theorem dX5_allSo_17 : decode cX5_allSo 17 = .ok (.aload_n 0, 1) := by decide +kernel
theorem dX5_allSo_18 : decode cX5_allSo 18 = .ok (.getfield 15, 3) := by decide +kernel
theorem dX5_allSo_21 : decode cX5_allSo 21 = .ok (.iload_n 2, 1) := by decide +kernel
theorem dX5_allSo_22 : decode cX5_allSo 22 = .ok (.iaload, 1) := by decide +kernel
theorem dX5_allSo_23 : decode cX5_allSo 23 = .ok (.invokevirtual 25, 3) := by decide +kernel
theorem dX5_allSo_26 : decode cX5_allSo 26 = .ok (.aload_n 0, 1) := by decide +kernel
theorem dX5_allSo_27 : decode cX5_allSo 27 = .ok (.getfield 18, 3) := by decide +kernel
theorem dX5_allSo_30 : decode cX5_allSo 30 = .ok (.iload_n 2, 1) := by decide +kernel
theorem dX5_allSo_31 : decode cX5_allSo 31 = .ok (.iaload, 1) := by decide +kernel
theorem dX5_allSo_32 : decode cX5_allSo 32 = .ok (.if_icmp .eq 5, 3) := by decide +kernel
theorem dX5_allSo_35 : decode cX5_allSo 35 = .ok (.iconst 0, 1) := by decide +kernel
theorem dX5_allSo_36 : decode cX5_allSo 36 = .ok (.ireturn, 1) := by decide +kernel
theorem dX5_allSo_37 : decode cX5_allSo 37 = .ok (.iinc 2 1, 3) := by decide +kernel
theorem dX5_allSo_40 : decode cX5_allSo 40 = .ok (.goto (-38), 3) := by decide +kernel
theorem dX5_allSo_43 : decode cX5_allSo 43 = .ok (.iconst 1, 1) := by decide +kernel
theorem dX5_allSo_44 : decode cX5_allSo 44 = .ok (.ireturn, 1) := by decide +kernel
theorem dX6_init_0 : decode cX6_init 0 = .ok (.aload_n 0, 1) := by decide +kernel
theorem dX6_init_1 : decode cX6_init 1 = .ok (.invokespecial 3, 3) := by decide +kernel
theorem dX6_init_4 : decode cX6_init 4 = .ok (.aload_n 0, 1) := by decide +kernel
theorem dX6_init_5 : decode cX6_init 5 = .ok (.bipush 60, 2) := by decide +kernel
theorem dX6_init_7 : decode cX6_init 7 = .ok (.newarray .int, 2) := by decide +kernel
theorem dX6_init_9 : decode cX6_init 9 = .ok (.putfield 9, 3) := by decide +kernel
theorem dX6_init_12 : decode cX6_init 12 = .ok (.aload_n 0, 1) := by decide +kernel
theorem dX6_init_13 : decode cX6_init 13 = .ok (.iconst 0, 1) := by decide +kernel
theorem dX6_init_14 : decode cX6_init 14 = .ok (.putfield 15, 3) := by decide +kernel
theorem dX6_init_17 : decode cX6_init 17 = .ok (.aload_n 0, 1) := by decide +kernel
theorem dX6_init_18 : decode cX6_init 18 = .ok (.iconst 0, 1) := by decide +kernel
theorem dX6_init_19 : decode cX6_init 19 = .ok (.putfield 19, 3) := by decide +kernel
theorem dX6_init_22 : decode cX6_init 22 = .ok (.aload_n 0, 1) := by decide +kernel
theorem dX6_init_23 : decode cX6_init 23 = .ok (.iconst 0, 1) := by decide +kernel
theorem dX6_init_24 : decode cX6_init 24 = .ok (.putfield 23, 3) := by decide +kernel
theorem dX6_init_27 : decode cX6_init 27 = .ok (.return_, 1) := by decide +kernel
set_option maxRecDepth 20000 in
theorem ggX6_begin_J7_fill_53178 : GoodIn wsX6_begin wsJ7_fill_53178 := goodIn_r _ [8] (by decide +kernel) (by decide +kernel)
set_option maxRecDepth 20000 in
theorem gX6_begin_J7_fill_53178 : GoodIn wsX6_begin (va_wsS RX6 26 yJ7_fill_53178 wsJ7_fill_53178) := goodIn_app (goodIn_of _ (by decide +kernel)) ggX6_begin_J7_fill_53178
theorem dX6_begin_0 : decode cX6_begin 0 = .ok (.aload_n 0, 1) := by decide +kernel
theorem dX6_begin_1 : decode cX6_begin 1 = .ok (.getfield 9, 3) := by decide +kernel
theorem dX6_begin_4 : decode cX6_begin 4 = .ok (.iconst 0, 1) := by decide +kernel
theorem dX6_begin_5 : decode cX6_begin 5 = .ok (.invokestatic 26, 3) := by decide +kernel
theorem dX6_begin_8 : decode cX6_begin 8 = .ok (.aload_n 0, 1) := by decide +kernel
theorem dX6_begin_9 : decode cX6_begin 9 = .ok (.iconst 1, 1) := by decide +kernel
theorem dX6_begin_10 : decode cX6_begin 10 = .ok (.putfield 15, 3) := by decide +kernel
theorem dX6_begin_13 : decode cX6_begin 13 = .ok (.aload_n 0, 1) := by decide +kernel
theorem dX6_begin_14 : decode cX6_begin 14 = .ok (.iload_n 1, 1) := by decide +kernel
theorem dX6_begin_15 : decode cX6_begin 15 = .ok (.putfield 19, 3) := by decide +kernel
theorem dX6_begin_18 : decode cX6_begin 18 = .ok (.aload_n 0, 1) := by decide +kernel
theorem dX6_begin_19 : decode cX6_begin 19 = .ok (.iload_n 2, 1) := by decide +kernel
theorem dX6_begin_20 : decode cX6_begin 20 = .ok (.putfield 23, 3) := by decide +kernel
theorem dX6_begin_23 : decode cX6_begin 23 = .ok (.return_, 1) := by decide +kernel
theorem dX6_cut_0 : decode cX6_cut 0 = .ok (.aload_n 0, 1) := by decide +kernel
theorem dX6_cut_1 : decode cX6_cut 1 = .ok (.getfield 19, 3) := by decide +kernel
theorem dX6_cut_4 : decode cX6_cut 4 = .ok (.ifCond .ne 6, 3) := by decide +kernel
theorem dX6_cut_7 : decode cX6_cut 7 = .ok (.iload_n 1, 1) := by decide +kernel
theorem dX6_cut_8 : decode cX6_cut 8 = .ok (.i2b, 1) := by decide +kernel
theorem dX6_cut_9 : decode cX6_cut 9 = .ok (.ireturn, 1) := by decide +kernel
theorem dX6_cut_10 : decode cX6_cut 10 = .ok (.aload_n 0, 1) := by decide +kernel
theorem dX6_cut_11 : decode cX6_cut 11 = .ok (.getfield 19, 3) := by decide +kernel
theorem dX6_cut_14 : decode cX6_cut 14 = .ok (.iconst 1, 1) := by decide +kernel
theorem dX6_cut_15 : decode cX6_cut 15 = .ok (.if_icmp .ne 8, 3) := by decide +kernel
theorem dX6_cut_18 : decode cX6_cut 18 = .ok (.iload_n 1, 1) := by decide +kernel
theorem dX6_cut_19 : decode cX6_cut 19 = .ok (.i2s, 1) := by decide +kernel
theorem dX6_cut_20 : decode cX6_cut 20 = .ok (.goto 4, 3) := by decide +kernel
theorem dX6_cut_23 : decode cX6_cut 23 = .ok (.iload_n 1, 1) := by decide +kernel
theorem dX6_cut_24 : decode cX6_cut 24 = .ok (.ireturn, 1) := by decide +kernel
theorem dX6_faultAs_0 : decode cX6_faultAs 0 = .ok (.aload_n 0, 1) := by decide +kernel
theorem dX6_faultAs_1 : decode cX6_faultAs 1 = .ok (.getfield 15, 3) := by decide +kernel
theorem dX6_faultAs_4 : decode cX6_faultAs 4 = .ok (.ifCond .ne 5, 3) := by decide +kernel
theorem dX6_faultAs_7 : decode cX6_faultAs 7 = .ok (.iconst 1, 1) := by decide +kernel
theorem dX6_faultAs_8 : decode cX6_faultAs 8 = .ok (.ireturn, 1) := by decide +kernel
theorem dX6_faultAs_9 : decode cX6_faultAs 9 = .ok (.aload_n 0, 1) := by decide +kernel
theorem dX6_faultAs_10 : decode cX6_faultAs 10 = .ok (.getfield 19, 3) := by decide +kernel
theorem dX6_faultAs_13 : decode cX6_faultAs 13 = .ok (.iload_n 1, 1) := by decide +kernel
theorem dX6_faultAs_14 : decode cX6_faultAs 14 = .ok (.if_icmp .ne 7, 3) := by decide +kernel
theorem dX6_faultAs_17 : decode cX6_faultAs 17 = .ok (.iconst 0, 1) := by decide +kernel
theorem dX6_faultAs_18 : decode cX6_faultAs 18 = .ok (.goto 4, 3) := by decide +kernel
theorem dX6_faultAs_21 : decode cX6_faultAs 21 = .ok (.iconst 2, 1) := by decide +kernel
theorem dX6_faultAs_22 : decode cX6_faultAs 22 = .ok (.ireturn, 1) := by decide +kernel
theorem dX6_holds_0 : decode cX6_holds 0 = .ok (.iload_n 1, 1) := by decide +kernel
theorem dX6_holds_1 : decode cX6_holds 1 = .ok (.ifCond .lt 29, 3) := by decide +kernel
theorem dX6_holds_4 : decode cX6_holds 4 = .ok (.iload_n 1, 1) := by decide +kernel
theorem dX6_holds_5 : decode cX6_holds 5 = .ok (.aload_n 0, 1) := by decide +kernel
theorem dX6_holds_6 : decode cX6_holds 6 = .ok (.getfield 23, 3) := by decide +kernel
theorem dX6_holds_9 : decode cX6_holds 9 = .ok (.if_icmp .gt 21, 3) := by decide +kernel
theorem dX6_holds_12 : decode cX6_holds 12 = .ok (.iload_n 2, 1) := by decide +kernel
theorem dX6_holds_13 : decode cX6_holds 13 = .ok (.ifCond .lt 17, 3) := by decide +kernel
theorem dX6_holds_16 : decode cX6_holds 16 = .ok (.iload_n 2, 1) := by decide +kernel
theorem dX6_holds_17 : decode cX6_holds 17 = .ok (.aload_n 0, 1) := by decide +kernel
theorem dX6_holds_18 : decode cX6_holds 18 = .ok (.getfield 23, 3) := by decide +kernel
theorem dX6_holds_21 : decode cX6_holds 21 = .ok (.iload_n 1, 1) := by decide +kernel
theorem dX6_holds_22 : decode cX6_holds 22 = .ok (.isub, 1) := by decide +kernel
theorem dX6_holds_23 : decode cX6_holds 23 = .ok (.if_icmp .gt 7, 3) := by decide +kernel
theorem dX6_holds_26 : decode cX6_holds 26 = .ok (.iconst 1, 1) := by decide +kernel
theorem dX6_holds_27 : decode cX6_holds 27 = .ok (.goto 4, 3) := by decide +kernel
theorem dX6_holds_30 : decode cX6_holds 30 = .ok (.iconst 0, 1) := by decide +kernel
theorem dX6_holds_31 : decode cX6_holds 31 = .ok (.ireturn, 1) := by decide +kernel
set_option maxRecDepth 20000 in
theorem ggX7_firstFault_X7_mayStand : GoodIn wsX7_firstFault wsX7_mayStand := goodIn_r _ [5, 6, 7, 4, 8, 9, 10, 11] (by decide +kernel) (by decide +kernel)
set_option maxRecDepth 20000 in
theorem gX7_firstFault_X7_mayStand : GoodIn wsX7_firstFault (va_wsS RX7 15 yX7_mayStand wsX7_mayStand) := goodIn_app (goodIn_of _ (by decide +kernel)) ggX7_firstFault_X7_mayStand
theorem dX7_firstFault_0 : decode cX7_firstFault 0 = .ok (.iconst 0, 1) := by decide +kernel
theorem dX7_firstFault_1 : decode cX7_firstFault 1 = .ok (.istore_n 3, 1) := by decide +kernel
theorem dX7_firstFault_2 : decode cX7_firstFault 2 = .ok (.iload_n 3, 1) := by decide +kernel
theorem dX7_firstFault_3 : decode cX7_firstFault 3 = .ok (.iload_n 2, 1) := by decide +kernel
theorem dX7_firstFault_4 : decode cX7_firstFault 4 = .ok (.if_icmp .ge 26, 3) := by decide +kernel
theorem dX7_firstFault_7 : decode cX7_firstFault 7 = .ok (.iload_n 3, 1) := by decide +kernel
theorem dX7_firstFault_8 : decode cX7_firstFault 8 = .ok (.aload_n 0, 1) := by decide +kernel
theorem dX7_firstFault_9 : decode cX7_firstFault 9 = .ok (.getfield 9, 3) := by decide +kernel
theorem dX7_firstFault_12 : decode cX7_firstFault 12 = .ok (.iload_n 1, 1) := by decide +kernel
theorem dX7_firstFault_13 : decode cX7_firstFault 13 = .ok (.iload_n 3, 1) := by decide +kernel
theorem dX7_firstFault_14 : decode cX7_firstFault 14 = .ok (.iadd, 1) := by decide +kernel
theorem dX7_firstFault_15 : decode cX7_firstFault 15 = .ok (.iaload, 1) := by decide +kernel
theorem dX7_firstFault_16 : decode cX7_firstFault 16 = .ok (.invokestatic 15, 3) := by decide +kernel
theorem dX7_firstFault_19 : decode cX7_firstFault 19 = .ok (.ifCond .ne 5, 3) := by decide +kernel
theorem dX7_firstFault_22 : decode cX7_firstFault 22 = .ok (.iload_n 3, 1) := by decide +kernel
theorem dX7_firstFault_23 : decode cX7_firstFault 23 = .ok (.ireturn, 1) := by decide +kernel
theorem dX7_firstFault_24 : decode cX7_firstFault 24 = .ok (.iinc 3 1, 3) := by decide +kernel
theorem dX7_firstFault_27 : decode cX7_firstFault 27 = .ok (.goto (-25), 3) := by decide +kernel
theorem dX7_firstFault_30 : decode cX7_firstFault 30 = .ok (.iload_n 2, 1) := by decide +kernel
theorem dX7_firstFault_31 : decode cX7_firstFault 31 = .ok (.bipush 14, 2) := by decide +kernel
theorem dX7_firstFault_33 : decode cX7_firstFault 33 = .ok (.if_icmp .lt 15, 3) := by decide +kernel
theorem dX7_firstFault_36 : decode cX7_firstFault 36 = .ok (.iload_n 2, 1) := by decide +kernel
theorem dX7_firstFault_37 : decode cX7_firstFault 37 = .ok (.iconst 4, 1) := by decide +kernel
theorem dX7_firstFault_38 : decode cX7_firstFault 38 = .ok (.isub, 1) := by decide +kernel
theorem dX7_firstFault_39 : decode cX7_firstFault 39 = .ok (.iconst 5, 1) := by decide +kernel
theorem dX7_firstFault_40 : decode cX7_firstFault 40 = .ok (.irem, 1) := by decide +kernel
theorem dX7_firstFault_41 : decode cX7_firstFault 41 = .ok (.ifCond .ne 7, 3) := by decide +kernel
theorem dX7_firstFault_44 : decode cX7_firstFault 44 = .ok (.iconst 1, 1) := by decide +kernel
theorem dX7_firstFault_45 : decode cX7_firstFault 45 = .ok (.goto 4, 3) := by decide +kernel
theorem dX7_firstFault_48 : decode cX7_firstFault 48 = .ok (.iconst 0, 1) := by decide +kernel
theorem dX7_firstFault_49 : decode cX7_firstFault 49 = .ok (.istore_n 3, 1) := by decide +kernel
theorem dX7_firstFault_50 : decode cX7_firstFault 50 = .ok (.iload_n 3, 1) := by decide +kernel
theorem dX7_firstFault_51 : decode cX7_firstFault 51 = .ok (.ifCond .eq 8, 3) := by decide +kernel
theorem dX7_firstFault_54 : decode cX7_firstFault 54 = .ok (.bipush (-9), 2) := by decide +kernel
theorem dX7_firstFault_56 : decode cX7_firstFault 56 = .ok (.goto 4, 3) := by decide +kernel
theorem dX7_firstFault_59 : decode cX7_firstFault 59 = .ok (.iload_n 2, 1) := by decide +kernel
theorem dX7_firstFault_60 : decode cX7_firstFault 60 = .ok (.ireturn, 1) := by decide +kernel
set_option maxRecDepth 20000 in
theorem ggX7_mayStand_X7_isDigit : GoodIn wsX7_mayStand wsX7_isDigit := goodIn_r _ [4] (by decide +kernel) (by decide +kernel)
set_option maxRecDepth 20000 in
theorem gX7_mayStand_X7_isDigit : GoodIn wsX7_mayStand (va_wsS RX7 21 yX7_isDigit wsX7_isDigit) := goodIn_app (goodIn_of _ (by decide +kernel)) ggX7_mayStand_X7_isDigit
set_option maxRecDepth 20000 in
theorem ggX7_mayStand_X7_kindOf : GoodIn wsX7_mayStand wsX7_kindOf := goodIn_r _ [7] (by decide +kernel) (by decide +kernel)
set_option maxRecDepth 20000 in
theorem gX7_mayStand_X7_kindOf : GoodIn wsX7_mayStand (va_wsS RX7 24 yX7_kindOf wsX7_kindOf) := goodIn_app (goodIn_of _ (by decide +kernel)) ggX7_mayStand_X7_kindOf
theorem dX7_mayStand_0 : decode cX7_mayStand 0 = .ok (.iload_n 0, 1) := by decide +kernel
theorem dX7_mayStand_1 : decode cX7_mayStand 1 = .ok (.ifCond .ne 15, 3) := by decide +kernel
theorem dX7_mayStand_4 : decode cX7_mayStand 4 = .ok (.iload_n 1, 1) := by decide +kernel
theorem dX7_mayStand_5 : decode cX7_mayStand 5 = .ok (.bipush 112, 2) := by decide +kernel
theorem dX7_mayStand_7 : decode cX7_mayStand 7 = .ok (.if_icmp .ne 7, 3) := by decide +kernel
theorem dX7_mayStand_10 : decode cX7_mayStand 10 = .ok (.iconst 1, 1) := by decide +kernel
theorem dX7_mayStand_11 : decode cX7_mayStand 11 = .ok (.goto 4, 3) := by decide +kernel
theorem dX7_mayStand_14 : decode cX7_mayStand 14 = .ok (.iconst 0, 1) := by decide +kernel
theorem dX7_mayStand_15 : decode cX7_mayStand 15 = .ok (.ireturn, 1) := by decide +kernel
theorem dX7_mayStand_16 : decode cX7_mayStand 16 = .ok (.iload_n 0, 1) := by decide +kernel
theorem dX7_mayStand_17 : decode cX7_mayStand 17 = .ok (.iconst 4, 1) := by decide +kernel
theorem dX7_mayStand_18 : decode cX7_mayStand 18 = .ok (.if_icmp .ge 10, 3) := by decide +kernel
theorem dX7_mayStand_21 : decode cX7_mayStand 21 = .ok (.iload_n 1, 1) := by decide +kernel
theorem dX7_mayStand_22 : decode cX7_mayStand 22 = .ok (.bipush 10, 2) := by decide +kernel
theorem dX7_mayStand_24 : decode cX7_mayStand 24 = .ok (.invokestatic 21, 3) := by decide +kernel
theorem dX7_mayStand_27 : decode cX7_mayStand 27 = .ok (.ireturn, 1) := by decide +kernel
theorem dX7_mayStand_28 : decode cX7_mayStand 28 = .ok (.iload_n 0, 1) := by decide +kernel
theorem dX7_mayStand_29 : decode cX7_mayStand 29 = .ok (.bipush 34, 2) := by decide +kernel
theorem dX7_mayStand_31 : decode cX7_mayStand 31 = .ok (.if_icmp .lt 5, 3) := by decide +kernel
theorem dX7_mayStand_34 : decode cX7_mayStand 34 = .ok (.iconst 0, 1) := by decide +kernel
theorem dX7_mayStand_35 : decode cX7_mayStand 35 = .ok (.ireturn, 1) := by decide +kernel
theorem dX7_mayStand_36 : decode cX7_mayStand 36 = .ok (.iload_n 0, 1) := by decide +kernel
theorem dX7_mayStand_37 : decode cX7_mayStand 37 = .ok (.iconst 4, 1) := by decide +kernel
theorem dX7_mayStand_38 : decode cX7_mayStand 38 = .ok (.isub, 1) := by decide +kernel
theorem dX7_mayStand_39 : decode cX7_mayStand 39 = .ok (.iconst 5, 1) := by decide +kernel
theorem dX7_mayStand_40 : decode cX7_mayStand 40 = .ok (.irem, 1) := by decide +kernel
theorem dX7_mayStand_41 : decode cX7_mayStand 41 = .ok (.tableswitch 65 0 3 #[31, 43, 65, 58], 31) := by decide +kernel
theorem dX7_mayStand_72 : decode cX7_mayStand 72 = .ok (.iload_n 1, 1) := by decide +kernel
theorem dX7_mayStand_73 : decode cX7_mayStand 73 = .ok (.bipush 59, 2) := by decide +kernel
theorem dX7_mayStand_75 : decode cX7_mayStand 75 = .ok (.if_icmp .ne 7, 3) := by decide +kernel
theorem dX7_mayStand_78 : decode cX7_mayStand 78 = .ok (.iconst 1, 1) := by decide +kernel
theorem dX7_mayStand_79 : decode cX7_mayStand 79 = .ok (.goto 4, 3) := by decide +kernel
theorem dX7_mayStand_82 : decode cX7_mayStand 82 = .ok (.iconst 0, 1) := by decide +kernel
theorem dX7_mayStand_83 : decode cX7_mayStand 83 = .ok (.ireturn, 1) := by decide +kernel
theorem dX7_mayStand_84 : decode cX7_mayStand 84 = .ok (.iload_n 1, 1) := by decide +kernel
theorem dX7_mayStand_85 : decode cX7_mayStand 85 = .ok (.invokestatic 24, 3) := by decide +kernel
theorem dX7_mayStand_88 : decode cX7_mayStand 88 = .ok (.bipush (-9), 2) := by decide +kernel
theorem dX7_mayStand_90 : decode cX7_mayStand 90 = .ok (.if_icmp .eq 7, 3) := by decide +kernel
theorem dX7_mayStand_93 : decode cX7_mayStand 93 = .ok (.iconst 1, 1) := by decide +kernel
theorem dX7_mayStand_94 : decode cX7_mayStand 94 = .ok (.goto 4, 3) := by decide +kernel
theorem dX7_mayStand_97 : decode cX7_mayStand 97 = .ok (.iconst 0, 1) := by decide +kernel
theorem dX7_mayStand_98 : decode cX7_mayStand 98 = .ok (.ireturn, 1) := by decide +kernel
theorem dX7_mayStand_99 : decode cX7_mayStand 99 = .ok (.iload_n 1, 1) := by decide +kernel
theorem dX7_mayStand_100 : decode cX7_mayStand 100 = .ok (.bipush 8, 2) := by decide +kernel
theorem dX7_mayStand_102 : decode cX7_mayStand 102 = .ok (.invokestatic 21, 3) := by decide +kernel
theorem dX7_mayStand_105 : decode cX7_mayStand 105 = .ok (.ireturn, 1) := by decide +kernel
theorem dX7_mayStand_106 : decode cX7_mayStand 106 = .ok (.iload_n 1, 1) := by decide +kernel
theorem dX7_mayStand_107 : decode cX7_mayStand 107 = .ok (.bipush 10, 2) := by decide +kernel
theorem dX7_mayStand_109 : decode cX7_mayStand 109 = .ok (.invokestatic 21, 3) := by decide +kernel
theorem dX7_mayStand_112 : decode cX7_mayStand 112 = .ok (.ireturn, 1) := by decide +kernel
theorem dX7_isDigit_0 : decode cX7_isDigit 0 = .ok (.iload_n 0, 1) := by decide +kernel
theorem dX7_isDigit_1 : decode cX7_isDigit 1 = .ok (.bipush 48, 2) := by decide +kernel
theorem dX7_isDigit_3 : decode cX7_isDigit 3 = .ok (.if_icmp .lt 15, 3) := by decide +kernel
theorem dX7_isDigit_6 : decode cX7_isDigit 6 = .ok (.iload_n 0, 1) := by decide +kernel
theorem dX7_isDigit_7 : decode cX7_isDigit 7 = .ok (.bipush 48, 2) := by decide +kernel
theorem dX7_isDigit_9 : decode cX7_isDigit 9 = .ok (.iload_n 1, 1) := by decide +kernel
theorem dX7_isDigit_10 : decode cX7_isDigit 10 = .ok (.iadd, 1) := by decide +kernel
theorem dX7_isDigit_11 : decode cX7_isDigit 11 = .ok (.if_icmp .ge 7, 3) := by decide +kernel
theorem dX7_isDigit_14 : decode cX7_isDigit 14 = .ok (.iconst 1, 1) := by decide +kernel
theorem dX7_isDigit_15 : decode cX7_isDigit 15 = .ok (.goto 4, 3) := by decide +kernel
theorem dX7_isDigit_18 : decode cX7_isDigit 18 = .ok (.iconst 0, 1) := by decide +kernel
theorem dX7_isDigit_19 : decode cX7_isDigit 19 = .ok (.ireturn, 1) := by decide +kernel
theorem dX7_kindOf_0 : decode cX7_kindOf 0 = .ok (.iload_n 0, 1) := by decide +kernel
theorem dX7_kindOf_1 : decode cX7_kindOf 1 = .ok (.lookupswitch 41 #[(103, 35), (104, 39), (116, 37)], 35) := by decide +kernel
theorem dX7_kindOf_36 : decode cX7_kindOf 36 = .ok (.iconst 0, 1) := by decide +kernel
theorem dX7_kindOf_37 : decode cX7_kindOf 37 = .ok (.ireturn, 1) := by decide +kernel
theorem dX7_kindOf_38 : decode cX7_kindOf 38 = .ok (.iconst 1, 1) := by decide +kernel
theorem dX7_kindOf_39 : decode cX7_kindOf 39 = .ok (.ireturn, 1) := by decide +kernel
theorem dX7_kindOf_40 : decode cX7_kindOf 40 = .ok (.iconst 2, 1) := by decide +kernel
theorem dX7_kindOf_41 : decode cX7_kindOf 41 = .ok (.ireturn, 1) := by decide +kernel
theorem dX7_kindOf_42 : decode cX7_kindOf 42 = .ok (.bipush (-9), 2) := by decide +kernel
theorem dX7_kindOf_44 : decode cX7_kindOf 44 = .ok (.ireturn, 1) := by decide +kernel
set_option maxRecDepth 20000 in
theorem ggX7_read_X7_kindOf : GoodIn wsX7_read wsX7_kindOf := goodIn_r _ [12] (by decide +kernel) (by decide +kernel)
set_option maxRecDepth 20000 in
theorem gX7_read_X7_kindOf : GoodIn wsX7_read (va_wsS RX7 24 yX7_kindOf wsX7_kindOf) := goodIn_app (goodIn_of _ (by decide +kernel)) ggX7_read_X7_kindOf
theorem dX7_read_0 : decode cX7_read 0 = .ok (.aload_n 0, 1) := by decide +kernel
theorem dX7_read_1 : decode cX7_read 1 = .ok (.getfield 9, 3) := by decide +kernel
theorem dX7_read_4 : decode cX7_read 4 = .ok (.astore 4, 2) := by decide +kernel
theorem dX7_read_6 : decode cX7_read 6 = .ok (.iconst 0, 1) := by decide +kernel
theorem dX7_read_7 : decode cX7_read 7 = .ok (.istore 5, 2) := by decide +kernel
theorem dX7_read_9 : decode cX7_read 9 = .ok (.iload 5, 2) := by decide +kernel
theorem dX7_read_11 : decode cX7_read 11 = .ok (.iconst 3, 1) := by decide +kernel
theorem dX7_read_12 : decode cX7_read 12 = .ok (.if_icmp .ge 28, 3) := by decide +kernel
theorem dX7_read_15 : decode cX7_read 15 = .ok (.aload_n 3, 1) := by decide +kernel
theorem dX7_read_16 : decode cX7_read 16 = .ok (.getfield 28, 3) := by decide +kernel
theorem dX7_read_19 : decode cX7_read 19 = .ok (.iload 5, 2) := by decide +kernel
theorem dX7_read_21 : decode cX7_read 21 = .ok (.aload 4, 2) := by decide +kernel
theorem dX7_read_23 : decode cX7_read 23 = .ok (.iload_n 1, 1) := by decide +kernel
theorem dX7_read_24 : decode cX7_read 24 = .ok (.iconst 1, 1) := by decide +kernel
theorem dX7_read_25 : decode cX7_read 25 = .ok (.iadd, 1) := by decide +kernel
theorem dX7_read_26 : decode cX7_read 26 = .ok (.iload 5, 2) := by decide +kernel
theorem dX7_read_28 : decode cX7_read 28 = .ok (.iadd, 1) := by decide +kernel
theorem dX7_read_29 : decode cX7_read 29 = .ok (.iaload, 1) := by decide +kernel
theorem dX7_read_30 : decode cX7_read 30 = .ok (.bipush 48, 2) := by decide +kernel
theorem dX7_read_32 : decode cX7_read 32 = .ok (.isub, 1) := by decide +kernel
theorem dX7_read_33 : decode cX7_read 33 = .ok (.iastore, 1) := by decide +kernel
theorem dX7_read_34 : decode cX7_read 34 = .ok (.iinc 5 1, 3) := by decide +kernel
theorem dX7_read_37 : decode cX7_read 37 = .ok (.goto (-28), 3) := by decide +kernel
theorem dX7_read_40 : decode cX7_read 40 = .ok (.aload_n 3, 1) := by decide +kernel
theorem dX7_read_41 : decode cX7_read 41 = .ok (.iload_n 2, 1) := by decide +kernel
theorem dX7_read_42 : decode cX7_read 42 = .ok (.iconst 4, 1) := by decide +kernel
theorem dX7_read_43 : decode cX7_read 43 = .ok (.isub, 1) := by decide +kernel
theorem dX7_read_44 : decode cX7_read 44 = .ok (.iconst 5, 1) := by decide +kernel
theorem dX7_read_45 : decode cX7_read 45 = .ok (.idiv, 1) := by decide +kernel
theorem dX7_read_46 : decode cX7_read 46 = .ok (.putfield 33, 3) := by decide +kernel
theorem dX7_read_49 : decode cX7_read 49 = .ok (.iconst 0, 1) := by decide +kernel
theorem dX7_read_50 : decode cX7_read 50 = .ok (.istore 5, 2) := by decide +kernel
theorem dX7_read_52 : decode cX7_read 52 = .ok (.iload 5, 2) := by decide +kernel
theorem dX7_read_54 : decode cX7_read 54 = .ok (.aload_n 3, 1) := by decide +kernel
theorem dX7_read_55 : decode cX7_read 55 = .ok (.getfield 33, 3) := by decide +kernel
theorem dX7_read_58 : decode cX7_read 58 = .ok (.if_icmp .ge 88, 3) := by decide +kernel
theorem dX7_read_61 : decode cX7_read 61 = .ok (.iload_n 1, 1) := by decide +kernel
theorem dX7_read_62 : decode cX7_read 62 = .ok (.iconst 4, 1) := by decide +kernel
theorem dX7_read_63 : decode cX7_read 63 = .ok (.iadd, 1) := by decide +kernel
theorem dX7_read_64 : decode cX7_read 64 = .ok (.iload 5, 2) := by decide +kernel
theorem dX7_read_66 : decode cX7_read 66 = .ok (.iconst 5, 1) := by decide +kernel
theorem dX7_read_67 : decode cX7_read 67 = .ok (.imul, 1) := by decide +kernel
theorem dX7_read_68 : decode cX7_read 68 = .ok (.iadd, 1) := by decide +kernel
theorem dX7_read_69 : decode cX7_read 69 = .ok (.istore 6, 2) := by decide +kernel
theorem dX7_read_71 : decode cX7_read 71 = .ok (.aload_n 3, 1) := by decide +kernel
theorem dX7_read_72 : decode cX7_read 72 = .ok (.getfield 37, 3) := by decide +kernel
theorem dX7_read_75 : decode cX7_read 75 = .ok (.iload 5, 2) := by decide +kernel
theorem dX7_read_77 : decode cX7_read 77 = .ok (.aaload, 1) := by decide +kernel
theorem dX7_read_78 : decode cX7_read 78 = .ok (.astore 7, 2) := by decide +kernel
theorem dX7_read_80 : decode cX7_read 80 = .ok (.aload 7, 2) := by decide +kernel
theorem dX7_read_82 : decode cX7_read 82 = .ok (.aload 4, 2) := by decide +kernel
theorem dX7_read_84 : decode cX7_read 84 = .ok (.iload 6, 2) := by decide +kernel
theorem dX7_read_86 : decode cX7_read 86 = .ok (.iconst 1, 1) := by decide +kernel
theorem dX7_read_87 : decode cX7_read 87 = .ok (.iadd, 1) := by decide +kernel
theorem dX7_read_88 : decode cX7_read 88 = .ok (.iaload, 1) := by decide +kernel
theorem dX7_read_89 : decode cX7_read 89 = .ok (.invokestatic 24, 3) := by decide +kernel
theorem dX7_read_92 : decode cX7_read 92 = .ok (.putfield 41, 3) := by decide +kernel
theorem dX7_read_95 : decode cX7_read 95 = .ok (.aload 7, 2) := by decide +kernel
theorem dX7_read_97 : decode cX7_read 97 = .ok (.aload 4, 2) := by decide +kernel
theorem dX7_read_99 : decode cX7_read 99 = .ok (.iload 6, 2) := by decide +kernel
theorem dX7_read_101 : decode cX7_read 101 = .ok (.iconst 2, 1) := by decide +kernel
theorem dX7_read_102 : decode cX7_read 102 = .ok (.iadd, 1) := by decide +kernel
theorem dX7_read_103 : decode cX7_read 103 = .ok (.iaload, 1) := by decide +kernel
theorem dX7_read_104 : decode cX7_read 104 = .ok (.bipush 48, 2) := by decide +kernel
theorem dX7_read_106 : decode cX7_read 106 = .ok (.isub, 1) := by decide +kernel
theorem dX7_read_107 : decode cX7_read 107 = .ok (.putfield 46, 3) := by decide +kernel
theorem dX7_read_110 : decode cX7_read 110 = .ok (.aload 7, 2) := by decide +kernel
theorem dX7_read_112 : decode cX7_read 112 = .ok (.aload 4, 2) := by decide +kernel
theorem dX7_read_114 : decode cX7_read 114 = .ok (.iload 6, 2) := by decide +kernel
theorem dX7_read_116 : decode cX7_read 116 = .ok (.iconst 3, 1) := by decide +kernel
theorem dX7_read_117 : decode cX7_read 117 = .ok (.iadd, 1) := by decide +kernel
theorem dX7_read_118 : decode cX7_read 118 = .ok (.iaload, 1) := by decide +kernel
theorem dX7_read_119 : decode cX7_read 119 = .ok (.bipush 48, 2) := by decide +kernel
theorem dX7_read_121 : decode cX7_read 121 = .ok (.isub, 1) := by decide +kernel
theorem dX7_read_122 : decode cX7_read 122 = .ok (.putfield 49, 3) := by decide +kernel
theorem dX7_read_125 : decode cX7_read 125 = .ok (.aload 7, 2) := by decide +kernel
theorem dX7_read_127 : decode cX7_read 127 = .ok (.aload 4, 2) := by decide +kernel
theorem dX7_read_129 : decode cX7_read 129 = .ok (.iload 6, 2) := by decide +kernel
theorem dX7_read_131 : decode cX7_read 131 = .ok (.iconst 4, 1) := by decide +kernel
theorem dX7_read_132 : decode cX7_read 132 = .ok (.iadd, 1) := by decide +kernel
theorem dX7_read_133 : decode cX7_read 133 = .ok (.iaload, 1) := by decide +kernel
theorem dX7_read_134 : decode cX7_read 134 = .ok (.bipush 48, 2) := by decide +kernel
theorem dX7_read_136 : decode cX7_read 136 = .ok (.isub, 1) := by decide +kernel
theorem dX7_read_137 : decode cX7_read 137 = .ok (.putfield 52, 3) := by decide +kernel
theorem dX7_read_140 : decode cX7_read 140 = .ok (.iinc 5 1, 3) := by decide +kernel
theorem dX7_read_143 : decode cX7_read 143 = .ok (.goto (-91), 3) := by decide +kernel
theorem dX7_read_146 : decode cX7_read 146 = .ok (.return_, 1) := by decide +kernel
theorem dX8_init_0 : decode cX8_init 0 = .ok (.aload_n 0, 1) := by decide +kernel
theorem dX8_init_1 : decode cX8_init 1 = .ok (.invokespecial 3, 3) := by decide +kernel
theorem dX8_init_4 : decode cX8_init 4 = .ok (.aload_n 0, 1) := by decide +kernel
theorem dX8_init_5 : decode cX8_init 5 = .ok (.iconst 0, 1) := by decide +kernel
theorem dX8_init_6 : decode cX8_init 6 = .ok (.putfield 9, 3) := by decide +kernel
theorem dX8_init_9 : decode cX8_init 9 = .ok (.aload_n 0, 1) := by decide +kernel
theorem dX8_init_10 : decode cX8_init 10 = .ok (.iconst 0, 1) := by decide +kernel
theorem dX8_init_11 : decode cX8_init 11 = .ok (.putfield 15, 3) := by decide +kernel
theorem dX8_init_14 : decode cX8_init 14 = .ok (.aload_n 0, 1) := by decide +kernel
theorem dX8_init_15 : decode cX8_init 15 = .ok (.iconst 0, 1) := by decide +kernel
theorem dX8_init_16 : decode cX8_init 16 = .ok (.putfield 18, 3) := by decide +kernel
theorem dX8_init_19 : decode cX8_init 19 = .ok (.aload_n 0, 1) := by decide +kernel
theorem dX8_init_20 : decode cX8_init 20 = .ok (.bipush (-9), 2) := by decide +kernel
theorem dX8_init_22 : decode cX8_init 22 = .ok (.putfield 21, 3) := by decide +kernel
theorem dX8_init_25 : decode cX8_init 25 = .ok (.return_, 1) := by decide +kernel
set_option maxRecDepth 20000 in
theorem ggX8_tells_X9_isBelow : GoodIn wsX8_tells wsX9_isBelow := goodIn_r _ [3] (by decide +kernel) (by decide +kernel)
set_option maxRecDepth 20000 in
theorem gX8_tells_X9_isBelow_n24 : GoodIn wsX8_tells (wsX9_isBelow) := ggX8_tells_X9_isBelow
set_option maxRecDepth 20000 in
theorem ggX8_tells_X8_isLearner : GoodIn wsX8_tells wsX8_isLearner := goodIn_r _ [7] (by decide +kernel) (by decide +kernel)
set_option maxRecDepth 20000 in
theorem gX8_tells_X8_isLearner : GoodIn wsX8_tells (va_wsS RX8 28 yX8_isLearner wsX8_isLearner) := goodIn_app (goodIn_of _ (by decide +kernel)) ggX8_tells_X8_isLearner
theorem dX8_tells_0 : decode cX8_tells 0 = .ok (.iload_n 0, 1) := by decide +kernel
theorem dX8_tells_1 : decode cX8_tells 1 = .ok (.iconst 5, 1) := by decide +kernel
theorem dX8_tells_2 : decode cX8_tells 2 = .ok (.invokestatic 24, 3) := by decide +kernel
theorem dX8_tells_5 : decode cX8_tells 5 = .ok (.ifCond .ne 10, 3) := by decide +kernel
theorem dX8_tells_8 : decode cX8_tells 8 = .ok (.iload_n 0, 1) := by decide +kernel
theorem dX8_tells_9 : decode cX8_tells 9 = .ok (.invokestatic 28, 3) := by decide +kernel
theorem dX8_tells_12 : decode cX8_tells 12 = .ok (.ifCond .eq 7, 3) := by decide +kernel
theorem dX8_tells_15 : decode cX8_tells 15 = .ok (.iconst 1, 1) := by decide +kernel
theorem dX8_tells_16 : decode cX8_tells 16 = .ok (.goto 4, 3) := by decide +kernel
theorem dX8_tells_19 : decode cX8_tells 19 = .ok (.iconst 0, 1) := by decide +kernel
theorem dX8_tells_20 : decode cX8_tells 20 = .ok (.ireturn, 1) := by decide +kernel
theorem dX8_isLearner_0 : decode cX8_isLearner 0 = .ok (.iload_n 0, 1) := by decide +kernel
theorem dX8_isLearner_1 : decode cX8_isLearner 1 = .ok (.bipush 10, 2) := by decide +kernel
theorem dX8_isLearner_3 : decode cX8_isLearner 3 = .ok (.if_icmp .lt 13, 3) := by decide +kernel
theorem dX8_isLearner_6 : decode cX8_isLearner 6 = .ok (.iload_n 0, 1) := by decide +kernel
theorem dX8_isLearner_7 : decode cX8_isLearner 7 = .ok (.bipush 16, 2) := by decide +kernel
theorem dX8_isLearner_9 : decode cX8_isLearner 9 = .ok (.if_icmp .ge 7, 3) := by decide +kernel
theorem dX8_isLearner_12 : decode cX8_isLearner 12 = .ok (.iconst 1, 1) := by decide +kernel
theorem dX8_isLearner_13 : decode cX8_isLearner 13 = .ok (.goto 4, 3) := by decide +kernel
theorem dX8_isLearner_16 : decode cX8_isLearner 16 = .ok (.iconst 0, 1) := by decide +kernel
theorem dX8_isLearner_17 : decode cX8_isLearner 17 = .ok (.ireturn, 1) := by decide +kernel
set_option maxRecDepth 20000 in
theorem ggX8_refusal_X8_pairRefusal : GoodIn wsX8_refusal wsX8_pairRefusal := goodIn_r _ [5, 6, 7, 8, 9, 10, 11, 12, 13, 14, 15, 16, 17, 18, 19, 20, 4, 21, 26, 27, 28] (by decide +kernel) (by decide +kernel)
set_option maxRecDepth 20000 in
theorem gX8_refusal_X8_pairRefusal : GoodIn wsX8_refusal (va_wsS RX8 38 yX8_pairRefusal wsX8_pairRefusal) := goodIn_app (goodIn_of _ (by decide +kernel)) ggX8_refusal_X8_pairRefusal
theorem dX8_refusal_0 : decode cX8_refusal 0 = .ok (.iconst 0, 1) := by decide +kernel
theorem dX8_refusal_1 : decode cX8_refusal 1 = .ok (.istore 4, 2) := by decide +kernel
theorem dX8_refusal_3 : decode cX8_refusal 3 = .ok (.iload 4, 2) := by decide +kernel
theorem dX8_refusal_5 : decode cX8_refusal 5 = .ok (.iload_n 2, 1) := by decide +kernel
theorem dX8_refusal_6 : decode cX8_refusal 6 = .ok (.if_icmp .ge 47, 3) := by decide +kernel
theorem dX8_refusal_9 : decode cX8_refusal 9 = .ok (.iload_n 1, 1) := by decide +kernel
theorem dX8_refusal_10 : decode cX8_refusal 10 = .ok (.iconst 2, 1) := by decide +kernel
theorem dX8_refusal_11 : decode cX8_refusal 11 = .ok (.iload 4, 2) := by decide +kernel
theorem dX8_refusal_13 : decode cX8_refusal 13 = .ok (.imul, 1) := by decide +kernel
theorem dX8_refusal_14 : decode cX8_refusal 14 = .ok (.iadd, 1) := by decide +kernel
theorem dX8_refusal_15 : decode cX8_refusal 15 = .ok (.istore 5, 2) := by decide +kernel
theorem dX8_refusal_17 : decode cX8_refusal 17 = .ok (.aload_n 0, 1) := by decide +kernel
theorem dX8_refusal_18 : decode cX8_refusal 18 = .ok (.getfield 32, 3) := by decide +kernel
theorem dX8_refusal_21 : decode cX8_refusal 21 = .ok (.iload 5, 2) := by decide +kernel
theorem dX8_refusal_23 : decode cX8_refusal 23 = .ok (.iaload, 1) := by decide +kernel
theorem dX8_refusal_24 : decode cX8_refusal 24 = .ok (.aload_n 0, 1) := by decide +kernel
theorem dX8_refusal_25 : decode cX8_refusal 25 = .ok (.getfield 32, 3) := by decide +kernel
theorem dX8_refusal_28 : decode cX8_refusal 28 = .ok (.iload 5, 2) := by decide +kernel
theorem dX8_refusal_30 : decode cX8_refusal 30 = .ok (.iconst 1, 1) := by decide +kernel
theorem dX8_refusal_31 : decode cX8_refusal 31 = .ok (.iadd, 1) := by decide +kernel
theorem dX8_refusal_32 : decode cX8_refusal 32 = .ok (.iaload, 1) := by decide +kernel
theorem dX8_refusal_33 : decode cX8_refusal 33 = .ok (.aload_n 3, 1) := by decide +kernel
theorem dX8_refusal_34 : decode cX8_refusal 34 = .ok (.invokestatic 38, 3) := by decide +kernel
theorem dX8_refusal_37 : decode cX8_refusal 37 = .ok (.istore 6, 2) := by decide +kernel
theorem dX8_refusal_39 : decode cX8_refusal 39 = .ok (.iload 6, 2) := by decide +kernel
theorem dX8_refusal_41 : decode cX8_refusal 41 = .ok (.ifCond .eq 6, 3) := by decide +kernel
theorem dX8_refusal_44 : decode cX8_refusal 44 = .ok (.iload 6, 2) := by decide +kernel
theorem dX8_refusal_46 : decode cX8_refusal 46 = .ok (.ireturn, 1) := by decide +kernel
theorem dX8_refusal_47 : decode cX8_refusal 47 = .ok (.iinc 4 1, 3) := by decide +kernel
theorem dX8_refusal_50 : decode cX8_refusal 50 = .ok (.goto (-47), 3) := by decide +kernel
theorem dX8_refusal_53 : decode cX8_refusal 53 = .ok (.iconst 0, 1) := by decide +kernel
theorem dX8_refusal_54 : decode cX8_refusal 54 = .ok (.ireturn, 1) := by decide +kernel
set_option maxRecDepth 20000 in
theorem ggX8_pairRefusal_X4_hasMatter : GoodIn wsX8_pairRefusal wsX4_hasMatter := goodIn_r _ [5, 6, 7, 8, 9, 18, 19, 20] (by decide +kernel) (by decide +kernel)
set_option maxRecDepth 20000 in
theorem gX8_pairRefusal_X4_hasMatter : GoodIn wsX8_pairRefusal (wsV RX8 42 RX4 yX4_hasMatter wsX4_hasMatter) := goodIn_app (goodIn_of _ (by decide +kernel)) ggX8_pairRefusal_X4_hasMatter
set_option maxRecDepth 20000 in
theorem ggX8_pairRefusal_X4_hasPerson : GoodIn wsX8_pairRefusal wsX4_hasPerson := goodIn_r _ [13, 6, 7, 8, 9, 18, 19, 20] (by decide +kernel) (by decide +kernel)
set_option maxRecDepth 20000 in
theorem gX8_pairRefusal_X4_hasPerson : GoodIn wsX8_pairRefusal (wsV RX8 47 RX4 yX4_hasPerson wsX4_hasPerson) := goodIn_app (goodIn_of _ (by decide +kernel)) ggX8_pairRefusal_X4_hasPerson
set_option maxRecDepth 20000 in
theorem ggX8_pairRefusal_X8_isLearner : GoodIn wsX8_pairRefusal wsX8_isLearner := goodIn_r _ [17] (by decide +kernel) (by decide +kernel)
set_option maxRecDepth 20000 in
theorem gX8_pairRefusal_X8_isLearner : GoodIn wsX8_pairRefusal (va_wsS RX8 28 yX8_isLearner wsX8_isLearner) := goodIn_app (goodIn_of _ (by decide +kernel)) ggX8_pairRefusal_X8_isLearner
set_option maxRecDepth 20000 in
theorem ggX8_pairRefusal_X9_isBelow : GoodIn wsX8_pairRefusal wsX9_isBelow := goodIn_r _ [9] (by decide +kernel) (by decide +kernel)
set_option maxRecDepth 20000 in
theorem gX8_pairRefusal_X9_isBelow_n24 : GoodIn wsX8_pairRefusal (wsX9_isBelow) := ggX8_pairRefusal_X9_isBelow
theorem dX8_pairRefusal_0 : decode cX8_pairRefusal 0 = .ok (.iload_n 1, 1) := by decide +kernel
theorem dX8_pairRefusal_1 : decode cX8_pairRefusal 1 = .ok (.ifCond .ne 17, 3) := by decide +kernel
theorem dX8_pairRefusal_4 : decode cX8_pairRefusal 4 = .ok (.aload_n 2, 1) := by decide +kernel
theorem dX8_pairRefusal_5 : decode cX8_pairRefusal 5 = .ok (.iload_n 0, 1) := by decide +kernel
theorem dX8_pairRefusal_6 : decode cX8_pairRefusal 6 = .ok (.invokevirtual 42, 3) := by decide +kernel
theorem dX8_pairRefusal_9 : decode cX8_pairRefusal 9 = .ok (.ifCond .eq 7, 3) := by decide +kernel
theorem dX8_pairRefusal_12 : decode cX8_pairRefusal 12 = .ok (.iconst 0, 1) := by decide +kernel
theorem dX8_pairRefusal_13 : decode cX8_pairRefusal 13 = .ok (.goto 4, 3) := by decide +kernel
theorem dX8_pairRefusal_16 : decode cX8_pairRefusal 16 = .ok (.iconst (-1), 1) := by decide +kernel
theorem dX8_pairRefusal_17 : decode cX8_pairRefusal 17 = .ok (.ireturn, 1) := by decide +kernel
theorem dX8_pairRefusal_18 : decode cX8_pairRefusal 18 = .ok (.iload_n 1, 1) := by decide +kernel
theorem dX8_pairRefusal_19 : decode cX8_pairRefusal 19 = .ok (.iconst 1, 1) := by decide +kernel
theorem dX8_pairRefusal_20 : decode cX8_pairRefusal 20 = .ok (.if_icmp .ne 17, 3) := by decide +kernel
theorem dX8_pairRefusal_23 : decode cX8_pairRefusal 23 = .ok (.aload_n 2, 1) := by decide +kernel
theorem dX8_pairRefusal_24 : decode cX8_pairRefusal 24 = .ok (.iload_n 0, 1) := by decide +kernel
theorem dX8_pairRefusal_25 : decode cX8_pairRefusal 25 = .ok (.invokevirtual 47, 3) := by decide +kernel
theorem dX8_pairRefusal_28 : decode cX8_pairRefusal 28 = .ok (.ifCond .eq 7, 3) := by decide +kernel
theorem dX8_pairRefusal_31 : decode cX8_pairRefusal 31 = .ok (.iconst 0, 1) := by decide +kernel
theorem dX8_pairRefusal_32 : decode cX8_pairRefusal 32 = .ok (.goto 4, 3) := by decide +kernel
theorem dX8_pairRefusal_35 : decode cX8_pairRefusal 35 = .ok (.iconst (-1), 1) := by decide +kernel
theorem dX8_pairRefusal_36 : decode cX8_pairRefusal 36 = .ok (.ireturn, 1) := by decide +kernel
theorem dX8_pairRefusal_37 : decode cX8_pairRefusal 37 = .ok (.iload_n 1, 1) := by decide +kernel
theorem dX8_pairRefusal_38 : decode cX8_pairRefusal 38 = .ok (.invokestatic 28, 3) := by decide +kernel
theorem dX8_pairRefusal_41 : decode cX8_pairRefusal 41 = .ok (.ifCond .eq 16, 3) := by decide +kernel
theorem dX8_pairRefusal_44 : decode cX8_pairRefusal 44 = .ok (.iload_n 0, 1) := by decide +kernel
theorem dX8_pairRefusal_45 : decode cX8_pairRefusal 45 = .ok (.bipush 8, 2) := by decide +kernel
theorem dX8_pairRefusal_47 : decode cX8_pairRefusal 47 = .ok (.invokestatic 24, 3) := by decide +kernel
theorem dX8_pairRefusal_50 : decode cX8_pairRefusal 50 = .ok (.ifCond .eq 7, 3) := by decide +kernel
theorem dX8_pairRefusal_53 : decode cX8_pairRefusal 53 = .ok (.iconst 0, 1) := by decide +kernel
theorem dX8_pairRefusal_54 : decode cX8_pairRefusal 54 = .ok (.goto 5, 3) := by decide +kernel
theorem dX8_pairRefusal_57 : decode cX8_pairRefusal 57 = .ok (.bipush (-2), 2) := by decide +kernel
theorem dX8_pairRefusal_59 : decode cX8_pairRefusal 59 = .ok (.ireturn, 1) := by decide +kernel
set_option maxRecDepth 20000 in
theorem ggX8_go_X8_isDone : GoodIn wsX8_go wsX8_isDone := goodIn_r _ [10, 11, 12, 13, 14, 15, 16, 9, 17, 1, 2, 3, 18, 19, 20, 21, 22, 23, 24, 25, 26, 27, 28, 29, 30, 31, 32, 33, 34, 35, 36, 37, 38, 39, 40, 41, 42, 43, 44, 45, 46, 47, 48, 49, 50, 59, 60, 61, 62, 63, 64, 65, 51, 52, 53, 54] (by decide +kernel) (by decide +kernel)
set_option maxRecDepth 20000 in
theorem gX8_go_X8_isDone : GoodIn wsX8_go (wsV RX8 50 RX8 yX8_isDone wsX8_isDone) := goodIn_app (goodIn_of _ (by decide +kernel)) ggX8_go_X8_isDone
theorem dX8_go_0 : decode cX8_go 0 = .ok (.aload_n 0, 1) := by decide +kernel
theorem dX8_go_1 : decode cX8_go 1 = .ok (.iconst 0, 1) := by decide +kernel
theorem dX8_go_2 : decode cX8_go 2 = .ok (.putfield 9, 3) := by decide +kernel
theorem dX8_go_5 : decode cX8_go 5 = .ok (.aload_n 0, 1) := by decide +kernel
theorem dX8_go_6 : decode cX8_go 6 = .ok (.iconst 0, 1) := by decide +kernel
theorem dX8_go_7 : decode cX8_go 7 = .ok (.putfield 15, 3) := by decide +kernel
theorem dX8_go_10 : decode cX8_go 10 = .ok (.aload_n 0, 1) := by decide +kernel
theorem dX8_go_11 : decode cX8_go 11 = .ok (.iconst 0, 1) := by decide +kernel
theorem dX8_go_12 : decode cX8_go 12 = .ok (.putfield 18, 3) := by decide +kernel
theorem dX8_go_15 : decode cX8_go 15 = .ok (.aload_n 0, 1) := by decide +kernel
theorem dX8_go_16 : decode cX8_go 16 = .ok (.bipush (-9), 2) := by decide +kernel
theorem dX8_go_18 : decode cX8_go 18 = .ok (.putfield 21, 3) := by decide +kernel
theorem dX8_go_21 : decode cX8_go 21 = .ok (.iconst 0, 1) := by decide +kernel
theorem dX8_go_22 : decode cX8_go 22 = .ok (.istore 5, 2) := by decide +kernel
theorem dX8_go_24 : decode cX8_go 24 = .ok (.iload 5, 2) := by decide +kernel
theorem dX8_go_26 : decode cX8_go 26 = .ok (.iload_n 3, 1) := by decide +kernel
theorem dX8_go_27 : decode cX8_go 27 = .ok (.if_icmp .ge 57, 3) := by decide +kernel
theorem dX8_go_30 : decode cX8_go 30 = .ok (.aload_n 0, 1) := by decide +kernel
theorem dX8_go_31 : decode cX8_go 31 = .ok (.getfield 21, 3) := by decide +kernel
theorem dX8_go_34 : decode cX8_go 34 = .ok (.bipush (-9), 2) := by decide +kernel
theorem dX8_go_36 : decode cX8_go 36 = .ok (.if_icmp .ne 48, 3) := by decide +kernel
theorem dX8_go_39 : decode cX8_go 39 = .ok (.iload_n 2, 1) := by decide +kernel
theorem dX8_go_40 : decode cX8_go 40 = .ok (.iconst 2, 1) := by decide +kernel
theorem dX8_go_41 : decode cX8_go 41 = .ok (.iload 5, 2) := by decide +kernel
theorem dX8_go_43 : decode cX8_go 43 = .ok (.imul, 1) := by decide +kernel
theorem dX8_go_44 : decode cX8_go 44 = .ok (.iadd, 1) := by decide +kernel
theorem dX8_go_45 : decode cX8_go 45 = .ok (.istore 6, 2) := by decide +kernel
theorem dX8_go_47 : decode cX8_go 47 = .ok (.aload_n 0, 1) := by decide +kernel
theorem dX8_go_48 : decode cX8_go 48 = .ok (.aload_n 1, 1) := by decide +kernel
theorem dX8_go_49 : decode cX8_go 49 = .ok (.getfield 32, 3) := by decide +kernel
theorem dX8_go_52 : decode cX8_go 52 = .ok (.iload 6, 2) := by decide +kernel
theorem dX8_go_54 : decode cX8_go 54 = .ok (.iaload, 1) := by decide +kernel
theorem dX8_go_55 : decode cX8_go 55 = .ok (.aload_n 1, 1) := by decide +kernel
theorem dX8_go_56 : decode cX8_go 56 = .ok (.getfield 32, 3) := by decide +kernel
theorem dX8_go_59 : decode cX8_go 59 = .ok (.iload 6, 2) := by decide +kernel
theorem dX8_go_61 : decode cX8_go 61 = .ok (.iconst 1, 1) := by decide +kernel
theorem dX8_go_62 : decode cX8_go 62 = .ok (.iadd, 1) := by decide +kernel
theorem dX8_go_63 : decode cX8_go 63 = .ok (.iaload, 1) := by decide +kernel
theorem dX8_go_64 : decode cX8_go 64 = .ok (.aload 4, 2) := by decide +kernel
theorem dX8_go_66 : decode cX8_go 66 = .ok (.invokevirtual 50, 3) := by decide +kernel
theorem dX8_go_69 : decode cX8_go 69 = .ok (.ifCond .ne 9, 3) := by decide +kernel
theorem dX8_go_72 : decode cX8_go 72 = .ok (.aload_n 0, 1) := by decide +kernel
theorem dX8_go_73 : decode cX8_go 73 = .ok (.iload 5, 2) := by decide +kernel
theorem dX8_go_75 : decode cX8_go 75 = .ok (.putfield 21, 3) := by decide +kernel
theorem dX8_go_78 : decode cX8_go 78 = .ok (.iinc 5 1, 3) := by decide +kernel
theorem dX8_go_81 : decode cX8_go 81 = .ok (.goto (-57), 3) := by decide +kernel
theorem dX8_go_84 : decode cX8_go 84 = .ok (.return_, 1) := by decide +kernel
set_option maxRecDepth 20000 in
theorem ggX8_isDone_X8_ask : GoodIn wsX8_isDone wsX8_ask := goodIn_r _ [8, 1, 2, 9, 10, 11, 12, 13, 14, 15, 16, 17, 18, 19, 20, 21, 22, 23, 24, 25, 26, 27, 28, 29, 30, 31, 32, 33, 34, 35, 36, 37, 45, 46, 47, 48, 49, 50, 51, 52, 53, 54, 55] (by decide +kernel) (by decide +kernel)
set_option maxRecDepth 20000 in
theorem gX8_isDone_X8_ask : GoodIn wsX8_isDone (wsV RX8 54 RX8 yX8_ask wsX8_ask) := goodIn_app (goodIn_of _ (by decide +kernel)) ggX8_isDone_X8_ask
set_option maxRecDepth 20000 in
theorem ggX8_isDone_X4_hasPerson : GoodIn wsX8_isDone wsX4_hasPerson := goodIn_r _ [41, 17, 42, 43, 44, 45, 46, 47] (by decide +kernel) (by decide +kernel)
set_option maxRecDepth 20000 in
theorem gX8_isDone_X4_hasPerson : GoodIn wsX8_isDone (wsV RX8 47 RX4 yX4_hasPerson wsX4_hasPerson) := goodIn_app (goodIn_of _ (by decide +kernel)) ggX8_isDone_X4_hasPerson
set_option maxRecDepth 20000 in
theorem ggX8_isDone_X4_first : GoodIn wsX8_isDone wsX4_first := goodIn_r _ [16, 17, 18, 19, 45, 46, 47, 48, 49, 50, 51] (by decide +kernel) (by decide +kernel)
set_option maxRecDepth 20000 in
theorem gX8_isDone_X4_first : GoodIn wsX8_isDone (wsV RX8 58 RX4 yX4_first wsX4_first) := goodIn_app (goodIn_of _ (by decide +kernel)) ggX8_isDone_X4_first
theorem dX8_isDone_0 : decode cX8_isDone 0 = .ok (.iload_n 2, 1) := by decide +kernel
theorem dX8_isDone_1 : decode cX8_isDone 1 = .ok (.ifCond .ne 11, 3) := by decide +kernel
theorem dX8_isDone_4 : decode cX8_isDone 4 = .ok (.aload_n 0, 1) := by decide +kernel
theorem dX8_isDone_5 : decode cX8_isDone 5 = .ok (.iload_n 1, 1) := by decide +kernel
theorem dX8_isDone_6 : decode cX8_isDone 6 = .ok (.aload_n 3, 1) := by decide +kernel
theorem dX8_isDone_7 : decode cX8_isDone 7 = .ok (.invokevirtual 54, 3) := by decide +kernel
theorem dX8_isDone_10 : decode cX8_isDone 10 = .ok (.iconst 1, 1) := by decide +kernel
theorem dX8_isDone_11 : decode cX8_isDone 11 = .ok (.ireturn, 1) := by decide +kernel
theorem dX8_isDone_12 : decode cX8_isDone 12 = .ok (.iload_n 2, 1) := by decide +kernel
theorem dX8_isDone_13 : decode cX8_isDone 13 = .ok (.iconst 1, 1) := by decide +kernel
theorem dX8_isDone_14 : decode cX8_isDone 14 = .ok (.if_icmp .ne 7, 3) := by decide +kernel
theorem dX8_isDone_17 : decode cX8_isDone 17 = .ok (.iload_n 1, 1) := by decide +kernel
theorem dX8_isDone_18 : decode cX8_isDone 18 = .ok (.goto 7, 3) := by decide +kernel
theorem dX8_isDone_21 : decode cX8_isDone 21 = .ok (.iload_n 2, 1) := by decide +kernel
theorem dX8_isDone_22 : decode cX8_isDone 22 = .ok (.bipush 10, 2) := by decide +kernel
theorem dX8_isDone_24 : decode cX8_isDone 24 = .ok (.isub, 1) := by decide +kernel
theorem dX8_isDone_25 : decode cX8_isDone 25 = .ok (.istore 4, 2) := by decide +kernel
theorem dX8_isDone_27 : decode cX8_isDone 27 = .ok (.aload_n 3, 1) := by decide +kernel
theorem dX8_isDone_28 : decode cX8_isDone 28 = .ok (.iload 4, 2) := by decide +kernel
theorem dX8_isDone_30 : decode cX8_isDone 30 = .ok (.invokevirtual 47, 3) := by decide +kernel
theorem dX8_isDone_33 : decode cX8_isDone 33 = .ok (.ifCond .eq 17, 3) := by decide +kernel
theorem dX8_isDone_36 : decode cX8_isDone 36 = .ok (.iload_n 2, 1) := by decide +kernel
theorem dX8_isDone_37 : decode cX8_isDone 37 = .ok (.iconst 1, 1) := by decide +kernel
theorem dX8_isDone_38 : decode cX8_isDone 38 = .ok (.if_icmp .ne 14, 3) := by decide +kernel
theorem dX8_isDone_41 : decode cX8_isDone 41 = .ok (.aload_n 3, 1) := by decide +kernel
theorem dX8_isDone_42 : decode cX8_isDone 42 = .ok (.invokevirtual 58, 3) := by decide +kernel
theorem dX8_isDone_45 : decode cX8_isDone 45 = .ok (.iload 4, 2) := by decide +kernel
theorem dX8_isDone_47 : decode cX8_isDone 47 = .ok (.if_icmp .eq 5, 3) := by decide +kernel
theorem dX8_isDone_50 : decode cX8_isDone 50 = .ok (.iconst 0, 1) := by decide +kernel
theorem dX8_isDone_51 : decode cX8_isDone 51 = .ok (.ireturn, 1) := by decide +kernel
theorem dX8_isDone_52 : decode cX8_isDone 52 = .ok (.iload_n 2, 1) := by decide +kernel
theorem dX8_isDone_53 : decode cX8_isDone 53 = .ok (.iconst 1, 1) := by decide +kernel
theorem dX8_isDone_54 : decode cX8_isDone 54 = .ok (.if_icmp .ne 22, 3) := by decide +kernel
theorem dX8_isDone_57 : decode cX8_isDone 57 = .ok (.aload_n 3, 1) := by decide +kernel
theorem dX8_isDone_58 : decode cX8_isDone 58 = .ok (.getfield 62, 3) := by decide +kernel
theorem dX8_isDone_61 : decode cX8_isDone 61 = .ok (.iload 4, 2) := by decide +kernel
theorem dX8_isDone_63 : decode cX8_isDone 63 = .ok (.aaload, 1) := by decide +kernel
theorem dX8_isDone_64 : decode cX8_isDone 64 = .ok (.dup, 1) := by decide +kernel
theorem dX8_isDone_65 : decode cX8_isDone 65 = .ok (.getfield 66, 3) := by decide +kernel
theorem dX8_isDone_68 : decode cX8_isDone 68 = .ok (.iconst 1, 1) := by decide +kernel
theorem dX8_isDone_69 : decode cX8_isDone 69 = .ok (.iadd, 1) := by decide +kernel
theorem dX8_isDone_70 : decode cX8_isDone 70 = .ok (.putfield 66, 3) := by decide +kernel
theorem dX8_isDone_73 : decode cX8_isDone 73 = .ok (.goto 14, 3) := by decide +kernel
theorem dX8_isDone_76 : decode cX8_isDone 76 = .ok (.aload_n 3, 1) := by decide +kernel
theorem dX8_isDone_77 : decode cX8_isDone 77 = .ok (.getfield 62, 3) := by decide +kernel
theorem dX8_isDone_80 : decode cX8_isDone 80 = .ok (.iload 4, 2) := by decide +kernel
theorem dX8_isDone_82 : decode cX8_isDone 82 = .ok (.aaload, 1) := by decide +kernel
theorem dX8_isDone_83 : decode cX8_isDone 83 = .ok (.iload_n 1, 1) := by decide +kernel
theorem dX8_isDone_84 : decode cX8_isDone 84 = .ok (.putfield 71, 3) := by decide +kernel
theorem dX8_isDone_87 : decode cX8_isDone 87 = .ok (.iconst 1, 1) := by decide +kernel
theorem dX8_isDone_88 : decode cX8_isDone 88 = .ok (.ireturn, 1) := by decide +kernel
set_option maxRecDepth 20000 in
theorem ggX8_ask_X4_first : GoodIn wsX8_ask wsX4_first := goodIn_r _ [10, 11, 12, 13, 32, 33, 34, 35, 36, 37, 38] (by decide +kernel) (by decide +kernel)
set_option maxRecDepth 20000 in
theorem gX8_ask_X4_first : GoodIn wsX8_ask (wsV RX8 58 RX4 yX4_first wsX4_first) := goodIn_app (goodIn_of _ (by decide +kernel)) ggX8_ask_X4_first
set_option maxRecDepth 20000 in
theorem ggX8_ask_X4_bringing : GoodIn wsX8_ask wsX4_bringing := goodIn_r _ [17, 12, 18, 19, 20, 21, 22, 23, 24, 25, 26, 27, 28, 29, 30, 32, 33, 34, 35, 36, 37, 38] (by decide +kernel) (by decide +kernel)
set_option maxRecDepth 20000 in
theorem gX8_ask_X4_bringing : GoodIn wsX8_ask (wsV RX8 74 RX4 yX4_bringing wsX4_bringing) := goodIn_app (goodIn_of _ (by decide +kernel)) ggX8_ask_X4_bringing
set_option maxRecDepth 20000 in
theorem ggX8_ask_X2_isKnowing : GoodIn wsX8_ask wsX2_isKnowing := goodIn_r _ [29, 30, 35, 36, 37, 38] (by decide +kernel) (by decide +kernel)
set_option maxRecDepth 20000 in
theorem gX8_ask_X2_isKnowing : GoodIn wsX8_ask (wsV RX8 78 RX2 yX2_isKnowing wsX2_isKnowing) := goodIn_app (goodIn_of _ (by decide +kernel)) ggX8_ask_X2_isKnowing
theorem dX8_ask_0 : decode cX8_ask 0 = .ok (.aload_n 2, 1) := by decide +kernel
theorem dX8_ask_1 : decode cX8_ask 1 = .ok (.invokevirtual 58, 3) := by decide +kernel
theorem dX8_ask_4 : decode cX8_ask 4 = .ok (.istore_n 3, 1) := by decide +kernel
theorem dX8_ask_5 : decode cX8_ask 5 = .ok (.aload_n 2, 1) := by decide +kernel
theorem dX8_ask_6 : decode cX8_ask 6 = .ok (.getfield 62, 3) := by decide +kernel
theorem dX8_ask_9 : decode cX8_ask 9 = .ok (.iload_n 3, 1) := by decide +kernel
theorem dX8_ask_10 : decode cX8_ask 10 = .ok (.aaload, 1) := by decide +kernel
theorem dX8_ask_11 : decode cX8_ask 11 = .ok (.dup, 1) := by decide +kernel
theorem dX8_ask_12 : decode cX8_ask 12 = .ok (.getfield 66, 3) := by decide +kernel
theorem dX8_ask_15 : decode cX8_ask 15 = .ok (.iconst 1, 1) := by decide +kernel
theorem dX8_ask_16 : decode cX8_ask 16 = .ok (.iadd, 1) := by decide +kernel
theorem dX8_ask_17 : decode cX8_ask 17 = .ok (.putfield 66, 3) := by decide +kernel
theorem dX8_ask_20 : decode cX8_ask 20 = .ok (.aload_n 0, 1) := by decide +kernel
theorem dX8_ask_21 : decode cX8_ask 21 = .ok (.dup, 1) := by decide +kernel
theorem dX8_ask_22 : decode cX8_ask 22 = .ok (.getfield 9, 3) := by decide +kernel
theorem dX8_ask_25 : decode cX8_ask 25 = .ok (.aload_n 2, 1) := by decide +kernel
theorem dX8_ask_26 : decode cX8_ask 26 = .ok (.iload_n 3, 1) := by decide +kernel
theorem dX8_ask_27 : decode cX8_ask 27 = .ok (.iload_n 1, 1) := by decide +kernel
theorem dX8_ask_28 : decode cX8_ask 28 = .ok (.invokevirtual 74, 3) := by decide +kernel
theorem dX8_ask_31 : decode cX8_ask 31 = .ok (.iadd, 1) := by decide +kernel
theorem dX8_ask_32 : decode cX8_ask 32 = .ok (.putfield 9, 3) := by decide +kernel
theorem dX8_ask_35 : decode cX8_ask 35 = .ok (.aload_n 0, 1) := by decide +kernel
theorem dX8_ask_36 : decode cX8_ask 36 = .ok (.dup, 1) := by decide +kernel
theorem dX8_ask_37 : decode cX8_ask 37 = .ok (.getfield 15, 3) := by decide +kernel
theorem dX8_ask_40 : decode cX8_ask 40 = .ok (.iconst 1, 1) := by decide +kernel
theorem dX8_ask_41 : decode cX8_ask 41 = .ok (.iload_n 3, 1) := by decide +kernel
theorem dX8_ask_42 : decode cX8_ask 42 = .ok (.ishl, 1) := by decide +kernel
theorem dX8_ask_43 : decode cX8_ask 43 = .ok (.ior, 1) := by decide +kernel
theorem dX8_ask_44 : decode cX8_ask 44 = .ok (.putfield 15, 3) := by decide +kernel
theorem dX8_ask_47 : decode cX8_ask 47 = .ok (.aload_n 2, 1) := by decide +kernel
theorem dX8_ask_48 : decode cX8_ask 48 = .ok (.getfield 62, 3) := by decide +kernel
theorem dX8_ask_51 : decode cX8_ask 51 = .ok (.iload_n 3, 1) := by decide +kernel
theorem dX8_ask_52 : decode cX8_ask 52 = .ok (.aaload, 1) := by decide +kernel
theorem dX8_ask_53 : decode cX8_ask 53 = .ok (.iload_n 1, 1) := by decide +kernel
theorem dX8_ask_54 : decode cX8_ask 54 = .ok (.invokevirtual 78, 3) := by decide +kernel
theorem dX8_ask_57 : decode cX8_ask 57 = .ok (.ifCond .eq 13, 3) := by decide +kernel
theorem dX8_ask_60 : decode cX8_ask 60 = .ok (.aload_n 0, 1) := by decide +kernel
theorem dX8_ask_61 : decode cX8_ask 61 = .ok (.dup, 1) := by decide +kernel
theorem dX8_ask_62 : decode cX8_ask 62 = .ok (.getfield 18, 3) := by decide +kernel
theorem dX8_ask_65 : decode cX8_ask 65 = .ok (.iconst 1, 1) := by decide +kernel
theorem dX8_ask_66 : decode cX8_ask 66 = .ok (.iadd, 1) := by decide +kernel
theorem dX8_ask_67 : decode cX8_ask 67 = .ok (.putfield 18, 3) := by decide +kernel
theorem dX8_ask_70 : decode cX8_ask 70 = .ok (.return_, 1) := by decide +kernel
set_option maxRecDepth 20000 in
theorem ggX8_answer_X4_first : GoodIn wsX8_answer wsX4_first := goodIn_r _ [11, 12, 13, 14, 26, 27, 28, 29, 30, 31, 32] (by decide +kernel) (by decide +kernel)
set_option maxRecDepth 20000 in
theorem gX8_answer_X4_first : GoodIn wsX8_answer (wsV RX8 58 RX4 yX4_first wsX4_first) := goodIn_app (goodIn_of _ (by decide +kernel)) ggX8_answer_X4_first
set_option maxRecDepth 20000 in
theorem ggX8_answer_X4_hasPerson : GoodIn wsX8_answer wsX4_hasPerson := goodIn_r _ [18, 12, 19, 20, 21, 26, 27, 28] (by decide +kernel) (by decide +kernel)
set_option maxRecDepth 20000 in
theorem gX8_answer_X4_hasPerson : GoodIn wsX8_answer (wsV RX8 47 RX4 yX4_hasPerson wsX4_hasPerson) := goodIn_app (goodIn_of _ (by decide +kernel)) ggX8_answer_X4_hasPerson
theorem dX8_answer_0 : decode cX8_answer 0 = .ok (.iload_n 1, 1) := by decide +kernel
theorem dX8_answer_1 : decode cX8_answer 1 = .ok (.iconst 1, 1) := by decide +kernel
theorem dX8_answer_2 : decode cX8_answer 2 = .ok (.if_icmp .ne 8, 3) := by decide +kernel
theorem dX8_answer_5 : decode cX8_answer 5 = .ok (.aload_n 0, 1) := by decide +kernel
theorem dX8_answer_6 : decode cX8_answer 6 = .ok (.getfield 21, 3) := by decide +kernel
theorem dX8_answer_9 : decode cX8_answer 9 = .ok (.ireturn, 1) := by decide +kernel
theorem dX8_answer_10 : decode cX8_answer 10 = .ok (.aload_n 0, 1) := by decide +kernel
theorem dX8_answer_11 : decode cX8_answer 11 = .ok (.getfield 21, 3) := by decide +kernel
theorem dX8_answer_14 : decode cX8_answer 14 = .ok (.bipush (-9), 2) := by decide +kernel
theorem dX8_answer_16 : decode cX8_answer 16 = .ok (.if_icmp .eq 11, 3) := by decide +kernel
theorem dX8_answer_19 : decode cX8_answer 19 = .ok (.bipush (-100), 2) := by decide +kernel
theorem dX8_answer_21 : decode cX8_answer 21 = .ok (.aload_n 0, 1) := by decide +kernel
theorem dX8_answer_22 : decode cX8_answer 22 = .ok (.getfield 21, 3) := by decide +kernel
theorem dX8_answer_25 : decode cX8_answer 25 = .ok (.isub, 1) := by decide +kernel
theorem dX8_answer_26 : decode cX8_answer 26 = .ok (.ireturn, 1) := by decide +kernel
theorem dX8_answer_27 : decode cX8_answer 27 = .ok (.iload_n 1, 1) := by decide +kernel
theorem dX8_answer_28 : decode cX8_answer 28 = .ok (.tableswitch 56 0 4 #[36, 56, 41, 46, 51], 36) := by decide +kernel
theorem dX8_answer_64 : decode cX8_answer 64 = .ok (.aload_n 0, 1) := by decide +kernel
theorem dX8_answer_65 : decode cX8_answer 65 = .ok (.getfield 9, 3) := by decide +kernel
theorem dX8_answer_68 : decode cX8_answer 68 = .ok (.ireturn, 1) := by decide +kernel
theorem dX8_answer_69 : decode cX8_answer 69 = .ok (.aload_n 0, 1) := by decide +kernel
theorem dX8_answer_70 : decode cX8_answer 70 = .ok (.getfield 15, 3) := by decide +kernel
theorem dX8_answer_73 : decode cX8_answer 73 = .ok (.ireturn, 1) := by decide +kernel
theorem dX8_answer_74 : decode cX8_answer 74 = .ok (.aload_n 0, 1) := by decide +kernel
theorem dX8_answer_75 : decode cX8_answer 75 = .ok (.getfield 18, 3) := by decide +kernel
theorem dX8_answer_78 : decode cX8_answer 78 = .ok (.ireturn, 1) := by decide +kernel
theorem dX8_answer_79 : decode cX8_answer 79 = .ok (.aload_n 2, 1) := by decide +kernel
theorem dX8_answer_80 : decode cX8_answer 80 = .ok (.invokevirtual 58, 3) := by decide +kernel
theorem dX8_answer_83 : decode cX8_answer 83 = .ok (.ireturn, 1) := by decide +kernel
theorem dX8_answer_84 : decode cX8_answer 84 = .ok (.aload_n 2, 1) := by decide +kernel
theorem dX8_answer_85 : decode cX8_answer 85 = .ok (.iload_n 1, 1) := by decide +kernel
theorem dX8_answer_86 : decode cX8_answer 86 = .ok (.bipush 10, 2) := by decide +kernel
theorem dX8_answer_88 : decode cX8_answer 88 = .ok (.isub, 1) := by decide +kernel
theorem dX8_answer_89 : decode cX8_answer 89 = .ok (.invokevirtual 47, 3) := by decide +kernel
theorem dX8_answer_92 : decode cX8_answer 92 = .ok (.ifCond .eq 18, 3) := by decide +kernel
theorem dX8_answer_95 : decode cX8_answer 95 = .ok (.aload_n 2, 1) := by decide +kernel
theorem dX8_answer_96 : decode cX8_answer 96 = .ok (.getfield 62, 3) := by decide +kernel
theorem dX8_answer_99 : decode cX8_answer 99 = .ok (.iload_n 1, 1) := by decide +kernel
theorem dX8_answer_100 : decode cX8_answer 100 = .ok (.bipush 10, 2) := by decide +kernel
theorem dX8_answer_102 : decode cX8_answer 102 = .ok (.isub, 1) := by decide +kernel
theorem dX8_answer_103 : decode cX8_answer 103 = .ok (.aaload, 1) := by decide +kernel
theorem dX8_answer_104 : decode cX8_answer 104 = .ok (.getfield 66, 3) := by decide +kernel
theorem dX8_answer_107 : decode cX8_answer 107 = .ok (.goto 5, 3) := by decide +kernel
theorem dX8_answer_110 : decode cX8_answer 110 = .ok (.bipush (-9), 2) := by decide +kernel
theorem dX8_answer_112 : decode cX8_answer 112 = .ok (.ireturn, 1) := by decide +kernel
set_option maxRecDepth 20000 in
theorem ggX9_init_X4_init : GoodIn wsX9_init wsX4_init := goodIn_r _ [38, 39, 2, 3, 40, 41, 42, 43, 44, 45, 46, 47, 48, 49, 50, 51, 52, 53, 103, 104, 105, 126, 127, 128, 129] (by decide +kernel) (by decide +kernel)
set_option maxRecDepth 20000 in
theorem gX9_init_X4_init : GoodIn wsX9_init (wsX4_init) := ggX9_init_X4_init
set_option maxRecDepth 20000 in
theorem ggX9_init_X8_init : GoodIn wsX9_init wsX8_init := goodIn_r _ [55, 56, 2, 3, 57, 58, 59, 60, 106, 107, 108, 109] (by decide +kernel) (by decide +kernel)
set_option maxRecDepth 20000 in
theorem gX9_init_X8_init_n29 : GoodIn wsX9_init (wsX8_init) := ggX9_init_X8_init
set_option maxRecDepth 20000 in
theorem ggX9_init_X3_init : GoodIn wsX9_init wsX3_init := goodIn_r _ [62, 63, 2, 3, 40, 64, 65, 66, 67, 68, 110, 111, 112, 113, 114] (by decide +kernel) (by decide +kernel)
set_option maxRecDepth 20000 in
theorem gX9_init_X3_init_n36 : GoodIn wsX9_init (wsX3_init) := ggX9_init_X3_init
set_option maxRecDepth 20000 in
theorem ggX9_init_X1_init : GoodIn wsX9_init wsX1_init := goodIn_r _ [70, 71, 2, 3, 40, 72, 73, 115, 116] (by decide +kernel) (by decide +kernel)
set_option maxRecDepth 20000 in
theorem gX9_init_X1_init_n43 : GoodIn wsX9_init (wsX1_init) := ggX9_init_X1_init
set_option maxRecDepth 20000 in
theorem ggX9_init_X5_init : GoodIn wsX9_init wsX5_init := goodIn_r _ [75, 76, 2, 3, 40, 77, 78, 79, 80, 117, 118, 119, 120] (by decide +kernel) (by decide +kernel)
set_option maxRecDepth 20000 in
theorem gX9_init_X5_init_n50 : GoodIn wsX9_init (wsX5_init) := ggX9_init_X5_init
set_option maxRecDepth 20000 in
theorem ggX9_init_X0_init : GoodIn wsX9_init wsX0_init := goodIn_r _ [82, 83, 2, 3, 84, 121] (by decide +kernel) (by decide +kernel)
set_option maxRecDepth 20000 in
theorem gX9_init_X0_init_n57 : GoodIn wsX9_init (wsX0_init) := ggX9_init_X0_init
set_option maxRecDepth 20000 in
theorem ggX9_init_X6_init : GoodIn wsX9_init wsX6_init := goodIn_r _ [86, 87, 2, 3, 40, 88, 89, 90, 91, 122, 123, 124, 125] (by decide +kernel) (by decide +kernel)
set_option maxRecDepth 20000 in
theorem gX9_init_X6_init_n72 : GoodIn wsX9_init (wsX6_init) := ggX9_init_X6_init
end
section
theorem dX9_init_0 : decode cX9_init 0 = .ok (.aload_n 0, 1) := by decide +kernel
theorem dX9_init_1 : decode cX9_init 1 = .ok (.invokespecial 3, 3) := by decide +kernel
theorem dX9_init_4 : decode cX9_init 4 = .ok (.aload_n 0, 1) := by decide +kernel
theorem dX9_init_5 : decode cX9_init 5 = .ok (.iconst 4, 1) := by decide +kernel
theorem dX9_init_6 : decode cX9_init 6 = .ok (.anewarray 11, 3) := by decide +kernel
theorem dX9_init_9 : decode cX9_init 9 = .ok (.putfield 13, 3) := by decide +kernel
theorem dX9_init_12 : decode cX9_init 12 = .ok (.aload_n 0, 1) := by decide +kernel
theorem dX9_init_13 : decode cX9_init 13 = .ok (.new 17, 3) := by decide +kernel
theorem dX9_init_16 : decode cX9_init 16 = .ok (.dup, 1) := by decide +kernel
theorem dX9_init_17 : decode cX9_init 17 = .ok (.invokespecial 19, 3) := by decide +kernel
theorem dX9_init_20 : decode cX9_init 20 = .ok (.putfield 20, 3) := by decide +kernel
theorem dX9_init_23 : decode cX9_init 23 = .ok (.aload_n 0, 1) := by decide +kernel
theorem dX9_init_24 : decode cX9_init 24 = .ok (.new 17, 3) := by decide +kernel
theorem dX9_init_27 : decode cX9_init 27 = .ok (.dup, 1) := by decide +kernel
theorem dX9_init_28 : decode cX9_init 28 = .ok (.invokespecial 19, 3) := by decide +kernel
theorem dX9_init_31 : decode cX9_init 31 = .ok (.putfield 24, 3) := by decide +kernel
theorem dX9_init_34 : decode cX9_init 34 = .ok (.aload_n 0, 1) := by decide +kernel
theorem dX9_init_35 : decode cX9_init 35 = .ok (.new 27, 3) := by decide +kernel
theorem dX9_init_38 : decode cX9_init 38 = .ok (.dup, 1) := by decide +kernel
theorem dX9_init_39 : decode cX9_init 39 = .ok (.invokespecial 29, 3) := by decide +kernel
theorem dX9_init_42 : decode cX9_init 42 = .ok (.putfield 30, 3) := by decide +kernel
theorem dX9_init_45 : decode cX9_init 45 = .ok (.aload_n 0, 1) := by decide +kernel
theorem dX9_init_46 : decode cX9_init 46 = .ok (.new 34, 3) := by decide +kernel
theorem dX9_init_49 : decode cX9_init 49 = .ok (.dup, 1) := by decide +kernel
theorem dX9_init_50 : decode cX9_init 50 = .ok (.invokespecial 36, 3) := by decide +kernel
theorem dX9_init_53 : decode cX9_init 53 = .ok (.putfield 37, 3) := by decide +kernel
theorem dX9_init_56 : decode cX9_init 56 = .ok (.aload_n 0, 1) := by decide +kernel
theorem dX9_init_57 : decode cX9_init 57 = .ok (.new 41, 3) := by decide +kernel
theorem dX9_init_60 : decode cX9_init 60 = .ok (.dup, 1) := by decide +kernel
theorem dX9_init_61 : decode cX9_init 61 = .ok (.invokespecial 43, 3) := by decide +kernel
theorem dX9_init_64 : decode cX9_init 64 = .ok (.putfield 44, 3) := by decide +kernel
theorem dX9_init_67 : decode cX9_init 67 = .ok (.aload_n 0, 1) := by decide +kernel
theorem dX9_init_68 : decode cX9_init 68 = .ok (.new 48, 3) := by decide +kernel
theorem dX9_init_71 : decode cX9_init 71 = .ok (.dup, 1) := by decide +kernel
theorem dX9_init_72 : decode cX9_init 72 = .ok (.invokespecial 50, 3) := by decide +kernel
theorem dX9_init_75 : decode cX9_init 75 = .ok (.putfield 51, 3) := by decide +kernel
theorem dX9_init_78 : decode cX9_init 78 = .ok (.aload_n 0, 1) := by decide +kernel
theorem dX9_init_79 : decode cX9_init 79 = .ok (.new 55, 3) := by decide +kernel
theorem dX9_init_82 : decode cX9_init 82 = .ok (.dup, 1) := by decide +kernel
theorem dX9_init_83 : decode cX9_init 83 = .ok (.invokespecial 57, 3) := by decide +kernel
theorem dX9_init_86 : decode cX9_init 86 = .ok (.putfield 58, 3) := by decide +kernel
theorem dX9_init_89 : decode cX9_init 89 = .ok (.aload_n 0, 1) := by decide +kernel
theorem dX9_init_90 : decode cX9_init 90 = .ok (.iconst 0, 1) := by decide +kernel
theorem dX9_init_91 : decode cX9_init 91 = .ok (.putfield 62, 3) := by decide +kernel
theorem dX9_init_94 : decode cX9_init 94 = .ok (.aload_n 0, 1) := by decide +kernel
theorem dX9_init_95 : decode cX9_init 95 = .ok (.iconst 0, 1) := by decide +kernel
theorem dX9_init_96 : decode cX9_init 96 = .ok (.putfield 66, 3) := by decide +kernel
theorem dX9_init_99 : decode cX9_init 99 = .ok (.aload_n 0, 1) := by decide +kernel
theorem dX9_init_100 : decode cX9_init 100 = .ok (.iconst 0, 1) := by decide +kernel
theorem dX9_init_101 : decode cX9_init 101 = .ok (.putfield 69, 3) := by decide +kernel
theorem dX9_init_104 : decode cX9_init 104 = .ok (.iconst 0, 1) := by decide +kernel
theorem dX9_init_105 : decode cX9_init 105 = .ok (.istore_n 1, 1) := by decide +kernel
theorem dX9_init_106 : decode cX9_init 106 = .ok (.iload_n 1, 1) := by decide +kernel
theorem dX9_init_107 : decode cX9_init 107 = .ok (.iconst 4, 1) := by decide +kernel
theorem dX9_init_108 : decode cX9_init 108 = .ok (.if_icmp .ge 22, 3) := by decide +kernel
theorem dX9_init_111 : decode cX9_init 111 = .ok (.aload_n 0, 1) := by decide +kernel
theorem dX9_init_112 : decode cX9_init 112 = .ok (.getfield 13, 3) := by decide +kernel
theorem dX9_init_115 : decode cX9_init 115 = .ok (.iload_n 1, 1) := by decide +kernel
theorem dX9_init_116 : decode cX9_init 116 = .ok (.new 11, 3) := by decide +kernel
theorem dX9_init_119 : decode cX9_init 119 = .ok (.dup, 1) := by decide +kernel
theorem dX9_init_120 : decode cX9_init 120 = .ok (.invokespecial 72, 3) := by decide +kernel
theorem dX9_init_123 : decode cX9_init 123 = .ok (.aastore, 1) := by decide +kernel
theorem dX9_init_124 : decode cX9_init 124 = .ok (.iinc 1 1, 3) := by decide +kernel
theorem dX9_init_127 : decode cX9_init 127 = .ok (.goto (-21), 3) := by decide +kernel
theorem dX9_init_130 : decode cX9_init 130 = .ok (.return_, 1) := by decide +kernel
set_option maxRecDepth 20000 in
theorem ggX9_province_X9_isSheet : GoodIn wsX9_province wsX9_isSheet := goodIn_r _ [12, 13, 14, 11, 15] (by decide +kernel) (by decide +kernel)
set_option maxRecDepth 20000 in
theorem gX9_province_X9_isSheet : GoodIn wsX9_province (va_wsS RX9 73 yX9_isSheet wsX9_isSheet) := goodIn_app (goodIn_of _ (by decide +kernel)) ggX9_province_X9_isSheet
set_option maxRecDepth 20000 in
theorem ggX9_province_X9_isLane : GoodIn wsX9_province wsX9_isLane := goodIn_r _ [18] (by decide +kernel) (by decide +kernel)
set_option maxRecDepth 20000 in
theorem gX9_province_X9_isLane : GoodIn wsX9_province (va_wsS RX9 77 yX9_isLane wsX9_isLane) := goodIn_app (goodIn_of _ (by decide +kernel)) ggX9_province_X9_isLane
set_option maxRecDepth 20000 in
theorem ggX9_province_X6_faultAs : GoodIn wsX9_province wsX6_faultAs := goodIn_r _ [23, 24, 25, 77, 78, 79, 80] (by decide +kernel) (by decide +kernel)
set_option maxRecDepth 20000 in
theorem gX9_province_X6_faultAs : GoodIn wsX9_province (wsV RX9 80 RX6 yX6_faultAs wsX6_faultAs) := goodIn_app (goodIn_of _ (by decide +kernel)) ggX9_province_X6_faultAs
set_option maxRecDepth 20000 in
theorem ggX9_province_X6_holds : GoodIn wsX9_province wsX6_holds := goodIn_r _ [29, 30, 77, 78, 79, 80] (by decide +kernel) (by decide +kernel)
set_option maxRecDepth 20000 in
theorem gX9_province_X6_holds : GoodIn wsX9_province (wsV RX9 84 RX6 yX6_holds wsX6_holds) := goodIn_app (goodIn_of _ (by decide +kernel)) ggX9_province_X6_holds
set_option maxRecDepth 20000 in
theorem ggX9_province_X9_failed : GoodIn wsX9_province wsX9_failed := goodIn_r _ [34, 1, 59, 60, 61, 62, 63, 64, 65, 66, 67, 68, 69] (by decide +kernel) (by decide +kernel)
set_option maxRecDepth 20000 in
theorem gX9_province_X9_failed : GoodIn wsX9_province (wsV RX9 88 RX9 yX9_failed wsX9_failed) := goodIn_app (goodIn_of _ (by decide +kernel)) ggX9_province_X9_failed
set_option maxRecDepth 20000 in
theorem ggX9_province_X7_firstFault : GoodIn wsX9_province wsX7_firstFault := goodIn_r _ [38, 39, 40, 41, 37, 42, 43, 44, 45, 46, 47, 48, 77, 78, 79, 80] (by decide +kernel) (by decide +kernel)
set_option maxRecDepth 20000 in
theorem gX9_province_X7_firstFault : GoodIn wsX9_province (va_wsS RX9 91 yX7_firstFault wsX7_firstFault) := goodIn_app (goodIn_of _ (by decide +kernel)) ggX9_province_X7_firstFault
set_option maxRecDepth 20000 in
theorem ggX9_province_X7_read : GoodIn wsX9_province wsX7_read := goodIn_r _ [51, 39, 52, 53, 54, 55, 56, 57, 58, 46, 47, 37, 48, 77, 78, 79, 80, 74, 75, 76, 81, 82, 83, 84] (by decide +kernel) (by decide +kernel)
set_option maxRecDepth 20000 in
theorem gX9_province_X7_read : GoodIn wsX9_province (va_wsS RX9 97 yX7_read wsX7_read) := goodIn_app (goodIn_of _ (by decide +kernel)) ggX9_province_X7_read
theorem dX9_province_0 : decode cX9_province 0 = .ok (.aload_n 0, 1) := by decide +kernel
theorem dX9_province_1 : decode cX9_province 1 = .ok (.iconst 0, 1) := by decide +kernel
theorem dX9_province_2 : decode cX9_province 2 = .ok (.putfield 69, 3) := by decide +kernel
theorem dX9_province_5 : decode cX9_province 5 = .ok (.iload_n 1, 1) := by decide +kernel
theorem dX9_province_6 : decode cX9_province 6 = .ok (.invokestatic 73, 3) := by decide +kernel
theorem dX9_province_9 : decode cX9_province 9 = .ok (.ifCond .ne 5, 3) := by decide +kernel
theorem dX9_province_12 : decode cX9_province 12 = .ok (.iconst (-1), 1) := by decide +kernel
theorem dX9_province_13 : decode cX9_province 13 = .ok (.ireturn, 1) := by decide +kernel
theorem dX9_province_14 : decode cX9_province 14 = .ok (.iload_n 2, 1) := by decide +kernel
theorem dX9_province_15 : decode cX9_province 15 = .ok (.invokestatic 77, 3) := by decide +kernel
theorem dX9_province_18 : decode cX9_province 18 = .ok (.ifCond .ne 6, 3) := by decide +kernel
theorem dX9_province_21 : decode cX9_province 21 = .ok (.bipush (-2), 2) := by decide +kernel
theorem dX9_province_23 : decode cX9_province 23 = .ok (.ireturn, 1) := by decide +kernel
theorem dX9_province_24 : decode cX9_province 24 = .ok (.aload_n 0, 1) := by decide +kernel
theorem dX9_province_25 : decode cX9_province 25 = .ok (.getfield 13, 3) := by decide +kernel
theorem dX9_province_28 : decode cX9_province 28 = .ok (.iload_n 1, 1) := by decide +kernel
theorem dX9_province_29 : decode cX9_province 29 = .ok (.aaload, 1) := by decide +kernel
theorem dX9_province_30 : decode cX9_province 30 = .ok (.astore 5, 2) := by decide +kernel
theorem dX9_province_32 : decode cX9_province 32 = .ok (.aload 5, 2) := by decide +kernel
theorem dX9_province_34 : decode cX9_province 34 = .ok (.iload_n 2, 1) := by decide +kernel
theorem dX9_province_35 : decode cX9_province 35 = .ok (.invokevirtual 80, 3) := by decide +kernel
theorem dX9_province_38 : decode cX9_province 38 = .ok (.istore 6, 2) := by decide +kernel
theorem dX9_province_40 : decode cX9_province 40 = .ok (.iload 6, 2) := by decide +kernel
theorem dX9_province_42 : decode cX9_province 42 = .ok (.ifCond .ne 11, 3) := by decide +kernel
theorem dX9_province_45 : decode cX9_province 45 = .ok (.iload 4, 2) := by decide +kernel
theorem dX9_province_47 : decode cX9_province 47 = .ok (.ifCond .ge 6, 3) := by decide +kernel
theorem dX9_province_50 : decode cX9_province 50 = .ok (.iconst 4, 1) := by decide +kernel
theorem dX9_province_51 : decode cX9_province 51 = .ok (.istore 6, 2) := by decide +kernel
theorem dX9_province_53 : decode cX9_province 53 = .ok (.iload 6, 2) := by decide +kernel
theorem dX9_province_55 : decode cX9_province 55 = .ok (.ifCond .ne 17, 3) := by decide +kernel
theorem dX9_province_58 : decode cX9_province 58 = .ok (.aload 5, 2) := by decide +kernel
theorem dX9_province_60 : decode cX9_province 60 = .ok (.iload_n 3, 1) := by decide +kernel
theorem dX9_province_61 : decode cX9_province 61 = .ok (.iload 4, 2) := by decide +kernel
theorem dX9_province_63 : decode cX9_province 63 = .ok (.invokevirtual 84, 3) := by decide +kernel
theorem dX9_province_66 : decode cX9_province 66 = .ok (.ifCond .ne 6, 3) := by decide +kernel
theorem dX9_province_69 : decode cX9_province 69 = .ok (.iconst 3, 1) := by decide +kernel
theorem dX9_province_70 : decode cX9_province 70 = .ok (.istore 6, 2) := by decide +kernel
theorem dX9_province_72 : decode cX9_province 72 = .ok (.iload 6, 2) := by decide +kernel
theorem dX9_province_74 : decode cX9_province 74 = .ok (.ifCond .eq 10, 3) := by decide +kernel
theorem dX9_province_77 : decode cX9_province 77 = .ok (.aload_n 0, 1) := by decide +kernel
theorem dX9_province_78 : decode cX9_province 78 = .ok (.iload 6, 2) := by decide +kernel
theorem dX9_province_80 : decode cX9_province 80 = .ok (.invokevirtual 88, 3) := by decide +kernel
theorem dX9_province_83 : decode cX9_province 83 = .ok (.ireturn, 1) := by decide +kernel
theorem dX9_province_84 : decode cX9_province 84 = .ok (.aload 5, 2) := by decide +kernel
theorem dX9_province_86 : decode cX9_province 86 = .ok (.iload_n 3, 1) := by decide +kernel
theorem dX9_province_87 : decode cX9_province 87 = .ok (.iload 4, 2) := by decide +kernel
theorem dX9_province_89 : decode cX9_province 89 = .ok (.invokestatic 91, 3) := by decide +kernel
theorem dX9_province_92 : decode cX9_province 92 = .ok (.istore 7, 2) := by decide +kernel
theorem dX9_province_94 : decode cX9_province 94 = .ok (.iload 7, 2) := by decide +kernel
theorem dX9_province_96 : decode cX9_province 96 = .ok (.bipush (-9), 2) := by decide +kernel
theorem dX9_province_98 : decode cX9_province 98 = .ok (.if_icmp .eq 9, 3) := by decide +kernel
theorem dX9_province_101 : decode cX9_province 101 = .ok (.bipush (-100), 2) := by decide +kernel
theorem dX9_province_103 : decode cX9_province 103 = .ok (.iload 7, 2) := by decide +kernel
theorem dX9_province_105 : decode cX9_province 105 = .ok (.isub, 1) := by decide +kernel
theorem dX9_province_106 : decode cX9_province 106 = .ok (.ireturn, 1) := by decide +kernel
theorem dX9_province_107 : decode cX9_province 107 = .ok (.aload 5, 2) := by decide +kernel
theorem dX9_province_109 : decode cX9_province 109 = .ok (.iload_n 3, 1) := by decide +kernel
theorem dX9_province_110 : decode cX9_province 110 = .ok (.iload 4, 2) := by decide +kernel
theorem dX9_province_112 : decode cX9_province 112 = .ok (.aload_n 0, 1) := by decide +kernel
theorem dX9_province_113 : decode cX9_province 113 = .ok (.getfield 20, 3) := by decide +kernel
theorem dX9_province_116 : decode cX9_province 116 = .ok (.invokestatic 97, 3) := by decide +kernel
theorem dX9_province_119 : decode cX9_province 119 = .ok (.aload_n 0, 1) := by decide +kernel
theorem dX9_province_120 : decode cX9_province 120 = .ok (.iconst 0, 1) := by decide +kernel
theorem dX9_province_121 : decode cX9_province 121 = .ok (.putfield 62, 3) := by decide +kernel
theorem dX9_province_124 : decode cX9_province 124 = .ok (.aload_n 0, 1) := by decide +kernel
theorem dX9_province_125 : decode cX9_province 125 = .ok (.iconst 0, 1) := by decide +kernel
theorem dX9_province_126 : decode cX9_province 126 = .ok (.putfield 66, 3) := by decide +kernel
theorem dX9_province_129 : decode cX9_province 129 = .ok (.aload_n 0, 1) := by decide +kernel
theorem dX9_province_130 : decode cX9_province 130 = .ok (.getfield 51, 3) := by decide +kernel
theorem dX9_province_133 : decode cX9_province 133 = .ok (.iconst 0, 1) := by decide +kernel
theorem dX9_province_134 : decode cX9_province 134 = .ok (.putfield 101, 3) := by decide +kernel
theorem dX9_province_137 : decode cX9_province 137 = .ok (.aload_n 0, 1) := by decide +kernel
theorem dX9_province_138 : decode cX9_province 138 = .ok (.getfield 20, 3) := by decide +kernel
theorem dX9_province_141 : decode cX9_province 141 = .ok (.getfield 104, 3) := by decide +kernel
theorem dX9_province_144 : decode cX9_province 144 = .ok (.ireturn, 1) := by decide +kernel
set_option maxRecDepth 20000 in
theorem ggX9_ofPerson_X4_hasPerson : GoodIn wsX9_ofPerson wsX4_hasPerson := goodIn_r _ [11, 12, 13, 14, 15, 48, 49, 50] (by decide +kernel) (by decide +kernel)
set_option maxRecDepth 20000 in
theorem gX9_ofPerson_X4_hasPerson : GoodIn wsX9_ofPerson (wsV RX9 105 RX4 yX4_hasPerson wsX4_hasPerson) := goodIn_app (goodIn_of _ (by decide +kernel)) ggX9_ofPerson_X4_hasPerson
set_option maxRecDepth 20000 in
theorem ggX9_ofPerson_X2_saying : GoodIn wsX9_ofPerson wsX2_saying := goodIn_r _ [20, 21, 22, 51, 52, 53, 54] (by decide +kernel) (by decide +kernel)
set_option maxRecDepth 20000 in
theorem gX9_ofPerson_X2_saying : GoodIn wsX9_ofPerson (wsV RX9 126 RX2 yX2_saying wsX2_saying) := goodIn_app (goodIn_of _ (by decide +kernel)) ggX9_ofPerson_X2_saying
set_option maxRecDepth 20000 in
theorem ggX9_ofPerson_X4_placeOf : GoodIn wsX9_ofPerson wsX4_placeOf := goodIn_r _ [26, 12, 27, 28, 29, 10, 30, 31, 32, 33, 34, 35, 36, 48, 49, 50, 51, 52, 53, 54] (by decide +kernel) (by decide +kernel)
set_option maxRecDepth 20000 in
theorem gX9_ofPerson_X4_placeOf : GoodIn wsX9_ofPerson (wsV RX9 130 RX4 yX4_placeOf wsX4_placeOf) := goodIn_app (goodIn_of _ (by decide +kernel)) ggX9_ofPerson_X4_placeOf
theorem dX9_ofPerson_0 : decode cX9_ofPerson 0 = .ok (.aload_n 0, 1) := by decide +kernel
theorem dX9_ofPerson_1 : decode cX9_ofPerson 1 = .ok (.getfield 20, 3) := by decide +kernel
theorem dX9_ofPerson_4 : decode cX9_ofPerson 4 = .ok (.iload_n 1, 1) := by decide +kernel
theorem dX9_ofPerson_5 : decode cX9_ofPerson 5 = .ok (.invokevirtual 105, 3) := by decide +kernel
theorem dX9_ofPerson_8 : decode cX9_ofPerson 8 = .ok (.ifCond .ne 5, 3) := by decide +kernel
theorem dX9_ofPerson_11 : decode cX9_ofPerson 11 = .ok (.iconst (-1), 1) := by decide +kernel
theorem dX9_ofPerson_12 : decode cX9_ofPerson 12 = .ok (.ireturn, 1) := by decide +kernel
theorem dX9_ofPerson_13 : decode cX9_ofPerson 13 = .ok (.aload_n 0, 1) := by decide +kernel
theorem dX9_ofPerson_14 : decode cX9_ofPerson 14 = .ok (.getfield 20, 3) := by decide +kernel
theorem dX9_ofPerson_17 : decode cX9_ofPerson 17 = .ok (.getfield 108, 3) := by decide +kernel
theorem dX9_ofPerson_20 : decode cX9_ofPerson 20 = .ok (.iload_n 1, 1) := by decide +kernel
theorem dX9_ofPerson_21 : decode cX9_ofPerson 21 = .ok (.aaload, 1) := by decide +kernel
theorem dX9_ofPerson_22 : decode cX9_ofPerson 22 = .ok (.astore_n 3, 1) := by decide +kernel
theorem dX9_ofPerson_23 : decode cX9_ofPerson 23 = .ok (.iload_n 2, 1) := by decide +kernel
theorem dX9_ofPerson_24 : decode cX9_ofPerson 24 = .ok (.tableswitch 74 0 5 #[40, 45, 50, 55, 60, 65], 40) := by decide +kernel
theorem dX9_ofPerson_64 : decode cX9_ofPerson 64 = .ok (.aload_n 3, 1) := by decide +kernel
theorem dX9_ofPerson_65 : decode cX9_ofPerson 65 = .ok (.getfield 112, 3) := by decide +kernel
theorem dX9_ofPerson_68 : decode cX9_ofPerson 68 = .ok (.ireturn, 1) := by decide +kernel
theorem dX9_ofPerson_69 : decode cX9_ofPerson 69 = .ok (.aload_n 3, 1) := by decide +kernel
theorem dX9_ofPerson_70 : decode cX9_ofPerson 70 = .ok (.getfield 117, 3) := by decide +kernel
theorem dX9_ofPerson_73 : decode cX9_ofPerson 73 = .ok (.ireturn, 1) := by decide +kernel
theorem dX9_ofPerson_74 : decode cX9_ofPerson 74 = .ok (.aload_n 3, 1) := by decide +kernel
theorem dX9_ofPerson_75 : decode cX9_ofPerson 75 = .ok (.getfield 120, 3) := by decide +kernel
theorem dX9_ofPerson_78 : decode cX9_ofPerson 78 = .ok (.ireturn, 1) := by decide +kernel
theorem dX9_ofPerson_79 : decode cX9_ofPerson 79 = .ok (.aload_n 3, 1) := by decide +kernel
theorem dX9_ofPerson_80 : decode cX9_ofPerson 80 = .ok (.getfield 123, 3) := by decide +kernel
theorem dX9_ofPerson_83 : decode cX9_ofPerson 83 = .ok (.ireturn, 1) := by decide +kernel
theorem dX9_ofPerson_84 : decode cX9_ofPerson 84 = .ok (.aload_n 3, 1) := by decide +kernel
theorem dX9_ofPerson_85 : decode cX9_ofPerson 85 = .ok (.invokevirtual 126, 3) := by decide +kernel
theorem dX9_ofPerson_88 : decode cX9_ofPerson 88 = .ok (.ireturn, 1) := by decide +kernel
theorem dX9_ofPerson_89 : decode cX9_ofPerson 89 = .ok (.aload_n 0, 1) := by decide +kernel
theorem dX9_ofPerson_90 : decode cX9_ofPerson 90 = .ok (.getfield 20, 3) := by decide +kernel
theorem dX9_ofPerson_93 : decode cX9_ofPerson 93 = .ok (.iload_n 1, 1) := by decide +kernel
theorem dX9_ofPerson_94 : decode cX9_ofPerson 94 = .ok (.invokevirtual 130, 3) := by decide +kernel
theorem dX9_ofPerson_97 : decode cX9_ofPerson 97 = .ok (.ireturn, 1) := by decide +kernel
theorem dX9_ofPerson_98 : decode cX9_ofPerson 98 = .ok (.bipush (-2), 2) := by decide +kernel
theorem dX9_ofPerson_100 : decode cX9_ofPerson 100 = .ok (.ireturn, 1) := by decide +kernel
set_option maxRecDepth 20000 in
theorem ggX9_worth_X4_hasMatter : GoodIn wsX9_worth wsX4_hasMatter := goodIn_r _ [7, 8, 9, 10, 11, 23, 24, 25] (by decide +kernel) (by decide +kernel)
set_option maxRecDepth 20000 in
theorem gX9_worth_X4_hasMatter : GoodIn wsX9_worth (wsV RX9 133 RX4 yX4_hasMatter wsX4_hasMatter) := goodIn_app (goodIn_of _ (by decide +kernel)) ggX9_worth_X4_hasMatter
theorem dX9_worth_0 : decode cX9_worth 0 = .ok (.aload_n 0, 1) := by decide +kernel
theorem dX9_worth_1 : decode cX9_worth 1 = .ok (.getfield 20, 3) := by decide +kernel
theorem dX9_worth_4 : decode cX9_worth 4 = .ok (.iload_n 1, 1) := by decide +kernel
theorem dX9_worth_5 : decode cX9_worth 5 = .ok (.invokevirtual 133, 3) := by decide +kernel
theorem dX9_worth_8 : decode cX9_worth 8 = .ok (.ifCond .eq 15, 3) := by decide +kernel
theorem dX9_worth_11 : decode cX9_worth 11 = .ok (.aload_n 0, 1) := by decide +kernel
theorem dX9_worth_12 : decode cX9_worth 12 = .ok (.getfield 20, 3) := by decide +kernel
theorem dX9_worth_15 : decode cX9_worth 15 = .ok (.getfield 136, 3) := by decide +kernel
theorem dX9_worth_18 : decode cX9_worth 18 = .ok (.iload_n 1, 1) := by decide +kernel
theorem dX9_worth_19 : decode cX9_worth 19 = .ok (.iaload, 1) := by decide +kernel
theorem dX9_worth_20 : decode cX9_worth 20 = .ok (.goto 4, 3) := by decide +kernel
theorem dX9_worth_23 : decode cX9_worth 23 = .ok (.iconst (-1), 1) := by decide +kernel
theorem dX9_worth_24 : decode cX9_worth 24 = .ok (.ireturn, 1) := by decide +kernel
set_option maxRecDepth 20000 in
theorem ggX9_weigh_X4_hasMatter : GoodIn wsX9_weigh wsX4_hasMatter := goodIn_r _ [7, 8, 9, 10, 11, 24, 25, 26] (by decide +kernel) (by decide +kernel)
set_option maxRecDepth 20000 in
theorem gX9_weigh_X4_hasMatter : GoodIn wsX9_weigh (wsV RX9 133 RX4 yX4_hasMatter wsX4_hasMatter) := goodIn_app (goodIn_of _ (by decide +kernel)) ggX9_weigh_X4_hasMatter
set_option maxRecDepth 20000 in
theorem ggX9_weigh_X9_isBelow : GoodIn wsX9_weigh wsX9_isBelow := goodIn_r _ [11] (by decide +kernel) (by decide +kernel)
set_option maxRecDepth 20000 in
theorem gX9_weigh_X9_isBelow : GoodIn wsX9_weigh (va_wsS RX9 140 yX9_isBelow wsX9_isBelow) := goodIn_app (goodIn_of _ (by decide +kernel)) ggX9_weigh_X9_isBelow
theorem dX9_weigh_0 : decode cX9_weigh 0 = .ok (.aload_n 0, 1) := by decide +kernel
theorem dX9_weigh_1 : decode cX9_weigh 1 = .ok (.getfield 20, 3) := by decide +kernel
theorem dX9_weigh_4 : decode cX9_weigh 4 = .ok (.iload_n 1, 1) := by decide +kernel
theorem dX9_weigh_5 : decode cX9_weigh 5 = .ok (.invokevirtual 133, 3) := by decide +kernel
theorem dX9_weigh_8 : decode cX9_weigh 8 = .ok (.ifCond .ne 5, 3) := by decide +kernel
theorem dX9_weigh_11 : decode cX9_weigh 11 = .ok (.iconst (-1), 1) := by decide +kernel
theorem dX9_weigh_12 : decode cX9_weigh 12 = .ok (.ireturn, 1) := by decide +kernel
theorem dX9_weigh_13 : decode cX9_weigh 13 = .ok (.iload_n 2, 1) := by decide +kernel
theorem dX9_weigh_14 : decode cX9_weigh 14 = .ok (.bipush 10, 2) := by decide +kernel
theorem dX9_weigh_16 : decode cX9_weigh 16 = .ok (.invokestatic 140, 3) := by decide +kernel
theorem dX9_weigh_19 : decode cX9_weigh 19 = .ok (.ifCond .ne 6, 3) := by decide +kernel
theorem dX9_weigh_22 : decode cX9_weigh 22 = .ok (.bipush (-2), 2) := by decide +kernel
theorem dX9_weigh_24 : decode cX9_weigh 24 = .ok (.ireturn, 1) := by decide +kernel
theorem dX9_weigh_25 : decode cX9_weigh 25 = .ok (.aload_n 0, 1) := by decide +kernel
theorem dX9_weigh_26 : decode cX9_weigh 26 = .ok (.getfield 20, 3) := by decide +kernel
theorem dX9_weigh_29 : decode cX9_weigh 29 = .ok (.getfield 136, 3) := by decide +kernel
theorem dX9_weigh_32 : decode cX9_weigh 32 = .ok (.iload_n 1, 1) := by decide +kernel
theorem dX9_weigh_33 : decode cX9_weigh 33 = .ok (.iaload, 1) := by decide +kernel
theorem dX9_weigh_34 : decode cX9_weigh 34 = .ok (.istore_n 3, 1) := by decide +kernel
theorem dX9_weigh_35 : decode cX9_weigh 35 = .ok (.aload_n 0, 1) := by decide +kernel
theorem dX9_weigh_36 : decode cX9_weigh 36 = .ok (.getfield 20, 3) := by decide +kernel
theorem dX9_weigh_39 : decode cX9_weigh 39 = .ok (.getfield 136, 3) := by decide +kernel
theorem dX9_weigh_42 : decode cX9_weigh 42 = .ok (.iload_n 1, 1) := by decide +kernel
theorem dX9_weigh_43 : decode cX9_weigh 43 = .ok (.iload_n 2, 1) := by decide +kernel
theorem dX9_weigh_44 : decode cX9_weigh 44 = .ok (.iastore, 1) := by decide +kernel
theorem dX9_weigh_45 : decode cX9_weigh 45 = .ok (.iload_n 3, 1) := by decide +kernel
theorem dX9_weigh_46 : decode cX9_weigh 46 = .ok (.ireturn, 1) := by decide +kernel
set_option maxRecDepth 20000 in
theorem ggX9_teach_X4_hasPerson : GoodIn wsX9_teach wsX4_hasPerson := goodIn_r _ [8, 9, 10, 11, 12, 25, 26, 27] (by decide +kernel) (by decide +kernel)
set_option maxRecDepth 20000 in
theorem gX9_teach_X4_hasPerson : GoodIn wsX9_teach (wsV RX9 105 RX4 yX4_hasPerson wsX4_hasPerson) := goodIn_app (goodIn_of _ (by decide +kernel)) ggX9_teach_X4_hasPerson
set_option maxRecDepth 20000 in
theorem ggX9_teach_X9_isBelow : GoodIn wsX9_teach wsX9_isBelow := goodIn_r _ [12] (by decide +kernel) (by decide +kernel)
set_option maxRecDepth 20000 in
theorem gX9_teach_X9_isBelow : GoodIn wsX9_teach (va_wsS RX9 140 yX9_isBelow wsX9_isBelow) := goodIn_app (goodIn_of _ (by decide +kernel)) ggX9_teach_X9_isBelow
theorem dX9_teach_0 : decode cX9_teach 0 = .ok (.aload_n 0, 1) := by decide +kernel
theorem dX9_teach_1 : decode cX9_teach 1 = .ok (.getfield 20, 3) := by decide +kernel
theorem dX9_teach_4 : decode cX9_teach 4 = .ok (.iload_n 1, 1) := by decide +kernel
theorem dX9_teach_5 : decode cX9_teach 5 = .ok (.invokevirtual 105, 3) := by decide +kernel
theorem dX9_teach_8 : decode cX9_teach 8 = .ok (.ifCond .ne 5, 3) := by decide +kernel
theorem dX9_teach_11 : decode cX9_teach 11 = .ok (.iconst (-1), 1) := by decide +kernel
theorem dX9_teach_12 : decode cX9_teach 12 = .ok (.ireturn, 1) := by decide +kernel
theorem dX9_teach_13 : decode cX9_teach 13 = .ok (.iload_n 2, 1) := by decide +kernel
theorem dX9_teach_14 : decode cX9_teach 14 = .ok (.bipush 8, 2) := by decide +kernel
theorem dX9_teach_16 : decode cX9_teach 16 = .ok (.invokestatic 140, 3) := by decide +kernel
theorem dX9_teach_19 : decode cX9_teach 19 = .ok (.ifCond .ne 6, 3) := by decide +kernel
theorem dX9_teach_22 : decode cX9_teach 22 = .ok (.bipush (-2), 2) := by decide +kernel
theorem dX9_teach_24 : decode cX9_teach 24 = .ok (.ireturn, 1) := by decide +kernel
theorem dX9_teach_25 : decode cX9_teach 25 = .ok (.aload_n 0, 1) := by decide +kernel
theorem dX9_teach_26 : decode cX9_teach 26 = .ok (.getfield 20, 3) := by decide +kernel
theorem dX9_teach_29 : decode cX9_teach 29 = .ok (.getfield 108, 3) := by decide +kernel
theorem dX9_teach_32 : decode cX9_teach 32 = .ok (.iload_n 1, 1) := by decide +kernel
theorem dX9_teach_33 : decode cX9_teach 33 = .ok (.aaload, 1) := by decide +kernel
theorem dX9_teach_34 : decode cX9_teach 34 = .ok (.getfield 120, 3) := by decide +kernel
theorem dX9_teach_37 : decode cX9_teach 37 = .ok (.istore_n 3, 1) := by decide +kernel
theorem dX9_teach_38 : decode cX9_teach 38 = .ok (.aload_n 0, 1) := by decide +kernel
theorem dX9_teach_39 : decode cX9_teach 39 = .ok (.getfield 20, 3) := by decide +kernel
theorem dX9_teach_42 : decode cX9_teach 42 = .ok (.getfield 108, 3) := by decide +kernel
theorem dX9_teach_45 : decode cX9_teach 45 = .ok (.iload_n 1, 1) := by decide +kernel
theorem dX9_teach_46 : decode cX9_teach 46 = .ok (.aaload, 1) := by decide +kernel
theorem dX9_teach_47 : decode cX9_teach 47 = .ok (.iload_n 2, 1) := by decide +kernel
theorem dX9_teach_48 : decode cX9_teach 48 = .ok (.putfield 120, 3) := by decide +kernel
theorem dX9_teach_51 : decode cX9_teach 51 = .ok (.iload_n 3, 1) := by decide +kernel
theorem dX9_teach_52 : decode cX9_teach 52 = .ok (.ireturn, 1) := by decide +kernel
set_option maxRecDepth 20000 in
theorem ggX9_sharpen_X4_hasPerson : GoodIn wsX9_sharpen wsX4_hasPerson := goodIn_r _ [8, 9, 10, 11, 12, 25, 26, 27] (by decide +kernel) (by decide +kernel)
set_option maxRecDepth 20000 in
theorem gX9_sharpen_X4_hasPerson : GoodIn wsX9_sharpen (wsV RX9 105 RX4 yX4_hasPerson wsX4_hasPerson) := goodIn_app (goodIn_of _ (by decide +kernel)) ggX9_sharpen_X4_hasPerson
set_option maxRecDepth 20000 in
theorem ggX9_sharpen_X9_isBelow : GoodIn wsX9_sharpen wsX9_isBelow := goodIn_r _ [12] (by decide +kernel) (by decide +kernel)
set_option maxRecDepth 20000 in
theorem gX9_sharpen_X9_isBelow : GoodIn wsX9_sharpen (va_wsS RX9 140 yX9_isBelow wsX9_isBelow) := goodIn_app (goodIn_of _ (by decide +kernel)) ggX9_sharpen_X9_isBelow
theorem dX9_sharpen_0 : decode cX9_sharpen 0 = .ok (.aload_n 0, 1) := by decide +kernel
theorem dX9_sharpen_1 : decode cX9_sharpen 1 = .ok (.getfield 20, 3) := by decide +kernel
theorem dX9_sharpen_4 : decode cX9_sharpen 4 = .ok (.iload_n 1, 1) := by decide +kernel
theorem dX9_sharpen_5 : decode cX9_sharpen 5 = .ok (.invokevirtual 105, 3) := by decide +kernel
theorem dX9_sharpen_8 : decode cX9_sharpen 8 = .ok (.ifCond .ne 5, 3) := by decide +kernel
theorem dX9_sharpen_11 : decode cX9_sharpen 11 = .ok (.iconst (-1), 1) := by decide +kernel
theorem dX9_sharpen_12 : decode cX9_sharpen 12 = .ok (.ireturn, 1) := by decide +kernel
theorem dX9_sharpen_13 : decode cX9_sharpen 13 = .ok (.iload_n 2, 1) := by decide +kernel
theorem dX9_sharpen_14 : decode cX9_sharpen 14 = .ok (.bipush 10, 2) := by decide +kernel
theorem dX9_sharpen_16 : decode cX9_sharpen 16 = .ok (.invokestatic 140, 3) := by decide +kernel
theorem dX9_sharpen_19 : decode cX9_sharpen 19 = .ok (.ifCond .ne 6, 3) := by decide +kernel
theorem dX9_sharpen_22 : decode cX9_sharpen 22 = .ok (.bipush (-2), 2) := by decide +kernel
theorem dX9_sharpen_24 : decode cX9_sharpen 24 = .ok (.ireturn, 1) := by decide +kernel
theorem dX9_sharpen_25 : decode cX9_sharpen 25 = .ok (.aload_n 0, 1) := by decide +kernel
theorem dX9_sharpen_26 : decode cX9_sharpen 26 = .ok (.getfield 20, 3) := by decide +kernel
theorem dX9_sharpen_29 : decode cX9_sharpen 29 = .ok (.getfield 108, 3) := by decide +kernel
theorem dX9_sharpen_32 : decode cX9_sharpen 32 = .ok (.iload_n 1, 1) := by decide +kernel
theorem dX9_sharpen_33 : decode cX9_sharpen 33 = .ok (.aaload, 1) := by decide +kernel
theorem dX9_sharpen_34 : decode cX9_sharpen 34 = .ok (.getfield 123, 3) := by decide +kernel
theorem dX9_sharpen_37 : decode cX9_sharpen 37 = .ok (.istore_n 3, 1) := by decide +kernel
theorem dX9_sharpen_38 : decode cX9_sharpen 38 = .ok (.aload_n 0, 1) := by decide +kernel
theorem dX9_sharpen_39 : decode cX9_sharpen 39 = .ok (.getfield 20, 3) := by decide +kernel
theorem dX9_sharpen_42 : decode cX9_sharpen 42 = .ok (.getfield 108, 3) := by decide +kernel
theorem dX9_sharpen_45 : decode cX9_sharpen 45 = .ok (.iload_n 1, 1) := by decide +kernel
theorem dX9_sharpen_46 : decode cX9_sharpen 46 = .ok (.aaload, 1) := by decide +kernel
theorem dX9_sharpen_47 : decode cX9_sharpen 47 = .ok (.iload_n 2, 1) := by decide +kernel
theorem dX9_sharpen_48 : decode cX9_sharpen 48 = .ok (.putfield 123, 3) := by decide +kernel
theorem dX9_sharpen_51 : decode cX9_sharpen 51 = .ok (.iload_n 3, 1) := by decide +kernel
theorem dX9_sharpen_52 : decode cX9_sharpen 52 = .ok (.ireturn, 1) := by decide +kernel
set_option maxRecDepth 20000 in
theorem ggX9_brings_X4_hasPerson : GoodIn wsX9_brings wsX4_hasPerson := goodIn_r _ [6, 7, 8, 9, 10, 44, 45, 46] (by decide +kernel) (by decide +kernel)
set_option maxRecDepth 20000 in
theorem gX9_brings_X4_hasPerson : GoodIn wsX9_brings (wsV RX9 105 RX4 yX4_hasPerson wsX4_hasPerson) := goodIn_app (goodIn_of _ (by decide +kernel)) ggX9_brings_X4_hasPerson
set_option maxRecDepth 20000 in
theorem ggX9_brings_X4_hasMatter : GoodIn wsX9_brings wsX4_hasMatter := goodIn_r _ [14, 7, 8, 9, 10, 44, 45, 46] (by decide +kernel) (by decide +kernel)
set_option maxRecDepth 20000 in
theorem gX9_brings_X4_hasMatter : GoodIn wsX9_brings (wsV RX9 133 RX4 yX4_hasMatter wsX4_hasMatter) := goodIn_app (goodIn_of _ (by decide +kernel)) ggX9_brings_X4_hasMatter
set_option maxRecDepth 20000 in
theorem ggX9_brings_X4_bringing : GoodIn wsX9_brings wsX4_bringing := goodIn_r _ [18, 19, 20, 21, 22, 23, 24, 25, 26, 27, 28, 29, 30, 31, 32, 44, 45, 46, 47, 48, 49, 50] (by decide +kernel) (by decide +kernel)
set_option maxRecDepth 20000 in
theorem gX9_brings_X4_bringing : GoodIn wsX9_brings (wsV RX9 143 RX4 yX4_bringing wsX4_bringing) := goodIn_app (goodIn_of _ (by decide +kernel)) ggX9_brings_X4_bringing
theorem dX9_brings_0 : decode cX9_brings 0 = .ok (.aload_n 0, 1) := by decide +kernel
theorem dX9_brings_1 : decode cX9_brings 1 = .ok (.getfield 20, 3) := by decide +kernel
theorem dX9_brings_4 : decode cX9_brings 4 = .ok (.iload_n 1, 1) := by decide +kernel
theorem dX9_brings_5 : decode cX9_brings 5 = .ok (.invokevirtual 105, 3) := by decide +kernel
theorem dX9_brings_8 : decode cX9_brings 8 = .ok (.ifCond .eq 14, 3) := by decide +kernel
theorem dX9_brings_11 : decode cX9_brings 11 = .ok (.aload_n 0, 1) := by decide +kernel
theorem dX9_brings_12 : decode cX9_brings 12 = .ok (.getfield 20, 3) := by decide +kernel
theorem dX9_brings_15 : decode cX9_brings 15 = .ok (.iload_n 2, 1) := by decide +kernel
theorem dX9_brings_16 : decode cX9_brings 16 = .ok (.invokevirtual 133, 3) := by decide +kernel
theorem dX9_brings_19 : decode cX9_brings 19 = .ok (.ifCond .ne 5, 3) := by decide +kernel
theorem dX9_brings_22 : decode cX9_brings 22 = .ok (.iconst (-1), 1) := by decide +kernel
theorem dX9_brings_23 : decode cX9_brings 23 = .ok (.ireturn, 1) := by decide +kernel
theorem dX9_brings_24 : decode cX9_brings 24 = .ok (.aload_n 0, 1) := by decide +kernel
theorem dX9_brings_25 : decode cX9_brings 25 = .ok (.getfield 20, 3) := by decide +kernel
theorem dX9_brings_28 : decode cX9_brings 28 = .ok (.iload_n 1, 1) := by decide +kernel
theorem dX9_brings_29 : decode cX9_brings 29 = .ok (.iload_n 2, 1) := by decide +kernel
theorem dX9_brings_30 : decode cX9_brings 30 = .ok (.invokevirtual 143, 3) := by decide +kernel
theorem dX9_brings_33 : decode cX9_brings 33 = .ok (.ireturn, 1) := by decide +kernel
set_option maxRecDepth 20000 in
theorem ggX9_question_X4_hasMatter : GoodIn wsX9_question wsX4_hasMatter := goodIn_r _ [10, 11, 12, 13, 14, 49, 50, 51] (by decide +kernel) (by decide +kernel)
set_option maxRecDepth 20000 in
theorem gX9_question_X4_hasMatter : GoodIn wsX9_question (wsV RX9 133 RX4 yX4_hasMatter wsX4_hasMatter) := goodIn_app (goodIn_of _ (by decide +kernel)) ggX9_question_X4_hasMatter
set_option maxRecDepth 20000 in
theorem ggX9_question_X4_first : GoodIn wsX9_question wsX4_first := goodIn_r _ [18, 11, 19, 20, 49, 50, 51, 52, 53, 54, 55] (by decide +kernel) (by decide +kernel)
set_option maxRecDepth 20000 in
theorem gX9_question_X4_first : GoodIn wsX9_question (wsV RX9 147 RX4 yX4_first wsX4_first) := goodIn_app (goodIn_of _ (by decide +kernel)) ggX9_question_X4_first
set_option maxRecDepth 20000 in
theorem ggX9_question_X4_bringing : GoodIn wsX9_question wsX4_bringing := goodIn_r _ [24, 19, 25, 26, 27, 28, 29, 30, 31, 32, 33, 34, 35, 36, 37, 49, 50, 51, 52, 53, 54, 55] (by decide +kernel) (by decide +kernel)
set_option maxRecDepth 20000 in
theorem gX9_question_X4_bringing : GoodIn wsX9_question (wsV RX9 143 RX4 yX4_bringing wsX4_bringing) := goodIn_app (goodIn_of _ (by decide +kernel)) ggX9_question_X4_bringing
theorem dX9_question_0 : decode cX9_question 0 = .ok (.aload_n 0, 1) := by decide +kernel
theorem dX9_question_1 : decode cX9_question 1 = .ok (.getfield 20, 3) := by decide +kernel
theorem dX9_question_4 : decode cX9_question 4 = .ok (.iload_n 1, 1) := by decide +kernel
theorem dX9_question_5 : decode cX9_question 5 = .ok (.invokevirtual 133, 3) := by decide +kernel
theorem dX9_question_8 : decode cX9_question 8 = .ok (.ifCond .ne 5, 3) := by decide +kernel
theorem dX9_question_11 : decode cX9_question 11 = .ok (.iconst (-1), 1) := by decide +kernel
theorem dX9_question_12 : decode cX9_question 12 = .ok (.ireturn, 1) := by decide +kernel
theorem dX9_question_13 : decode cX9_question 13 = .ok (.aload_n 0, 1) := by decide +kernel
theorem dX9_question_14 : decode cX9_question 14 = .ok (.getfield 20, 3) := by decide +kernel
theorem dX9_question_17 : decode cX9_question 17 = .ok (.invokevirtual 147, 3) := by decide +kernel
theorem dX9_question_20 : decode cX9_question 20 = .ok (.istore_n 2, 1) := by decide +kernel
theorem dX9_question_21 : decode cX9_question 21 = .ok (.aload_n 0, 1) := by decide +kernel
theorem dX9_question_22 : decode cX9_question 22 = .ok (.getfield 20, 3) := by decide +kernel
theorem dX9_question_25 : decode cX9_question 25 = .ok (.getfield 108, 3) := by decide +kernel
theorem dX9_question_28 : decode cX9_question 28 = .ok (.iload_n 2, 1) := by decide +kernel
theorem dX9_question_29 : decode cX9_question 29 = .ok (.aaload, 1) := by decide +kernel
theorem dX9_question_30 : decode cX9_question 30 = .ok (.dup, 1) := by decide +kernel
theorem dX9_question_31 : decode cX9_question 31 = .ok (.getfield 117, 3) := by decide +kernel
theorem dX9_question_34 : decode cX9_question 34 = .ok (.iconst 1, 1) := by decide +kernel
theorem dX9_question_35 : decode cX9_question 35 = .ok (.iadd, 1) := by decide +kernel
theorem dX9_question_36 : decode cX9_question 36 = .ok (.putfield 117, 3) := by decide +kernel
theorem dX9_question_39 : decode cX9_question 39 = .ok (.aload_n 0, 1) := by decide +kernel
theorem dX9_question_40 : decode cX9_question 40 = .ok (.dup, 1) := by decide +kernel
theorem dX9_question_41 : decode cX9_question 41 = .ok (.getfield 62, 3) := by decide +kernel
theorem dX9_question_44 : decode cX9_question 44 = .ok (.iconst 1, 1) := by decide +kernel
theorem dX9_question_45 : decode cX9_question 45 = .ok (.iadd, 1) := by decide +kernel
theorem dX9_question_46 : decode cX9_question 46 = .ok (.putfield 62, 3) := by decide +kernel
theorem dX9_question_49 : decode cX9_question 49 = .ok (.aload_n 0, 1) := by decide +kernel
theorem dX9_question_50 : decode cX9_question 50 = .ok (.dup, 1) := by decide +kernel
theorem dX9_question_51 : decode cX9_question 51 = .ok (.getfield 66, 3) := by decide +kernel
theorem dX9_question_54 : decode cX9_question 54 = .ok (.aload_n 0, 1) := by decide +kernel
theorem dX9_question_55 : decode cX9_question 55 = .ok (.getfield 20, 3) := by decide +kernel
theorem dX9_question_58 : decode cX9_question 58 = .ok (.iload_n 2, 1) := by decide +kernel
theorem dX9_question_59 : decode cX9_question 59 = .ok (.iload_n 1, 1) := by decide +kernel
theorem dX9_question_60 : decode cX9_question 60 = .ok (.invokevirtual 143, 3) := by decide +kernel
theorem dX9_question_63 : decode cX9_question 63 = .ok (.iadd, 1) := by decide +kernel
theorem dX9_question_64 : decode cX9_question 64 = .ok (.putfield 66, 3) := by decide +kernel
theorem dX9_question_67 : decode cX9_question 67 = .ok (.iload_n 2, 1) := by decide +kernel
theorem dX9_question_68 : decode cX9_question 68 = .ok (.ireturn, 1) := by decide +kernel
set_option maxRecDepth 20000 in
theorem ggX9_feint_X4_hasPerson : GoodIn wsX9_feint wsX4_hasPerson := goodIn_r _ [8, 9, 10, 11, 12, 30, 31, 32] (by decide +kernel) (by decide +kernel)
set_option maxRecDepth 20000 in
theorem gX9_feint_X4_hasPerson : GoodIn wsX9_feint (wsV RX9 105 RX4 yX4_hasPerson wsX4_hasPerson) := goodIn_app (goodIn_of _ (by decide +kernel)) ggX9_feint_X4_hasPerson
set_option maxRecDepth 20000 in
theorem ggX9_feint_X4_first : GoodIn wsX9_feint wsX4_first := goodIn_r _ [16, 9, 17, 18, 30, 31, 32, 33, 34, 35, 36] (by decide +kernel) (by decide +kernel)
set_option maxRecDepth 20000 in
theorem gX9_feint_X4_first : GoodIn wsX9_feint (wsV RX9 147 RX4 yX4_first wsX4_first) := goodIn_app (goodIn_of _ (by decide +kernel)) ggX9_feint_X4_first
theorem dX9_feint_0 : decode cX9_feint 0 = .ok (.aload_n 0, 1) := by decide +kernel
theorem dX9_feint_1 : decode cX9_feint 1 = .ok (.getfield 20, 3) := by decide +kernel
theorem dX9_feint_4 : decode cX9_feint 4 = .ok (.iload_n 1, 1) := by decide +kernel
theorem dX9_feint_5 : decode cX9_feint 5 = .ok (.invokevirtual 105, 3) := by decide +kernel
theorem dX9_feint_8 : decode cX9_feint 8 = .ok (.ifCond .ne 5, 3) := by decide +kernel
theorem dX9_feint_11 : decode cX9_feint 11 = .ok (.iconst (-1), 1) := by decide +kernel
theorem dX9_feint_12 : decode cX9_feint 12 = .ok (.ireturn, 1) := by decide +kernel
theorem dX9_feint_13 : decode cX9_feint 13 = .ok (.aload_n 0, 1) := by decide +kernel
theorem dX9_feint_14 : decode cX9_feint 14 = .ok (.getfield 20, 3) := by decide +kernel
theorem dX9_feint_17 : decode cX9_feint 17 = .ok (.invokevirtual 147, 3) := by decide +kernel
theorem dX9_feint_20 : decode cX9_feint 20 = .ok (.iload_n 1, 1) := by decide +kernel
theorem dX9_feint_21 : decode cX9_feint 21 = .ok (.if_icmp .eq 6, 3) := by decide +kernel
theorem dX9_feint_24 : decode cX9_feint 24 = .ok (.bipush (-3), 2) := by decide +kernel
theorem dX9_feint_26 : decode cX9_feint 26 = .ok (.ireturn, 1) := by decide +kernel
theorem dX9_feint_27 : decode cX9_feint 27 = .ok (.aload_n 0, 1) := by decide +kernel
theorem dX9_feint_28 : decode cX9_feint 28 = .ok (.getfield 20, 3) := by decide +kernel
theorem dX9_feint_31 : decode cX9_feint 31 = .ok (.getfield 108, 3) := by decide +kernel
theorem dX9_feint_34 : decode cX9_feint 34 = .ok (.iload_n 1, 1) := by decide +kernel
theorem dX9_feint_35 : decode cX9_feint 35 = .ok (.aaload, 1) := by decide +kernel
theorem dX9_feint_36 : decode cX9_feint 36 = .ok (.dup, 1) := by decide +kernel
theorem dX9_feint_37 : decode cX9_feint 37 = .ok (.getfield 117, 3) := by decide +kernel
theorem dX9_feint_40 : decode cX9_feint 40 = .ok (.iconst 1, 1) := by decide +kernel
theorem dX9_feint_41 : decode cX9_feint 41 = .ok (.iadd, 1) := by decide +kernel
theorem dX9_feint_42 : decode cX9_feint 42 = .ok (.putfield 117, 3) := by decide +kernel
theorem dX9_feint_45 : decode cX9_feint 45 = .ok (.aload_n 0, 1) := by decide +kernel
theorem dX9_feint_46 : decode cX9_feint 46 = .ok (.getfield 20, 3) := by decide +kernel
theorem dX9_feint_49 : decode cX9_feint 49 = .ok (.getfield 108, 3) := by decide +kernel
theorem dX9_feint_52 : decode cX9_feint 52 = .ok (.iload_n 1, 1) := by decide +kernel
theorem dX9_feint_53 : decode cX9_feint 53 = .ok (.aaload, 1) := by decide +kernel
theorem dX9_feint_54 : decode cX9_feint 54 = .ok (.getfield 117, 3) := by decide +kernel
theorem dX9_feint_57 : decode cX9_feint 57 = .ok (.ireturn, 1) := by decide +kernel
set_option maxRecDepth 20000 in
theorem ggX9_year_X9_isSheet : GoodIn wsX9_year wsX9_isSheet := goodIn_r _ [10, 11, 12, 9, 13] (by decide +kernel) (by decide +kernel)
set_option maxRecDepth 20000 in
theorem gX9_year_X9_isSheet : GoodIn wsX9_year (va_wsS RX9 73 yX9_isSheet wsX9_isSheet) := goodIn_app (goodIn_of _ (by decide +kernel)) ggX9_year_X9_isSheet
set_option maxRecDepth 20000 in
theorem ggX9_year_X9_isLane : GoodIn wsX9_year wsX9_isLane := goodIn_r _ [16] (by decide +kernel) (by decide +kernel)
set_option maxRecDepth 20000 in
theorem gX9_year_X9_isLane : GoodIn wsX9_year (va_wsS RX9 77 yX9_isLane wsX9_isLane) := goodIn_app (goodIn_of _ (by decide +kernel)) ggX9_year_X9_isLane
set_option maxRecDepth 20000 in
theorem ggX9_year_X8_tells : GoodIn wsX9_year wsX8_tells := goodIn_r _ [20, 12, 9, 13, 21, 22, 19, 23] (by decide +kernel) (by decide +kernel)
set_option maxRecDepth 20000 in
theorem gX9_year_X8_tells : GoodIn wsX9_year (va_wsS RX9 150 yX8_tells wsX8_tells) := goodIn_app (goodIn_of _ (by decide +kernel)) ggX9_year_X8_tells
set_option maxRecDepth 20000 in
theorem ggX9_year_X9_rowFault : GoodIn wsX9_year wsX9_rowFault := goodIn_r _ [26, 27, 28, 29, 30, 31, 32, 33, 34, 35, 36, 37, 38, 134, 135, 136, 137] (by decide +kernel) (by decide +kernel)
set_option maxRecDepth 20000 in
theorem gX9_year_X9_rowFault : GoodIn wsX9_year (va_wsS RX9 153 yX9_rowFault wsX9_rowFault) := goodIn_app (goodIn_of _ (by decide +kernel)) ggX9_year_X9_rowFault
set_option maxRecDepth 20000 in
theorem ggX9_year_X9_failed : GoodIn wsX9_year wsX9_failed := goodIn_r _ [42, 1, 120, 121, 122, 123, 124, 125, 126, 127, 128, 129, 130] (by decide +kernel) (by decide +kernel)
set_option maxRecDepth 20000 in
theorem gX9_year_X9_failed : GoodIn wsX9_year (wsV RX9 88 RX9 yX9_failed wsX9_failed) := goodIn_app (goodIn_of _ (by decide +kernel)) ggX9_year_X9_failed
set_option maxRecDepth 20000 in
theorem ggX9_year_X8_refusal : GoodIn wsX9_year wsX8_refusal := goodIn_r _ [45, 46, 47, 48, 19, 49, 50, 51, 52, 53, 54, 55, 12, 9, 13, 56, 57, 58, 59, 21, 22, 23, 134, 135, 136, 137, 131, 132, 133] (by decide +kernel) (by decide +kernel)
set_option maxRecDepth 20000 in
theorem gX9_year_X8_refusal : GoodIn wsX9_year (va_wsS RX9 157 yX8_refusal wsX8_refusal) := goodIn_app (goodIn_of _ (by decide +kernel)) ggX9_year_X8_refusal
set_option maxRecDepth 20000 in
theorem ggX9_year_X4_becomeLike : GoodIn wsX9_year wsX4_becomeLike := goodIn_r _ [63, 55, 64, 65, 66, 67, 68, 69, 70, 71, 72, 73, 74, 75, 76, 77, 78, 131, 132, 133, 138, 139, 140, 141] (by decide +kernel) (by decide +kernel)
set_option maxRecDepth 20000 in
theorem gX9_year_X4_becomeLike : GoodIn wsX9_year (wsV RX9 161 RX4 yX4_becomeLike wsX4_becomeLike) := goodIn_app (goodIn_of _ (by decide +kernel)) ggX9_year_X4_becomeLike
set_option maxRecDepth 20000 in
theorem ggX9_year_X8_go : GoodIn wsX9_year wsX8_go := goodIn_r _ [82, 83, 84, 85, 86, 46, 87, 88, 89, 19, 90, 91, 92, 93, 94, 95, 96, 97, 98, 99, 100, 53, 101, 55, 69, 102, 103, 104, 105, 106, 64, 107, 108, 109, 73, 110, 75, 78, 111, 112, 113, 114, 77, 115, 56, 57, 58, 59, 12, 9, 13, 142, 143, 144, 145, 134, 135, 136, 137, 131, 132, 133, 138, 139, 140, 141] (by decide +kernel) (by decide +kernel)
set_option maxRecDepth 20000 in
theorem gX9_year_X8_go : GoodIn wsX9_year (wsV RX9 165 RX8 yX8_go wsX8_go) := goodIn_app (goodIn_of _ (by decide +kernel)) ggX9_year_X8_go
set_option maxRecDepth 20000 in
theorem ggX9_year_X8_answer : GoodIn wsX9_year wsX8_answer := goodIn_r _ [119, 86, 83, 84, 85, 91, 92, 98, 99, 100, 53, 101, 55, 69, 102, 56, 57, 58, 59, 12, 9, 13, 142, 143, 144, 145, 131, 132, 133, 138, 139, 140, 141] (by decide +kernel) (by decide +kernel)
set_option maxRecDepth 20000 in
theorem gX9_year_X8_answer : GoodIn wsX9_year (wsV RX9 168 RX8 yX8_answer wsX8_answer) := goodIn_app (goodIn_of _ (by decide +kernel)) ggX9_year_X8_answer
theorem dX9_year_0 : decode cX9_year 0 = .ok (.aload_n 0, 1) := by decide +kernel
theorem dX9_year_1 : decode cX9_year 1 = .ok (.iconst 0, 1) := by decide +kernel
theorem dX9_year_2 : decode cX9_year 2 = .ok (.putfield 69, 3) := by decide +kernel
theorem dX9_year_5 : decode cX9_year 5 = .ok (.iload_n 1, 1) := by decide +kernel
theorem dX9_year_6 : decode cX9_year 6 = .ok (.invokestatic 73, 3) := by decide +kernel
theorem dX9_year_9 : decode cX9_year 9 = .ok (.ifCond .ne 5, 3) := by decide +kernel
theorem dX9_year_12 : decode cX9_year 12 = .ok (.iconst (-1), 1) := by decide +kernel
theorem dX9_year_13 : decode cX9_year 13 = .ok (.ireturn, 1) := by decide +kernel
theorem dX9_year_14 : decode cX9_year 14 = .ok (.iload_n 2, 1) := by decide +kernel
theorem dX9_year_15 : decode cX9_year 15 = .ok (.invokestatic 77, 3) := by decide +kernel
theorem dX9_year_18 : decode cX9_year 18 = .ok (.ifCond .eq 23, 3) := by decide +kernel
theorem dX9_year_21 : decode cX9_year 21 = .ok (.iload 4, 2) := by decide +kernel
theorem dX9_year_23 : decode cX9_year 23 = .ok (.ifCond .lt 18, 3) := by decide +kernel
theorem dX9_year_26 : decode cX9_year 26 = .ok (.iload 4, 2) := by decide +kernel
theorem dX9_year_28 : decode cX9_year 28 = .ok (.bipush 20, 2) := by decide +kernel
theorem dX9_year_30 : decode cX9_year 30 = .ok (.if_icmp .gt 11, 3) := by decide +kernel
theorem dX9_year_33 : decode cX9_year 33 = .ok (.iload 5, 2) := by decide +kernel
theorem dX9_year_35 : decode cX9_year 35 = .ok (.invokestatic 150, 3) := by decide +kernel
theorem dX9_year_38 : decode cX9_year 38 = .ok (.ifCond .ne 6, 3) := by decide +kernel
theorem dX9_year_41 : decode cX9_year 41 = .ok (.bipush (-2), 2) := by decide +kernel
theorem dX9_year_43 : decode cX9_year 43 = .ok (.ireturn, 1) := by decide +kernel
theorem dX9_year_44 : decode cX9_year 44 = .ok (.aload_n 0, 1) := by decide +kernel
theorem dX9_year_45 : decode cX9_year 45 = .ok (.getfield 13, 3) := by decide +kernel
theorem dX9_year_48 : decode cX9_year 48 = .ok (.iload_n 1, 1) := by decide +kernel
theorem dX9_year_49 : decode cX9_year 49 = .ok (.aaload, 1) := by decide +kernel
theorem dX9_year_50 : decode cX9_year 50 = .ok (.iload_n 2, 1) := by decide +kernel
theorem dX9_year_51 : decode cX9_year 51 = .ok (.iload_n 3, 1) := by decide +kernel
theorem dX9_year_52 : decode cX9_year 52 = .ok (.iconst 2, 1) := by decide +kernel
theorem dX9_year_53 : decode cX9_year 53 = .ok (.iload 4, 2) := by decide +kernel
theorem dX9_year_55 : decode cX9_year 55 = .ok (.imul, 1) := by decide +kernel
theorem dX9_year_56 : decode cX9_year 56 = .ok (.invokestatic 153, 3) := by decide +kernel
theorem dX9_year_59 : decode cX9_year 59 = .ok (.istore 6, 2) := by decide +kernel
theorem dX9_year_61 : decode cX9_year 61 = .ok (.iload 6, 2) := by decide +kernel
theorem dX9_year_63 : decode cX9_year 63 = .ok (.ifCond .eq 10, 3) := by decide +kernel
theorem dX9_year_66 : decode cX9_year 66 = .ok (.aload_n 0, 1) := by decide +kernel
theorem dX9_year_67 : decode cX9_year 67 = .ok (.iload 6, 2) := by decide +kernel
theorem dX9_year_69 : decode cX9_year 69 = .ok (.invokevirtual 88, 3) := by decide +kernel
theorem dX9_year_72 : decode cX9_year 72 = .ok (.ireturn, 1) := by decide +kernel
theorem dX9_year_73 : decode cX9_year 73 = .ok (.aload_n 0, 1) := by decide +kernel
theorem dX9_year_74 : decode cX9_year 74 = .ok (.getfield 20, 3) := by decide +kernel
theorem dX9_year_77 : decode cX9_year 77 = .ok (.getfield 104, 3) := by decide +kernel
theorem dX9_year_80 : decode cX9_year 80 = .ok (.ifCond .ne 6, 3) := by decide +kernel
theorem dX9_year_83 : decode cX9_year 83 = .ok (.bipush (-3), 2) := by decide +kernel
theorem dX9_year_85 : decode cX9_year 85 = .ok (.ireturn, 1) := by decide +kernel
theorem dX9_year_86 : decode cX9_year 86 = .ok (.aload_n 0, 1) := by decide +kernel
theorem dX9_year_87 : decode cX9_year 87 = .ok (.getfield 13, 3) := by decide +kernel
theorem dX9_year_90 : decode cX9_year 90 = .ok (.iload_n 1, 1) := by decide +kernel
theorem dX9_year_91 : decode cX9_year 91 = .ok (.aaload, 1) := by decide +kernel
theorem dX9_year_92 : decode cX9_year 92 = .ok (.iload_n 3, 1) := by decide +kernel
theorem dX9_year_93 : decode cX9_year 93 = .ok (.iload 4, 2) := by decide +kernel
theorem dX9_year_95 : decode cX9_year 95 = .ok (.aload_n 0, 1) := by decide +kernel
theorem dX9_year_96 : decode cX9_year 96 = .ok (.getfield 20, 3) := by decide +kernel
theorem dX9_year_99 : decode cX9_year 99 = .ok (.invokestatic 157, 3) := by decide +kernel
theorem dX9_year_102 : decode cX9_year 102 = .ok (.istore 7, 2) := by decide +kernel
theorem dX9_year_104 : decode cX9_year 104 = .ok (.iload 7, 2) := by decide +kernel
theorem dX9_year_106 : decode cX9_year 106 = .ok (.ifCond .eq 6, 3) := by decide +kernel
theorem dX9_year_109 : decode cX9_year 109 = .ok (.iload 7, 2) := by decide +kernel
theorem dX9_year_111 : decode cX9_year 111 = .ok (.ireturn, 1) := by decide +kernel
theorem dX9_year_112 : decode cX9_year 112 = .ok (.aload_n 0, 1) := by decide +kernel
theorem dX9_year_113 : decode cX9_year 113 = .ok (.getfield 24, 3) := by decide +kernel
theorem dX9_year_116 : decode cX9_year 116 = .ok (.aload_n 0, 1) := by decide +kernel
theorem dX9_year_117 : decode cX9_year 117 = .ok (.getfield 20, 3) := by decide +kernel
theorem dX9_year_120 : decode cX9_year 120 = .ok (.invokevirtual 161, 3) := by decide +kernel
theorem dX9_year_123 : decode cX9_year 123 = .ok (.aload_n 0, 1) := by decide +kernel
theorem dX9_year_124 : decode cX9_year 124 = .ok (.getfield 30, 3) := by decide +kernel
theorem dX9_year_127 : decode cX9_year 127 = .ok (.aload_n 0, 1) := by decide +kernel
theorem dX9_year_128 : decode cX9_year 128 = .ok (.getfield 13, 3) := by decide +kernel
theorem dX9_year_131 : decode cX9_year 131 = .ok (.iload_n 1, 1) := by decide +kernel
theorem dX9_year_132 : decode cX9_year 132 = .ok (.aaload, 1) := by decide +kernel
theorem dX9_year_133 : decode cX9_year 133 = .ok (.iload_n 3, 1) := by decide +kernel
theorem dX9_year_134 : decode cX9_year 134 = .ok (.iload 4, 2) := by decide +kernel
theorem dX9_year_136 : decode cX9_year 136 = .ok (.aload_n 0, 1) := by decide +kernel
theorem dX9_year_137 : decode cX9_year 137 = .ok (.getfield 24, 3) := by decide +kernel
theorem dX9_year_140 : decode cX9_year 140 = .ok (.invokevirtual 165, 3) := by decide +kernel
theorem dX9_year_143 : decode cX9_year 143 = .ok (.aload_n 0, 1) := by decide +kernel
theorem dX9_year_144 : decode cX9_year 144 = .ok (.getfield 30, 3) := by decide +kernel
theorem dX9_year_147 : decode cX9_year 147 = .ok (.iload 5, 2) := by decide +kernel
theorem dX9_year_149 : decode cX9_year 149 = .ok (.aload_n 0, 1) := by decide +kernel
theorem dX9_year_150 : decode cX9_year 150 = .ok (.getfield 24, 3) := by decide +kernel
theorem dX9_year_153 : decode cX9_year 153 = .ok (.invokevirtual 168, 3) := by decide +kernel
theorem dX9_year_156 : decode cX9_year 156 = .ok (.ireturn, 1) := by decide +kernel
set_option maxRecDepth 20000 in
theorem ggX9_register_X9_isBelow : GoodIn wsX9_register wsX9_isBelow := goodIn_r _ [6] (by decide +kernel) (by decide +kernel)
set_option maxRecDepth 20000 in
theorem gX9_register_X9_isBelow : GoodIn wsX9_register (va_wsS RX9 140 yX9_isBelow wsX9_isBelow) := goodIn_app (goodIn_of _ (by decide +kernel)) ggX9_register_X9_isBelow
set_option maxRecDepth 20000 in
theorem ggX9_register_X4_atPlace : GoodIn wsX9_register wsX4_atPlace := goodIn_r _ [11, 12, 13, 14, 15, 10, 16, 17, 18, 19, 20, 21, 22, 23, 24, 25, 26, 38, 39, 40, 41, 42, 43, 44] (by decide +kernel) (by decide +kernel)
set_option maxRecDepth 20000 in
theorem gX9_register_X4_atPlace : GoodIn wsX9_register (wsV RX9 172 RX4 yX4_atPlace wsX4_atPlace) := goodIn_app (goodIn_of _ (by decide +kernel)) ggX9_register_X4_atPlace
theorem dX9_register_0 : decode cX9_register 0 = .ok (.iload_n 1, 1) := by decide +kernel
theorem dX9_register_1 : decode cX9_register 1 = .ok (.bipush 6, 2) := by decide +kernel
theorem dX9_register_3 : decode cX9_register 3 = .ok (.invokestatic 140, 3) := by decide +kernel
theorem dX9_register_6 : decode cX9_register 6 = .ok (.ifCond .ne 6, 3) := by decide +kernel
theorem dX9_register_9 : decode cX9_register 9 = .ok (.bipush (-2), 2) := by decide +kernel
theorem dX9_register_11 : decode cX9_register 11 = .ok (.ireturn, 1) := by decide +kernel
theorem dX9_register_12 : decode cX9_register 12 = .ok (.aload_n 0, 1) := by decide +kernel
theorem dX9_register_13 : decode cX9_register 13 = .ok (.getfield 20, 3) := by decide +kernel
theorem dX9_register_16 : decode cX9_register 16 = .ok (.getfield 104, 3) := by decide +kernel
theorem dX9_register_19 : decode cX9_register 19 = .ok (.ifCond .ne 6, 3) := by decide +kernel
theorem dX9_register_22 : decode cX9_register 22 = .ok (.bipush (-3), 2) := by decide +kernel
theorem dX9_register_24 : decode cX9_register 24 = .ok (.ireturn, 1) := by decide +kernel
theorem dX9_register_25 : decode cX9_register 25 = .ok (.aload_n 0, 1) := by decide +kernel
theorem dX9_register_26 : decode cX9_register 26 = .ok (.getfield 20, 3) := by decide +kernel
theorem dX9_register_29 : decode cX9_register 29 = .ok (.iload_n 1, 1) := by decide +kernel
theorem dX9_register_30 : decode cX9_register 30 = .ok (.invokevirtual 172, 3) := by decide +kernel
theorem dX9_register_33 : decode cX9_register 33 = .ok (.ireturn, 1) := by decide +kernel
set_option maxRecDepth 20000 in
theorem ggX9_turn_X4_hasPerson : GoodIn wsX9_turn wsX4_hasPerson := goodIn_r _ [6, 7, 8, 9, 10, 36, 37, 38] (by decide +kernel) (by decide +kernel)
set_option maxRecDepth 20000 in
theorem gX9_turn_X4_hasPerson : GoodIn wsX9_turn (wsV RX9 105 RX4 yX4_hasPerson wsX4_hasPerson) := goodIn_app (goodIn_of _ (by decide +kernel)) ggX9_turn_X4_hasPerson
set_option maxRecDepth 20000 in
theorem ggX9_turn_X4_questionsAheadOf : GoodIn wsX9_turn wsX4_questionsAheadOf := goodIn_r _ [14, 7, 15, 16, 17, 5, 18, 19, 20, 21, 22, 23, 24, 36, 37, 38, 39, 40, 41, 42] (by decide +kernel) (by decide +kernel)
set_option maxRecDepth 20000 in
theorem gX9_turn_X4_questionsAheadOf : GoodIn wsX9_turn (wsV RX9 175 RX4 yX4_questionsAheadOf wsX4_questionsAheadOf) := goodIn_app (goodIn_of _ (by decide +kernel)) ggX9_turn_X4_questionsAheadOf
theorem dX9_turn_0 : decode cX9_turn 0 = .ok (.aload_n 0, 1) := by decide +kernel
theorem dX9_turn_1 : decode cX9_turn 1 = .ok (.getfield 20, 3) := by decide +kernel
theorem dX9_turn_4 : decode cX9_turn 4 = .ok (.iload_n 1, 1) := by decide +kernel
theorem dX9_turn_5 : decode cX9_turn 5 = .ok (.invokevirtual 105, 3) := by decide +kernel
theorem dX9_turn_8 : decode cX9_turn 8 = .ok (.ifCond .eq 14, 3) := by decide +kernel
theorem dX9_turn_11 : decode cX9_turn 11 = .ok (.aload_n 0, 1) := by decide +kernel
theorem dX9_turn_12 : decode cX9_turn 12 = .ok (.getfield 20, 3) := by decide +kernel
theorem dX9_turn_15 : decode cX9_turn 15 = .ok (.iload_n 1, 1) := by decide +kernel
theorem dX9_turn_16 : decode cX9_turn 16 = .ok (.invokevirtual 175, 3) := by decide +kernel
theorem dX9_turn_19 : decode cX9_turn 19 = .ok (.goto 4, 3) := by decide +kernel
theorem dX9_turn_22 : decode cX9_turn 22 = .ok (.iconst (-1), 1) := by decide +kernel
theorem dX9_turn_23 : decode cX9_turn 23 = .ok (.ireturn, 1) := by decide +kernel
set_option maxRecDepth 20000 in
theorem ggX9_steer_X4_hasMatter : GoodIn wsX9_steer wsX4_hasMatter := goodIn_r _ [6, 7, 8, 9, 10, 49, 50, 51] (by decide +kernel) (by decide +kernel)
set_option maxRecDepth 20000 in
theorem gX9_steer_X4_hasMatter : GoodIn wsX9_steer (wsV RX9 133 RX4 yX4_hasMatter wsX4_hasMatter) := goodIn_app (goodIn_of _ (by decide +kernel)) ggX9_steer_X4_hasMatter
set_option maxRecDepth 20000 in
theorem ggX9_steer_X4_feintsTillKnown : GoodIn wsX9_steer wsX4_feintsTillKnown := goodIn_r _ [14, 7, 15, 16, 17, 18, 19, 20, 21, 22, 23, 24, 25, 26, 27, 28, 5, 29, 30, 31, 32, 33, 34, 35, 36, 37, 49, 50, 51, 52, 53, 54, 55] (by decide +kernel) (by decide +kernel)
set_option maxRecDepth 20000 in
theorem gX9_steer_X4_feintsTillKnown : GoodIn wsX9_steer (wsV RX9 178 RX4 yX4_feintsTillKnown wsX4_feintsTillKnown) := goodIn_app (goodIn_of _ (by decide +kernel)) ggX9_steer_X4_feintsTillKnown
theorem dX9_steer_0 : decode cX9_steer 0 = .ok (.aload_n 0, 1) := by decide +kernel
theorem dX9_steer_1 : decode cX9_steer 1 = .ok (.getfield 20, 3) := by decide +kernel
theorem dX9_steer_4 : decode cX9_steer 4 = .ok (.iload_n 1, 1) := by decide +kernel
theorem dX9_steer_5 : decode cX9_steer 5 = .ok (.invokevirtual 133, 3) := by decide +kernel
theorem dX9_steer_8 : decode cX9_steer 8 = .ok (.ifCond .eq 14, 3) := by decide +kernel
theorem dX9_steer_11 : decode cX9_steer 11 = .ok (.aload_n 0, 1) := by decide +kernel
theorem dX9_steer_12 : decode cX9_steer 12 = .ok (.getfield 20, 3) := by decide +kernel
theorem dX9_steer_15 : decode cX9_steer 15 = .ok (.iload_n 1, 1) := by decide +kernel
theorem dX9_steer_16 : decode cX9_steer 16 = .ok (.invokevirtual 178, 3) := by decide +kernel
theorem dX9_steer_19 : decode cX9_steer 19 = .ok (.goto 4, 3) := by decide +kernel
theorem dX9_steer_22 : decode cX9_steer 22 = .ok (.iconst (-1), 1) := by decide +kernel
theorem dX9_steer_23 : decode cX9_steer 23 = .ok (.ireturn, 1) := by decide +kernel
set_option maxRecDepth 20000 in
theorem ggX9_even_X4_questionsTillEven : GoodIn wsX9_even wsX4_questionsTillEven := goodIn_r _ [7, 8, 9, 10, 11, 12, 13, 14, 26, 27, 28, 29, 30, 31, 32] (by decide +kernel) (by decide +kernel)
set_option maxRecDepth 20000 in
theorem gX9_even_X4_questionsTillEven : GoodIn wsX9_even (wsV RX9 181 RX4 yX4_questionsTillEven wsX4_questionsTillEven) := goodIn_app (goodIn_of _ (by decide +kernel)) ggX9_even_X4_questionsTillEven
theorem dX9_even_0 : decode cX9_even 0 = .ok (.aload_n 0, 1) := by decide +kernel
theorem dX9_even_1 : decode cX9_even 1 = .ok (.getfield 20, 3) := by decide +kernel
theorem dX9_even_4 : decode cX9_even 4 = .ok (.getfield 104, 3) := by decide +kernel
theorem dX9_even_7 : decode cX9_even 7 = .ok (.ifCond .ne 8, 3) := by decide +kernel
theorem dX9_even_10 : decode cX9_even 10 = .ok (.bipush (-3), 2) := by decide +kernel
theorem dX9_even_12 : decode cX9_even 12 = .ok (.goto 10, 3) := by decide +kernel
theorem dX9_even_15 : decode cX9_even 15 = .ok (.aload_n 0, 1) := by decide +kernel
theorem dX9_even_16 : decode cX9_even 16 = .ok (.getfield 20, 3) := by decide +kernel
theorem dX9_even_19 : decode cX9_even 19 = .ok (.invokevirtual 181, 3) := by decide +kernel
theorem dX9_even_22 : decode cX9_even 22 = .ok (.ireturn, 1) := by decide +kernel
set_option maxRecDepth 20000 in
theorem ggX9_plan_X9_isSheet : GoodIn wsX9_plan wsX9_isSheet := goodIn_r _ [11, 12, 13, 10, 14] (by decide +kernel) (by decide +kernel)
set_option maxRecDepth 20000 in
theorem gX9_plan_X9_isSheet : GoodIn wsX9_plan (va_wsS RX9 73 yX9_isSheet wsX9_isSheet) := goodIn_app (goodIn_of _ (by decide +kernel)) ggX9_plan_X9_isSheet
set_option maxRecDepth 20000 in
theorem ggX9_plan_X9_isLane : GoodIn wsX9_plan wsX9_isLane := goodIn_r _ [17] (by decide +kernel) (by decide +kernel)
set_option maxRecDepth 20000 in
theorem gX9_plan_X9_isLane : GoodIn wsX9_plan (va_wsS RX9 77 yX9_isLane wsX9_isLane) := goodIn_app (goodIn_of _ (by decide +kernel)) ggX9_plan_X9_isLane
set_option maxRecDepth 20000 in
theorem ggX9_plan_X9_rowFault : GoodIn wsX9_plan wsX9_rowFault := goodIn_r _ [20, 21, 22, 23, 24, 25, 26, 27, 28, 29, 30, 31, 32, 125, 126, 127, 128] (by decide +kernel) (by decide +kernel)
set_option maxRecDepth 20000 in
theorem gX9_plan_X9_rowFault : GoodIn wsX9_plan (va_wsS RX9 153 yX9_rowFault wsX9_rowFault) := goodIn_app (goodIn_of _ (by decide +kernel)) ggX9_plan_X9_rowFault
set_option maxRecDepth 20000 in
theorem ggX9_plan_X9_failed : GoodIn wsX9_plan wsX9_failed := goodIn_r _ [36, 1, 111, 112, 113, 114, 115, 116, 117, 118, 119, 120, 121] (by decide +kernel) (by decide +kernel)
set_option maxRecDepth 20000 in
theorem gX9_plan_X9_failed : GoodIn wsX9_plan (wsV RX9 88 RX9 yX9_failed wsX9_failed) := goodIn_app (goodIn_of _ (by decide +kernel)) ggX9_plan_X9_failed
set_option maxRecDepth 20000 in
theorem ggX9_plan_X4_hasMatter : GoodIn wsX9_plan wsX4_hasMatter := goodIn_r _ [41, 42, 13, 10, 14, 122, 123, 124] (by decide +kernel) (by decide +kernel)
set_option maxRecDepth 20000 in
theorem gX9_plan_X4_hasMatter : GoodIn wsX9_plan (wsV RX9 133 RX4 yX4_hasMatter wsX4_hasMatter) := goodIn_app (goodIn_of _ (by decide +kernel)) ggX9_plan_X4_hasMatter
set_option maxRecDepth 20000 in
theorem ggX9_plan_X4_becomeLike : GoodIn wsX9_plan wsX4_becomeLike := goodIn_r _ [46, 42, 47, 48, 49, 50, 51, 52, 53, 54, 55, 56, 57, 58, 59, 60, 61, 122, 123, 124, 129, 130, 131, 132] (by decide +kernel) (by decide +kernel)
set_option maxRecDepth 20000 in
theorem gX9_plan_X4_becomeLike : GoodIn wsX9_plan (wsV RX9 161 RX4 yX4_becomeLike wsX4_becomeLike) := goodIn_app (goodIn_of _ (by decide +kernel)) ggX9_plan_X4_becomeLike
set_option maxRecDepth 20000 in
theorem ggX9_plan_X3_make : GoodIn wsX9_plan wsX3_make := goodIn_r _ [66, 67, 68, 69, 70, 71, 72, 73, 74, 75, 76, 77, 40, 78, 42, 52, 79, 80, 81, 82, 65, 83, 84, 85, 86, 87, 88, 89, 90, 91, 92, 93, 94, 95, 96, 97, 98, 47, 99, 100, 101, 56, 102, 58, 61, 103, 104, 105, 106, 60, 133, 134, 135, 136, 137, 125, 126, 127, 128, 122, 123, 124, 129, 130, 131, 132] (by decide +kernel) (by decide +kernel)
set_option maxRecDepth 20000 in
theorem gX9_plan_X3_make : GoodIn wsX9_plan (wsV RX9 187 RX3 yX3_make wsX3_make) := goodIn_app (goodIn_of _ (by decide +kernel)) ggX9_plan_X3_make
set_option maxRecDepth 20000 in
theorem ggX9_plan_X3_answer : GoodIn wsX9_plan wsX3_answer := goodIn_r _ [110, 73, 67, 74, 133, 134, 135, 136, 137] (by decide +kernel) (by decide +kernel)
set_option maxRecDepth 20000 in
theorem gX9_plan_X3_answer : GoodIn wsX9_plan (wsV RX9 190 RX3 yX3_answer wsX3_answer) := goodIn_app (goodIn_of _ (by decide +kernel)) ggX9_plan_X3_answer
theorem dX9_plan_0 : decode cX9_plan 0 = .ok (.aload_n 0, 1) := by decide +kernel
theorem dX9_plan_1 : decode cX9_plan 1 = .ok (.iconst 0, 1) := by decide +kernel
theorem dX9_plan_2 : decode cX9_plan 2 = .ok (.putfield 69, 3) := by decide +kernel
theorem dX9_plan_5 : decode cX9_plan 5 = .ok (.iload_n 1, 1) := by decide +kernel
theorem dX9_plan_6 : decode cX9_plan 6 = .ok (.invokestatic 73, 3) := by decide +kernel
theorem dX9_plan_9 : decode cX9_plan 9 = .ok (.ifCond .ne 5, 3) := by decide +kernel
theorem dX9_plan_12 : decode cX9_plan 12 = .ok (.iconst (-1), 1) := by decide +kernel
theorem dX9_plan_13 : decode cX9_plan 13 = .ok (.ireturn, 1) := by decide +kernel
theorem dX9_plan_14 : decode cX9_plan 14 = .ok (.iload_n 2, 1) := by decide +kernel
theorem dX9_plan_15 : decode cX9_plan 15 = .ok (.invokestatic 77, 3) := by decide +kernel
theorem dX9_plan_18 : decode cX9_plan 18 = .ok (.ifCond .eq 28, 3) := by decide +kernel
theorem dX9_plan_21 : decode cX9_plan 21 = .ok (.iload 4, 2) := by decide +kernel
theorem dX9_plan_23 : decode cX9_plan 23 = .ok (.ifCond .lt 23, 3) := by decide +kernel
theorem dX9_plan_26 : decode cX9_plan 26 = .ok (.iload 4, 2) := by decide +kernel
theorem dX9_plan_28 : decode cX9_plan 28 = .ok (.bipush 7, 2) := by decide +kernel
theorem dX9_plan_30 : decode cX9_plan 30 = .ok (.if_icmp .gt 16, 3) := by decide +kernel
theorem dX9_plan_33 : decode cX9_plan 33 = .ok (.iload 5, 2) := by decide +kernel
theorem dX9_plan_35 : decode cX9_plan 35 = .ok (.iconst (-1), 1) := by decide +kernel
theorem dX9_plan_36 : decode cX9_plan 36 = .ok (.if_icmp .lt 10, 3) := by decide +kernel
theorem dX9_plan_39 : decode cX9_plan 39 = .ok (.iload 5, 2) := by decide +kernel
theorem dX9_plan_41 : decode cX9_plan 41 = .ok (.bipush 7, 2) := by decide +kernel
theorem dX9_plan_43 : decode cX9_plan 43 = .ok (.if_icmp .lt 6, 3) := by decide +kernel
theorem dX9_plan_46 : decode cX9_plan 46 = .ok (.bipush (-2), 2) := by decide +kernel
theorem dX9_plan_48 : decode cX9_plan 48 = .ok (.ireturn, 1) := by decide +kernel
theorem dX9_plan_49 : decode cX9_plan 49 = .ok (.aload_n 0, 1) := by decide +kernel
theorem dX9_plan_50 : decode cX9_plan 50 = .ok (.getfield 13, 3) := by decide +kernel
theorem dX9_plan_53 : decode cX9_plan 53 = .ok (.iload_n 1, 1) := by decide +kernel
theorem dX9_plan_54 : decode cX9_plan 54 = .ok (.aaload, 1) := by decide +kernel
theorem dX9_plan_55 : decode cX9_plan 55 = .ok (.iload_n 2, 1) := by decide +kernel
theorem dX9_plan_56 : decode cX9_plan 56 = .ok (.iload_n 3, 1) := by decide +kernel
theorem dX9_plan_57 : decode cX9_plan 57 = .ok (.iload 4, 2) := by decide +kernel
theorem dX9_plan_59 : decode cX9_plan 59 = .ok (.invokestatic 153, 3) := by decide +kernel
theorem dX9_plan_62 : decode cX9_plan 62 = .ok (.istore 6, 2) := by decide +kernel
theorem dX9_plan_64 : decode cX9_plan 64 = .ok (.iload 6, 2) := by decide +kernel
theorem dX9_plan_66 : decode cX9_plan 66 = .ok (.ifCond .eq 10, 3) := by decide +kernel
theorem dX9_plan_69 : decode cX9_plan 69 = .ok (.aload_n 0, 1) := by decide +kernel
theorem dX9_plan_70 : decode cX9_plan 70 = .ok (.iload 6, 2) := by decide +kernel
theorem dX9_plan_72 : decode cX9_plan 72 = .ok (.invokevirtual 88, 3) := by decide +kernel
theorem dX9_plan_75 : decode cX9_plan 75 = .ok (.ireturn, 1) := by decide +kernel
theorem dX9_plan_76 : decode cX9_plan 76 = .ok (.aload_n 0, 1) := by decide +kernel
theorem dX9_plan_77 : decode cX9_plan 77 = .ok (.getfield 20, 3) := by decide +kernel
theorem dX9_plan_80 : decode cX9_plan 80 = .ok (.getfield 104, 3) := by decide +kernel
theorem dX9_plan_83 : decode cX9_plan 83 = .ok (.ifCond .ne 6, 3) := by decide +kernel
theorem dX9_plan_86 : decode cX9_plan 86 = .ok (.bipush (-3), 2) := by decide +kernel
theorem dX9_plan_88 : decode cX9_plan 88 = .ok (.ireturn, 1) := by decide +kernel
theorem dX9_plan_89 : decode cX9_plan 89 = .ok (.iconst 0, 1) := by decide +kernel
theorem dX9_plan_90 : decode cX9_plan 90 = .ok (.istore 7, 2) := by decide +kernel
theorem dX9_plan_92 : decode cX9_plan 92 = .ok (.iload 7, 2) := by decide +kernel
theorem dX9_plan_94 : decode cX9_plan 94 = .ok (.iload 4, 2) := by decide +kernel
theorem dX9_plan_96 : decode cX9_plan 96 = .ok (.if_icmp .ge 35, 3) := by decide +kernel
theorem dX9_plan_99 : decode cX9_plan 99 = .ok (.aload_n 0, 1) := by decide +kernel
theorem dX9_plan_100 : decode cX9_plan 100 = .ok (.getfield 20, 3) := by decide +kernel
theorem dX9_plan_103 : decode cX9_plan 103 = .ok (.aload_n 0, 1) := by decide +kernel
theorem dX9_plan_104 : decode cX9_plan 104 = .ok (.getfield 13, 3) := by decide +kernel
theorem dX9_plan_107 : decode cX9_plan 107 = .ok (.iload_n 1, 1) := by decide +kernel
theorem dX9_plan_108 : decode cX9_plan 108 = .ok (.aaload, 1) := by decide +kernel
theorem dX9_plan_109 : decode cX9_plan 109 = .ok (.getfield 184, 3) := by decide +kernel
theorem dX9_plan_112 : decode cX9_plan 112 = .ok (.iload_n 3, 1) := by decide +kernel
theorem dX9_plan_113 : decode cX9_plan 113 = .ok (.iload 7, 2) := by decide +kernel
theorem dX9_plan_115 : decode cX9_plan 115 = .ok (.iadd, 1) := by decide +kernel
theorem dX9_plan_116 : decode cX9_plan 116 = .ok (.iaload, 1) := by decide +kernel
theorem dX9_plan_117 : decode cX9_plan 117 = .ok (.invokevirtual 133, 3) := by decide +kernel
theorem dX9_plan_120 : decode cX9_plan 120 = .ok (.ifCond .ne 5, 3) := by decide +kernel
theorem dX9_plan_123 : decode cX9_plan 123 = .ok (.iconst (-1), 1) := by decide +kernel
theorem dX9_plan_124 : decode cX9_plan 124 = .ok (.ireturn, 1) := by decide +kernel
theorem dX9_plan_125 : decode cX9_plan 125 = .ok (.iinc 7 1, 3) := by decide +kernel
theorem dX9_plan_128 : decode cX9_plan 128 = .ok (.goto (-36), 3) := by decide +kernel
theorem dX9_plan_131 : decode cX9_plan 131 = .ok (.aload_n 0, 1) := by decide +kernel
theorem dX9_plan_132 : decode cX9_plan 132 = .ok (.getfield 24, 3) := by decide +kernel
theorem dX9_plan_135 : decode cX9_plan 135 = .ok (.aload_n 0, 1) := by decide +kernel
theorem dX9_plan_136 : decode cX9_plan 136 = .ok (.getfield 20, 3) := by decide +kernel
theorem dX9_plan_139 : decode cX9_plan 139 = .ok (.invokevirtual 161, 3) := by decide +kernel
theorem dX9_plan_142 : decode cX9_plan 142 = .ok (.aload_n 0, 1) := by decide +kernel
theorem dX9_plan_143 : decode cX9_plan 143 = .ok (.getfield 37, 3) := by decide +kernel
theorem dX9_plan_146 : decode cX9_plan 146 = .ok (.aload_n 0, 1) := by decide +kernel
theorem dX9_plan_147 : decode cX9_plan 147 = .ok (.getfield 13, 3) := by decide +kernel
theorem dX9_plan_150 : decode cX9_plan 150 = .ok (.iload_n 1, 1) := by decide +kernel
theorem dX9_plan_151 : decode cX9_plan 151 = .ok (.aaload, 1) := by decide +kernel
theorem dX9_plan_152 : decode cX9_plan 152 = .ok (.iload_n 3, 1) := by decide +kernel
theorem dX9_plan_153 : decode cX9_plan 153 = .ok (.iload 4, 2) := by decide +kernel
theorem dX9_plan_155 : decode cX9_plan 155 = .ok (.aload_n 0, 1) := by decide +kernel
theorem dX9_plan_156 : decode cX9_plan 156 = .ok (.getfield 24, 3) := by decide +kernel
theorem dX9_plan_159 : decode cX9_plan 159 = .ok (.invokevirtual 187, 3) := by decide +kernel
theorem dX9_plan_162 : decode cX9_plan 162 = .ok (.aload_n 0, 1) := by decide +kernel
theorem dX9_plan_163 : decode cX9_plan 163 = .ok (.getfield 37, 3) := by decide +kernel
theorem dX9_plan_166 : decode cX9_plan 166 = .ok (.iload 5, 2) := by decide +kernel
theorem dX9_plan_168 : decode cX9_plan 168 = .ok (.invokevirtual 190, 3) := by decide +kernel
theorem dX9_plan_171 : decode cX9_plan 171 = .ok (.ireturn, 1) := by decide +kernel
set_option maxRecDepth 20000 in
theorem ggX9_best_X1_give : GoodIn wsX9_best wsX1_give := goodIn_r _ [10, 11, 12, 13, 14, 15, 9, 16, 17, 18, 19, 20, 21, 22, 23, 24, 25, 26, 27, 28, 29, 30, 31, 32, 33, 34, 35, 36, 37, 38, 39, 40, 41, 42, 43, 44, 45, 46, 47, 48, 49, 50, 51, 63, 64, 65, 66, 67, 68, 69, 70, 71] (by decide +kernel) (by decide +kernel)
set_option maxRecDepth 20000 in
theorem gX9_best_X1_give : GoodIn wsX9_best (wsV RX9 192 RX1 yX1_give wsX1_give) := goodIn_app (goodIn_of _ (by decide +kernel)) ggX9_best_X1_give
theorem dX9_best_0 : decode cX9_best 0 = .ok (.iload_n 1, 1) := by decide +kernel
theorem dX9_best_1 : decode cX9_best 1 = .ok (.iconst (-1), 1) := by decide +kernel
theorem dX9_best_2 : decode cX9_best 2 = .ok (.if_icmp .lt 8, 3) := by decide +kernel
theorem dX9_best_5 : decode cX9_best 5 = .ok (.iload_n 1, 1) := by decide +kernel
theorem dX9_best_6 : decode cX9_best 6 = .ok (.iconst 3, 1) := by decide +kernel
theorem dX9_best_7 : decode cX9_best 7 = .ok (.if_icmp .lt 6, 3) := by decide +kernel
theorem dX9_best_10 : decode cX9_best 10 = .ok (.bipush (-2), 2) := by decide +kernel
theorem dX9_best_12 : decode cX9_best 12 = .ok (.ireturn, 1) := by decide +kernel
theorem dX9_best_13 : decode cX9_best 13 = .ok (.aload_n 0, 1) := by decide +kernel
theorem dX9_best_14 : decode cX9_best 14 = .ok (.getfield 20, 3) := by decide +kernel
theorem dX9_best_17 : decode cX9_best 17 = .ok (.getfield 104, 3) := by decide +kernel
theorem dX9_best_20 : decode cX9_best 20 = .ok (.ifCond .ne 6, 3) := by decide +kernel
theorem dX9_best_23 : decode cX9_best 23 = .ok (.bipush (-3), 2) := by decide +kernel
theorem dX9_best_25 : decode cX9_best 25 = .ok (.ireturn, 1) := by decide +kernel
theorem dX9_best_26 : decode cX9_best 26 = .ok (.aload_n 0, 1) := by decide +kernel
theorem dX9_best_27 : decode cX9_best 27 = .ok (.getfield 44, 3) := by decide +kernel
theorem dX9_best_30 : decode cX9_best 30 = .ok (.aload_n 0, 1) := by decide +kernel
theorem dX9_best_31 : decode cX9_best 31 = .ok (.getfield 20, 3) := by decide +kernel
theorem dX9_best_34 : decode cX9_best 34 = .ok (.invokevirtual 192, 3) := by decide +kernel
theorem dX9_best_37 : decode cX9_best 37 = .ok (.iload_n 1, 1) := by decide +kernel
theorem dX9_best_38 : decode cX9_best 38 = .ok (.iconst (-1), 1) := by decide +kernel
theorem dX9_best_39 : decode cX9_best 39 = .ok (.if_icmp .ne 13, 3) := by decide +kernel
theorem dX9_best_42 : decode cX9_best 42 = .ok (.aload_n 0, 1) := by decide +kernel
theorem dX9_best_43 : decode cX9_best 43 = .ok (.getfield 44, 3) := by decide +kernel
theorem dX9_best_46 : decode cX9_best 46 = .ok (.getfield 195, 3) := by decide +kernel
theorem dX9_best_49 : decode cX9_best 49 = .ok (.goto 12, 3) := by decide +kernel
theorem dX9_best_52 : decode cX9_best 52 = .ok (.aload_n 0, 1) := by decide +kernel
theorem dX9_best_53 : decode cX9_best 53 = .ok (.getfield 44, 3) := by decide +kernel
theorem dX9_best_56 : decode cX9_best 56 = .ok (.getfield 198, 3) := by decide +kernel
theorem dX9_best_59 : decode cX9_best 59 = .ok (.iload_n 1, 1) := by decide +kernel
theorem dX9_best_60 : decode cX9_best 60 = .ok (.iaload, 1) := by decide +kernel
theorem dX9_best_61 : decode cX9_best 61 = .ok (.ireturn, 1) := by decide +kernel
set_option maxRecDepth 20000 in
theorem ggX9_reading_X4_hasPerson : GoodIn wsX9_reading wsX4_hasPerson := goodIn_r _ [8, 9, 10, 11, 12, 41, 42, 43] (by decide +kernel) (by decide +kernel)
set_option maxRecDepth 20000 in
theorem gX9_reading_X4_hasPerson : GoodIn wsX9_reading (wsV RX9 105 RX4 yX4_hasPerson wsX4_hasPerson) := goodIn_app (goodIn_of _ (by decide +kernel)) ggX9_reading_X4_hasPerson
set_option maxRecDepth 20000 in
theorem ggX9_reading_X4_hasMatter : GoodIn wsX9_reading wsX4_hasMatter := goodIn_r _ [16, 9, 10, 11, 12, 41, 42, 43] (by decide +kernel) (by decide +kernel)
set_option maxRecDepth 20000 in
theorem gX9_reading_X4_hasMatter : GoodIn wsX9_reading (wsV RX9 133 RX4 yX4_hasMatter wsX4_hasMatter) := goodIn_app (goodIn_of _ (by decide +kernel)) ggX9_reading_X4_hasMatter
set_option maxRecDepth 20000 in
theorem ggX9_reading_X5_take : GoodIn wsX9_reading wsX5_take := goodIn_r _ [21, 22, 23, 24, 25, 37, 38, 39, 40] (by decide +kernel) (by decide +kernel)
set_option maxRecDepth 20000 in
theorem gX9_reading_X5_take : GoodIn wsX9_reading (wsV RX9 201 RX5 yX5_take wsX5_take) := goodIn_app (goodIn_of _ (by decide +kernel)) ggX9_reading_X5_take
theorem dX9_reading_0 : decode cX9_reading 0 = .ok (.aload_n 0, 1) := by decide +kernel
theorem dX9_reading_1 : decode cX9_reading 1 = .ok (.getfield 20, 3) := by decide +kernel
theorem dX9_reading_4 : decode cX9_reading 4 = .ok (.iload_n 1, 1) := by decide +kernel
theorem dX9_reading_5 : decode cX9_reading 5 = .ok (.invokevirtual 105, 3) := by decide +kernel
theorem dX9_reading_8 : decode cX9_reading 8 = .ok (.ifCond .eq 14, 3) := by decide +kernel
theorem dX9_reading_11 : decode cX9_reading 11 = .ok (.aload_n 0, 1) := by decide +kernel
theorem dX9_reading_12 : decode cX9_reading 12 = .ok (.getfield 20, 3) := by decide +kernel
theorem dX9_reading_15 : decode cX9_reading 15 = .ok (.iload_n 2, 1) := by decide +kernel
theorem dX9_reading_16 : decode cX9_reading 16 = .ok (.invokevirtual 133, 3) := by decide +kernel
theorem dX9_reading_19 : decode cX9_reading 19 = .ok (.ifCond .ne 5, 3) := by decide +kernel
theorem dX9_reading_22 : decode cX9_reading 22 = .ok (.iconst (-1), 1) := by decide +kernel
theorem dX9_reading_23 : decode cX9_reading 23 = .ok (.ireturn, 1) := by decide +kernel
theorem dX9_reading_24 : decode cX9_reading 24 = .ok (.iload_n 3, 1) := by decide +kernel
theorem dX9_reading_25 : decode cX9_reading 25 = .ok (.ifCond .lt 10, 3) := by decide +kernel
theorem dX9_reading_28 : decode cX9_reading 28 = .ok (.iload_n 3, 1) := by decide +kernel
theorem dX9_reading_29 : decode cX9_reading 29 = .ok (.sipush 200, 3) := by decide +kernel
theorem dX9_reading_32 : decode cX9_reading 32 = .ok (.if_icmp .le 6, 3) := by decide +kernel
theorem dX9_reading_35 : decode cX9_reading 35 = .ok (.bipush (-2), 2) := by decide +kernel
theorem dX9_reading_37 : decode cX9_reading 37 = .ok (.ireturn, 1) := by decide +kernel
theorem dX9_reading_38 : decode cX9_reading 38 = .ok (.aload_n 0, 1) := by decide +kernel
theorem dX9_reading_39 : decode cX9_reading 39 = .ok (.getfield 51, 3) := by decide +kernel
theorem dX9_reading_42 : decode cX9_reading 42 = .ok (.getfield 101, 3) := by decide +kernel
theorem dX9_reading_45 : decode cX9_reading 45 = .ok (.bipush 8, 2) := by decide +kernel
theorem dX9_reading_47 : decode cX9_reading 47 = .ok (.if_icmp .lt 6, 3) := by decide +kernel
theorem dX9_reading_50 : decode cX9_reading 50 = .ok (.bipush (-4), 2) := by decide +kernel
theorem dX9_reading_52 : decode cX9_reading 52 = .ok (.ireturn, 1) := by decide +kernel
theorem dX9_reading_53 : decode cX9_reading 53 = .ok (.aload_n 0, 1) := by decide +kernel
theorem dX9_reading_54 : decode cX9_reading 54 = .ok (.getfield 51, 3) := by decide +kernel
theorem dX9_reading_57 : decode cX9_reading 57 = .ok (.iload_n 1, 1) := by decide +kernel
theorem dX9_reading_58 : decode cX9_reading 58 = .ok (.iload_n 2, 1) := by decide +kernel
theorem dX9_reading_59 : decode cX9_reading 59 = .ok (.iload_n 3, 1) := by decide +kernel
theorem dX9_reading_60 : decode cX9_reading 60 = .ok (.invokevirtual 201, 3) := by decide +kernel
theorem dX9_reading_63 : decode cX9_reading 63 = .ok (.ireturn, 1) := by decide +kernel
theorem dX9_back_0 : decode cX9_back 0 = .ok (.iload_n 1, 1) := by decide +kernel
theorem dX9_back_1 : decode cX9_back 1 = .ok (.ifCond .lt 14, 3) := by decide +kernel
theorem dX9_back_4 : decode cX9_back 4 = .ok (.iload_n 1, 1) := by decide +kernel
theorem dX9_back_5 : decode cX9_back 5 = .ok (.aload_n 0, 1) := by decide +kernel
theorem dX9_back_6 : decode cX9_back 6 = .ok (.getfield 51, 3) := by decide +kernel
theorem dX9_back_9 : decode cX9_back 9 = .ok (.getfield 101, 3) := by decide +kernel
theorem dX9_back_12 : decode cX9_back 12 = .ok (.if_icmp .le 6, 3) := by decide +kernel
theorem dX9_back_15 : decode cX9_back 15 = .ok (.bipush (-2), 2) := by decide +kernel
theorem dX9_back_17 : decode cX9_back 17 = .ok (.ireturn, 1) := by decide +kernel
theorem dX9_back_18 : decode cX9_back 18 = .ok (.aload_n 0, 1) := by decide +kernel
theorem dX9_back_19 : decode cX9_back 19 = .ok (.getfield 51, 3) := by decide +kernel
theorem dX9_back_22 : decode cX9_back 22 = .ok (.dup, 1) := by decide +kernel
theorem dX9_back_23 : decode cX9_back 23 = .ok (.getfield 101, 3) := by decide +kernel
theorem dX9_back_26 : decode cX9_back 26 = .ok (.iload_n 1, 1) := by decide +kernel
theorem dX9_back_27 : decode cX9_back 27 = .ok (.isub, 1) := by decide +kernel
theorem dX9_back_28 : decode cX9_back 28 = .ok (.putfield 101, 3) := by decide +kernel
theorem dX9_back_31 : decode cX9_back 31 = .ok (.aload_n 0, 1) := by decide +kernel
theorem dX9_back_32 : decode cX9_back 32 = .ok (.getfield 51, 3) := by decide +kernel
theorem dX9_back_35 : decode cX9_back 35 = .ok (.getfield 101, 3) := by decide +kernel
theorem dX9_back_38 : decode cX9_back 38 = .ok (.ireturn, 1) := by decide +kernel
set_option maxRecDepth 20000 in
theorem ggX9_knowings_X4_hasPerson : GoodIn wsX9_knowings wsX4_hasPerson := goodIn_r _ [6, 7, 8, 9, 10, 75, 76, 77] (by decide +kernel) (by decide +kernel)
set_option maxRecDepth 20000 in
theorem gX9_knowings_X4_hasPerson : GoodIn wsX9_knowings (wsV RX9 105 RX4 yX4_hasPerson wsX4_hasPerson) := goodIn_app (goodIn_of _ (by decide +kernel)) ggX9_knowings_X4_hasPerson
set_option maxRecDepth 20000 in
theorem ggX9_knowings_X9_possible : GoodIn wsX9_knowings wsX9_possible := goodIn_r _ [14, 15, 1, 16, 17, 18, 19, 5, 20, 7, 21, 22, 23, 24, 25, 26, 27, 28, 29, 30, 31, 32, 33, 34, 35, 36, 37, 38, 39, 40, 41, 42, 43, 44, 45, 46, 47, 48, 49, 50, 51, 52, 53, 54, 55, 56, 57, 58, 59, 60, 61, 62, 63, 64, 65, 66, 67, 68, 69, 70, 71, 72, 73, 74, 75, 76, 77, 78, 79, 80, 81, 82, 83, 84, 85] (by decide +kernel) (by decide +kernel)
set_option maxRecDepth 20000 in
theorem gX9_knowings_X9_possible : GoodIn wsX9_knowings (wsV RX9 205 RX9 yX9_possible wsX9_possible) := goodIn_app (goodIn_of _ (by decide +kernel)) ggX9_knowings_X9_possible
theorem dX9_knowings_0 : decode cX9_knowings 0 = .ok (.aload_n 0, 1) := by decide +kernel
theorem dX9_knowings_1 : decode cX9_knowings 1 = .ok (.getfield 20, 3) := by decide +kernel
theorem dX9_knowings_4 : decode cX9_knowings 4 = .ok (.iload_n 1, 1) := by decide +kernel
theorem dX9_knowings_5 : decode cX9_knowings 5 = .ok (.invokevirtual 105, 3) := by decide +kernel
theorem dX9_knowings_8 : decode cX9_knowings 8 = .ok (.ifCond .eq 14, 3) := by decide +kernel
theorem dX9_knowings_11 : decode cX9_knowings 11 = .ok (.aload_n 0, 1) := by decide +kernel
theorem dX9_knowings_12 : decode cX9_knowings 12 = .ok (.iconst 0, 1) := by decide +kernel
theorem dX9_knowings_13 : decode cX9_knowings 13 = .ok (.iload_n 1, 1) := by decide +kernel
theorem dX9_knowings_14 : decode cX9_knowings 14 = .ok (.bipush 8, 2) := by decide +kernel
theorem dX9_knowings_16 : decode cX9_knowings 16 = .ok (.invokevirtual 205, 3) := by decide +kernel
theorem dX9_knowings_19 : decode cX9_knowings 19 = .ok (.goto 4, 3) := by decide +kernel
theorem dX9_knowings_22 : decode cX9_knowings 22 = .ok (.iconst (-1), 1) := by decide +kernel
theorem dX9_knowings_23 : decode cX9_knowings 23 = .ok (.ireturn, 1) := by decide +kernel
set_option maxRecDepth 20000 in
theorem ggX9_wits_X4_hasPerson : GoodIn wsX9_wits wsX4_hasPerson := goodIn_r _ [6, 7, 8, 9, 10, 75, 76, 77] (by decide +kernel) (by decide +kernel)
set_option maxRecDepth 20000 in
theorem gX9_wits_X4_hasPerson : GoodIn wsX9_wits (wsV RX9 105 RX4 yX4_hasPerson wsX4_hasPerson) := goodIn_app (goodIn_of _ (by decide +kernel)) ggX9_wits_X4_hasPerson
set_option maxRecDepth 20000 in
theorem ggX9_wits_X9_possible : GoodIn wsX9_wits wsX9_possible := goodIn_r _ [14, 15, 1, 16, 17, 18, 19, 5, 20, 7, 21, 22, 23, 24, 25, 26, 27, 28, 29, 30, 31, 32, 33, 34, 35, 36, 37, 38, 39, 40, 41, 42, 43, 44, 45, 46, 47, 48, 49, 50, 51, 52, 53, 54, 55, 56, 57, 58, 59, 60, 61, 62, 63, 64, 65, 66, 67, 68, 69, 70, 71, 72, 73, 74, 75, 76, 77, 78, 79, 80, 81, 82, 83, 84, 85] (by decide +kernel) (by decide +kernel)
set_option maxRecDepth 20000 in
theorem gX9_wits_X9_possible : GoodIn wsX9_wits (wsV RX9 205 RX9 yX9_possible wsX9_possible) := goodIn_app (goodIn_of _ (by decide +kernel)) ggX9_wits_X9_possible
theorem dX9_wits_0 : decode cX9_wits 0 = .ok (.aload_n 0, 1) := by decide +kernel
theorem dX9_wits_1 : decode cX9_wits 1 = .ok (.getfield 20, 3) := by decide +kernel
theorem dX9_wits_4 : decode cX9_wits 4 = .ok (.iload_n 1, 1) := by decide +kernel
theorem dX9_wits_5 : decode cX9_wits 5 = .ok (.invokevirtual 105, 3) := by decide +kernel
theorem dX9_wits_8 : decode cX9_wits 8 = .ok (.ifCond .eq 14, 3) := by decide +kernel
theorem dX9_wits_11 : decode cX9_wits 11 = .ok (.aload_n 0, 1) := by decide +kernel
theorem dX9_wits_12 : decode cX9_wits 12 = .ok (.iconst 1, 1) := by decide +kernel
theorem dX9_wits_13 : decode cX9_wits 13 = .ok (.iload_n 1, 1) := by decide +kernel
theorem dX9_wits_14 : decode cX9_wits 14 = .ok (.bipush 10, 2) := by decide +kernel
theorem dX9_wits_16 : decode cX9_wits 16 = .ok (.invokevirtual 205, 3) := by decide +kernel
theorem dX9_wits_19 : decode cX9_wits 19 = .ok (.goto 4, 3) := by decide +kernel
theorem dX9_wits_22 : decode cX9_wits 22 = .ok (.iconst (-1), 1) := by decide +kernel
theorem dX9_wits_23 : decode cX9_wits 23 = .ok (.ireturn, 1) := by decide +kernel
set_option maxRecDepth 20000 in
theorem ggX9_kinds_X4_hasPerson : GoodIn wsX9_kinds wsX4_hasPerson := goodIn_r _ [6, 7, 8, 9, 10, 75, 76, 77] (by decide +kernel) (by decide +kernel)
set_option maxRecDepth 20000 in
theorem gX9_kinds_X4_hasPerson : GoodIn wsX9_kinds (wsV RX9 105 RX4 yX4_hasPerson wsX4_hasPerson) := goodIn_app (goodIn_of _ (by decide +kernel)) ggX9_kinds_X4_hasPerson
set_option maxRecDepth 20000 in
theorem ggX9_kinds_X9_possible : GoodIn wsX9_kinds wsX9_possible := goodIn_r _ [14, 15, 1, 16, 17, 18, 19, 5, 20, 7, 21, 22, 23, 24, 25, 26, 27, 28, 29, 30, 31, 32, 33, 34, 35, 36, 37, 38, 39, 40, 41, 42, 43, 44, 45, 46, 47, 48, 49, 50, 51, 52, 53, 54, 55, 56, 57, 58, 59, 60, 61, 62, 63, 64, 65, 66, 67, 68, 69, 70, 71, 72, 73, 74, 75, 76, 77, 78, 79, 80, 81, 82, 83, 84, 85] (by decide +kernel) (by decide +kernel)
set_option maxRecDepth 20000 in
theorem gX9_kinds_X9_possible : GoodIn wsX9_kinds (wsV RX9 205 RX9 yX9_possible wsX9_possible) := goodIn_app (goodIn_of _ (by decide +kernel)) ggX9_kinds_X9_possible
theorem dX9_kinds_0 : decode cX9_kinds 0 = .ok (.aload_n 0, 1) := by decide +kernel
theorem dX9_kinds_1 : decode cX9_kinds 1 = .ok (.getfield 20, 3) := by decide +kernel
theorem dX9_kinds_4 : decode cX9_kinds 4 = .ok (.iload_n 1, 1) := by decide +kernel
theorem dX9_kinds_5 : decode cX9_kinds 5 = .ok (.invokevirtual 105, 3) := by decide +kernel
theorem dX9_kinds_8 : decode cX9_kinds 8 = .ok (.ifCond .eq 13, 3) := by decide +kernel
theorem dX9_kinds_11 : decode cX9_kinds 11 = .ok (.aload_n 0, 1) := by decide +kernel
theorem dX9_kinds_12 : decode cX9_kinds 12 = .ok (.iconst 2, 1) := by decide +kernel
theorem dX9_kinds_13 : decode cX9_kinds 13 = .ok (.iload_n 1, 1) := by decide +kernel
theorem dX9_kinds_14 : decode cX9_kinds 14 = .ok (.iconst 3, 1) := by decide +kernel
theorem dX9_kinds_15 : decode cX9_kinds 15 = .ok (.invokevirtual 205, 3) := by decide +kernel
theorem dX9_kinds_18 : decode cX9_kinds 18 = .ok (.goto 4, 3) := by decide +kernel
theorem dX9_kinds_21 : decode cX9_kinds 21 = .ok (.iconst (-1), 1) := by decide +kernel
theorem dX9_kinds_22 : decode cX9_kinds 22 = .ok (.ireturn, 1) := by decide +kernel
set_option maxRecDepth 20000 in
theorem ggX9_worths_X4_hasMatter : GoodIn wsX9_worths wsX4_hasMatter := goodIn_r _ [6, 7, 8, 9, 10, 75, 76, 77] (by decide +kernel) (by decide +kernel)
set_option maxRecDepth 20000 in
theorem gX9_worths_X4_hasMatter : GoodIn wsX9_worths (wsV RX9 133 RX4 yX4_hasMatter wsX4_hasMatter) := goodIn_app (goodIn_of _ (by decide +kernel)) ggX9_worths_X4_hasMatter
set_option maxRecDepth 20000 in
theorem ggX9_worths_X9_possible : GoodIn wsX9_worths wsX9_possible := goodIn_r _ [14, 15, 1, 16, 17, 18, 19, 5, 20, 7, 21, 22, 23, 24, 25, 26, 27, 28, 29, 30, 31, 32, 33, 34, 35, 36, 37, 38, 39, 40, 41, 42, 43, 44, 45, 46, 47, 48, 49, 50, 51, 52, 53, 54, 55, 56, 57, 58, 59, 60, 61, 62, 63, 64, 65, 66, 67, 68, 69, 70, 71, 72, 73, 74, 75, 76, 77, 78, 79, 80, 81, 82, 83, 84, 85] (by decide +kernel) (by decide +kernel)
set_option maxRecDepth 20000 in
theorem gX9_worths_X9_possible : GoodIn wsX9_worths (wsV RX9 205 RX9 yX9_possible wsX9_possible) := goodIn_app (goodIn_of _ (by decide +kernel)) ggX9_worths_X9_possible
theorem dX9_worths_0 : decode cX9_worths 0 = .ok (.aload_n 0, 1) := by decide +kernel
theorem dX9_worths_1 : decode cX9_worths 1 = .ok (.getfield 20, 3) := by decide +kernel
theorem dX9_worths_4 : decode cX9_worths 4 = .ok (.iload_n 1, 1) := by decide +kernel
theorem dX9_worths_5 : decode cX9_worths 5 = .ok (.invokevirtual 133, 3) := by decide +kernel
theorem dX9_worths_8 : decode cX9_worths 8 = .ok (.ifCond .eq 14, 3) := by decide +kernel
theorem dX9_worths_11 : decode cX9_worths 11 = .ok (.aload_n 0, 1) := by decide +kernel
theorem dX9_worths_12 : decode cX9_worths 12 = .ok (.iconst 3, 1) := by decide +kernel
theorem dX9_worths_13 : decode cX9_worths 13 = .ok (.iload_n 1, 1) := by decide +kernel
theorem dX9_worths_14 : decode cX9_worths 14 = .ok (.bipush 10, 2) := by decide +kernel
theorem dX9_worths_16 : decode cX9_worths 16 = .ok (.invokevirtual 205, 3) := by decide +kernel
theorem dX9_worths_19 : decode cX9_worths 19 = .ok (.goto 4, 3) := by decide +kernel
theorem dX9_worths_22 : decode cX9_worths 22 = .ok (.iconst (-1), 1) := by decide +kernel
theorem dX9_worths_23 : decode cX9_worths 23 = .ok (.ireturn, 1) := by decide +kernel
set_option maxRecDepth 20000 in
theorem ggX9_odds_X4_hasPerson : GoodIn wsX9_odds wsX4_hasPerson := goodIn_r _ [7, 8, 9, 10, 11, 64, 65, 66] (by decide +kernel) (by decide +kernel)
set_option maxRecDepth 20000 in
theorem gX9_odds_X4_hasPerson : GoodIn wsX9_odds (wsV RX9 105 RX4 yX4_hasPerson wsX4_hasPerson) := goodIn_app (goodIn_of _ (by decide +kernel)) ggX9_odds_X4_hasPerson
set_option maxRecDepth 20000 in
theorem ggX9_odds_X9_waysToBring : GoodIn wsX9_odds wsX9_waysToBring := goodIn_r _ [15, 16, 1, 17, 18, 19, 20, 21, 6, 22, 8, 23, 24, 25, 26, 27, 28, 29, 30, 31, 32, 33, 34, 35, 36, 37, 38, 39, 40, 41, 42, 43, 44, 45, 46, 47, 48, 49, 53, 54, 55, 56, 57, 58, 59, 60, 61, 62, 63, 64, 65, 66, 67, 68, 69, 70] (by decide +kernel) (by decide +kernel)
set_option maxRecDepth 20000 in
theorem gX9_odds_X9_waysToBring : GoodIn wsX9_odds (wsV RX9 210 RX9 yX9_waysToBring wsX9_waysToBring) := goodIn_app (goodIn_of _ (by decide +kernel)) ggX9_odds_X9_waysToBring
set_option maxRecDepth 20000 in
theorem ggX9_odds_X9_commonDivisor : GoodIn wsX9_odds wsX9_commonDivisor := goodIn_r _ [52] (by decide +kernel) (by decide +kernel)
set_option maxRecDepth 20000 in
theorem gX9_odds_X9_commonDivisor : GoodIn wsX9_odds (va_wsS RX9 213 yX9_commonDivisor wsX9_commonDivisor) := goodIn_app (goodIn_of _ (by decide +kernel)) ggX9_odds_X9_commonDivisor
theorem dX9_odds_0 : decode cX9_odds 0 = .ok (.aload_n 0, 1) := by decide +kernel
theorem dX9_odds_1 : decode cX9_odds 1 = .ok (.getfield 20, 3) := by decide +kernel
theorem dX9_odds_4 : decode cX9_odds 4 = .ok (.iload_n 1, 1) := by decide +kernel
theorem dX9_odds_5 : decode cX9_odds 5 = .ok (.invokevirtual 105, 3) := by decide +kernel
theorem dX9_odds_8 : decode cX9_odds 8 = .ok (.ifCond .eq 23, 3) := by decide +kernel
theorem dX9_odds_11 : decode cX9_odds 11 = .ok (.iload_n 2, 1) := by decide +kernel
theorem dX9_odds_12 : decode cX9_odds 12 = .ok (.ifCond .lt 19, 3) := by decide +kernel
theorem dX9_odds_15 : decode cX9_odds 15 = .ok (.iload_n 2, 1) := by decide +kernel
theorem dX9_odds_16 : decode cX9_odds 16 = .ok (.sipush 200, 3) := by decide +kernel
theorem dX9_odds_19 : decode cX9_odds 19 = .ok (.if_icmp .gt 12, 3) := by decide +kernel
theorem dX9_odds_22 : decode cX9_odds 22 = .ok (.iload_n 3, 1) := by decide +kernel
theorem dX9_odds_23 : decode cX9_odds 23 = .ok (.ifCond .lt 8, 3) := by decide +kernel
theorem dX9_odds_26 : decode cX9_odds 26 = .ok (.iload_n 3, 1) := by decide +kernel
theorem dX9_odds_27 : decode cX9_odds 27 = .ok (.iconst 1, 1) := by decide +kernel
theorem dX9_odds_28 : decode cX9_odds 28 = .ok (.if_icmp .le 7, 3) := by decide +kernel
theorem dX9_odds_31 : decode cX9_odds 31 = .ok (.ldc2_w 208, 3) := by decide +kernel
theorem dX9_odds_34 : decode cX9_odds 34 = .ok (.lreturn, 1) := by decide +kernel
theorem dX9_odds_35 : decode cX9_odds 35 = .ok (.bipush 24, 2) := by decide +kernel
theorem dX9_odds_37 : decode cX9_odds 37 = .ok (.istore 4, 2) := by decide +kernel
theorem dX9_odds_39 : decode cX9_odds 39 = .ok (.aload_n 0, 1) := by decide +kernel
theorem dX9_odds_40 : decode cX9_odds 40 = .ok (.iload_n 1, 1) := by decide +kernel
theorem dX9_odds_41 : decode cX9_odds 41 = .ok (.iload_n 2, 1) := by decide +kernel
theorem dX9_odds_42 : decode cX9_odds 42 = .ok (.invokevirtual 210, 3) := by decide +kernel
theorem dX9_odds_45 : decode cX9_odds 45 = .ok (.istore 5, 2) := by decide +kernel
theorem dX9_odds_47 : decode cX9_odds 47 = .ok (.iload 5, 2) := by decide +kernel
theorem dX9_odds_49 : decode cX9_odds 49 = .ok (.iload 4, 2) := by decide +kernel
theorem dX9_odds_51 : decode cX9_odds 51 = .ok (.invokestatic 213, 3) := by decide +kernel
theorem dX9_odds_54 : decode cX9_odds 54 = .ok (.istore 6, 2) := by decide +kernel
theorem dX9_odds_56 : decode cX9_odds 56 = .ok (.iload_n 3, 1) := by decide +kernel
theorem dX9_odds_57 : decode cX9_odds 57 = .ok (.ifCond .ne 12, 3) := by decide +kernel
theorem dX9_odds_60 : decode cX9_odds 60 = .ok (.iload 5, 2) := by decide +kernel
theorem dX9_odds_62 : decode cX9_odds 62 = .ok (.iload 6, 2) := by decide +kernel
theorem dX9_odds_64 : decode cX9_odds 64 = .ok (.idiv, 1) := by decide +kernel
theorem dX9_odds_65 : decode cX9_odds 65 = .ok (.i2l, 1) := by decide +kernel
theorem dX9_odds_66 : decode cX9_odds 66 = .ok (.goto 9, 3) := by decide +kernel
theorem dX9_odds_69 : decode cX9_odds 69 = .ok (.iload 4, 2) := by decide +kernel
theorem dX9_odds_71 : decode cX9_odds 71 = .ok (.iload 6, 2) := by decide +kernel
theorem dX9_odds_73 : decode cX9_odds 73 = .ok (.idiv, 1) := by decide +kernel
theorem dX9_odds_74 : decode cX9_odds 74 = .ok (.i2l, 1) := by decide +kernel
theorem dX9_odds_75 : decode cX9_odds 75 = .ok (.lreturn, 1) := by decide +kernel
set_option maxRecDepth 20000 in
theorem ggX9_sheet_X9_isSheet : GoodIn wsX9_sheet wsX9_isSheet := goodIn_r _ [6, 7, 8, 5, 9] (by decide +kernel) (by decide +kernel)
set_option maxRecDepth 20000 in
theorem gX9_sheet_X9_isSheet : GoodIn wsX9_sheet (va_wsS RX9 73 yX9_isSheet wsX9_isSheet) := goodIn_app (goodIn_of _ (by decide +kernel)) ggX9_sheet_X9_isSheet
set_option maxRecDepth 20000 in
theorem ggX9_sheet_X9_isLane : GoodIn wsX9_sheet wsX9_isLane := goodIn_r _ [12] (by decide +kernel) (by decide +kernel)
set_option maxRecDepth 20000 in
theorem gX9_sheet_X9_isLane : GoodIn wsX9_sheet (va_wsS RX9 77 yX9_isLane wsX9_isLane) := goodIn_app (goodIn_of _ (by decide +kernel)) ggX9_sheet_X9_isLane
set_option maxRecDepth 20000 in
theorem ggX9_sheet_X9_failed : GoodIn wsX9_sheet wsX9_failed := goodIn_r _ [16, 1, 30, 31, 32, 33, 34, 35, 36, 37, 38, 39, 40] (by decide +kernel) (by decide +kernel)
set_option maxRecDepth 20000 in
theorem gX9_sheet_X9_failed : GoodIn wsX9_sheet (wsV RX9 88 RX9 yX9_failed wsX9_failed) := goodIn_app (goodIn_of _ (by decide +kernel)) ggX9_sheet_X9_failed
set_option maxRecDepth 20000 in
theorem ggX9_sheet_X6_begin : GoodIn wsX9_sheet wsX6_begin := goodIn_r _ [21, 22, 23, 24, 25, 26, 27, 28, 29, 41, 42, 43, 44] (by decide +kernel) (by decide +kernel)
set_option maxRecDepth 20000 in
theorem gX9_sheet_X6_begin : GoodIn wsX9_sheet (wsV RX9 216 RX6 yX6_begin wsX6_begin) := goodIn_app (goodIn_of _ (by decide +kernel)) ggX9_sheet_X6_begin
theorem dX9_sheet_0 : decode cX9_sheet 0 = .ok (.aload_n 0, 1) := by decide +kernel
theorem dX9_sheet_1 : decode cX9_sheet 1 = .ok (.iconst 0, 1) := by decide +kernel
theorem dX9_sheet_2 : decode cX9_sheet 2 = .ok (.putfield 69, 3) := by decide +kernel
theorem dX9_sheet_5 : decode cX9_sheet 5 = .ok (.iload_n 1, 1) := by decide +kernel
theorem dX9_sheet_6 : decode cX9_sheet 6 = .ok (.invokestatic 73, 3) := by decide +kernel
theorem dX9_sheet_9 : decode cX9_sheet 9 = .ok (.ifCond .ne 5, 3) := by decide +kernel
theorem dX9_sheet_12 : decode cX9_sheet 12 = .ok (.iconst (-1), 1) := by decide +kernel
theorem dX9_sheet_13 : decode cX9_sheet 13 = .ok (.ireturn, 1) := by decide +kernel
theorem dX9_sheet_14 : decode cX9_sheet 14 = .ok (.iload_n 2, 1) := by decide +kernel
theorem dX9_sheet_15 : decode cX9_sheet 15 = .ok (.invokestatic 77, 3) := by decide +kernel
theorem dX9_sheet_18 : decode cX9_sheet 18 = .ok (.ifCond .eq 9, 3) := by decide +kernel
theorem dX9_sheet_21 : decode cX9_sheet 21 = .ok (.iload_n 3, 1) := by decide +kernel
theorem dX9_sheet_22 : decode cX9_sheet 22 = .ok (.bipush 60, 2) := by decide +kernel
theorem dX9_sheet_24 : decode cX9_sheet 24 = .ok (.if_icmp .le 6, 3) := by decide +kernel
theorem dX9_sheet_27 : decode cX9_sheet 27 = .ok (.bipush (-2), 2) := by decide +kernel
theorem dX9_sheet_29 : decode cX9_sheet 29 = .ok (.ireturn, 1) := by decide +kernel
theorem dX9_sheet_30 : decode cX9_sheet 30 = .ok (.iload_n 3, 1) := by decide +kernel
theorem dX9_sheet_31 : decode cX9_sheet 31 = .ok (.ifCond .ge 9, 3) := by decide +kernel
theorem dX9_sheet_34 : decode cX9_sheet 34 = .ok (.aload_n 0, 1) := by decide +kernel
theorem dX9_sheet_35 : decode cX9_sheet 35 = .ok (.iconst 4, 1) := by decide +kernel
theorem dX9_sheet_36 : decode cX9_sheet 36 = .ok (.invokevirtual 88, 3) := by decide +kernel
theorem dX9_sheet_39 : decode cX9_sheet 39 = .ok (.ireturn, 1) := by decide +kernel
theorem dX9_sheet_40 : decode cX9_sheet 40 = .ok (.aload_n 0, 1) := by decide +kernel
theorem dX9_sheet_41 : decode cX9_sheet 41 = .ok (.getfield 13, 3) := by decide +kernel
theorem dX9_sheet_44 : decode cX9_sheet 44 = .ok (.iload_n 1, 1) := by decide +kernel
theorem dX9_sheet_45 : decode cX9_sheet 45 = .ok (.aaload, 1) := by decide +kernel
theorem dX9_sheet_46 : decode cX9_sheet 46 = .ok (.iload_n 2, 1) := by decide +kernel
theorem dX9_sheet_47 : decode cX9_sheet 47 = .ok (.iload_n 3, 1) := by decide +kernel
theorem dX9_sheet_48 : decode cX9_sheet 48 = .ok (.invokevirtual 216, 3) := by decide +kernel
theorem dX9_sheet_51 : decode cX9_sheet 51 = .ok (.iconst 1, 1) := by decide +kernel
theorem dX9_sheet_52 : decode cX9_sheet 52 = .ok (.ireturn, 1) := by decide +kernel
set_option maxRecDepth 20000 in
theorem ggX9_lose_X9_isSheet : GoodIn wsX9_lose wsX9_isSheet := goodIn_r _ [6, 7, 8, 5, 9] (by decide +kernel) (by decide +kernel)
set_option maxRecDepth 20000 in
theorem gX9_lose_X9_isSheet : GoodIn wsX9_lose (va_wsS RX9 73 yX9_isSheet wsX9_isSheet) := goodIn_app (goodIn_of _ (by decide +kernel)) ggX9_lose_X9_isSheet
theorem dX9_lose_0 : decode cX9_lose 0 = .ok (.iload_n 1, 1) := by decide +kernel
theorem dX9_lose_1 : decode cX9_lose 1 = .ok (.invokestatic 73, 3) := by decide +kernel
theorem dX9_lose_4 : decode cX9_lose 4 = .ok (.ifCond .ne 5, 3) := by decide +kernel
theorem dX9_lose_7 : decode cX9_lose 7 = .ok (.iconst (-1), 1) := by decide +kernel
theorem dX9_lose_8 : decode cX9_lose 8 = .ok (.ireturn, 1) := by decide +kernel
theorem dX9_lose_9 : decode cX9_lose 9 = .ok (.aload_n 0, 1) := by decide +kernel
theorem dX9_lose_10 : decode cX9_lose 10 = .ok (.getfield 13, 3) := by decide +kernel
theorem dX9_lose_13 : decode cX9_lose 13 = .ok (.iload_n 1, 1) := by decide +kernel
theorem dX9_lose_14 : decode cX9_lose 14 = .ok (.aaload, 1) := by decide +kernel
theorem dX9_lose_15 : decode cX9_lose 15 = .ok (.getfield 220, 3) := by decide +kernel
theorem dX9_lose_18 : decode cX9_lose 18 = .ok (.ifCond .eq 7, 3) := by decide +kernel
theorem dX9_lose_21 : decode cX9_lose 21 = .ok (.iconst 1, 1) := by decide +kernel
theorem dX9_lose_22 : decode cX9_lose 22 = .ok (.goto 4, 3) := by decide +kernel
theorem dX9_lose_25 : decode cX9_lose 25 = .ok (.iconst 0, 1) := by decide +kernel
theorem dX9_lose_26 : decode cX9_lose 26 = .ok (.istore_n 2, 1) := by decide +kernel
theorem dX9_lose_27 : decode cX9_lose 27 = .ok (.aload_n 0, 1) := by decide +kernel
theorem dX9_lose_28 : decode cX9_lose 28 = .ok (.getfield 13, 3) := by decide +kernel
theorem dX9_lose_31 : decode cX9_lose 31 = .ok (.iload_n 1, 1) := by decide +kernel
theorem dX9_lose_32 : decode cX9_lose 32 = .ok (.aaload, 1) := by decide +kernel
theorem dX9_lose_33 : decode cX9_lose 33 = .ok (.iconst 0, 1) := by decide +kernel
theorem dX9_lose_34 : decode cX9_lose 34 = .ok (.putfield 220, 3) := by decide +kernel
theorem dX9_lose_37 : decode cX9_lose 37 = .ok (.iload_n 2, 1) := by decide +kernel
theorem dX9_lose_38 : decode cX9_lose 38 = .ok (.ireturn, 1) := by decide +kernel
set_option maxRecDepth 20000 in
theorem ggX9_put_X9_isSheet : GoodIn wsX9_put wsX9_isSheet := goodIn_r _ [9, 10, 11, 8, 12] (by decide +kernel) (by decide +kernel)
set_option maxRecDepth 20000 in
theorem gX9_put_X9_isSheet : GoodIn wsX9_put (va_wsS RX9 73 yX9_isSheet wsX9_isSheet) := goodIn_app (goodIn_of _ (by decide +kernel)) ggX9_put_X9_isSheet
set_option maxRecDepth 20000 in
theorem ggX9_put_X9_failed : GoodIn wsX9_put wsX9_failed := goodIn_r _ [16, 1, 23, 24, 25, 26, 27, 28, 29, 30, 31, 32, 33] (by decide +kernel) (by decide +kernel)
set_option maxRecDepth 20000 in
theorem gX9_put_X9_failed : GoodIn wsX9_put (wsV RX9 88 RX9 yX9_failed wsX9_failed) := goodIn_app (goodIn_of _ (by decide +kernel)) ggX9_put_X9_failed
set_option maxRecDepth 20000 in
theorem ggX9_put_X9_isBelow : GoodIn wsX9_put wsX9_isBelow := goodIn_r _ [12] (by decide +kernel) (by decide +kernel)
set_option maxRecDepth 20000 in
theorem gX9_put_X9_isBelow : GoodIn wsX9_put (va_wsS RX9 140 yX9_isBelow wsX9_isBelow) := goodIn_app (goodIn_of _ (by decide +kernel)) ggX9_put_X9_isBelow
set_option maxRecDepth 20000 in
theorem ggX9_put_X6_cut : GoodIn wsX9_put wsX6_cut := goodIn_r _ [21, 22, 34, 35, 36, 37] (by decide +kernel) (by decide +kernel)
set_option maxRecDepth 20000 in
theorem gX9_put_X6_cut : GoodIn wsX9_put (wsV RX9 227 RX6 yX6_cut wsX6_cut) := goodIn_app (goodIn_of _ (by decide +kernel)) ggX9_put_X6_cut
theorem dX9_put_0 : decode cX9_put 0 = .ok (.aload_n 0, 1) := by decide +kernel
theorem dX9_put_1 : decode cX9_put 1 = .ok (.iconst 0, 1) := by decide +kernel
theorem dX9_put_2 : decode cX9_put 2 = .ok (.putfield 69, 3) := by decide +kernel
theorem dX9_put_5 : decode cX9_put 5 = .ok (.iload_n 1, 1) := by decide +kernel
theorem dX9_put_6 : decode cX9_put 6 = .ok (.invokestatic 73, 3) := by decide +kernel
theorem dX9_put_9 : decode cX9_put 9 = .ok (.ifCond .ne 5, 3) := by decide +kernel
theorem dX9_put_12 : decode cX9_put 12 = .ok (.iconst (-1), 1) := by decide +kernel
theorem dX9_put_13 : decode cX9_put 13 = .ok (.ireturn, 1) := by decide +kernel
theorem dX9_put_14 : decode cX9_put 14 = .ok (.aload_n 0, 1) := by decide +kernel
theorem dX9_put_15 : decode cX9_put 15 = .ok (.getfield 13, 3) := by decide +kernel
theorem dX9_put_18 : decode cX9_put 18 = .ok (.iload_n 1, 1) := by decide +kernel
theorem dX9_put_19 : decode cX9_put 19 = .ok (.aaload, 1) := by decide +kernel
theorem dX9_put_20 : decode cX9_put 20 = .ok (.astore 4, 2) := by decide +kernel
theorem dX9_put_22 : decode cX9_put 22 = .ok (.aload 4, 2) := by decide +kernel
theorem dX9_put_24 : decode cX9_put 24 = .ok (.getfield 220, 3) := by decide +kernel
theorem dX9_put_27 : decode cX9_put 27 = .ok (.ifCond .ne 9, 3) := by decide +kernel
theorem dX9_put_30 : decode cX9_put 30 = .ok (.aload_n 0, 1) := by decide +kernel
theorem dX9_put_31 : decode cX9_put 31 = .ok (.iconst 1, 1) := by decide +kernel
theorem dX9_put_32 : decode cX9_put 32 = .ok (.invokevirtual 88, 3) := by decide +kernel
theorem dX9_put_35 : decode cX9_put 35 = .ok (.ireturn, 1) := by decide +kernel
theorem dX9_put_36 : decode cX9_put 36 = .ok (.iload_n 2, 1) := by decide +kernel
theorem dX9_put_37 : decode cX9_put 37 = .ok (.aload 4, 2) := by decide +kernel
theorem dX9_put_39 : decode cX9_put 39 = .ok (.getfield 224, 3) := by decide +kernel
theorem dX9_put_42 : decode cX9_put 42 = .ok (.invokestatic 140, 3) := by decide +kernel
theorem dX9_put_45 : decode cX9_put 45 = .ok (.ifCond .ne 9, 3) := by decide +kernel
theorem dX9_put_48 : decode cX9_put 48 = .ok (.aload_n 0, 1) := by decide +kernel
theorem dX9_put_49 : decode cX9_put 49 = .ok (.iconst 3, 1) := by decide +kernel
theorem dX9_put_50 : decode cX9_put 50 = .ok (.invokevirtual 88, 3) := by decide +kernel
theorem dX9_put_53 : decode cX9_put 53 = .ok (.ireturn, 1) := by decide +kernel
theorem dX9_put_54 : decode cX9_put 54 = .ok (.aload 4, 2) := by decide +kernel
theorem dX9_put_56 : decode cX9_put 56 = .ok (.getfield 184, 3) := by decide +kernel
theorem dX9_put_59 : decode cX9_put 59 = .ok (.iload_n 2, 1) := by decide +kernel
theorem dX9_put_60 : decode cX9_put 60 = .ok (.aload 4, 2) := by decide +kernel
theorem dX9_put_62 : decode cX9_put 62 = .ok (.iload_n 3, 1) := by decide +kernel
theorem dX9_put_63 : decode cX9_put 63 = .ok (.invokevirtual 227, 3) := by decide +kernel
theorem dX9_put_66 : decode cX9_put 66 = .ok (.iastore, 1) := by decide +kernel
theorem dX9_put_67 : decode cX9_put 67 = .ok (.iconst 1, 1) := by decide +kernel
theorem dX9_put_68 : decode cX9_put 68 = .ok (.ireturn, 1) := by decide +kernel
set_option maxRecDepth 20000 in
theorem ggX9_cell_X9_isSheet : GoodIn wsX9_cell wsX9_isSheet := goodIn_r _ [9, 10, 11, 8, 12] (by decide +kernel) (by decide +kernel)
set_option maxRecDepth 20000 in
theorem gX9_cell_X9_isSheet : GoodIn wsX9_cell (va_wsS RX9 73 yX9_isSheet wsX9_isSheet) := goodIn_app (goodIn_of _ (by decide +kernel)) ggX9_cell_X9_isSheet
set_option maxRecDepth 20000 in
theorem ggX9_cell_X9_isLane : GoodIn wsX9_cell wsX9_isLane := goodIn_r _ [15] (by decide +kernel) (by decide +kernel)
set_option maxRecDepth 20000 in
theorem gX9_cell_X9_isLane : GoodIn wsX9_cell (va_wsS RX9 77 yX9_isLane wsX9_isLane) := goodIn_app (goodIn_of _ (by decide +kernel)) ggX9_cell_X9_isLane
set_option maxRecDepth 20000 in
theorem ggX9_cell_X6_faultAs : GoodIn wsX9_cell wsX6_faultAs := goodIn_r _ [20, 21, 22, 34, 35, 36, 37] (by decide +kernel) (by decide +kernel)
set_option maxRecDepth 20000 in
theorem gX9_cell_X6_faultAs : GoodIn wsX9_cell (wsV RX9 80 RX6 yX6_faultAs wsX6_faultAs) := goodIn_app (goodIn_of _ (by decide +kernel)) ggX9_cell_X6_faultAs
set_option maxRecDepth 20000 in
theorem ggX9_cell_X9_isBelow : GoodIn wsX9_cell wsX9_isBelow := goodIn_r _ [12] (by decide +kernel) (by decide +kernel)
set_option maxRecDepth 20000 in
theorem gX9_cell_X9_isBelow : GoodIn wsX9_cell (va_wsS RX9 140 yX9_isBelow wsX9_isBelow) := goodIn_app (goodIn_of _ (by decide +kernel)) ggX9_cell_X9_isBelow
theorem dX9_cell_0 : decode cX9_cell 0 = .ok (.aload_n 0, 1) := by decide +kernel
theorem dX9_cell_1 : decode cX9_cell 1 = .ok (.iconst 0, 1) := by decide +kernel
theorem dX9_cell_2 : decode cX9_cell 2 = .ok (.putfield 69, 3) := by decide +kernel
theorem dX9_cell_5 : decode cX9_cell 5 = .ok (.iload_n 1, 1) := by decide +kernel
theorem dX9_cell_6 : decode cX9_cell 6 = .ok (.invokestatic 73, 3) := by decide +kernel
theorem dX9_cell_9 : decode cX9_cell 9 = .ok (.ifCond .eq 10, 3) := by decide +kernel
theorem dX9_cell_12 : decode cX9_cell 12 = .ok (.iload_n 3, 1) := by decide +kernel
theorem dX9_cell_13 : decode cX9_cell 13 = .ok (.invokestatic 77, 3) := by decide +kernel
theorem dX9_cell_16 : decode cX9_cell 16 = .ok (.ifCond .ne 7, 3) := by decide +kernel
theorem dX9_cell_19 : decode cX9_cell 19 = .ok (.ldc2_w 208, 3) := by decide +kernel
theorem dX9_cell_22 : decode cX9_cell 22 = .ok (.lreturn, 1) := by decide +kernel
theorem dX9_cell_23 : decode cX9_cell 23 = .ok (.aload_n 0, 1) := by decide +kernel
theorem dX9_cell_24 : decode cX9_cell 24 = .ok (.getfield 13, 3) := by decide +kernel
theorem dX9_cell_27 : decode cX9_cell 27 = .ok (.iload_n 1, 1) := by decide +kernel
theorem dX9_cell_28 : decode cX9_cell 28 = .ok (.aaload, 1) := by decide +kernel
theorem dX9_cell_29 : decode cX9_cell 29 = .ok (.astore 4, 2) := by decide +kernel
theorem dX9_cell_31 : decode cX9_cell 31 = .ok (.aload_n 0, 1) := by decide +kernel
theorem dX9_cell_32 : decode cX9_cell 32 = .ok (.aload 4, 2) := by decide +kernel
theorem dX9_cell_34 : decode cX9_cell 34 = .ok (.iload_n 3, 1) := by decide +kernel
theorem dX9_cell_35 : decode cX9_cell 35 = .ok (.invokevirtual 80, 3) := by decide +kernel
theorem dX9_cell_38 : decode cX9_cell 38 = .ok (.putfield 69, 3) := by decide +kernel
theorem dX9_cell_41 : decode cX9_cell 41 = .ok (.aload_n 0, 1) := by decide +kernel
theorem dX9_cell_42 : decode cX9_cell 42 = .ok (.getfield 69, 3) := by decide +kernel
theorem dX9_cell_45 : decode cX9_cell 45 = .ok (.ifCond .ne 20, 3) := by decide +kernel
theorem dX9_cell_48 : decode cX9_cell 48 = .ok (.iload_n 2, 1) := by decide +kernel
theorem dX9_cell_49 : decode cX9_cell 49 = .ok (.aload 4, 2) := by decide +kernel
theorem dX9_cell_51 : decode cX9_cell 51 = .ok (.getfield 224, 3) := by decide +kernel
theorem dX9_cell_54 : decode cX9_cell 54 = .ok (.invokestatic 140, 3) := by decide +kernel
theorem dX9_cell_57 : decode cX9_cell 57 = .ok (.ifCond .ne 8, 3) := by decide +kernel
theorem dX9_cell_60 : decode cX9_cell 60 = .ok (.aload_n 0, 1) := by decide +kernel
theorem dX9_cell_61 : decode cX9_cell 61 = .ok (.iconst 3, 1) := by decide +kernel
theorem dX9_cell_62 : decode cX9_cell 62 = .ok (.putfield 69, 3) := by decide +kernel
theorem dX9_cell_65 : decode cX9_cell 65 = .ok (.aload_n 0, 1) := by decide +kernel
theorem dX9_cell_66 : decode cX9_cell 66 = .ok (.getfield 69, 3) := by decide +kernel
theorem dX9_cell_69 : decode cX9_cell 69 = .ok (.ifCond .ne 14, 3) := by decide +kernel
theorem dX9_cell_72 : decode cX9_cell 72 = .ok (.aload 4, 2) := by decide +kernel
theorem dX9_cell_74 : decode cX9_cell 74 = .ok (.getfield 184, 3) := by decide +kernel
theorem dX9_cell_77 : decode cX9_cell 77 = .ok (.iload_n 2, 1) := by decide +kernel
theorem dX9_cell_78 : decode cX9_cell 78 = .ok (.iaload, 1) := by decide +kernel
theorem dX9_cell_79 : decode cX9_cell 79 = .ok (.i2l, 1) := by decide +kernel
theorem dX9_cell_80 : decode cX9_cell 80 = .ok (.goto 6, 3) := by decide +kernel
theorem dX9_cell_83 : decode cX9_cell 83 = .ok (.ldc2_w 208, 3) := by decide +kernel
theorem dX9_cell_86 : decode cX9_cell 86 = .ok (.lreturn, 1) := by decide +kernel
set_option maxRecDepth 20000 in
theorem ggX9_copy_X9_isSheet : GoodIn wsX9_copy wsX9_isSheet := goodIn_r _ [13, 14, 15, 12, 16] (by decide +kernel) (by decide +kernel)
set_option maxRecDepth 20000 in
theorem gX9_copy_X9_isSheet : GoodIn wsX9_copy (va_wsS RX9 73 yX9_isSheet wsX9_isSheet) := goodIn_app (goodIn_of _ (by decide +kernel)) ggX9_copy_X9_isSheet
set_option maxRecDepth 20000 in
theorem ggX9_copy_X9_failed : GoodIn wsX9_copy wsX9_failed := goodIn_r _ [20, 1, 27, 28, 29, 30, 31, 32, 33, 34, 35, 36, 37] (by decide +kernel) (by decide +kernel)
set_option maxRecDepth 20000 in
theorem gX9_copy_X9_failed : GoodIn wsX9_copy (wsV RX9 88 RX9 yX9_failed wsX9_failed) := goodIn_app (goodIn_of _ (by decide +kernel)) ggX9_copy_X9_failed
set_option maxRecDepth 20000 in
theorem ggX9_copy_X6_holds : GoodIn wsX9_copy wsX6_holds := goodIn_r _ [25, 26, 38, 39, 40, 41] (by decide +kernel) (by decide +kernel)
set_option maxRecDepth 20000 in
theorem gX9_copy_X6_holds : GoodIn wsX9_copy (wsV RX9 84 RX6 yX6_holds wsX6_holds) := goodIn_app (goodIn_of _ (by decide +kernel)) ggX9_copy_X6_holds
theorem dX9_copy_0 : decode cX9_copy 0 = .ok (.aload_n 0, 1) := by decide +kernel
theorem dX9_copy_1 : decode cX9_copy 1 = .ok (.iconst 0, 1) := by decide +kernel
theorem dX9_copy_2 : decode cX9_copy 2 = .ok (.putfield 69, 3) := by decide +kernel
theorem dX9_copy_5 : decode cX9_copy 5 = .ok (.iload_n 1, 1) := by decide +kernel
theorem dX9_copy_6 : decode cX9_copy 6 = .ok (.invokestatic 73, 3) := by decide +kernel
theorem dX9_copy_9 : decode cX9_copy 9 = .ok (.ifCond .eq 10, 3) := by decide +kernel
theorem dX9_copy_12 : decode cX9_copy 12 = .ok (.iload_n 3, 1) := by decide +kernel
theorem dX9_copy_13 : decode cX9_copy 13 = .ok (.invokestatic 73, 3) := by decide +kernel
theorem dX9_copy_16 : decode cX9_copy 16 = .ok (.ifCond .ne 5, 3) := by decide +kernel
theorem dX9_copy_19 : decode cX9_copy 19 = .ok (.iconst (-1), 1) := by decide +kernel
theorem dX9_copy_20 : decode cX9_copy 20 = .ok (.ireturn, 1) := by decide +kernel
theorem dX9_copy_21 : decode cX9_copy 21 = .ok (.aload_n 0, 1) := by decide +kernel
theorem dX9_copy_22 : decode cX9_copy 22 = .ok (.getfield 13, 3) := by decide +kernel
theorem dX9_copy_25 : decode cX9_copy 25 = .ok (.iload_n 1, 1) := by decide +kernel
theorem dX9_copy_26 : decode cX9_copy 26 = .ok (.aaload, 1) := by decide +kernel
theorem dX9_copy_27 : decode cX9_copy 27 = .ok (.astore 6, 2) := by decide +kernel
theorem dX9_copy_29 : decode cX9_copy 29 = .ok (.aload_n 0, 1) := by decide +kernel
theorem dX9_copy_30 : decode cX9_copy 30 = .ok (.getfield 13, 3) := by decide +kernel
theorem dX9_copy_33 : decode cX9_copy 33 = .ok (.iload_n 3, 1) := by decide +kernel
theorem dX9_copy_34 : decode cX9_copy 34 = .ok (.aaload, 1) := by decide +kernel
theorem dX9_copy_35 : decode cX9_copy 35 = .ok (.astore 7, 2) := by decide +kernel
theorem dX9_copy_37 : decode cX9_copy 37 = .ok (.aload 6, 2) := by decide +kernel
theorem dX9_copy_39 : decode cX9_copy 39 = .ok (.getfield 220, 3) := by decide +kernel
theorem dX9_copy_42 : decode cX9_copy 42 = .ok (.ifCond .eq 11, 3) := by decide +kernel
theorem dX9_copy_45 : decode cX9_copy 45 = .ok (.aload 7, 2) := by decide +kernel
theorem dX9_copy_47 : decode cX9_copy 47 = .ok (.getfield 220, 3) := by decide +kernel
theorem dX9_copy_50 : decode cX9_copy 50 = .ok (.ifCond .ne 9, 3) := by decide +kernel
theorem dX9_copy_53 : decode cX9_copy 53 = .ok (.aload_n 0, 1) := by decide +kernel
theorem dX9_copy_54 : decode cX9_copy 54 = .ok (.iconst 1, 1) := by decide +kernel
theorem dX9_copy_55 : decode cX9_copy 55 = .ok (.invokevirtual 88, 3) := by decide +kernel
theorem dX9_copy_58 : decode cX9_copy 58 = .ok (.ireturn, 1) := by decide +kernel
theorem dX9_copy_59 : decode cX9_copy 59 = .ok (.aload 6, 2) := by decide +kernel
theorem dX9_copy_61 : decode cX9_copy 61 = .ok (.getfield 230, 3) := by decide +kernel
theorem dX9_copy_64 : decode cX9_copy 64 = .ok (.aload 7, 2) := by decide +kernel
theorem dX9_copy_66 : decode cX9_copy 66 = .ok (.getfield 230, 3) := by decide +kernel
theorem dX9_copy_69 : decode cX9_copy 69 = .ok (.if_icmp .eq 9, 3) := by decide +kernel
theorem dX9_copy_72 : decode cX9_copy 72 = .ok (.aload_n 0, 1) := by decide +kernel
theorem dX9_copy_73 : decode cX9_copy 73 = .ok (.iconst 2, 1) := by decide +kernel
theorem dX9_copy_74 : decode cX9_copy 74 = .ok (.invokevirtual 88, 3) := by decide +kernel
theorem dX9_copy_77 : decode cX9_copy 77 = .ok (.ireturn, 1) := by decide +kernel
theorem dX9_copy_78 : decode cX9_copy 78 = .ok (.aload 6, 2) := by decide +kernel
theorem dX9_copy_80 : decode cX9_copy 80 = .ok (.iload_n 2, 1) := by decide +kernel
theorem dX9_copy_81 : decode cX9_copy 81 = .ok (.iload 5, 2) := by decide +kernel
theorem dX9_copy_83 : decode cX9_copy 83 = .ok (.invokevirtual 84, 3) := by decide +kernel
theorem dX9_copy_86 : decode cX9_copy 86 = .ok (.ifCond .eq 15, 3) := by decide +kernel
theorem dX9_copy_89 : decode cX9_copy 89 = .ok (.aload 7, 2) := by decide +kernel
theorem dX9_copy_91 : decode cX9_copy 91 = .ok (.iload 4, 2) := by decide +kernel
theorem dX9_copy_93 : decode cX9_copy 93 = .ok (.iload 5, 2) := by decide +kernel
theorem dX9_copy_95 : decode cX9_copy 95 = .ok (.invokevirtual 84, 3) := by decide +kernel
theorem dX9_copy_98 : decode cX9_copy 98 = .ok (.ifCond .ne 9, 3) := by decide +kernel
theorem dX9_copy_101 : decode cX9_copy 101 = .ok (.aload_n 0, 1) := by decide +kernel
theorem dX9_copy_102 : decode cX9_copy 102 = .ok (.iconst 3, 1) := by decide +kernel
theorem dX9_copy_103 : decode cX9_copy 103 = .ok (.invokevirtual 88, 3) := by decide +kernel
theorem dX9_copy_106 : decode cX9_copy 106 = .ok (.ireturn, 1) := by decide +kernel
theorem dX9_copy_107 : decode cX9_copy 107 = .ok (.aload 6, 2) := by decide +kernel
theorem dX9_copy_109 : decode cX9_copy 109 = .ok (.getfield 184, 3) := by decide +kernel
theorem dX9_copy_112 : decode cX9_copy 112 = .ok (.iload_n 2, 1) := by decide +kernel
theorem dX9_copy_113 : decode cX9_copy 113 = .ok (.aload 7, 2) := by decide +kernel
theorem dX9_copy_115 : decode cX9_copy 115 = .ok (.getfield 184, 3) := by decide +kernel
theorem dX9_copy_118 : decode cX9_copy 118 = .ok (.iload 4, 2) := by decide +kernel
theorem dX9_copy_120 : decode cX9_copy 120 = .ok (.iload 5, 2) := by decide +kernel
theorem dX9_copy_122 : decode cX9_copy 122 = .ok (.invokestatic 233, 3) := by decide +kernel
theorem dX9_copy_125 : decode cX9_copy 125 = .ok (.iload 5, 2) := by decide +kernel
theorem dX9_copy_127 : decode cX9_copy 127 = .ok (.ireturn, 1) := by decide +kernel
set_option maxRecDepth 20000 in
theorem ggX9_tell_X4_hasPerson : GoodIn wsX9_tell wsX4_hasPerson := goodIn_r _ [8, 9, 10, 11, 12, 48, 49, 50] (by decide +kernel) (by decide +kernel)
set_option maxRecDepth 20000 in
theorem gX9_tell_X4_hasPerson : GoodIn wsX9_tell (wsV RX9 105 RX4 yX4_hasPerson wsX4_hasPerson) := goodIn_app (goodIn_of _ (by decide +kernel)) ggX9_tell_X4_hasPerson
set_option maxRecDepth 20000 in
theorem ggX9_tell_X0_telling : GoodIn wsX9_tell wsX0_telling := goodIn_r _ [17, 18, 19, 20, 21, 16, 22, 23, 24, 25, 26, 27, 28, 29, 30, 31, 32, 33, 34, 35, 36, 51, 52, 53, 54, 55] (by decide +kernel) (by decide +kernel)
set_option maxRecDepth 20000 in
theorem gX9_tell_X0_telling : GoodIn wsX9_tell (wsV RX9 239 RX0 yX0_telling wsX0_telling) := goodIn_app (goodIn_of _ (by decide +kernel)) ggX9_tell_X0_telling
theorem dX9_tell_0 : decode cX9_tell 0 = .ok (.aload_n 0, 1) := by decide +kernel
theorem dX9_tell_1 : decode cX9_tell 1 = .ok (.getfield 20, 3) := by decide +kernel
theorem dX9_tell_4 : decode cX9_tell 4 = .ok (.iload_n 1, 1) := by decide +kernel
theorem dX9_tell_5 : decode cX9_tell 5 = .ok (.invokevirtual 105, 3) := by decide +kernel
theorem dX9_tell_8 : decode cX9_tell 8 = .ok (.ifCond .eq 22, 3) := by decide +kernel
theorem dX9_tell_11 : decode cX9_tell 11 = .ok (.aload_n 0, 1) := by decide +kernel
theorem dX9_tell_12 : decode cX9_tell 12 = .ok (.getfield 58, 3) := by decide +kernel
theorem dX9_tell_15 : decode cX9_tell 15 = .ok (.aload_n 0, 1) := by decide +kernel
theorem dX9_tell_16 : decode cX9_tell 16 = .ok (.getfield 20, 3) := by decide +kernel
theorem dX9_tell_19 : decode cX9_tell 19 = .ok (.getfield 108, 3) := by decide +kernel
theorem dX9_tell_22 : decode cX9_tell 22 = .ok (.iload_n 1, 1) := by decide +kernel
theorem dX9_tell_23 : decode cX9_tell 23 = .ok (.aaload, 1) := by decide +kernel
theorem dX9_tell_24 : decode cX9_tell 24 = .ok (.invokevirtual 239, 3) := by decide +kernel
theorem dX9_tell_27 : decode cX9_tell 27 = .ok (.goto 4, 3) := by decide +kernel
theorem dX9_tell_30 : decode cX9_tell 30 = .ok (.iconst (-1), 1) := by decide +kernel
theorem dX9_tell_31 : decode cX9_tell 31 = .ok (.ireturn, 1) := by decide +kernel
set_option maxRecDepth 20000 in
theorem ggX9_greet_X4_hasPerson : GoodIn wsX9_greet wsX4_hasPerson := goodIn_r _ [8, 9, 10, 11, 12, 36, 37, 38] (by decide +kernel) (by decide +kernel)
set_option maxRecDepth 20000 in
theorem gX9_greet_X4_hasPerson : GoodIn wsX9_greet (wsV RX9 105 RX4 yX4_hasPerson wsX4_hasPerson) := goodIn_app (goodIn_of _ (by decide +kernel)) ggX9_greet_X4_hasPerson
set_option maxRecDepth 20000 in
theorem ggX9_greet_X0_greeting : GoodIn wsX9_greet wsX0_greeting := goodIn_r _ [17, 18, 19, 20, 21, 22, 16, 23, 24, 39, 40, 41, 42, 43] (by decide +kernel) (by decide +kernel)
set_option maxRecDepth 20000 in
theorem gX9_greet_X0_greeting : GoodIn wsX9_greet (wsV RX9 243 RX0 yX0_greeting wsX0_greeting) := goodIn_app (goodIn_of _ (by decide +kernel)) ggX9_greet_X0_greeting
theorem dX9_greet_0 : decode cX9_greet 0 = .ok (.aload_n 0, 1) := by decide +kernel
theorem dX9_greet_1 : decode cX9_greet 1 = .ok (.getfield 20, 3) := by decide +kernel
theorem dX9_greet_4 : decode cX9_greet 4 = .ok (.iload_n 1, 1) := by decide +kernel
theorem dX9_greet_5 : decode cX9_greet 5 = .ok (.invokevirtual 105, 3) := by decide +kernel
theorem dX9_greet_8 : decode cX9_greet 8 = .ok (.ifCond .eq 22, 3) := by decide +kernel
theorem dX9_greet_11 : decode cX9_greet 11 = .ok (.aload_n 0, 1) := by decide +kernel
theorem dX9_greet_12 : decode cX9_greet 12 = .ok (.getfield 58, 3) := by decide +kernel
theorem dX9_greet_15 : decode cX9_greet 15 = .ok (.aload_n 0, 1) := by decide +kernel
theorem dX9_greet_16 : decode cX9_greet 16 = .ok (.getfield 20, 3) := by decide +kernel
theorem dX9_greet_19 : decode cX9_greet 19 = .ok (.getfield 108, 3) := by decide +kernel
theorem dX9_greet_22 : decode cX9_greet 22 = .ok (.iload_n 1, 1) := by decide +kernel
theorem dX9_greet_23 : decode cX9_greet 23 = .ok (.aaload, 1) := by decide +kernel
theorem dX9_greet_24 : decode cX9_greet 24 = .ok (.invokevirtual 243, 3) := by decide +kernel
theorem dX9_greet_27 : decode cX9_greet 27 = .ok (.goto 4, 3) := by decide +kernel
theorem dX9_greet_30 : decode cX9_greet 30 = .ok (.iconst (-1), 1) := by decide +kernel
theorem dX9_greet_31 : decode cX9_greet 31 = .ok (.ireturn, 1) := by decide +kernel
set_option maxRecDepth 20000 in
theorem ggX9_as_X4_hasPerson : GoodIn wsX9_as wsX4_hasPerson := goodIn_r _ [9, 10, 11, 12, 13, 30, 31, 32] (by decide +kernel) (by decide +kernel)
set_option maxRecDepth 20000 in
theorem gX9_as_X4_hasPerson : GoodIn wsX9_as (wsV RX9 105 RX4 yX4_hasPerson wsX4_hasPerson) := goodIn_app (goodIn_of _ (by decide +kernel)) ggX9_as_X4_hasPerson
set_option maxRecDepth 20000 in
theorem ggX9_as_X9_isBelow : GoodIn wsX9_as wsX9_isBelow := goodIn_r _ [13] (by decide +kernel) (by decide +kernel)
set_option maxRecDepth 20000 in
theorem gX9_as_X9_isBelow : GoodIn wsX9_as (va_wsS RX9 140 yX9_isBelow wsX9_isBelow) := goodIn_app (goodIn_of _ (by decide +kernel)) ggX9_as_X9_isBelow
set_option maxRecDepth 20000 in
theorem ggX9_as_X9_failed : GoodIn wsX9_as wsX9_failed := goodIn_r _ [18, 1, 19, 20, 21, 22, 23, 24, 25, 26, 27, 28, 29] (by decide +kernel) (by decide +kernel)
set_option maxRecDepth 20000 in
theorem gX9_as_X9_failed : GoodIn wsX9_as (wsV RX9 88 RX9 yX9_failed wsX9_failed) := goodIn_app (goodIn_of _ (by decide +kernel)) ggX9_as_X9_failed
theorem dX9_as_0 : decode cX9_as 0 = .ok (.aload_n 0, 1) := by decide +kernel
theorem dX9_as_1 : decode cX9_as 1 = .ok (.iconst 0, 1) := by decide +kernel
theorem dX9_as_2 : decode cX9_as 2 = .ok (.putfield 69, 3) := by decide +kernel
theorem dX9_as_5 : decode cX9_as 5 = .ok (.aload_n 0, 1) := by decide +kernel
theorem dX9_as_6 : decode cX9_as 6 = .ok (.getfield 20, 3) := by decide +kernel
theorem dX9_as_9 : decode cX9_as 9 = .ok (.iload_n 1, 1) := by decide +kernel
theorem dX9_as_10 : decode cX9_as 10 = .ok (.invokevirtual 105, 3) := by decide +kernel
theorem dX9_as_13 : decode cX9_as 13 = .ok (.ifCond .ne 5, 3) := by decide +kernel
theorem dX9_as_16 : decode cX9_as 16 = .ok (.iconst (-1), 1) := by decide +kernel
theorem dX9_as_17 : decode cX9_as 17 = .ok (.ireturn, 1) := by decide +kernel
theorem dX9_as_18 : decode cX9_as 18 = .ok (.iload_n 2, 1) := by decide +kernel
theorem dX9_as_19 : decode cX9_as 19 = .ok (.iconst 3, 1) := by decide +kernel
theorem dX9_as_20 : decode cX9_as 20 = .ok (.invokestatic 140, 3) := by decide +kernel
theorem dX9_as_23 : decode cX9_as 23 = .ok (.ifCond .ne 6, 3) := by decide +kernel
theorem dX9_as_26 : decode cX9_as 26 = .ok (.bipush (-2), 2) := by decide +kernel
theorem dX9_as_28 : decode cX9_as 28 = .ok (.ireturn, 1) := by decide +kernel
theorem dX9_as_29 : decode cX9_as 29 = .ok (.aload_n 0, 1) := by decide +kernel
theorem dX9_as_30 : decode cX9_as 30 = .ok (.getfield 20, 3) := by decide +kernel
theorem dX9_as_33 : decode cX9_as 33 = .ok (.getfield 108, 3) := by decide +kernel
theorem dX9_as_36 : decode cX9_as 36 = .ok (.iload_n 1, 1) := by decide +kernel
theorem dX9_as_37 : decode cX9_as 37 = .ok (.aaload, 1) := by decide +kernel
theorem dX9_as_38 : decode cX9_as 38 = .ok (.getfield 112, 3) := by decide +kernel
theorem dX9_as_41 : decode cX9_as 41 = .ok (.iload_n 2, 1) := by decide +kernel
theorem dX9_as_42 : decode cX9_as 42 = .ok (.if_icmp .lt 7, 3) := by decide +kernel
theorem dX9_as_45 : decode cX9_as 45 = .ok (.iconst 1, 1) := by decide +kernel
theorem dX9_as_46 : decode cX9_as 46 = .ok (.goto 8, 3) := by decide +kernel
theorem dX9_as_49 : decode cX9_as 49 = .ok (.aload_n 0, 1) := by decide +kernel
theorem dX9_as_50 : decode cX9_as 50 = .ok (.iconst 2, 1) := by decide +kernel
theorem dX9_as_51 : decode cX9_as 51 = .ok (.invokevirtual 88, 3) := by decide +kernel
theorem dX9_as_54 : decode cX9_as 54 = .ok (.ireturn, 1) := by decide +kernel
theorem dX9_trace_0 : decode cX9_trace 0 = .ok (.aload_n 0, 1) := by decide +kernel
theorem dX9_trace_1 : decode cX9_trace 1 = .ok (.getfield 58, 3) := by decide +kernel
theorem dX9_trace_4 : decode cX9_trace 4 = .ok (.getfield 246, 3) := by decide +kernel
theorem dX9_trace_7 : decode cX9_trace 7 = .ok (.ireturn, 1) := by decide +kernel
theorem dX9_fault_0 : decode cX9_fault 0 = .ok (.aload_n 0, 1) := by decide +kernel
theorem dX9_fault_1 : decode cX9_fault 1 = .ok (.getfield 69, 3) := by decide +kernel
theorem dX9_fault_4 : decode cX9_fault 4 = .ok (.ireturn, 1) := by decide +kernel
theorem dX9_many_0 : decode cX9_many 0 = .ok (.iload_n 1, 1) := by decide +kernel
theorem dX9_many_1 : decode cX9_many 1 = .ok (.tableswitch 57 0 3 #[31, 39, 44, 49], 31) := by decide +kernel
theorem dX9_many_32 : decode cX9_many 32 = .ok (.aload_n 0, 1) := by decide +kernel
theorem dX9_many_33 : decode cX9_many 33 = .ok (.getfield 20, 3) := by decide +kernel
theorem dX9_many_36 : decode cX9_many 36 = .ok (.getfield 104, 3) := by decide +kernel
theorem dX9_many_39 : decode cX9_many 39 = .ok (.ireturn, 1) := by decide +kernel
theorem dX9_many_40 : decode cX9_many 40 = .ok (.aload_n 0, 1) := by decide +kernel
theorem dX9_many_41 : decode cX9_many 41 = .ok (.getfield 62, 3) := by decide +kernel
theorem dX9_many_44 : decode cX9_many 44 = .ok (.ireturn, 1) := by decide +kernel
theorem dX9_many_45 : decode cX9_many 45 = .ok (.aload_n 0, 1) := by decide +kernel
theorem dX9_many_46 : decode cX9_many 46 = .ok (.getfield 66, 3) := by decide +kernel
theorem dX9_many_49 : decode cX9_many 49 = .ok (.ireturn, 1) := by decide +kernel
theorem dX9_many_50 : decode cX9_many 50 = .ok (.aload_n 0, 1) := by decide +kernel
theorem dX9_many_51 : decode cX9_many 51 = .ok (.getfield 51, 3) := by decide +kernel
theorem dX9_many_54 : decode cX9_many 54 = .ok (.getfield 101, 3) := by decide +kernel
theorem dX9_many_57 : decode cX9_many 57 = .ok (.ireturn, 1) := by decide +kernel
theorem dX9_many_58 : decode cX9_many 58 = .ok (.bipush (-2), 2) := by decide +kernel
theorem dX9_many_60 : decode cX9_many 60 = .ok (.ireturn, 1) := by decide +kernel
theorem dX9_isBelow_0 : decode cX9_isBelow 0 = .ok (.iload_n 0, 1) := by decide +kernel
theorem dX9_isBelow_1 : decode cX9_isBelow 1 = .ok (.ifCond .lt 12, 3) := by decide +kernel
theorem dX9_isBelow_4 : decode cX9_isBelow 4 = .ok (.iload_n 0, 1) := by decide +kernel
theorem dX9_isBelow_5 : decode cX9_isBelow 5 = .ok (.iload_n 1, 1) := by decide +kernel
theorem dX9_isBelow_6 : decode cX9_isBelow 6 = .ok (.if_icmp .ge 7, 3) := by decide +kernel
theorem dX9_isBelow_9 : decode cX9_isBelow 9 = .ok (.iconst 1, 1) := by decide +kernel
theorem dX9_isBelow_10 : decode cX9_isBelow 10 = .ok (.goto 4, 3) := by decide +kernel
theorem dX9_isBelow_13 : decode cX9_isBelow 13 = .ok (.iconst 0, 1) := by decide +kernel
theorem dX9_isBelow_14 : decode cX9_isBelow 14 = .ok (.ireturn, 1) := by decide +kernel
set_option maxRecDepth 20000 in
theorem ggX9_isSheet_X9_isBelow : GoodIn wsX9_isSheet wsX9_isBelow := goodIn_r _ [4] (by decide +kernel) (by decide +kernel)
set_option maxRecDepth 20000 in
theorem gX9_isSheet_X9_isBelow : GoodIn wsX9_isSheet (va_wsS RX9 140 yX9_isBelow wsX9_isBelow) := goodIn_app (goodIn_of _ (by decide +kernel)) ggX9_isSheet_X9_isBelow
theorem dX9_isSheet_0 : decode cX9_isSheet 0 = .ok (.iload_n 0, 1) := by decide +kernel
theorem dX9_isSheet_1 : decode cX9_isSheet 1 = .ok (.iconst 4, 1) := by decide +kernel
theorem dX9_isSheet_2 : decode cX9_isSheet 2 = .ok (.invokestatic 140, 3) := by decide +kernel
theorem dX9_isSheet_5 : decode cX9_isSheet 5 = .ok (.ireturn, 1) := by decide +kernel
theorem dX9_isLane_0 : decode cX9_isLane 0 = .ok (.iload_n 0, 1) := by decide +kernel
theorem dX9_isLane_1 : decode cX9_isLane 1 = .ok (.ifCond .eq 13, 3) := by decide +kernel
theorem dX9_isLane_4 : decode cX9_isLane 4 = .ok (.iload_n 0, 1) := by decide +kernel
theorem dX9_isLane_5 : decode cX9_isLane 5 = .ok (.iconst 1, 1) := by decide +kernel
theorem dX9_isLane_6 : decode cX9_isLane 6 = .ok (.if_icmp .eq 8, 3) := by decide +kernel
theorem dX9_isLane_9 : decode cX9_isLane 9 = .ok (.iload_n 0, 1) := by decide +kernel
theorem dX9_isLane_10 : decode cX9_isLane 10 = .ok (.iconst 2, 1) := by decide +kernel
theorem dX9_isLane_11 : decode cX9_isLane 11 = .ok (.if_icmp .ne 7, 3) := by decide +kernel
theorem dX9_isLane_14 : decode cX9_isLane 14 = .ok (.iconst 1, 1) := by decide +kernel
theorem dX9_isLane_15 : decode cX9_isLane 15 = .ok (.goto 4, 3) := by decide +kernel
theorem dX9_isLane_18 : decode cX9_isLane 18 = .ok (.iconst 0, 1) := by decide +kernel
theorem dX9_isLane_19 : decode cX9_isLane 19 = .ok (.ireturn, 1) := by decide +kernel
theorem dX9_failed_0 : decode cX9_failed 0 = .ok (.aload_n 0, 1) := by decide +kernel
theorem dX9_failed_1 : decode cX9_failed 1 = .ok (.iload_n 1, 1) := by decide +kernel
theorem dX9_failed_2 : decode cX9_failed 2 = .ok (.putfield 69, 3) := by decide +kernel
theorem dX9_failed_5 : decode cX9_failed 5 = .ok (.bipush (-10), 2) := by decide +kernel
theorem dX9_failed_7 : decode cX9_failed 7 = .ok (.iload_n 1, 1) := by decide +kernel
theorem dX9_failed_8 : decode cX9_failed 8 = .ok (.isub, 1) := by decide +kernel
theorem dX9_failed_9 : decode cX9_failed 9 = .ok (.ireturn, 1) := by decide +kernel
set_option maxRecDepth 20000 in
theorem ggX9_rowFault_X6_faultAs : GoodIn wsX9_rowFault wsX6_faultAs := goodIn_r _ [5, 6, 7, 13, 14, 15, 16] (by decide +kernel) (by decide +kernel)
set_option maxRecDepth 20000 in
theorem gX9_rowFault_X6_faultAs : GoodIn wsX9_rowFault (wsV RX9 80 RX6 yX6_faultAs wsX6_faultAs) := goodIn_app (goodIn_of _ (by decide +kernel)) ggX9_rowFault_X6_faultAs
set_option maxRecDepth 20000 in
theorem ggX9_rowFault_X6_holds : GoodIn wsX9_rowFault wsX6_holds := goodIn_r _ [11, 12, 13, 14, 15, 16] (by decide +kernel) (by decide +kernel)
set_option maxRecDepth 20000 in
theorem gX9_rowFault_X6_holds : GoodIn wsX9_rowFault (wsV RX9 84 RX6 yX6_holds wsX6_holds) := goodIn_app (goodIn_of _ (by decide +kernel)) ggX9_rowFault_X6_holds
theorem dX9_rowFault_0 : decode cX9_rowFault 0 = .ok (.aload_n 0, 1) := by decide +kernel
theorem dX9_rowFault_1 : decode cX9_rowFault 1 = .ok (.iload_n 1, 1) := by decide +kernel
theorem dX9_rowFault_2 : decode cX9_rowFault 2 = .ok (.invokevirtual 80, 3) := by decide +kernel
theorem dX9_rowFault_5 : decode cX9_rowFault 5 = .ok (.istore 4, 2) := by decide +kernel
theorem dX9_rowFault_7 : decode cX9_rowFault 7 = .ok (.iload 4, 2) := by decide +kernel
theorem dX9_rowFault_9 : decode cX9_rowFault 9 = .ok (.ifCond .ne 16, 3) := by decide +kernel
theorem dX9_rowFault_12 : decode cX9_rowFault 12 = .ok (.aload_n 0, 1) := by decide +kernel
theorem dX9_rowFault_13 : decode cX9_rowFault 13 = .ok (.iload_n 2, 1) := by decide +kernel
theorem dX9_rowFault_14 : decode cX9_rowFault 14 = .ok (.iload_n 3, 1) := by decide +kernel
theorem dX9_rowFault_15 : decode cX9_rowFault 15 = .ok (.invokevirtual 84, 3) := by decide +kernel
theorem dX9_rowFault_18 : decode cX9_rowFault 18 = .ok (.ifCond .ne 7, 3) := by decide +kernel
theorem dX9_rowFault_21 : decode cX9_rowFault 21 = .ok (.iconst 3, 1) := by decide +kernel
theorem dX9_rowFault_22 : decode cX9_rowFault 22 = .ok (.goto 5, 3) := by decide +kernel
theorem dX9_rowFault_25 : decode cX9_rowFault 25 = .ok (.iload 4, 2) := by decide +kernel
theorem dX9_rowFault_27 : decode cX9_rowFault 27 = .ok (.ireturn, 1) := by decide +kernel
set_option maxRecDepth 20000 in
theorem ggX9_possible_X4_becomeLike : GoodIn wsX9_possible wsX4_becomeLike := goodIn_r _ [8, 9, 10, 11, 12, 13, 14, 15, 16, 17, 18, 19, 20, 21, 22, 23, 24, 64, 65, 66, 67, 68, 69, 70] (by decide +kernel) (by decide +kernel)
set_option maxRecDepth 20000 in
theorem gX9_possible_X4_becomeLike : GoodIn wsX9_possible (wsV RX9 161 RX4 yX4_becomeLike wsX4_becomeLike) := goodIn_app (goodIn_of _ (by decide +kernel)) ggX9_possible_X4_becomeLike
set_option maxRecDepth 20000 in
theorem ggX9_possible_X4_suppose : GoodIn wsX9_possible wsX4_suppose := goodIn_r _ [28, 15, 29, 30, 31, 10, 64, 65, 66, 67, 68, 69, 70] (by decide +kernel) (by decide +kernel)
set_option maxRecDepth 20000 in
theorem gX9_possible_X4_suppose : GoodIn wsX9_possible (wsV RX9 249 RX4 yX4_suppose wsX4_suppose) := goodIn_app (goodIn_of _ (by decide +kernel)) ggX9_possible_X4_suppose
set_option maxRecDepth 20000 in
theorem ggX9_possible_X5_allSo : GoodIn wsX9_possible wsX5_allSo := goodIn_r _ [36, 37, 38, 39, 40, 41, 42, 43, 7, 44, 15, 10, 45, 46, 47, 19, 48, 21, 24, 49, 50, 51, 52, 23, 71, 72, 73, 74, 64, 65, 66, 67, 68, 69, 70] (by decide +kernel) (by decide +kernel)
set_option maxRecDepth 20000 in
theorem gX9_possible_X5_allSo : GoodIn wsX9_possible (wsV RX9 253 RX5 yX5_allSo wsX5_allSo) := goodIn_app (goodIn_of _ (by decide +kernel)) ggX9_possible_X5_allSo
theorem dX9_possible_0 : decode cX9_possible 0 = .ok (.iconst 0, 1) := by decide +kernel
theorem dX9_possible_1 : decode cX9_possible 1 = .ok (.istore 4, 2) := by decide +kernel
theorem dX9_possible_3 : decode cX9_possible 3 = .ok (.aload_n 0, 1) := by decide +kernel
theorem dX9_possible_4 : decode cX9_possible 4 = .ok (.getfield 24, 3) := by decide +kernel
theorem dX9_possible_7 : decode cX9_possible 7 = .ok (.aload_n 0, 1) := by decide +kernel
theorem dX9_possible_8 : decode cX9_possible 8 = .ok (.getfield 20, 3) := by decide +kernel
theorem dX9_possible_11 : decode cX9_possible 11 = .ok (.invokevirtual 161, 3) := by decide +kernel
theorem dX9_possible_14 : decode cX9_possible 14 = .ok (.iconst 0, 1) := by decide +kernel
theorem dX9_possible_15 : decode cX9_possible 15 = .ok (.istore 5, 2) := by decide +kernel
theorem dX9_possible_17 : decode cX9_possible 17 = .ok (.iload 5, 2) := by decide +kernel
theorem dX9_possible_19 : decode cX9_possible 19 = .ok (.iload_n 3, 1) := by decide +kernel
theorem dX9_possible_20 : decode cX9_possible 20 = .ok (.if_icmp .ge 43, 3) := by decide +kernel
theorem dX9_possible_23 : decode cX9_possible 23 = .ok (.aload_n 0, 1) := by decide +kernel
theorem dX9_possible_24 : decode cX9_possible 24 = .ok (.getfield 24, 3) := by decide +kernel
theorem dX9_possible_27 : decode cX9_possible 27 = .ok (.iload_n 1, 1) := by decide +kernel
theorem dX9_possible_28 : decode cX9_possible 28 = .ok (.iload_n 2, 1) := by decide +kernel
theorem dX9_possible_29 : decode cX9_possible 29 = .ok (.iload 5, 2) := by decide +kernel
theorem dX9_possible_31 : decode cX9_possible 31 = .ok (.invokevirtual 249, 3) := by decide +kernel
theorem dX9_possible_34 : decode cX9_possible 34 = .ok (.aload_n 0, 1) := by decide +kernel
theorem dX9_possible_35 : decode cX9_possible 35 = .ok (.getfield 51, 3) := by decide +kernel
theorem dX9_possible_38 : decode cX9_possible 38 = .ok (.aload_n 0, 1) := by decide +kernel
theorem dX9_possible_39 : decode cX9_possible 39 = .ok (.getfield 24, 3) := by decide +kernel
theorem dX9_possible_42 : decode cX9_possible 42 = .ok (.invokevirtual 253, 3) := by decide +kernel
theorem dX9_possible_45 : decode cX9_possible 45 = .ok (.ifCond .eq 12, 3) := by decide +kernel
theorem dX9_possible_48 : decode cX9_possible 48 = .ok (.iload 4, 2) := by decide +kernel
theorem dX9_possible_50 : decode cX9_possible 50 = .ok (.iconst 1, 1) := by decide +kernel
theorem dX9_possible_51 : decode cX9_possible 51 = .ok (.iload 5, 2) := by decide +kernel
theorem dX9_possible_53 : decode cX9_possible 53 = .ok (.ishl, 1) := by decide +kernel
theorem dX9_possible_54 : decode cX9_possible 54 = .ok (.ior, 1) := by decide +kernel
theorem dX9_possible_55 : decode cX9_possible 55 = .ok (.istore 4, 2) := by decide +kernel
theorem dX9_possible_57 : decode cX9_possible 57 = .ok (.iinc 5 1, 3) := by decide +kernel
theorem dX9_possible_60 : decode cX9_possible 60 = .ok (.goto (-43), 3) := by decide +kernel
theorem dX9_possible_63 : decode cX9_possible 63 = .ok (.iload 4, 2) := by decide +kernel
theorem dX9_possible_65 : decode cX9_possible 65 = .ok (.ireturn, 1) := by decide +kernel
set_option maxRecDepth 20000 in
theorem ggX9_waysToBring_X4_becomeLike : GoodIn wsX9_waysToBring wsX4_becomeLike := goodIn_r _ [9, 10, 11, 12, 13, 14, 15, 16, 17, 18, 19, 20, 21, 22, 23, 24, 25, 49, 50, 51, 52, 53, 54, 55] (by decide +kernel) (by decide +kernel)
set_option maxRecDepth 20000 in
theorem gX9_waysToBring_X4_becomeLike : GoodIn wsX9_waysToBring (wsV RX9 161 RX4 yX4_becomeLike wsX4_becomeLike) := goodIn_app (goodIn_of _ (by decide +kernel)) ggX9_waysToBring_X4_becomeLike
set_option maxRecDepth 20000 in
theorem ggX9_waysToBring_X4_bringing : GoodIn wsX9_waysToBring wsX4_bringing := goodIn_r _ [29, 16, 11, 30, 31, 32, 20, 33, 22, 25, 34, 35, 36, 37, 24, 49, 50, 51, 52, 53, 54, 55] (by decide +kernel) (by decide +kernel)
set_option maxRecDepth 20000 in
theorem gX9_waysToBring_X4_bringing : GoodIn wsX9_waysToBring (wsV RX9 143 RX4 yX4_bringing wsX4_bringing) := goodIn_app (goodIn_of _ (by decide +kernel)) ggX9_waysToBring_X4_bringing
theorem dX9_waysToBring_0 : decode cX9_waysToBring 0 = .ok (.iconst 0, 1) := by decide +kernel
theorem dX9_waysToBring_1 : decode cX9_waysToBring 1 = .ok (.istore_n 3, 1) := by decide +kernel
theorem dX9_waysToBring_2 : decode cX9_waysToBring 2 = .ok (.aload_n 0, 1) := by decide +kernel
theorem dX9_waysToBring_3 : decode cX9_waysToBring 3 = .ok (.getfield 24, 3) := by decide +kernel
theorem dX9_waysToBring_6 : decode cX9_waysToBring 6 = .ok (.aload_n 0, 1) := by decide +kernel
theorem dX9_waysToBring_7 : decode cX9_waysToBring 7 = .ok (.getfield 20, 3) := by decide +kernel
theorem dX9_waysToBring_10 : decode cX9_waysToBring 10 = .ok (.invokevirtual 161, 3) := by decide +kernel
theorem dX9_waysToBring_13 : decode cX9_waysToBring 13 = .ok (.iconst 0, 1) := by decide +kernel
theorem dX9_waysToBring_14 : decode cX9_waysToBring 14 = .ok (.istore 4, 2) := by decide +kernel
theorem dX9_waysToBring_16 : decode cX9_waysToBring 16 = .ok (.iload 4, 2) := by decide +kernel
theorem dX9_waysToBring_18 : decode cX9_waysToBring 18 = .ok (.bipush 8, 2) := by decide +kernel
theorem dX9_waysToBring_20 : decode cX9_waysToBring 20 = .ok (.if_icmp .ge 55, 3) := by decide +kernel
theorem dX9_waysToBring_23 : decode cX9_waysToBring 23 = .ok (.aload_n 0, 1) := by decide +kernel
theorem dX9_waysToBring_24 : decode cX9_waysToBring 24 = .ok (.getfield 24, 3) := by decide +kernel
theorem dX9_waysToBring_27 : decode cX9_waysToBring 27 = .ok (.getfield 108, 3) := by decide +kernel
theorem dX9_waysToBring_30 : decode cX9_waysToBring 30 = .ok (.iload_n 1, 1) := by decide +kernel
theorem dX9_waysToBring_31 : decode cX9_waysToBring 31 = .ok (.aaload, 1) := by decide +kernel
theorem dX9_waysToBring_32 : decode cX9_waysToBring 32 = .ok (.iload 4, 2) := by decide +kernel
theorem dX9_waysToBring_34 : decode cX9_waysToBring 34 = .ok (.putfield 120, 3) := by decide +kernel
theorem dX9_waysToBring_37 : decode cX9_waysToBring 37 = .ok (.iconst 0, 1) := by decide +kernel
theorem dX9_waysToBring_38 : decode cX9_waysToBring 38 = .ok (.istore 5, 2) := by decide +kernel
theorem dX9_waysToBring_40 : decode cX9_waysToBring 40 = .ok (.iload 5, 2) := by decide +kernel
theorem dX9_waysToBring_42 : decode cX9_waysToBring 42 = .ok (.iconst 3, 1) := by decide +kernel
theorem dX9_waysToBring_43 : decode cX9_waysToBring 43 = .ok (.if_icmp .ge 26, 3) := by decide +kernel
theorem dX9_waysToBring_46 : decode cX9_waysToBring 46 = .ok (.aload_n 0, 1) := by decide +kernel
theorem dX9_waysToBring_47 : decode cX9_waysToBring 47 = .ok (.getfield 24, 3) := by decide +kernel
theorem dX9_waysToBring_50 : decode cX9_waysToBring 50 = .ok (.iload_n 1, 1) := by decide +kernel
theorem dX9_waysToBring_51 : decode cX9_waysToBring 51 = .ok (.iload 5, 2) := by decide +kernel
theorem dX9_waysToBring_53 : decode cX9_waysToBring 53 = .ok (.invokevirtual 143, 3) := by decide +kernel
theorem dX9_waysToBring_56 : decode cX9_waysToBring 56 = .ok (.iload_n 2, 1) := by decide +kernel
theorem dX9_waysToBring_57 : decode cX9_waysToBring 57 = .ok (.if_icmp .lt 6, 3) := by decide +kernel
theorem dX9_waysToBring_60 : decode cX9_waysToBring 60 = .ok (.iinc 3 1, 3) := by decide +kernel
theorem dX9_waysToBring_63 : decode cX9_waysToBring 63 = .ok (.iinc 5 1, 3) := by decide +kernel
theorem dX9_waysToBring_66 : decode cX9_waysToBring 66 = .ok (.goto (-26), 3) := by decide +kernel
theorem dX9_waysToBring_69 : decode cX9_waysToBring 69 = .ok (.iinc 4 1, 3) := by decide +kernel
theorem dX9_waysToBring_72 : decode cX9_waysToBring 72 = .ok (.goto (-56), 3) := by decide +kernel
theorem dX9_waysToBring_75 : decode cX9_waysToBring 75 = .ok (.iload_n 3, 1) := by decide +kernel
theorem dX9_waysToBring_76 : decode cX9_waysToBring 76 = .ok (.ireturn, 1) := by decide +kernel
theorem dX9_commonDivisor_0 : decode cX9_commonDivisor 0 = .ok (.iload_n 1, 1) := by decide +kernel
theorem dX9_commonDivisor_1 : decode cX9_commonDivisor 1 = .ok (.istore_n 2, 1) := by decide +kernel
theorem dX9_commonDivisor_2 : decode cX9_commonDivisor 2 = .ok (.iload_n 2, 1) := by decide +kernel
theorem dX9_commonDivisor_3 : decode cX9_commonDivisor 3 = .ok (.iconst 1, 1) := by decide +kernel
theorem dX9_commonDivisor_4 : decode cX9_commonDivisor 4 = .ok (.if_icmp .le 23, 3) := by decide +kernel
theorem dX9_commonDivisor_7 : decode cX9_commonDivisor 7 = .ok (.iload_n 0, 1) := by decide +kernel
theorem dX9_commonDivisor_8 : decode cX9_commonDivisor 8 = .ok (.iload_n 2, 1) := by decide +kernel
theorem dX9_commonDivisor_9 : decode cX9_commonDivisor 9 = .ok (.irem, 1) := by decide +kernel
theorem dX9_commonDivisor_10 : decode cX9_commonDivisor 10 = .ok (.ifCond .ne 11, 3) := by decide +kernel
theorem dX9_commonDivisor_13 : decode cX9_commonDivisor 13 = .ok (.iload_n 1, 1) := by decide +kernel
theorem dX9_commonDivisor_14 : decode cX9_commonDivisor 14 = .ok (.iload_n 2, 1) := by decide +kernel
theorem dX9_commonDivisor_15 : decode cX9_commonDivisor 15 = .ok (.irem, 1) := by decide +kernel
theorem dX9_commonDivisor_16 : decode cX9_commonDivisor 16 = .ok (.ifCond .ne 5, 3) := by decide +kernel
theorem dX9_commonDivisor_19 : decode cX9_commonDivisor 19 = .ok (.iload_n 2, 1) := by decide +kernel
theorem dX9_commonDivisor_20 : decode cX9_commonDivisor 20 = .ok (.ireturn, 1) := by decide +kernel
theorem dX9_commonDivisor_21 : decode cX9_commonDivisor 21 = .ok (.iinc 2 (-1), 3) := by decide +kernel
theorem dX9_commonDivisor_24 : decode cX9_commonDivisor 24 = .ok (.goto (-22), 3) := by decide +kernel
theorem dX9_commonDivisor_27 : decode cX9_commonDivisor 27 = .ok (.iconst 1, 1) := by decide +kernel
theorem dX9_commonDivisor_28 : decode cX9_commonDivisor 28 = .ok (.ireturn, 1) := by decide +kernel
end
section
theorem dX10_init_0 : decode cX10_init 0 = .ok (.aload_n 0, 1) := by decide +kernel
theorem dX10_init_1 : decode cX10_init 1 = .ok (.invokespecial 1, 3) := by decide +kernel
theorem dX10_init_4 : decode cX10_init 4 = .ok (.aload_n 0, 1) := by decide +kernel
theorem dX10_init_5 : decode cX10_init 5 = .ok (.iconst 4, 1) := by decide +kernel
theorem dX10_init_6 : decode cX10_init 6 = .ok (.newarray .int, 2) := by decide +kernel
theorem dX10_init_8 : decode cX10_init 8 = .ok (.dup, 1) := by decide +kernel
theorem dX10_init_9 : decode cX10_init 9 = .ok (.iconst 0, 1) := by decide +kernel
theorem dX10_init_10 : decode cX10_init 10 = .ok (.bipush (-9), 2) := by decide +kernel
theorem dX10_init_12 : decode cX10_init 12 = .ok (.iastore, 1) := by decide +kernel
theorem dX10_init_13 : decode cX10_init 13 = .ok (.dup, 1) := by decide +kernel
theorem dX10_init_14 : decode cX10_init 14 = .ok (.iconst 1, 1) := by decide +kernel
theorem dX10_init_15 : decode cX10_init 15 = .ok (.bipush (-9), 2) := by decide +kernel
theorem dX10_init_17 : decode cX10_init 17 = .ok (.iastore, 1) := by decide +kernel
theorem dX10_init_18 : decode cX10_init 18 = .ok (.dup, 1) := by decide +kernel
theorem dX10_init_19 : decode cX10_init 19 = .ok (.iconst 2, 1) := by decide +kernel
theorem dX10_init_20 : decode cX10_init 20 = .ok (.bipush (-9), 2) := by decide +kernel
theorem dX10_init_22 : decode cX10_init 22 = .ok (.iastore, 1) := by decide +kernel
theorem dX10_init_23 : decode cX10_init 23 = .ok (.dup, 1) := by decide +kernel
theorem dX10_init_24 : decode cX10_init 24 = .ok (.iconst 3, 1) := by decide +kernel
theorem dX10_init_25 : decode cX10_init 25 = .ok (.bipush (-9), 2) := by decide +kernel
theorem dX10_init_27 : decode cX10_init 27 = .ok (.iastore, 1) := by decide +kernel
theorem dX10_init_28 : decode cX10_init 28 = .ok (.putfield 9, 3) := by decide +kernel
theorem dX10_init_31 : decode cX10_init 31 = .ok (.aload_n 0, 1) := by decide +kernel
theorem dX10_init_32 : decode cX10_init 32 = .ok (.iconst 4, 1) := by decide +kernel
theorem dX10_init_33 : decode cX10_init 33 = .ok (.newarray .int, 2) := by decide +kernel
theorem dX10_init_35 : decode cX10_init 35 = .ok (.putfield 13, 3) := by decide +kernel
theorem dX10_init_38 : decode cX10_init 38 = .ok (.aload_n 0, 1) := by decide +kernel
theorem dX10_init_39 : decode cX10_init 39 = .ok (.sipush 240, 3) := by decide +kernel
theorem dX10_init_42 : decode cX10_init 42 = .ok (.newarray .int, 2) := by decide +kernel
theorem dX10_init_44 : decode cX10_init 44 = .ok (.putfield 16, 3) := by decide +kernel
theorem dX10_init_47 : decode cX10_init 47 = .ok (.aload_n 0, 1) := by decide +kernel
theorem dX10_init_48 : decode cX10_init 48 = .ok (.iconst 3, 1) := by decide +kernel
theorem dX10_init_49 : decode cX10_init 49 = .ok (.newarray .int, 2) := by decide +kernel
theorem dX10_init_51 : decode cX10_init 51 = .ok (.putfield 19, 3) := by decide +kernel
theorem dX10_init_54 : decode cX10_init 54 = .ok (.aload_n 0, 1) := by decide +kernel
theorem dX10_init_55 : decode cX10_init 55 = .ok (.bipush 6, 2) := by decide +kernel
theorem dX10_init_57 : decode cX10_init 57 = .ok (.newarray .int, 2) := by decide +kernel
theorem dX10_init_59 : decode cX10_init 59 = .ok (.putfield 22, 3) := by decide +kernel
theorem dX10_init_62 : decode cX10_init 62 = .ok (.aload_n 0, 1) := by decide +kernel
theorem dX10_init_63 : decode cX10_init 63 = .ok (.bipush 6, 2) := by decide +kernel
theorem dX10_init_65 : decode cX10_init 65 = .ok (.newarray .int, 2) := by decide +kernel
theorem dX10_init_67 : decode cX10_init 67 = .ok (.putfield 25, 3) := by decide +kernel
theorem dX10_init_70 : decode cX10_init 70 = .ok (.aload_n 0, 1) := by decide +kernel
theorem dX10_init_71 : decode cX10_init 71 = .ok (.bipush 6, 2) := by decide +kernel
theorem dX10_init_73 : decode cX10_init 73 = .ok (.newarray .int, 2) := by decide +kernel
theorem dX10_init_75 : decode cX10_init 75 = .ok (.putfield 28, 3) := by decide +kernel
theorem dX10_init_78 : decode cX10_init 78 = .ok (.aload_n 0, 1) := by decide +kernel
theorem dX10_init_79 : decode cX10_init 79 = .ok (.bipush 6, 2) := by decide +kernel
theorem dX10_init_81 : decode cX10_init 81 = .ok (.newarray .int, 2) := by decide +kernel
theorem dX10_init_83 : decode cX10_init 83 = .ok (.putfield 31, 3) := by decide +kernel
theorem dX10_init_86 : decode cX10_init 86 = .ok (.aload_n 0, 1) := by decide +kernel
theorem dX10_init_87 : decode cX10_init 87 = .ok (.iconst 3, 1) := by decide +kernel
theorem dX10_init_88 : decode cX10_init 88 = .ok (.newarray .int, 2) := by decide +kernel
theorem dX10_init_90 : decode cX10_init 90 = .ok (.putfield 34, 3) := by decide +kernel
theorem dX10_init_93 : decode cX10_init 93 = .ok (.aload_n 0, 1) := by decide +kernel
theorem dX10_init_94 : decode cX10_init 94 = .ok (.bipush 24, 2) := by decide +kernel
theorem dX10_init_96 : decode cX10_init 96 = .ok (.newarray .int, 2) := by decide +kernel
theorem dX10_init_98 : decode cX10_init 98 = .ok (.putfield 37, 3) := by decide +kernel
theorem dX10_init_101 : decode cX10_init 101 = .ok (.aload_n 0, 1) := by decide +kernel
theorem dX10_init_102 : decode cX10_init 102 = .ok (.bipush 6, 2) := by decide +kernel
theorem dX10_init_104 : decode cX10_init 104 = .ok (.newarray .int, 2) := by decide +kernel
theorem dX10_init_106 : decode cX10_init 106 = .ok (.putfield 40, 3) := by decide +kernel
theorem dX10_init_109 : decode cX10_init 109 = .ok (.aload_n 0, 1) := by decide +kernel
theorem dX10_init_110 : decode cX10_init 110 = .ok (.bipush 6, 2) := by decide +kernel
theorem dX10_init_112 : decode cX10_init 112 = .ok (.newarray .int, 2) := by decide +kernel
theorem dX10_init_114 : decode cX10_init 114 = .ok (.putfield 43, 3) := by decide +kernel
theorem dX10_init_117 : decode cX10_init 117 = .ok (.aload_n 0, 1) := by decide +kernel
theorem dX10_init_118 : decode cX10_init 118 = .ok (.bipush 7, 2) := by decide +kernel
theorem dX10_init_120 : decode cX10_init 120 = .ok (.newarray .int, 2) := by decide +kernel
theorem dX10_init_122 : decode cX10_init 122 = .ok (.putfield 46, 3) := by decide +kernel
theorem dX10_init_125 : decode cX10_init 125 = .ok (.aload_n 0, 1) := by decide +kernel
theorem dX10_init_126 : decode cX10_init 126 = .ok (.bipush 7, 2) := by decide +kernel
theorem dX10_init_128 : decode cX10_init 128 = .ok (.newarray .int, 2) := by decide +kernel
theorem dX10_init_130 : decode cX10_init 130 = .ok (.putfield 49, 3) := by decide +kernel
theorem dX10_init_133 : decode cX10_init 133 = .ok (.aload_n 0, 1) := by decide +kernel
theorem dX10_init_134 : decode cX10_init 134 = .ok (.iconst 3, 1) := by decide +kernel
theorem dX10_init_135 : decode cX10_init 135 = .ok (.newarray .int, 2) := by decide +kernel
theorem dX10_init_137 : decode cX10_init 137 = .ok (.putfield 52, 3) := by decide +kernel
theorem dX10_init_140 : decode cX10_init 140 = .ok (.aload_n 0, 1) := by decide +kernel
theorem dX10_init_141 : decode cX10_init 141 = .ok (.iconst 3, 1) := by decide +kernel
theorem dX10_init_142 : decode cX10_init 142 = .ok (.newarray .int, 2) := by decide +kernel
theorem dX10_init_144 : decode cX10_init 144 = .ok (.putfield 55, 3) := by decide +kernel
theorem dX10_init_147 : decode cX10_init 147 = .ok (.aload_n 0, 1) := by decide +kernel
theorem dX10_init_148 : decode cX10_init 148 = .ok (.bipush 8, 2) := by decide +kernel
theorem dX10_init_150 : decode cX10_init 150 = .ok (.newarray .int, 2) := by decide +kernel
theorem dX10_init_152 : decode cX10_init 152 = .ok (.putfield 58, 3) := by decide +kernel
theorem dX10_init_155 : decode cX10_init 155 = .ok (.aload_n 0, 1) := by decide +kernel
theorem dX10_init_156 : decode cX10_init 156 = .ok (.bipush 8, 2) := by decide +kernel
theorem dX10_init_158 : decode cX10_init 158 = .ok (.newarray .int, 2) := by decide +kernel
theorem dX10_init_160 : decode cX10_init 160 = .ok (.putfield 61, 3) := by decide +kernel
theorem dX10_init_163 : decode cX10_init 163 = .ok (.aload_n 0, 1) := by decide +kernel
theorem dX10_init_164 : decode cX10_init 164 = .ok (.bipush 8, 2) := by decide +kernel
theorem dX10_init_166 : decode cX10_init 166 = .ok (.newarray .int, 2) := by decide +kernel
theorem dX10_init_168 : decode cX10_init 168 = .ok (.putfield 64, 3) := by decide +kernel
theorem dX10_init_171 : decode cX10_init 171 = .ok (.return_, 1) := by decide +kernel
theorem dX10_fails_0 : decode cX10_fails 0 = .ok (.aload_n 0, 1) := by decide +kernel
theorem dX10_fails_1 : decode cX10_fails 1 = .ok (.iload_n 1, 1) := by decide +kernel
theorem dX10_fails_2 : decode cX10_fails 2 = .ok (.putfield 67, 3) := by decide +kernel
theorem dX10_fails_5 : decode cX10_fails 5 = .ok (.bipush (-10), 2) := by decide +kernel
theorem dX10_fails_7 : decode cX10_fails 7 = .ok (.iload_n 1, 1) := by decide +kernel
theorem dX10_fails_8 : decode cX10_fails 8 = .ok (.isub, 1) := by decide +kernel
theorem dX10_fails_9 : decode cX10_fails 9 = .ok (.ireturn, 1) := by decide +kernel
theorem dX10_lost_0 : decode cX10_lost 0 = .ok (.aload_n 0, 1) := by decide +kernel
theorem dX10_lost_1 : decode cX10_lost 1 = .ok (.iload_n 1, 1) := by decide +kernel
theorem dX10_lost_2 : decode cX10_lost 2 = .ok (.putfield 67, 3) := by decide +kernel
theorem dX10_lost_5 : decode cX10_lost 5 = .ok (.ldc2_w 71, 3) := by decide +kernel
theorem dX10_lost_8 : decode cX10_lost 8 = .ok (.lreturn, 1) := by decide +kernel
theorem dX10_within_0 : decode cX10_within 0 = .ok (.iload_n 0, 1) := by decide +kernel
theorem dX10_within_1 : decode cX10_within 1 = .ok (.iload_n 1, 1) := by decide +kernel
theorem dX10_within_2 : decode cX10_within 2 = .ok (.if_icmp .lt 12, 3) := by decide +kernel
theorem dX10_within_5 : decode cX10_within 5 = .ok (.iload_n 0, 1) := by decide +kernel
theorem dX10_within_6 : decode cX10_within 6 = .ok (.iload_n 2, 1) := by decide +kernel
theorem dX10_within_7 : decode cX10_within 7 = .ok (.if_icmp .gt 7, 3) := by decide +kernel
theorem dX10_within_10 : decode cX10_within 10 = .ok (.iconst 1, 1) := by decide +kernel
theorem dX10_within_11 : decode cX10_within 11 = .ok (.goto 4, 3) := by decide +kernel
theorem dX10_within_14 : decode cX10_within 14 = .ok (.iconst 0, 1) := by decide +kernel
theorem dX10_within_15 : decode cX10_within 15 = .ok (.ireturn, 1) := by decide +kernel
set_option maxRecDepth 20000 in
theorem ggX10_isSheet_X10_within : GoodIn wsX10_isSheet wsX10_within := goodIn_r _ [4] (by decide +kernel) (by decide +kernel)
set_option maxRecDepth 20000 in
theorem gX10_isSheet_X10_within : GoodIn wsX10_isSheet (va_wsS RX10 73 yX10_within wsX10_within) := goodIn_app (goodIn_of _ (by decide +kernel)) ggX10_isSheet_X10_within
theorem dX10_isSheet_0 : decode cX10_isSheet 0 = .ok (.iload_n 0, 1) := by decide +kernel
theorem dX10_isSheet_1 : decode cX10_isSheet 1 = .ok (.iconst 0, 1) := by decide +kernel
theorem dX10_isSheet_2 : decode cX10_isSheet 2 = .ok (.iconst 3, 1) := by decide +kernel
theorem dX10_isSheet_3 : decode cX10_isSheet 3 = .ok (.invokestatic 73, 3) := by decide +kernel
theorem dX10_isSheet_6 : decode cX10_isSheet 6 = .ok (.ireturn, 1) := by decide +kernel
set_option maxRecDepth 20000 in
theorem ggX10_isSort_X10_within : GoodIn wsX10_isSort wsX10_within := goodIn_r _ [4] (by decide +kernel) (by decide +kernel)
set_option maxRecDepth 20000 in
theorem gX10_isSort_X10_within : GoodIn wsX10_isSort (va_wsS RX10 73 yX10_within wsX10_within) := goodIn_app (goodIn_of _ (by decide +kernel)) ggX10_isSort_X10_within
theorem dX10_isSort_0 : decode cX10_isSort 0 = .ok (.iload_n 0, 1) := by decide +kernel
theorem dX10_isSort_1 : decode cX10_isSort 1 = .ok (.iconst 0, 1) := by decide +kernel
theorem dX10_isSort_2 : decode cX10_isSort 2 = .ok (.iconst 2, 1) := by decide +kernel
theorem dX10_isSort_3 : decode cX10_isSort 3 = .ok (.invokestatic 73, 3) := by decide +kernel
theorem dX10_isSort_6 : decode cX10_isSort 6 = .ok (.ireturn, 1) := by decide +kernel
theorem dX10_against_0 : decode cX10_against 0 = .ok (.aload_n 0, 1) := by decide +kernel
theorem dX10_against_1 : decode cX10_against 1 = .ok (.getfield 9, 3) := by decide +kernel
theorem dX10_against_4 : decode cX10_against 4 = .ok (.iload_n 1, 1) := by decide +kernel
theorem dX10_against_5 : decode cX10_against 5 = .ok (.iaload, 1) := by decide +kernel
theorem dX10_against_6 : decode cX10_against 6 = .ok (.bipush (-9), 2) := by decide +kernel
theorem dX10_against_8 : decode cX10_against 8 = .ok (.if_icmp .eq 15, 3) := by decide +kernel
theorem dX10_against_11 : decode cX10_against 11 = .ok (.aload_n 0, 1) := by decide +kernel
theorem dX10_against_12 : decode cX10_against 12 = .ok (.getfield 9, 3) := by decide +kernel
theorem dX10_against_15 : decode cX10_against 15 = .ok (.iload_n 1, 1) := by decide +kernel
theorem dX10_against_16 : decode cX10_against 16 = .ok (.iaload, 1) := by decide +kernel
theorem dX10_against_17 : decode cX10_against 17 = .ok (.iload_n 2, 1) := by decide +kernel
theorem dX10_against_18 : decode cX10_against 18 = .ok (.if_icmp .eq 5, 3) := by decide +kernel
theorem dX10_against_21 : decode cX10_against 21 = .ok (.iconst 2, 1) := by decide +kernel
theorem dX10_against_22 : decode cX10_against 22 = .ok (.ireturn, 1) := by decide +kernel
theorem dX10_against_23 : decode cX10_against 23 = .ok (.aload_n 0, 1) := by decide +kernel
theorem dX10_against_24 : decode cX10_against 24 = .ok (.getfield 9, 3) := by decide +kernel
theorem dX10_against_27 : decode cX10_against 27 = .ok (.iload_n 1, 1) := by decide +kernel
theorem dX10_against_28 : decode cX10_against 28 = .ok (.iaload, 1) := by decide +kernel
theorem dX10_against_29 : decode cX10_against 29 = .ok (.bipush (-9), 2) := by decide +kernel
theorem dX10_against_31 : decode cX10_against 31 = .ok (.if_icmp .ne 5, 3) := by decide +kernel
theorem dX10_against_34 : decode cX10_against 34 = .ok (.iconst 1, 1) := by decide +kernel
theorem dX10_against_35 : decode cX10_against 35 = .ok (.ireturn, 1) := by decide +kernel
theorem dX10_against_36 : decode cX10_against 36 = .ok (.iload 4, 2) := by decide +kernel
theorem dX10_against_38 : decode cX10_against 38 = .ok (.ifCond .ge 5, 3) := by decide +kernel
theorem dX10_against_41 : decode cX10_against 41 = .ok (.iconst 4, 1) := by decide +kernel
theorem dX10_against_42 : decode cX10_against 42 = .ok (.ireturn, 1) := by decide +kernel
theorem dX10_against_43 : decode cX10_against 43 = .ok (.iload_n 3, 1) := by decide +kernel
theorem dX10_against_44 : decode cX10_against 44 = .ok (.ifCond .lt 26, 3) := by decide +kernel
theorem dX10_against_47 : decode cX10_against 47 = .ok (.iload_n 3, 1) := by decide +kernel
theorem dX10_against_48 : decode cX10_against 48 = .ok (.aload_n 0, 1) := by decide +kernel
theorem dX10_against_49 : decode cX10_against 49 = .ok (.getfield 13, 3) := by decide +kernel
theorem dX10_against_52 : decode cX10_against 52 = .ok (.iload_n 1, 1) := by decide +kernel
theorem dX10_against_53 : decode cX10_against 53 = .ok (.iaload, 1) := by decide +kernel
theorem dX10_against_54 : decode cX10_against 54 = .ok (.if_icmp .gt 16, 3) := by decide +kernel
theorem dX10_against_57 : decode cX10_against 57 = .ok (.iload 4, 2) := by decide +kernel
theorem dX10_against_59 : decode cX10_against 59 = .ok (.aload_n 0, 1) := by decide +kernel
theorem dX10_against_60 : decode cX10_against 60 = .ok (.getfield 13, 3) := by decide +kernel
theorem dX10_against_63 : decode cX10_against 63 = .ok (.iload_n 1, 1) := by decide +kernel
theorem dX10_against_64 : decode cX10_against 64 = .ok (.iaload, 1) := by decide +kernel
theorem dX10_against_65 : decode cX10_against 65 = .ok (.iload_n 3, 1) := by decide +kernel
theorem dX10_against_66 : decode cX10_against 66 = .ok (.isub, 1) := by decide +kernel
theorem dX10_against_67 : decode cX10_against 67 = .ok (.if_icmp .le 7, 3) := by decide +kernel
theorem dX10_against_70 : decode cX10_against 70 = .ok (.iconst 3, 1) := by decide +kernel
theorem dX10_against_71 : decode cX10_against 71 = .ok (.goto 4, 3) := by decide +kernel
theorem dX10_against_74 : decode cX10_against 74 = .ok (.iconst 0, 1) := by decide +kernel
theorem dX10_against_75 : decode cX10_against 75 = .ok (.ireturn, 1) := by decide +kernel
theorem dX10_isPerson_0 : decode cX10_isPerson 0 = .ok (.iload_n 1, 1) := by decide +kernel
theorem dX10_isPerson_1 : decode cX10_isPerson 1 = .ok (.ifCond .lt 15, 3) := by decide +kernel
theorem dX10_isPerson_4 : decode cX10_isPerson 4 = .ok (.iload_n 1, 1) := by decide +kernel
theorem dX10_isPerson_5 : decode cX10_isPerson 5 = .ok (.aload_n 0, 1) := by decide +kernel
theorem dX10_isPerson_6 : decode cX10_isPerson 6 = .ok (.getfield 77, 3) := by decide +kernel
theorem dX10_isPerson_9 : decode cX10_isPerson 9 = .ok (.if_icmp .ge 7, 3) := by decide +kernel
theorem dX10_isPerson_12 : decode cX10_isPerson 12 = .ok (.iconst 1, 1) := by decide +kernel
theorem dX10_isPerson_13 : decode cX10_isPerson 13 = .ok (.goto 4, 3) := by decide +kernel
theorem dX10_isPerson_16 : decode cX10_isPerson 16 = .ok (.iconst 0, 1) := by decide +kernel
theorem dX10_isPerson_17 : decode cX10_isPerson 17 = .ok (.ireturn, 1) := by decide +kernel
theorem dX10_isMatter_0 : decode cX10_isMatter 0 = .ok (.aload_n 0, 1) := by decide +kernel
theorem dX10_isMatter_1 : decode cX10_isMatter 1 = .ok (.getfield 77, 3) := by decide +kernel
theorem dX10_isMatter_4 : decode cX10_isMatter 4 = .ok (.ifCond .le 16, 3) := by decide +kernel
theorem dX10_isMatter_7 : decode cX10_isMatter 7 = .ok (.iload_n 1, 1) := by decide +kernel
theorem dX10_isMatter_8 : decode cX10_isMatter 8 = .ok (.ifCond .lt 12, 3) := by decide +kernel
theorem dX10_isMatter_11 : decode cX10_isMatter 11 = .ok (.iload_n 1, 1) := by decide +kernel
theorem dX10_isMatter_12 : decode cX10_isMatter 12 = .ok (.iconst 3, 1) := by decide +kernel
theorem dX10_isMatter_13 : decode cX10_isMatter 13 = .ok (.if_icmp .ge 7, 3) := by decide +kernel
theorem dX10_isMatter_16 : decode cX10_isMatter 16 = .ok (.iconst 1, 1) := by decide +kernel
theorem dX10_isMatter_17 : decode cX10_isMatter 17 = .ok (.goto 4, 3) := by decide +kernel
theorem dX10_isMatter_20 : decode cX10_isMatter 20 = .ok (.iconst 0, 1) := by decide +kernel
theorem dX10_isMatter_21 : decode cX10_isMatter 21 = .ok (.ireturn, 1) := by decide +kernel
theorem dX10_isOf_0 : decode cX10_isOf 0 = .ok (.iload_n 0, 1) := by decide +kernel
theorem dX10_isOf_1 : decode cX10_isOf 1 = .ok (.iload_n 1, 1) := by decide +kernel
theorem dX10_isOf_2 : decode cX10_isOf 2 = .ok (.ishr, 1) := by decide +kernel
theorem dX10_isOf_3 : decode cX10_isOf 3 = .ok (.iconst 1, 1) := by decide +kernel
theorem dX10_isOf_4 : decode cX10_isOf 4 = .ok (.iand, 1) := by decide +kernel
theorem dX10_isOf_5 : decode cX10_isOf 5 = .ok (.iconst 1, 1) := by decide +kernel
theorem dX10_isOf_6 : decode cX10_isOf 6 = .ok (.if_icmp .ne 7, 3) := by decide +kernel
theorem dX10_isOf_9 : decode cX10_isOf 9 = .ok (.iconst 1, 1) := by decide +kernel
theorem dX10_isOf_10 : decode cX10_isOf 10 = .ok (.goto 4, 3) := by decide +kernel
theorem dX10_isOf_13 : decode cX10_isOf 13 = .ok (.iconst 0, 1) := by decide +kernel
theorem dX10_isOf_14 : decode cX10_isOf 14 = .ok (.ireturn, 1) := by decide +kernel
set_option maxRecDepth 20000 in
theorem ggX10_digit_X10_within : GoodIn wsX10_digit wsX10_within := goodIn_r _ [6] (by decide +kernel) (by decide +kernel)
set_option maxRecDepth 20000 in
theorem gX10_digit_X10_within : GoodIn wsX10_digit (va_wsS RX10 73 yX10_within wsX10_within) := goodIn_app (goodIn_of _ (by decide +kernel)) ggX10_digit_X10_within
theorem dX10_digit_0 : decode cX10_digit 0 = .ok (.aload_n 0, 1) := by decide +kernel
theorem dX10_digit_1 : decode cX10_digit 1 = .ok (.getfield 80, 3) := by decide +kernel
theorem dX10_digit_4 : decode cX10_digit 4 = .ok (.iload_n 1, 1) := by decide +kernel
theorem dX10_digit_5 : decode cX10_digit 5 = .ok (.if_icmp .ge 24, 3) := by decide +kernel
theorem dX10_digit_8 : decode cX10_digit 8 = .ok (.aload_n 0, 1) := by decide +kernel
theorem dX10_digit_9 : decode cX10_digit 9 = .ok (.getfield 16, 3) := by decide +kernel
theorem dX10_digit_12 : decode cX10_digit 12 = .ok (.aload_n 0, 1) := by decide +kernel
theorem dX10_digit_13 : decode cX10_digit 13 = .ok (.getfield 80, 3) := by decide +kernel
theorem dX10_digit_16 : decode cX10_digit 16 = .ok (.iaload, 1) := by decide +kernel
theorem dX10_digit_17 : decode cX10_digit 17 = .ok (.bipush 48, 2) := by decide +kernel
theorem dX10_digit_19 : decode cX10_digit 19 = .ok (.bipush 48, 2) := by decide +kernel
theorem dX10_digit_21 : decode cX10_digit 21 = .ok (.iload_n 2, 1) := by decide +kernel
theorem dX10_digit_22 : decode cX10_digit 22 = .ok (.iadd, 1) := by decide +kernel
theorem dX10_digit_23 : decode cX10_digit 23 = .ok (.invokestatic 73, 3) := by decide +kernel
theorem dX10_digit_26 : decode cX10_digit 26 = .ok (.ifCond .ne 6, 3) := by decide +kernel
theorem dX10_digit_29 : decode cX10_digit 29 = .ok (.bipush (-9), 2) := by decide +kernel
theorem dX10_digit_31 : decode cX10_digit 31 = .ok (.ireturn, 1) := by decide +kernel
theorem dX10_digit_32 : decode cX10_digit 32 = .ok (.aload_n 0, 1) := by decide +kernel
theorem dX10_digit_33 : decode cX10_digit 33 = .ok (.dup, 1) := by decide +kernel
theorem dX10_digit_34 : decode cX10_digit 34 = .ok (.getfield 80, 3) := by decide +kernel
theorem dX10_digit_37 : decode cX10_digit 37 = .ok (.iconst 1, 1) := by decide +kernel
theorem dX10_digit_38 : decode cX10_digit 38 = .ok (.iadd, 1) := by decide +kernel
theorem dX10_digit_39 : decode cX10_digit 39 = .ok (.putfield 80, 3) := by decide +kernel
theorem dX10_digit_42 : decode cX10_digit 42 = .ok (.aload_n 0, 1) := by decide +kernel
theorem dX10_digit_43 : decode cX10_digit 43 = .ok (.getfield 16, 3) := by decide +kernel
theorem dX10_digit_46 : decode cX10_digit 46 = .ok (.aload_n 0, 1) := by decide +kernel
theorem dX10_digit_47 : decode cX10_digit 47 = .ok (.getfield 80, 3) := by decide +kernel
theorem dX10_digit_50 : decode cX10_digit 50 = .ok (.iconst 1, 1) := by decide +kernel
theorem dX10_digit_51 : decode cX10_digit 51 = .ok (.isub, 1) := by decide +kernel
theorem dX10_digit_52 : decode cX10_digit 52 = .ok (.iaload, 1) := by decide +kernel
theorem dX10_digit_53 : decode cX10_digit 53 = .ok (.bipush 48, 2) := by decide +kernel
theorem dX10_digit_55 : decode cX10_digit 55 = .ok (.isub, 1) := by decide +kernel
theorem dX10_digit_56 : decode cX10_digit 56 = .ok (.ireturn, 1) := by decide +kernel
theorem dX10_isSign_0 : decode cX10_isSign 0 = .ok (.aload_n 0, 1) := by decide +kernel
theorem dX10_isSign_1 : decode cX10_isSign 1 = .ok (.getfield 80, 3) := by decide +kernel
theorem dX10_isSign_4 : decode cX10_isSign 4 = .ok (.iload_n 1, 1) := by decide +kernel
theorem dX10_isSign_5 : decode cX10_isSign 5 = .ok (.if_icmp .ge 16, 3) := by decide +kernel
theorem dX10_isSign_8 : decode cX10_isSign 8 = .ok (.aload_n 0, 1) := by decide +kernel
theorem dX10_isSign_9 : decode cX10_isSign 9 = .ok (.getfield 16, 3) := by decide +kernel
theorem dX10_isSign_12 : decode cX10_isSign 12 = .ok (.aload_n 0, 1) := by decide +kernel
theorem dX10_isSign_13 : decode cX10_isSign 13 = .ok (.getfield 80, 3) := by decide +kernel
theorem dX10_isSign_16 : decode cX10_isSign 16 = .ok (.iaload, 1) := by decide +kernel
theorem dX10_isSign_17 : decode cX10_isSign 17 = .ok (.iload_n 2, 1) := by decide +kernel
theorem dX10_isSign_18 : decode cX10_isSign 18 = .ok (.if_icmp .eq 5, 3) := by decide +kernel
theorem dX10_isSign_21 : decode cX10_isSign 21 = .ok (.iconst 0, 1) := by decide +kernel
theorem dX10_isSign_22 : decode cX10_isSign 22 = .ok (.ireturn, 1) := by decide +kernel
theorem dX10_isSign_23 : decode cX10_isSign 23 = .ok (.aload_n 0, 1) := by decide +kernel
theorem dX10_isSign_24 : decode cX10_isSign 24 = .ok (.dup, 1) := by decide +kernel
theorem dX10_isSign_25 : decode cX10_isSign 25 = .ok (.getfield 80, 3) := by decide +kernel
theorem dX10_isSign_28 : decode cX10_isSign 28 = .ok (.iconst 1, 1) := by decide +kernel
theorem dX10_isSign_29 : decode cX10_isSign 29 = .ok (.iadd, 1) := by decide +kernel
theorem dX10_isSign_30 : decode cX10_isSign 30 = .ok (.putfield 80, 3) := by decide +kernel
theorem dX10_isSign_33 : decode cX10_isSign 33 = .ok (.iconst 1, 1) := by decide +kernel
theorem dX10_isSign_34 : decode cX10_isSign 34 = .ok (.ireturn, 1) := by decide +kernel
set_option maxRecDepth 20000 in
theorem ggX10_province_X10_isSheet : GoodIn wsX10_province wsX10_isSheet := goodIn_r _ [7, 8, 9, 6, 10] (by decide +kernel) (by decide +kernel)
set_option maxRecDepth 20000 in
theorem gX10_province_X10_isSheet : GoodIn wsX10_province (va_wsS RX10 83 yX10_isSheet wsX10_isSheet) := goodIn_app (goodIn_of _ (by decide +kernel)) ggX10_province_X10_isSheet
set_option maxRecDepth 20000 in
theorem ggX10_province_X10_isSort : GoodIn wsX10_province wsX10_isSort := goodIn_r _ [13, 8, 9, 6, 10] (by decide +kernel) (by decide +kernel)
set_option maxRecDepth 20000 in
theorem gX10_province_X10_isSort : GoodIn wsX10_province (va_wsS RX10 87 yX10_isSort wsX10_isSort) := goodIn_app (goodIn_of _ (by decide +kernel)) ggX10_province_X10_isSort
set_option maxRecDepth 20000 in
theorem ggX10_province_X10_against : GoodIn wsX10_province wsX10_against := goodIn_r _ [17, 18, 19, 56, 57, 58, 59, 60, 61, 62, 63, 64, 65, 66, 67, 68, 69, 70, 71, 72, 73, 74, 75, 76, 77, 78, 79, 80, 81, 82, 83, 84, 85, 86, 87] (by decide +kernel) (by decide +kernel)
set_option maxRecDepth 20000 in
theorem gX10_province_X10_against : GoodIn wsX10_province (wsV RX10 90 RX10 yX10_against wsX10_against) := goodIn_app (goodIn_of _ (by decide +kernel)) ggX10_province_X10_against
set_option maxRecDepth 20000 in
theorem ggX10_province_X10_fails : GoodIn wsX10_province wsX10_fails := goodIn_r _ [23, 1, 56, 57, 58, 59, 60, 61, 62, 63, 64, 65, 66, 67, 68, 69, 70, 71, 72, 73, 74, 75, 76, 77, 78, 79, 80, 81, 82, 83, 84, 85, 86, 87] (by decide +kernel) (by decide +kernel)
set_option maxRecDepth 20000 in
theorem gX10_province_X10_fails : GoodIn wsX10_province (wsV RX10 94 RX10 yX10_fails wsX10_fails) := goodIn_app (goodIn_of _ (by decide +kernel)) ggX10_province_X10_fails
set_option maxRecDepth 20000 in
theorem ggX10_province_X10_readProvince : GoodIn wsX10_province wsX10_readProvince := goodIn_r _ [27, 28, 29, 2, 30, 31, 32, 6, 33, 34, 35, 36, 37, 38, 8, 9, 10, 39, 40, 41, 42, 43, 56, 57, 58, 59, 60, 61, 62, 63, 64, 65, 66, 67, 68, 69, 70, 71, 72, 73, 74, 75, 76, 77, 78, 79, 80, 81, 82, 83, 84, 85, 86, 87] (by decide +kernel) (by decide +kernel)
set_option maxRecDepth 20000 in
theorem gX10_province_X10_readProvince : GoodIn wsX10_province (wsV RX10 98 RX10 yX10_readProvince wsX10_readProvince) := goodIn_app (goodIn_of _ (by decide +kernel)) ggX10_province_X10_readProvince
set_option maxRecDepth 20000 in
theorem ggX10_province_X10_takeProvince : GoodIn wsX10_province wsX10_takeProvince := goodIn_r _ [47, 48, 29, 28, 3, 49, 43, 50, 51, 52, 53, 54, 55, 56, 57, 58, 59, 60, 61, 62, 63, 64, 65, 66, 67, 68, 69, 70, 71, 72, 73, 74, 75, 76, 77, 78, 79, 80, 81, 82, 83, 84, 85, 86, 87] (by decide +kernel) (by decide +kernel)
set_option maxRecDepth 20000 in
theorem gX10_province_X10_takeProvince : GoodIn wsX10_province (wsV RX10 101 RX10 yX10_takeProvince wsX10_takeProvince) := goodIn_app (goodIn_of _ (by decide +kernel)) ggX10_province_X10_takeProvince
theorem dX10_province_0 : decode cX10_province 0 = .ok (.aload_n 0, 1) := by decide +kernel
theorem dX10_province_1 : decode cX10_province 1 = .ok (.iconst 0, 1) := by decide +kernel
theorem dX10_province_2 : decode cX10_province 2 = .ok (.putfield 67, 3) := by decide +kernel
theorem dX10_province_5 : decode cX10_province 5 = .ok (.iload_n 1, 1) := by decide +kernel
theorem dX10_province_6 : decode cX10_province 6 = .ok (.invokestatic 83, 3) := by decide +kernel
theorem dX10_province_9 : decode cX10_province 9 = .ok (.ifCond .ne 5, 3) := by decide +kernel
theorem dX10_province_12 : decode cX10_province 12 = .ok (.iconst (-1), 1) := by decide +kernel
theorem dX10_province_13 : decode cX10_province 13 = .ok (.ireturn, 1) := by decide +kernel
theorem dX10_province_14 : decode cX10_province 14 = .ok (.iload_n 2, 1) := by decide +kernel
theorem dX10_province_15 : decode cX10_province 15 = .ok (.invokestatic 87, 3) := by decide +kernel
theorem dX10_province_18 : decode cX10_province 18 = .ok (.ifCond .ne 6, 3) := by decide +kernel
theorem dX10_province_21 : decode cX10_province 21 = .ok (.bipush (-2), 2) := by decide +kernel
theorem dX10_province_23 : decode cX10_province 23 = .ok (.ireturn, 1) := by decide +kernel
theorem dX10_province_24 : decode cX10_province 24 = .ok (.aload_n 0, 1) := by decide +kernel
theorem dX10_province_25 : decode cX10_province 25 = .ok (.iload_n 1, 1) := by decide +kernel
theorem dX10_province_26 : decode cX10_province 26 = .ok (.iload_n 2, 1) := by decide +kernel
theorem dX10_province_27 : decode cX10_province 27 = .ok (.iload_n 3, 1) := by decide +kernel
theorem dX10_province_28 : decode cX10_province 28 = .ok (.iload 4, 2) := by decide +kernel
theorem dX10_province_30 : decode cX10_province 30 = .ok (.invokevirtual 90, 3) := by decide +kernel
theorem dX10_province_33 : decode cX10_province 33 = .ok (.istore 5, 2) := by decide +kernel
theorem dX10_province_35 : decode cX10_province 35 = .ok (.iload 5, 2) := by decide +kernel
theorem dX10_province_37 : decode cX10_province 37 = .ok (.ifCond .eq 10, 3) := by decide +kernel
theorem dX10_province_40 : decode cX10_province 40 = .ok (.aload_n 0, 1) := by decide +kernel
theorem dX10_province_41 : decode cX10_province 41 = .ok (.iload 5, 2) := by decide +kernel
theorem dX10_province_43 : decode cX10_province 43 = .ok (.invokevirtual 94, 3) := by decide +kernel
theorem dX10_province_46 : decode cX10_province 46 = .ok (.ireturn, 1) := by decide +kernel
theorem dX10_province_47 : decode cX10_province 47 = .ok (.bipush 60, 2) := by decide +kernel
theorem dX10_province_49 : decode cX10_province 49 = .ok (.iload_n 1, 1) := by decide +kernel
theorem dX10_province_50 : decode cX10_province 50 = .ok (.imul, 1) := by decide +kernel
theorem dX10_province_51 : decode cX10_province 51 = .ok (.iload_n 3, 1) := by decide +kernel
theorem dX10_province_52 : decode cX10_province 52 = .ok (.iadd, 1) := by decide +kernel
theorem dX10_province_53 : decode cX10_province 53 = .ok (.istore 6, 2) := by decide +kernel
theorem dX10_province_55 : decode cX10_province 55 = .ok (.aload_n 0, 1) := by decide +kernel
theorem dX10_province_56 : decode cX10_province 56 = .ok (.iload 6, 2) := by decide +kernel
theorem dX10_province_58 : decode cX10_province 58 = .ok (.putfield 80, 3) := by decide +kernel
theorem dX10_province_61 : decode cX10_province 61 = .ok (.aload_n 0, 1) := by decide +kernel
theorem dX10_province_62 : decode cX10_province 62 = .ok (.iload 6, 2) := by decide +kernel
theorem dX10_province_64 : decode cX10_province 64 = .ok (.iload 4, 2) := by decide +kernel
theorem dX10_province_66 : decode cX10_province 66 = .ok (.iadd, 1) := by decide +kernel
theorem dX10_province_67 : decode cX10_province 67 = .ok (.invokevirtual 98, 3) := by decide +kernel
theorem dX10_province_70 : decode cX10_province 70 = .ok (.ifCond .ne 14, 3) := by decide +kernel
theorem dX10_province_73 : decode cX10_province 73 = .ok (.bipush (-100), 2) := by decide +kernel
theorem dX10_province_75 : decode cX10_province 75 = .ok (.aload_n 0, 1) := by decide +kernel
theorem dX10_province_76 : decode cX10_province 76 = .ok (.getfield 80, 3) := by decide +kernel
theorem dX10_province_79 : decode cX10_province 79 = .ok (.iload 6, 2) := by decide +kernel
theorem dX10_province_81 : decode cX10_province 81 = .ok (.isub, 1) := by decide +kernel
theorem dX10_province_82 : decode cX10_province 82 = .ok (.isub, 1) := by decide +kernel
theorem dX10_province_83 : decode cX10_province 83 = .ok (.ireturn, 1) := by decide +kernel
theorem dX10_province_84 : decode cX10_province 84 = .ok (.aload_n 0, 1) := by decide +kernel
theorem dX10_province_85 : decode cX10_province 85 = .ok (.invokevirtual 101, 3) := by decide +kernel
theorem dX10_province_88 : decode cX10_province 88 = .ok (.aload_n 0, 1) := by decide +kernel
theorem dX10_province_89 : decode cX10_province 89 = .ok (.getfield 77, 3) := by decide +kernel
theorem dX10_province_92 : decode cX10_province 92 = .ok (.ireturn, 1) := by decide +kernel
theorem dX10_takeProvince_0 : decode cX10_takeProvince 0 = .ok (.iconst 0, 1) := by decide +kernel
theorem dX10_takeProvince_1 : decode cX10_takeProvince 1 = .ok (.istore_n 1, 1) := by decide +kernel
theorem dX10_takeProvince_2 : decode cX10_takeProvince 2 = .ok (.iload_n 1, 1) := by decide +kernel
theorem dX10_takeProvince_3 : decode cX10_takeProvince 3 = .ok (.iconst 3, 1) := by decide +kernel
theorem dX10_takeProvince_4 : decode cX10_takeProvince 4 = .ok (.if_icmp .ge 21, 3) := by decide +kernel
theorem dX10_takeProvince_7 : decode cX10_takeProvince 7 = .ok (.aload_n 0, 1) := by decide +kernel
theorem dX10_takeProvince_8 : decode cX10_takeProvince 8 = .ok (.getfield 19, 3) := by decide +kernel
theorem dX10_takeProvince_11 : decode cX10_takeProvince 11 = .ok (.iload_n 1, 1) := by decide +kernel
theorem dX10_takeProvince_12 : decode cX10_takeProvince 12 = .ok (.aload_n 0, 1) := by decide +kernel
theorem dX10_takeProvince_13 : decode cX10_takeProvince 13 = .ok (.getfield 34, 3) := by decide +kernel
theorem dX10_takeProvince_16 : decode cX10_takeProvince 16 = .ok (.iload_n 1, 1) := by decide +kernel
theorem dX10_takeProvince_17 : decode cX10_takeProvince 17 = .ok (.iaload, 1) := by decide +kernel
theorem dX10_takeProvince_18 : decode cX10_takeProvince 18 = .ok (.iastore, 1) := by decide +kernel
theorem dX10_takeProvince_19 : decode cX10_takeProvince 19 = .ok (.iinc 1 1, 3) := by decide +kernel
theorem dX10_takeProvince_22 : decode cX10_takeProvince 22 = .ok (.goto (-20), 3) := by decide +kernel
theorem dX10_takeProvince_25 : decode cX10_takeProvince 25 = .ok (.aload_n 0, 1) := by decide +kernel
theorem dX10_takeProvince_26 : decode cX10_takeProvince 26 = .ok (.aload_n 0, 1) := by decide +kernel
theorem dX10_takeProvince_27 : decode cX10_takeProvince 27 = .ok (.getfield 104, 3) := by decide +kernel
theorem dX10_takeProvince_30 : decode cX10_takeProvince 30 = .ok (.putfield 77, 3) := by decide +kernel
theorem dX10_takeProvince_33 : decode cX10_takeProvince 33 = .ok (.iconst 0, 1) := by decide +kernel
theorem dX10_takeProvince_34 : decode cX10_takeProvince 34 = .ok (.istore_n 1, 1) := by decide +kernel
theorem dX10_takeProvince_35 : decode cX10_takeProvince 35 = .ok (.iload_n 1, 1) := by decide +kernel
theorem dX10_takeProvince_36 : decode cX10_takeProvince 36 = .ok (.aload_n 0, 1) := by decide +kernel
theorem dX10_takeProvince_37 : decode cX10_takeProvince 37 = .ok (.getfield 77, 3) := by decide +kernel
theorem dX10_takeProvince_40 : decode cX10_takeProvince 40 = .ok (.if_icmp .ge 71, 3) := by decide +kernel
theorem dX10_takeProvince_43 : decode cX10_takeProvince 43 = .ok (.aload_n 0, 1) := by decide +kernel
theorem dX10_takeProvince_44 : decode cX10_takeProvince 44 = .ok (.getfield 22, 3) := by decide +kernel
theorem dX10_takeProvince_47 : decode cX10_takeProvince 47 = .ok (.iload_n 1, 1) := by decide +kernel
theorem dX10_takeProvince_48 : decode cX10_takeProvince 48 = .ok (.aload_n 0, 1) := by decide +kernel
theorem dX10_takeProvince_49 : decode cX10_takeProvince 49 = .ok (.getfield 37, 3) := by decide +kernel
theorem dX10_takeProvince_52 : decode cX10_takeProvince 52 = .ok (.iconst 4, 1) := by decide +kernel
theorem dX10_takeProvince_53 : decode cX10_takeProvince 53 = .ok (.iload_n 1, 1) := by decide +kernel
theorem dX10_takeProvince_54 : decode cX10_takeProvince 54 = .ok (.imul, 1) := by decide +kernel
theorem dX10_takeProvince_55 : decode cX10_takeProvince 55 = .ok (.iaload, 1) := by decide +kernel
theorem dX10_takeProvince_56 : decode cX10_takeProvince 56 = .ok (.iastore, 1) := by decide +kernel
theorem dX10_takeProvince_57 : decode cX10_takeProvince 57 = .ok (.aload_n 0, 1) := by decide +kernel
theorem dX10_takeProvince_58 : decode cX10_takeProvince 58 = .ok (.getfield 25, 3) := by decide +kernel
theorem dX10_takeProvince_61 : decode cX10_takeProvince 61 = .ok (.iload_n 1, 1) := by decide +kernel
theorem dX10_takeProvince_62 : decode cX10_takeProvince 62 = .ok (.aload_n 0, 1) := by decide +kernel
theorem dX10_takeProvince_63 : decode cX10_takeProvince 63 = .ok (.getfield 37, 3) := by decide +kernel
theorem dX10_takeProvince_66 : decode cX10_takeProvince 66 = .ok (.iconst 4, 1) := by decide +kernel
theorem dX10_takeProvince_67 : decode cX10_takeProvince 67 = .ok (.iload_n 1, 1) := by decide +kernel
theorem dX10_takeProvince_68 : decode cX10_takeProvince 68 = .ok (.imul, 1) := by decide +kernel
theorem dX10_takeProvince_69 : decode cX10_takeProvince 69 = .ok (.iconst 1, 1) := by decide +kernel
theorem dX10_takeProvince_70 : decode cX10_takeProvince 70 = .ok (.iadd, 1) := by decide +kernel
theorem dX10_takeProvince_71 : decode cX10_takeProvince 71 = .ok (.iaload, 1) := by decide +kernel
theorem dX10_takeProvince_72 : decode cX10_takeProvince 72 = .ok (.iastore, 1) := by decide +kernel
theorem dX10_takeProvince_73 : decode cX10_takeProvince 73 = .ok (.aload_n 0, 1) := by decide +kernel
theorem dX10_takeProvince_74 : decode cX10_takeProvince 74 = .ok (.getfield 28, 3) := by decide +kernel
theorem dX10_takeProvince_77 : decode cX10_takeProvince 77 = .ok (.iload_n 1, 1) := by decide +kernel
theorem dX10_takeProvince_78 : decode cX10_takeProvince 78 = .ok (.aload_n 0, 1) := by decide +kernel
theorem dX10_takeProvince_79 : decode cX10_takeProvince 79 = .ok (.getfield 37, 3) := by decide +kernel
theorem dX10_takeProvince_82 : decode cX10_takeProvince 82 = .ok (.iconst 4, 1) := by decide +kernel
theorem dX10_takeProvince_83 : decode cX10_takeProvince 83 = .ok (.iload_n 1, 1) := by decide +kernel
theorem dX10_takeProvince_84 : decode cX10_takeProvince 84 = .ok (.imul, 1) := by decide +kernel
theorem dX10_takeProvince_85 : decode cX10_takeProvince 85 = .ok (.iconst 2, 1) := by decide +kernel
theorem dX10_takeProvince_86 : decode cX10_takeProvince 86 = .ok (.iadd, 1) := by decide +kernel
theorem dX10_takeProvince_87 : decode cX10_takeProvince 87 = .ok (.iaload, 1) := by decide +kernel
theorem dX10_takeProvince_88 : decode cX10_takeProvince 88 = .ok (.iastore, 1) := by decide +kernel
theorem dX10_takeProvince_89 : decode cX10_takeProvince 89 = .ok (.aload_n 0, 1) := by decide +kernel
theorem dX10_takeProvince_90 : decode cX10_takeProvince 90 = .ok (.getfield 31, 3) := by decide +kernel
theorem dX10_takeProvince_93 : decode cX10_takeProvince 93 = .ok (.iload_n 1, 1) := by decide +kernel
theorem dX10_takeProvince_94 : decode cX10_takeProvince 94 = .ok (.aload_n 0, 1) := by decide +kernel
theorem dX10_takeProvince_95 : decode cX10_takeProvince 95 = .ok (.getfield 37, 3) := by decide +kernel
theorem dX10_takeProvince_98 : decode cX10_takeProvince 98 = .ok (.iconst 4, 1) := by decide +kernel
theorem dX10_takeProvince_99 : decode cX10_takeProvince 99 = .ok (.iload_n 1, 1) := by decide +kernel
theorem dX10_takeProvince_100 : decode cX10_takeProvince 100 = .ok (.imul, 1) := by decide +kernel
theorem dX10_takeProvince_101 : decode cX10_takeProvince 101 = .ok (.iconst 3, 1) := by decide +kernel
theorem dX10_takeProvince_102 : decode cX10_takeProvince 102 = .ok (.iadd, 1) := by decide +kernel
theorem dX10_takeProvince_103 : decode cX10_takeProvince 103 = .ok (.iaload, 1) := by decide +kernel
theorem dX10_takeProvince_104 : decode cX10_takeProvince 104 = .ok (.iastore, 1) := by decide +kernel
theorem dX10_takeProvince_105 : decode cX10_takeProvince 105 = .ok (.iinc 1 1, 3) := by decide +kernel
theorem dX10_takeProvince_108 : decode cX10_takeProvince 108 = .ok (.goto (-73), 3) := by decide +kernel
theorem dX10_takeProvince_111 : decode cX10_takeProvince 111 = .ok (.aload_n 0, 1) := by decide +kernel
theorem dX10_takeProvince_112 : decode cX10_takeProvince 112 = .ok (.iconst 0, 1) := by decide +kernel
theorem dX10_takeProvince_113 : decode cX10_takeProvince 113 = .ok (.putfield 107, 3) := by decide +kernel
theorem dX10_takeProvince_116 : decode cX10_takeProvince 116 = .ok (.aload_n 0, 1) := by decide +kernel
theorem dX10_takeProvince_117 : decode cX10_takeProvince 117 = .ok (.iconst 0, 1) := by decide +kernel
theorem dX10_takeProvince_118 : decode cX10_takeProvince 118 = .ok (.putfield 110, 3) := by decide +kernel
theorem dX10_takeProvince_121 : decode cX10_takeProvince 121 = .ok (.aload_n 0, 1) := by decide +kernel
theorem dX10_takeProvince_122 : decode cX10_takeProvince 122 = .ok (.iconst 0, 1) := by decide +kernel
theorem dX10_takeProvince_123 : decode cX10_takeProvince 123 = .ok (.putfield 113, 3) := by decide +kernel
theorem dX10_takeProvince_126 : decode cX10_takeProvince 126 = .ok (.return_, 1) := by decide +kernel
set_option maxRecDepth 20000 in
theorem ggX10_readProvince_X10_isSign : GoodIn wsX10_readProvince wsX10_isSign := goodIn_r _ [8, 3, 9, 22, 23, 24, 25, 26, 27, 28, 29, 30, 31, 32, 33, 34, 35, 36, 37, 38, 39, 40, 41, 42, 43, 44, 45, 46, 47, 48, 49, 50, 51, 52, 53] (by decide +kernel) (by decide +kernel)
set_option maxRecDepth 20000 in
theorem gX10_readProvince_X10_isSign : GoodIn wsX10_readProvince (wsV RX10 116 RX10 yX10_isSign wsX10_isSign) := goodIn_app (goodIn_of _ (by decide +kernel)) ggX10_readProvince_X10_isSign
set_option maxRecDepth 20000 in
theorem ggX10_readProvince_X10_digit : GoodIn wsX10_readProvince wsX10_digit := goodIn_r _ [13, 3, 9, 14, 15, 7, 16, 22, 23, 24, 25, 26, 27, 28, 29, 30, 31, 32, 33, 34, 35, 36, 37, 38, 39, 40, 41, 42, 43, 44, 45, 46, 47, 48, 49, 50, 51, 52, 53] (by decide +kernel) (by decide +kernel)
set_option maxRecDepth 20000 in
theorem gX10_readProvince_X10_digit : GoodIn wsX10_readProvince (wsV RX10 120 RX10 yX10_digit wsX10_digit) := goodIn_app (goodIn_of _ (by decide +kernel)) ggX10_readProvince_X10_digit
set_option maxRecDepth 20000 in
theorem ggX10_readProvince_X10_readPerson : GoodIn wsX10_readProvince wsX10_readPerson := goodIn_r _ [20, 3, 9, 1, 21, 10, 11, 12, 7, 13, 14, 15, 16, 22, 23, 24, 25, 26, 27, 28, 29, 30, 31, 32, 33, 34, 35, 36, 37, 38, 39, 40, 41, 42, 43, 44, 45, 46, 47, 48, 49, 50, 51, 52, 53] (by decide +kernel) (by decide +kernel)
set_option maxRecDepth 20000 in
theorem gX10_readProvince_X10_readPerson : GoodIn wsX10_readProvince (wsV RX10 124 RX10 yX10_readPerson wsX10_readPerson) := goodIn_app (goodIn_of _ (by decide +kernel)) ggX10_readProvince_X10_readPerson
theorem dX10_readProvince_0 : decode cX10_readProvince 0 = .ok (.aload_n 0, 1) := by decide +kernel
theorem dX10_readProvince_1 : decode cX10_readProvince 1 = .ok (.iconst 0, 1) := by decide +kernel
theorem dX10_readProvince_2 : decode cX10_readProvince 2 = .ok (.putfield 104, 3) := by decide +kernel
theorem dX10_readProvince_5 : decode cX10_readProvince 5 = .ok (.aload_n 0, 1) := by decide +kernel
theorem dX10_readProvince_6 : decode cX10_readProvince 6 = .ok (.iload_n 1, 1) := by decide +kernel
theorem dX10_readProvince_7 : decode cX10_readProvince 7 = .ok (.bipush 112, 2) := by decide +kernel
theorem dX10_readProvince_9 : decode cX10_readProvince 9 = .ok (.invokevirtual 116, 3) := by decide +kernel
theorem dX10_readProvince_12 : decode cX10_readProvince 12 = .ok (.ifCond .ne 5, 3) := by decide +kernel
theorem dX10_readProvince_15 : decode cX10_readProvince 15 = .ok (.iconst 0, 1) := by decide +kernel
theorem dX10_readProvince_16 : decode cX10_readProvince 16 = .ok (.ireturn, 1) := by decide +kernel
theorem dX10_readProvince_17 : decode cX10_readProvince 17 = .ok (.iconst 0, 1) := by decide +kernel
theorem dX10_readProvince_18 : decode cX10_readProvince 18 = .ok (.istore_n 2, 1) := by decide +kernel
theorem dX10_readProvince_19 : decode cX10_readProvince 19 = .ok (.iload_n 2, 1) := by decide +kernel
theorem dX10_readProvince_20 : decode cX10_readProvince 20 = .ok (.iconst 3, 1) := by decide +kernel
theorem dX10_readProvince_21 : decode cX10_readProvince 21 = .ok (.if_icmp .ge 35, 3) := by decide +kernel
theorem dX10_readProvince_24 : decode cX10_readProvince 24 = .ok (.aload_n 0, 1) := by decide +kernel
theorem dX10_readProvince_25 : decode cX10_readProvince 25 = .ok (.getfield 34, 3) := by decide +kernel
theorem dX10_readProvince_28 : decode cX10_readProvince 28 = .ok (.iload_n 2, 1) := by decide +kernel
theorem dX10_readProvince_29 : decode cX10_readProvince 29 = .ok (.aload_n 0, 1) := by decide +kernel
theorem dX10_readProvince_30 : decode cX10_readProvince 30 = .ok (.iload_n 1, 1) := by decide +kernel
theorem dX10_readProvince_31 : decode cX10_readProvince 31 = .ok (.bipush 9, 2) := by decide +kernel
theorem dX10_readProvince_33 : decode cX10_readProvince 33 = .ok (.invokevirtual 120, 3) := by decide +kernel
theorem dX10_readProvince_36 : decode cX10_readProvince 36 = .ok (.iastore, 1) := by decide +kernel
theorem dX10_readProvince_37 : decode cX10_readProvince 37 = .ok (.aload_n 0, 1) := by decide +kernel
theorem dX10_readProvince_38 : decode cX10_readProvince 38 = .ok (.getfield 34, 3) := by decide +kernel
theorem dX10_readProvince_41 : decode cX10_readProvince 41 = .ok (.iload_n 2, 1) := by decide +kernel
theorem dX10_readProvince_42 : decode cX10_readProvince 42 = .ok (.iaload, 1) := by decide +kernel
theorem dX10_readProvince_43 : decode cX10_readProvince 43 = .ok (.bipush (-9), 2) := by decide +kernel
theorem dX10_readProvince_45 : decode cX10_readProvince 45 = .ok (.if_icmp .ne 5, 3) := by decide +kernel
theorem dX10_readProvince_48 : decode cX10_readProvince 48 = .ok (.iconst 0, 1) := by decide +kernel
theorem dX10_readProvince_49 : decode cX10_readProvince 49 = .ok (.ireturn, 1) := by decide +kernel
theorem dX10_readProvince_50 : decode cX10_readProvince 50 = .ok (.iinc 2 1, 3) := by decide +kernel
theorem dX10_readProvince_53 : decode cX10_readProvince 53 = .ok (.goto (-34), 3) := by decide +kernel
theorem dX10_readProvince_56 : decode cX10_readProvince 56 = .ok (.aload_n 0, 1) := by decide +kernel
theorem dX10_readProvince_57 : decode cX10_readProvince 57 = .ok (.getfield 104, 3) := by decide +kernel
theorem dX10_readProvince_60 : decode cX10_readProvince 60 = .ok (.iconst 2, 1) := by decide +kernel
theorem dX10_readProvince_61 : decode cX10_readProvince 61 = .ok (.if_icmp .lt 20, 3) := by decide +kernel
theorem dX10_readProvince_64 : decode cX10_readProvince 64 = .ok (.aload_n 0, 1) := by decide +kernel
theorem dX10_readProvince_65 : decode cX10_readProvince 65 = .ok (.getfield 104, 3) := by decide +kernel
theorem dX10_readProvince_68 : decode cX10_readProvince 68 = .ok (.bipush 6, 2) := by decide +kernel
theorem dX10_readProvince_70 : decode cX10_readProvince 70 = .ok (.if_icmp .ge 31, 3) := by decide +kernel
theorem dX10_readProvince_73 : decode cX10_readProvince 73 = .ok (.aload_n 0, 1) := by decide +kernel
theorem dX10_readProvince_74 : decode cX10_readProvince 74 = .ok (.getfield 80, 3) := by decide +kernel
theorem dX10_readProvince_77 : decode cX10_readProvince 77 = .ok (.iload_n 1, 1) := by decide +kernel
theorem dX10_readProvince_78 : decode cX10_readProvince 78 = .ok (.if_icmp .ge 23, 3) := by decide +kernel
theorem dX10_readProvince_81 : decode cX10_readProvince 81 = .ok (.aload_n 0, 1) := by decide +kernel
theorem dX10_readProvince_82 : decode cX10_readProvince 82 = .ok (.iload_n 1, 1) := by decide +kernel
theorem dX10_readProvince_83 : decode cX10_readProvince 83 = .ok (.bipush 59, 2) := by decide +kernel
theorem dX10_readProvince_85 : decode cX10_readProvince 85 = .ok (.invokevirtual 116, 3) := by decide +kernel
theorem dX10_readProvince_88 : decode cX10_readProvince 88 = .ok (.ifCond .eq 11, 3) := by decide +kernel
theorem dX10_readProvince_91 : decode cX10_readProvince 91 = .ok (.aload_n 0, 1) := by decide +kernel
theorem dX10_readProvince_92 : decode cX10_readProvince 92 = .ok (.iload_n 1, 1) := by decide +kernel
theorem dX10_readProvince_93 : decode cX10_readProvince 93 = .ok (.invokevirtual 124, 3) := by decide +kernel
theorem dX10_readProvince_96 : decode cX10_readProvince 96 = .ok (.ifCond .ne (-40), 3) := by decide +kernel
theorem dX10_readProvince_99 : decode cX10_readProvince 99 = .ok (.iconst 0, 1) := by decide +kernel
theorem dX10_readProvince_100 : decode cX10_readProvince 100 = .ok (.ireturn, 1) := by decide +kernel
theorem dX10_readProvince_101 : decode cX10_readProvince 101 = .ok (.aload_n 0, 1) := by decide +kernel
theorem dX10_readProvince_102 : decode cX10_readProvince 102 = .ok (.getfield 80, 3) := by decide +kernel
theorem dX10_readProvince_105 : decode cX10_readProvince 105 = .ok (.iload_n 1, 1) := by decide +kernel
theorem dX10_readProvince_106 : decode cX10_readProvince 106 = .ok (.if_icmp .ne 7, 3) := by decide +kernel
theorem dX10_readProvince_109 : decode cX10_readProvince 109 = .ok (.iconst 1, 1) := by decide +kernel
theorem dX10_readProvince_110 : decode cX10_readProvince 110 = .ok (.goto 4, 3) := by decide +kernel
theorem dX10_readProvince_113 : decode cX10_readProvince 113 = .ok (.iconst 0, 1) := by decide +kernel
theorem dX10_readProvince_114 : decode cX10_readProvince 114 = .ok (.ireturn, 1) := by decide +kernel
set_option maxRecDepth 20000 in
theorem ggX10_readPerson_X10_digit : GoodIn wsX10_readPerson wsX10_digit := goodIn_r _ [9, 1, 2, 10, 11, 8, 12, 13, 14, 15, 16, 17, 18, 19, 20, 21, 22, 23, 24, 25, 26, 27, 28, 29, 30, 31, 32, 33, 34, 35, 36, 37, 38, 39, 40, 41, 42, 43, 44] (by decide +kernel) (by decide +kernel)
set_option maxRecDepth 20000 in
theorem gX10_readPerson_X10_digit : GoodIn wsX10_readPerson (wsV RX10 120 RX10 yX10_digit wsX10_digit) := goodIn_app (goodIn_of _ (by decide +kernel)) ggX10_readPerson_X10_digit
theorem dX10_readPerson_0 : decode cX10_readPerson 0 = .ok (.aload_n 0, 1) := by decide +kernel
theorem dX10_readPerson_1 : decode cX10_readPerson 1 = .ok (.getfield 80, 3) := by decide +kernel
theorem dX10_readPerson_4 : decode cX10_readPerson 4 = .ok (.iload_n 1, 1) := by decide +kernel
theorem dX10_readPerson_5 : decode cX10_readPerson 5 = .ok (.if_icmp .ge 15, 3) := by decide +kernel
theorem dX10_readPerson_8 : decode cX10_readPerson 8 = .ok (.aload_n 0, 1) := by decide +kernel
theorem dX10_readPerson_9 : decode cX10_readPerson 9 = .ok (.getfield 16, 3) := by decide +kernel
theorem dX10_readPerson_12 : decode cX10_readPerson 12 = .ok (.aload_n 0, 1) := by decide +kernel
theorem dX10_readPerson_13 : decode cX10_readPerson 13 = .ok (.getfield 80, 3) := by decide +kernel
theorem dX10_readPerson_16 : decode cX10_readPerson 16 = .ok (.iaload, 1) := by decide +kernel
theorem dX10_readPerson_17 : decode cX10_readPerson 17 = .ok (.goto 4, 3) := by decide +kernel
theorem dX10_readPerson_20 : decode cX10_readPerson 20 = .ok (.iconst 0, 1) := by decide +kernel
theorem dX10_readPerson_21 : decode cX10_readPerson 21 = .ok (.istore_n 2, 1) := by decide +kernel
theorem dX10_readPerson_22 : decode cX10_readPerson 22 = .ok (.iconst 4, 1) := by decide +kernel
theorem dX10_readPerson_23 : decode cX10_readPerson 23 = .ok (.aload_n 0, 1) := by decide +kernel
theorem dX10_readPerson_24 : decode cX10_readPerson 24 = .ok (.getfield 104, 3) := by decide +kernel
theorem dX10_readPerson_27 : decode cX10_readPerson 27 = .ok (.imul, 1) := by decide +kernel
theorem dX10_readPerson_28 : decode cX10_readPerson 28 = .ok (.istore_n 3, 1) := by decide +kernel
theorem dX10_readPerson_29 : decode cX10_readPerson 29 = .ok (.aload_n 0, 1) := by decide +kernel
theorem dX10_readPerson_30 : decode cX10_readPerson 30 = .ok (.getfield 37, 3) := by decide +kernel
theorem dX10_readPerson_33 : decode cX10_readPerson 33 = .ok (.iload_n 3, 1) := by decide +kernel
theorem dX10_readPerson_34 : decode cX10_readPerson 34 = .ok (.iload_n 2, 1) := by decide +kernel
theorem dX10_readPerson_35 : decode cX10_readPerson 35 = .ok (.bipush 103, 2) := by decide +kernel
theorem dX10_readPerson_37 : decode cX10_readPerson 37 = .ok (.if_icmp .ne 7, 3) := by decide +kernel
theorem dX10_readPerson_40 : decode cX10_readPerson 40 = .ok (.iconst 0, 1) := by decide +kernel
theorem dX10_readPerson_41 : decode cX10_readPerson 41 = .ok (.goto 25, 3) := by decide +kernel
theorem dX10_readPerson_44 : decode cX10_readPerson 44 = .ok (.iload_n 2, 1) := by decide +kernel
theorem dX10_readPerson_45 : decode cX10_readPerson 45 = .ok (.bipush 116, 2) := by decide +kernel
theorem dX10_readPerson_47 : decode cX10_readPerson 47 = .ok (.if_icmp .ne 7, 3) := by decide +kernel
theorem dX10_readPerson_50 : decode cX10_readPerson 50 = .ok (.iconst 1, 1) := by decide +kernel
theorem dX10_readPerson_51 : decode cX10_readPerson 51 = .ok (.goto 15, 3) := by decide +kernel
theorem dX10_readPerson_54 : decode cX10_readPerson 54 = .ok (.iload_n 2, 1) := by decide +kernel
theorem dX10_readPerson_55 : decode cX10_readPerson 55 = .ok (.bipush 104, 2) := by decide +kernel
theorem dX10_readPerson_57 : decode cX10_readPerson 57 = .ok (.if_icmp .ne 7, 3) := by decide +kernel
theorem dX10_readPerson_60 : decode cX10_readPerson 60 = .ok (.iconst 2, 1) := by decide +kernel
theorem dX10_readPerson_61 : decode cX10_readPerson 61 = .ok (.goto 5, 3) := by decide +kernel
theorem dX10_readPerson_64 : decode cX10_readPerson 64 = .ok (.bipush (-9), 2) := by decide +kernel
theorem dX10_readPerson_66 : decode cX10_readPerson 66 = .ok (.iastore, 1) := by decide +kernel
theorem dX10_readPerson_67 : decode cX10_readPerson 67 = .ok (.aload_n 0, 1) := by decide +kernel
theorem dX10_readPerson_68 : decode cX10_readPerson 68 = .ok (.getfield 37, 3) := by decide +kernel
theorem dX10_readPerson_71 : decode cX10_readPerson 71 = .ok (.iload_n 3, 1) := by decide +kernel
theorem dX10_readPerson_72 : decode cX10_readPerson 72 = .ok (.iaload, 1) := by decide +kernel
theorem dX10_readPerson_73 : decode cX10_readPerson 73 = .ok (.bipush (-9), 2) := by decide +kernel
theorem dX10_readPerson_75 : decode cX10_readPerson 75 = .ok (.if_icmp .ne 5, 3) := by decide +kernel
theorem dX10_readPerson_78 : decode cX10_readPerson 78 = .ok (.iconst 0, 1) := by decide +kernel
theorem dX10_readPerson_79 : decode cX10_readPerson 79 = .ok (.ireturn, 1) := by decide +kernel
theorem dX10_readPerson_80 : decode cX10_readPerson 80 = .ok (.aload_n 0, 1) := by decide +kernel
theorem dX10_readPerson_81 : decode cX10_readPerson 81 = .ok (.dup, 1) := by decide +kernel
theorem dX10_readPerson_82 : decode cX10_readPerson 82 = .ok (.getfield 80, 3) := by decide +kernel
theorem dX10_readPerson_85 : decode cX10_readPerson 85 = .ok (.iconst 1, 1) := by decide +kernel
theorem dX10_readPerson_86 : decode cX10_readPerson 86 = .ok (.iadd, 1) := by decide +kernel
theorem dX10_readPerson_87 : decode cX10_readPerson 87 = .ok (.putfield 80, 3) := by decide +kernel
theorem dX10_readPerson_90 : decode cX10_readPerson 90 = .ok (.iconst 1, 1) := by decide +kernel
theorem dX10_readPerson_91 : decode cX10_readPerson 91 = .ok (.istore 4, 2) := by decide +kernel
theorem dX10_readPerson_93 : decode cX10_readPerson 93 = .ok (.iload 4, 2) := by decide +kernel
theorem dX10_readPerson_95 : decode cX10_readPerson 95 = .ok (.iconst 4, 1) := by decide +kernel
theorem dX10_readPerson_96 : decode cX10_readPerson 96 = .ok (.if_icmp .ge 52, 3) := by decide +kernel
theorem dX10_readPerson_99 : decode cX10_readPerson 99 = .ok (.aload_n 0, 1) := by decide +kernel
theorem dX10_readPerson_100 : decode cX10_readPerson 100 = .ok (.getfield 37, 3) := by decide +kernel
theorem dX10_readPerson_103 : decode cX10_readPerson 103 = .ok (.iload_n 3, 1) := by decide +kernel
theorem dX10_readPerson_104 : decode cX10_readPerson 104 = .ok (.iload 4, 2) := by decide +kernel
theorem dX10_readPerson_106 : decode cX10_readPerson 106 = .ok (.iadd, 1) := by decide +kernel
theorem dX10_readPerson_107 : decode cX10_readPerson 107 = .ok (.aload_n 0, 1) := by decide +kernel
theorem dX10_readPerson_108 : decode cX10_readPerson 108 = .ok (.iload_n 1, 1) := by decide +kernel
theorem dX10_readPerson_109 : decode cX10_readPerson 109 = .ok (.iload 4, 2) := by decide +kernel
theorem dX10_readPerson_111 : decode cX10_readPerson 111 = .ok (.iconst 2, 1) := by decide +kernel
theorem dX10_readPerson_112 : decode cX10_readPerson 112 = .ok (.if_icmp .ne 8, 3) := by decide +kernel
theorem dX10_readPerson_115 : decode cX10_readPerson 115 = .ok (.bipush 7, 2) := by decide +kernel
theorem dX10_readPerson_117 : decode cX10_readPerson 117 = .ok (.goto 5, 3) := by decide +kernel
theorem dX10_readPerson_120 : decode cX10_readPerson 120 = .ok (.bipush 9, 2) := by decide +kernel
theorem dX10_readPerson_122 : decode cX10_readPerson 122 = .ok (.invokevirtual 120, 3) := by decide +kernel
theorem dX10_readPerson_125 : decode cX10_readPerson 125 = .ok (.iastore, 1) := by decide +kernel
theorem dX10_readPerson_126 : decode cX10_readPerson 126 = .ok (.aload_n 0, 1) := by decide +kernel
theorem dX10_readPerson_127 : decode cX10_readPerson 127 = .ok (.getfield 37, 3) := by decide +kernel
theorem dX10_readPerson_130 : decode cX10_readPerson 130 = .ok (.iload_n 3, 1) := by decide +kernel
theorem dX10_readPerson_131 : decode cX10_readPerson 131 = .ok (.iload 4, 2) := by decide +kernel
theorem dX10_readPerson_133 : decode cX10_readPerson 133 = .ok (.iadd, 1) := by decide +kernel
theorem dX10_readPerson_134 : decode cX10_readPerson 134 = .ok (.iaload, 1) := by decide +kernel
theorem dX10_readPerson_135 : decode cX10_readPerson 135 = .ok (.bipush (-9), 2) := by decide +kernel
theorem dX10_readPerson_137 : decode cX10_readPerson 137 = .ok (.if_icmp .ne 5, 3) := by decide +kernel
theorem dX10_readPerson_140 : decode cX10_readPerson 140 = .ok (.iconst 0, 1) := by decide +kernel
theorem dX10_readPerson_141 : decode cX10_readPerson 141 = .ok (.ireturn, 1) := by decide +kernel
theorem dX10_readPerson_142 : decode cX10_readPerson 142 = .ok (.iinc 4 1, 3) := by decide +kernel
theorem dX10_readPerson_145 : decode cX10_readPerson 145 = .ok (.goto (-52), 3) := by decide +kernel
theorem dX10_readPerson_148 : decode cX10_readPerson 148 = .ok (.aload_n 0, 1) := by decide +kernel
theorem dX10_readPerson_149 : decode cX10_readPerson 149 = .ok (.dup, 1) := by decide +kernel
theorem dX10_readPerson_150 : decode cX10_readPerson 150 = .ok (.getfield 104, 3) := by decide +kernel
theorem dX10_readPerson_153 : decode cX10_readPerson 153 = .ok (.iconst 1, 1) := by decide +kernel
theorem dX10_readPerson_154 : decode cX10_readPerson 154 = .ok (.iadd, 1) := by decide +kernel
theorem dX10_readPerson_155 : decode cX10_readPerson 155 = .ok (.putfield 104, 3) := by decide +kernel
theorem dX10_readPerson_158 : decode cX10_readPerson 158 = .ok (.iconst 1, 1) := by decide +kernel
theorem dX10_readPerson_159 : decode cX10_readPerson 159 = .ok (.ireturn, 1) := by decide +kernel
theorem dX10_saysOf_0 : decode cX10_saysOf 0 = .ok (.aload_n 0, 1) := by decide +kernel
theorem dX10_saysOf_1 : decode cX10_saysOf 1 = .ok (.getfield 22, 3) := by decide +kernel
theorem dX10_saysOf_4 : decode cX10_saysOf 4 = .ok (.iload_n 1, 1) := by decide +kernel
theorem dX10_saysOf_5 : decode cX10_saysOf 5 = .ok (.iaload, 1) := by decide +kernel
theorem dX10_saysOf_6 : decode cX10_saysOf 6 = .ok (.ifCond .ne 12, 3) := by decide +kernel
theorem dX10_saysOf_9 : decode cX10_saysOf 9 = .ok (.aload_n 0, 1) := by decide +kernel
theorem dX10_saysOf_10 : decode cX10_saysOf 10 = .ok (.getfield 31, 3) := by decide +kernel
theorem dX10_saysOf_13 : decode cX10_saysOf 13 = .ok (.iload_n 1, 1) := by decide +kernel
theorem dX10_saysOf_14 : decode cX10_saysOf 14 = .ok (.iaload, 1) := by decide +kernel
theorem dX10_saysOf_15 : decode cX10_saysOf 15 = .ok (.goto 32, 3) := by decide +kernel
theorem dX10_saysOf_18 : decode cX10_saysOf 18 = .ok (.aload_n 0, 1) := by decide +kernel
theorem dX10_saysOf_19 : decode cX10_saysOf 19 = .ok (.getfield 22, 3) := by decide +kernel
theorem dX10_saysOf_22 : decode cX10_saysOf 22 = .ok (.iload_n 1, 1) := by decide +kernel
theorem dX10_saysOf_23 : decode cX10_saysOf 23 = .ok (.iaload, 1) := by decide +kernel
theorem dX10_saysOf_24 : decode cX10_saysOf 24 = .ok (.iconst 1, 1) := by decide +kernel
theorem dX10_saysOf_25 : decode cX10_saysOf 25 = .ok (.if_icmp .ne 14, 3) := by decide +kernel
theorem dX10_saysOf_28 : decode cX10_saysOf 28 = .ok (.aload_n 0, 1) := by decide +kernel
theorem dX10_saysOf_29 : decode cX10_saysOf 29 = .ok (.getfield 31, 3) := by decide +kernel
theorem dX10_saysOf_32 : decode cX10_saysOf 32 = .ok (.iload_n 1, 1) := by decide +kernel
theorem dX10_saysOf_33 : decode cX10_saysOf 33 = .ok (.iaload, 1) := by decide +kernel
theorem dX10_saysOf_34 : decode cX10_saysOf 34 = .ok (.iconst 1, 1) := by decide +kernel
theorem dX10_saysOf_35 : decode cX10_saysOf 35 = .ok (.iadd, 1) := by decide +kernel
theorem dX10_saysOf_36 : decode cX10_saysOf 36 = .ok (.goto 11, 3) := by decide +kernel
theorem dX10_saysOf_39 : decode cX10_saysOf 39 = .ok (.iconst 2, 1) := by decide +kernel
theorem dX10_saysOf_40 : decode cX10_saysOf 40 = .ok (.aload_n 0, 1) := by decide +kernel
theorem dX10_saysOf_41 : decode cX10_saysOf 41 = .ok (.getfield 31, 3) := by decide +kernel
theorem dX10_saysOf_44 : decode cX10_saysOf 44 = .ok (.iload_n 1, 1) := by decide +kernel
theorem dX10_saysOf_45 : decode cX10_saysOf 45 = .ok (.iaload, 1) := by decide +kernel
theorem dX10_saysOf_46 : decode cX10_saysOf 46 = .ok (.imul, 1) := by decide +kernel
theorem dX10_saysOf_47 : decode cX10_saysOf 47 = .ok (.ireturn, 1) := by decide +kernel
set_option maxRecDepth 20000 in
theorem ggX10_bringsOf_X10_isOf : GoodIn wsX10_bringsOf wsX10_isOf := goodIn_r _ [6] (by decide +kernel) (by decide +kernel)
set_option maxRecDepth 20000 in
theorem gX10_bringsOf_X10_isOf : GoodIn wsX10_bringsOf (va_wsS RX10 127 yX10_isOf wsX10_isOf) := goodIn_app (goodIn_of _ (by decide +kernel)) ggX10_bringsOf_X10_isOf
set_option maxRecDepth 20000 in
theorem ggX10_bringsOf_X10_saysOf : GoodIn wsX10_bringsOf wsX10_saysOf := goodIn_r _ [10, 11, 12, 13, 14, 15, 16, 17, 18, 19, 20, 21, 22, 23, 24, 25, 26, 27, 28, 29, 30, 31, 32, 33, 34, 35, 36, 37, 38, 39, 40, 41, 42, 43, 44] (by decide +kernel) (by decide +kernel)
set_option maxRecDepth 20000 in
theorem gX10_bringsOf_X10_saysOf : GoodIn wsX10_bringsOf (wsV RX10 130 RX10 yX10_saysOf wsX10_saysOf) := goodIn_app (goodIn_of _ (by decide +kernel)) ggX10_bringsOf_X10_saysOf
theorem dX10_bringsOf_0 : decode cX10_bringsOf 0 = .ok (.aload_n 0, 1) := by decide +kernel
theorem dX10_bringsOf_1 : decode cX10_bringsOf 1 = .ok (.getfield 28, 3) := by decide +kernel
theorem dX10_bringsOf_4 : decode cX10_bringsOf 4 = .ok (.iload_n 1, 1) := by decide +kernel
theorem dX10_bringsOf_5 : decode cX10_bringsOf 5 = .ok (.iaload, 1) := by decide +kernel
theorem dX10_bringsOf_6 : decode cX10_bringsOf 6 = .ok (.iload_n 2, 1) := by decide +kernel
theorem dX10_bringsOf_7 : decode cX10_bringsOf 7 = .ok (.invokestatic 127, 3) := by decide +kernel
theorem dX10_bringsOf_10 : decode cX10_bringsOf 10 = .ok (.ifCond .eq 18, 3) := by decide +kernel
theorem dX10_bringsOf_13 : decode cX10_bringsOf 13 = .ok (.aload_n 0, 1) := by decide +kernel
theorem dX10_bringsOf_14 : decode cX10_bringsOf 14 = .ok (.iload_n 1, 1) := by decide +kernel
theorem dX10_bringsOf_15 : decode cX10_bringsOf 15 = .ok (.invokevirtual 130, 3) := by decide +kernel
theorem dX10_bringsOf_18 : decode cX10_bringsOf 18 = .ok (.aload_n 0, 1) := by decide +kernel
theorem dX10_bringsOf_19 : decode cX10_bringsOf 19 = .ok (.getfield 19, 3) := by decide +kernel
theorem dX10_bringsOf_22 : decode cX10_bringsOf 22 = .ok (.iload_n 2, 1) := by decide +kernel
theorem dX10_bringsOf_23 : decode cX10_bringsOf 23 = .ok (.iaload, 1) := by decide +kernel
theorem dX10_bringsOf_24 : decode cX10_bringsOf 24 = .ok (.imul, 1) := by decide +kernel
theorem dX10_bringsOf_25 : decode cX10_bringsOf 25 = .ok (.goto 8, 3) := by decide +kernel
theorem dX10_bringsOf_28 : decode cX10_bringsOf 28 = .ok (.aload_n 0, 1) := by decide +kernel
theorem dX10_bringsOf_29 : decode cX10_bringsOf 29 = .ok (.iload_n 1, 1) := by decide +kernel
theorem dX10_bringsOf_30 : decode cX10_bringsOf 30 = .ok (.invokevirtual 130, 3) := by decide +kernel
theorem dX10_bringsOf_33 : decode cX10_bringsOf 33 = .ok (.ireturn, 1) := by decide +kernel
theorem dX10_firstOf_0 : decode cX10_firstOf 0 = .ok (.iconst 0, 1) := by decide +kernel
theorem dX10_firstOf_1 : decode cX10_firstOf 1 = .ok (.istore_n 1, 1) := by decide +kernel
theorem dX10_firstOf_2 : decode cX10_firstOf 2 = .ok (.iconst 1, 1) := by decide +kernel
theorem dX10_firstOf_3 : decode cX10_firstOf 3 = .ok (.istore_n 2, 1) := by decide +kernel
theorem dX10_firstOf_4 : decode cX10_firstOf 4 = .ok (.iload_n 2, 1) := by decide +kernel
theorem dX10_firstOf_5 : decode cX10_firstOf 5 = .ok (.aload_n 0, 1) := by decide +kernel
theorem dX10_firstOf_6 : decode cX10_firstOf 6 = .ok (.getfield 77, 3) := by decide +kernel
theorem dX10_firstOf_9 : decode cX10_firstOf 9 = .ok (.if_icmp .ge 30, 3) := by decide +kernel
theorem dX10_firstOf_12 : decode cX10_firstOf 12 = .ok (.aload_n 0, 1) := by decide +kernel
theorem dX10_firstOf_13 : decode cX10_firstOf 13 = .ok (.getfield 25, 3) := by decide +kernel
theorem dX10_firstOf_16 : decode cX10_firstOf 16 = .ok (.iload_n 2, 1) := by decide +kernel
theorem dX10_firstOf_17 : decode cX10_firstOf 17 = .ok (.iaload, 1) := by decide +kernel
theorem dX10_firstOf_18 : decode cX10_firstOf 18 = .ok (.aload_n 0, 1) := by decide +kernel
theorem dX10_firstOf_19 : decode cX10_firstOf 19 = .ok (.getfield 25, 3) := by decide +kernel
theorem dX10_firstOf_22 : decode cX10_firstOf 22 = .ok (.iload_n 1, 1) := by decide +kernel
theorem dX10_firstOf_23 : decode cX10_firstOf 23 = .ok (.iaload, 1) := by decide +kernel
theorem dX10_firstOf_24 : decode cX10_firstOf 24 = .ok (.if_icmp .ge 7, 3) := by decide +kernel
theorem dX10_firstOf_27 : decode cX10_firstOf 27 = .ok (.iload_n 2, 1) := by decide +kernel
theorem dX10_firstOf_28 : decode cX10_firstOf 28 = .ok (.goto 4, 3) := by decide +kernel
theorem dX10_firstOf_31 : decode cX10_firstOf 31 = .ok (.iload_n 1, 1) := by decide +kernel
theorem dX10_firstOf_32 : decode cX10_firstOf 32 = .ok (.istore_n 1, 1) := by decide +kernel
theorem dX10_firstOf_33 : decode cX10_firstOf 33 = .ok (.iinc 2 1, 3) := by decide +kernel
theorem dX10_firstOf_36 : decode cX10_firstOf 36 = .ok (.goto (-32), 3) := by decide +kernel
theorem dX10_firstOf_39 : decode cX10_firstOf 39 = .ok (.iload_n 1, 1) := by decide +kernel
theorem dX10_firstOf_40 : decode cX10_firstOf 40 = .ok (.ireturn, 1) := by decide +kernel
theorem dX10_placeOf_0 : decode cX10_placeOf 0 = .ok (.iconst 0, 1) := by decide +kernel
theorem dX10_placeOf_1 : decode cX10_placeOf 1 = .ok (.istore_n 2, 1) := by decide +kernel
theorem dX10_placeOf_2 : decode cX10_placeOf 2 = .ok (.iconst 0, 1) := by decide +kernel
theorem dX10_placeOf_3 : decode cX10_placeOf 3 = .ok (.istore_n 3, 1) := by decide +kernel
theorem dX10_placeOf_4 : decode cX10_placeOf 4 = .ok (.iload_n 3, 1) := by decide +kernel
theorem dX10_placeOf_5 : decode cX10_placeOf 5 = .ok (.aload_n 0, 1) := by decide +kernel
theorem dX10_placeOf_6 : decode cX10_placeOf 6 = .ok (.getfield 77, 3) := by decide +kernel
theorem dX10_placeOf_9 : decode cX10_placeOf 9 = .ok (.if_icmp .ge 52, 3) := by decide +kernel
theorem dX10_placeOf_12 : decode cX10_placeOf 12 = .ok (.iload_n 2, 1) := by decide +kernel
theorem dX10_placeOf_13 : decode cX10_placeOf 13 = .ok (.aload_n 0, 1) := by decide +kernel
theorem dX10_placeOf_14 : decode cX10_placeOf 14 = .ok (.getfield 25, 3) := by decide +kernel
theorem dX10_placeOf_17 : decode cX10_placeOf 17 = .ok (.iload_n 3, 1) := by decide +kernel
theorem dX10_placeOf_18 : decode cX10_placeOf 18 = .ok (.iaload, 1) := by decide +kernel
theorem dX10_placeOf_19 : decode cX10_placeOf 19 = .ok (.aload_n 0, 1) := by decide +kernel
theorem dX10_placeOf_20 : decode cX10_placeOf 20 = .ok (.getfield 25, 3) := by decide +kernel
theorem dX10_placeOf_23 : decode cX10_placeOf 23 = .ok (.iload_n 1, 1) := by decide +kernel
theorem dX10_placeOf_24 : decode cX10_placeOf 24 = .ok (.iaload, 1) := by decide +kernel
theorem dX10_placeOf_25 : decode cX10_placeOf 25 = .ok (.if_icmp .lt 23, 3) := by decide +kernel
theorem dX10_placeOf_28 : decode cX10_placeOf 28 = .ok (.aload_n 0, 1) := by decide +kernel
theorem dX10_placeOf_29 : decode cX10_placeOf 29 = .ok (.getfield 25, 3) := by decide +kernel
theorem dX10_placeOf_32 : decode cX10_placeOf 32 = .ok (.iload_n 3, 1) := by decide +kernel
theorem dX10_placeOf_33 : decode cX10_placeOf 33 = .ok (.iaload, 1) := by decide +kernel
theorem dX10_placeOf_34 : decode cX10_placeOf 34 = .ok (.aload_n 0, 1) := by decide +kernel
theorem dX10_placeOf_35 : decode cX10_placeOf 35 = .ok (.getfield 25, 3) := by decide +kernel
theorem dX10_placeOf_38 : decode cX10_placeOf 38 = .ok (.iload_n 1, 1) := by decide +kernel
theorem dX10_placeOf_39 : decode cX10_placeOf 39 = .ok (.iaload, 1) := by decide +kernel
theorem dX10_placeOf_40 : decode cX10_placeOf 40 = .ok (.if_icmp .ne 12, 3) := by decide +kernel
theorem dX10_placeOf_43 : decode cX10_placeOf 43 = .ok (.iload_n 3, 1) := by decide +kernel
theorem dX10_placeOf_44 : decode cX10_placeOf 44 = .ok (.iload_n 1, 1) := by decide +kernel
theorem dX10_placeOf_45 : decode cX10_placeOf 45 = .ok (.if_icmp .ge 7, 3) := by decide +kernel
theorem dX10_placeOf_48 : decode cX10_placeOf 48 = .ok (.iconst 1, 1) := by decide +kernel
theorem dX10_placeOf_49 : decode cX10_placeOf 49 = .ok (.goto 4, 3) := by decide +kernel
theorem dX10_placeOf_52 : decode cX10_placeOf 52 = .ok (.iconst 0, 1) := by decide +kernel
theorem dX10_placeOf_53 : decode cX10_placeOf 53 = .ok (.iadd, 1) := by decide +kernel
theorem dX10_placeOf_54 : decode cX10_placeOf 54 = .ok (.istore_n 2, 1) := by decide +kernel
theorem dX10_placeOf_55 : decode cX10_placeOf 55 = .ok (.iinc 3 1, 3) := by decide +kernel
theorem dX10_placeOf_58 : decode cX10_placeOf 58 = .ok (.goto (-54), 3) := by decide +kernel
theorem dX10_placeOf_61 : decode cX10_placeOf 61 = .ok (.iload_n 2, 1) := by decide +kernel
theorem dX10_placeOf_62 : decode cX10_placeOf 62 = .ok (.ireturn, 1) := by decide +kernel
set_option maxRecDepth 20000 in
theorem ggX10_ofPerson_X10_isPerson : GoodIn wsX10_ofPerson wsX10_isPerson := goodIn_r _ [9, 10, 19, 20, 21, 22, 23, 24, 25, 26, 27, 28, 29, 30, 31, 32, 33, 34, 35, 36, 37, 38, 39, 40, 41, 42, 43, 44, 45, 46, 47, 48, 49, 50] (by decide +kernel) (by decide +kernel)
set_option maxRecDepth 20000 in
theorem gX10_ofPerson_X10_isPerson : GoodIn wsX10_ofPerson (wsV RX10 133 RX10 yX10_isPerson wsX10_isPerson) := goodIn_app (goodIn_of _ (by decide +kernel)) ggX10_ofPerson_X10_isPerson
set_option maxRecDepth 20000 in
theorem ggX10_ofPerson_X10_saysOf : GoodIn wsX10_ofPerson wsX10_saysOf := goodIn_r _ [14, 1, 4, 19, 20, 21, 22, 23, 24, 25, 26, 27, 28, 29, 30, 31, 32, 33, 34, 35, 36, 37, 38, 39, 40, 41, 42, 43, 44, 45, 46, 47, 48, 49, 50] (by decide +kernel) (by decide +kernel)
set_option maxRecDepth 20000 in
theorem gX10_ofPerson_X10_saysOf : GoodIn wsX10_ofPerson (wsV RX10 130 RX10 yX10_saysOf wsX10_saysOf) := goodIn_app (goodIn_of _ (by decide +kernel)) ggX10_ofPerson_X10_saysOf
set_option maxRecDepth 20000 in
theorem ggX10_ofPerson_X10_placeOf : GoodIn wsX10_ofPerson wsX10_placeOf := goodIn_r _ [18, 10, 2, 19, 20, 21, 22, 23, 24, 25, 26, 27, 28, 29, 30, 31, 32, 33, 34, 35, 36, 37, 38, 39, 40, 41, 42, 43, 44, 45, 46, 47, 48, 49, 50] (by decide +kernel) (by decide +kernel)
set_option maxRecDepth 20000 in
theorem gX10_ofPerson_X10_placeOf : GoodIn wsX10_ofPerson (wsV RX10 136 RX10 yX10_placeOf wsX10_placeOf) := goodIn_app (goodIn_of _ (by decide +kernel)) ggX10_ofPerson_X10_placeOf
theorem dX10_ofPerson_0 : decode cX10_ofPerson 0 = .ok (.aload_n 0, 1) := by decide +kernel
theorem dX10_ofPerson_1 : decode cX10_ofPerson 1 = .ok (.iload_n 1, 1) := by decide +kernel
theorem dX10_ofPerson_2 : decode cX10_ofPerson 2 = .ok (.invokevirtual 133, 3) := by decide +kernel
theorem dX10_ofPerson_5 : decode cX10_ofPerson 5 = .ok (.ifCond .ne 5, 3) := by decide +kernel
theorem dX10_ofPerson_8 : decode cX10_ofPerson 8 = .ok (.iconst (-1), 1) := by decide +kernel
theorem dX10_ofPerson_9 : decode cX10_ofPerson 9 = .ok (.ireturn, 1) := by decide +kernel
theorem dX10_ofPerson_10 : decode cX10_ofPerson 10 = .ok (.iload_n 2, 1) := by decide +kernel
theorem dX10_ofPerson_11 : decode cX10_ofPerson 11 = .ok (.tableswitch 77 0 5 #[37, 44, 51, 58, 65, 71], 37) := by decide +kernel
theorem dX10_ofPerson_48 : decode cX10_ofPerson 48 = .ok (.aload_n 0, 1) := by decide +kernel
theorem dX10_ofPerson_49 : decode cX10_ofPerson 49 = .ok (.getfield 22, 3) := by decide +kernel
theorem dX10_ofPerson_52 : decode cX10_ofPerson 52 = .ok (.iload_n 1, 1) := by decide +kernel
theorem dX10_ofPerson_53 : decode cX10_ofPerson 53 = .ok (.iaload, 1) := by decide +kernel
theorem dX10_ofPerson_54 : decode cX10_ofPerson 54 = .ok (.ireturn, 1) := by decide +kernel
theorem dX10_ofPerson_55 : decode cX10_ofPerson 55 = .ok (.aload_n 0, 1) := by decide +kernel
theorem dX10_ofPerson_56 : decode cX10_ofPerson 56 = .ok (.getfield 25, 3) := by decide +kernel
theorem dX10_ofPerson_59 : decode cX10_ofPerson 59 = .ok (.iload_n 1, 1) := by decide +kernel
theorem dX10_ofPerson_60 : decode cX10_ofPerson 60 = .ok (.iaload, 1) := by decide +kernel
theorem dX10_ofPerson_61 : decode cX10_ofPerson 61 = .ok (.ireturn, 1) := by decide +kernel
theorem dX10_ofPerson_62 : decode cX10_ofPerson 62 = .ok (.aload_n 0, 1) := by decide +kernel
theorem dX10_ofPerson_63 : decode cX10_ofPerson 63 = .ok (.getfield 28, 3) := by decide +kernel
theorem dX10_ofPerson_66 : decode cX10_ofPerson 66 = .ok (.iload_n 1, 1) := by decide +kernel
theorem dX10_ofPerson_67 : decode cX10_ofPerson 67 = .ok (.iaload, 1) := by decide +kernel
theorem dX10_ofPerson_68 : decode cX10_ofPerson 68 = .ok (.ireturn, 1) := by decide +kernel
theorem dX10_ofPerson_69 : decode cX10_ofPerson 69 = .ok (.aload_n 0, 1) := by decide +kernel
theorem dX10_ofPerson_70 : decode cX10_ofPerson 70 = .ok (.getfield 31, 3) := by decide +kernel
theorem dX10_ofPerson_73 : decode cX10_ofPerson 73 = .ok (.iload_n 1, 1) := by decide +kernel
theorem dX10_ofPerson_74 : decode cX10_ofPerson 74 = .ok (.iaload, 1) := by decide +kernel
theorem dX10_ofPerson_75 : decode cX10_ofPerson 75 = .ok (.ireturn, 1) := by decide +kernel
theorem dX10_ofPerson_76 : decode cX10_ofPerson 76 = .ok (.aload_n 0, 1) := by decide +kernel
theorem dX10_ofPerson_77 : decode cX10_ofPerson 77 = .ok (.iload_n 1, 1) := by decide +kernel
theorem dX10_ofPerson_78 : decode cX10_ofPerson 78 = .ok (.invokevirtual 130, 3) := by decide +kernel
theorem dX10_ofPerson_81 : decode cX10_ofPerson 81 = .ok (.ireturn, 1) := by decide +kernel
theorem dX10_ofPerson_82 : decode cX10_ofPerson 82 = .ok (.aload_n 0, 1) := by decide +kernel
theorem dX10_ofPerson_83 : decode cX10_ofPerson 83 = .ok (.iload_n 1, 1) := by decide +kernel
theorem dX10_ofPerson_84 : decode cX10_ofPerson 84 = .ok (.invokevirtual 136, 3) := by decide +kernel
theorem dX10_ofPerson_87 : decode cX10_ofPerson 87 = .ok (.ireturn, 1) := by decide +kernel
theorem dX10_ofPerson_88 : decode cX10_ofPerson 88 = .ok (.bipush (-2), 2) := by decide +kernel
theorem dX10_ofPerson_90 : decode cX10_ofPerson 90 = .ok (.ireturn, 1) := by decide +kernel
set_option maxRecDepth 20000 in
theorem ggX10_worth_X10_isMatter : GoodIn wsX10_worth wsX10_isMatter := goodIn_r _ [6, 7, 8, 9, 10, 11, 12, 13, 14, 15, 16, 17, 18, 19, 20, 21, 22, 23, 24, 25, 26, 27, 28, 29, 30, 31, 32, 33, 34, 35, 36, 37, 38, 39] (by decide +kernel) (by decide +kernel)
set_option maxRecDepth 20000 in
theorem gX10_worth_X10_isMatter : GoodIn wsX10_worth (wsV RX10 139 RX10 yX10_isMatter wsX10_isMatter) := goodIn_app (goodIn_of _ (by decide +kernel)) ggX10_worth_X10_isMatter
theorem dX10_worth_0 : decode cX10_worth 0 = .ok (.aload_n 0, 1) := by decide +kernel
theorem dX10_worth_1 : decode cX10_worth 1 = .ok (.iload_n 1, 1) := by decide +kernel
theorem dX10_worth_2 : decode cX10_worth 2 = .ok (.invokevirtual 139, 3) := by decide +kernel
theorem dX10_worth_5 : decode cX10_worth 5 = .ok (.ifCond .eq 12, 3) := by decide +kernel
theorem dX10_worth_8 : decode cX10_worth 8 = .ok (.aload_n 0, 1) := by decide +kernel
theorem dX10_worth_9 : decode cX10_worth 9 = .ok (.getfield 19, 3) := by decide +kernel
theorem dX10_worth_12 : decode cX10_worth 12 = .ok (.iload_n 1, 1) := by decide +kernel
theorem dX10_worth_13 : decode cX10_worth 13 = .ok (.iaload, 1) := by decide +kernel
theorem dX10_worth_14 : decode cX10_worth 14 = .ok (.goto 4, 3) := by decide +kernel
theorem dX10_worth_17 : decode cX10_worth 17 = .ok (.iconst (-1), 1) := by decide +kernel
theorem dX10_worth_18 : decode cX10_worth 18 = .ok (.ireturn, 1) := by decide +kernel
set_option maxRecDepth 20000 in
theorem ggX10_weigh_X10_isMatter : GoodIn wsX10_weigh wsX10_isMatter := goodIn_r _ [6, 7, 11, 12, 13, 14, 15, 16, 17, 18, 19, 20, 21, 22, 23, 24, 25, 26, 27, 28, 29, 30, 31, 32, 33, 34, 35, 36, 37, 38, 39, 40, 41, 42] (by decide +kernel) (by decide +kernel)
set_option maxRecDepth 20000 in
theorem gX10_weigh_X10_isMatter : GoodIn wsX10_weigh (wsV RX10 139 RX10 yX10_isMatter wsX10_isMatter) := goodIn_app (goodIn_of _ (by decide +kernel)) ggX10_weigh_X10_isMatter
set_option maxRecDepth 20000 in
theorem ggX10_weigh_X10_within : GoodIn wsX10_weigh wsX10_within := goodIn_r _ [10] (by decide +kernel) (by decide +kernel)
set_option maxRecDepth 20000 in
theorem gX10_weigh_X10_within : GoodIn wsX10_weigh (va_wsS RX10 73 yX10_within wsX10_within) := goodIn_app (goodIn_of _ (by decide +kernel)) ggX10_weigh_X10_within
theorem dX10_weigh_0 : decode cX10_weigh 0 = .ok (.aload_n 0, 1) := by decide +kernel
theorem dX10_weigh_1 : decode cX10_weigh 1 = .ok (.iload_n 1, 1) := by decide +kernel
theorem dX10_weigh_2 : decode cX10_weigh 2 = .ok (.invokevirtual 139, 3) := by decide +kernel
theorem dX10_weigh_5 : decode cX10_weigh 5 = .ok (.ifCond .ne 5, 3) := by decide +kernel
theorem dX10_weigh_8 : decode cX10_weigh 8 = .ok (.iconst (-1), 1) := by decide +kernel
theorem dX10_weigh_9 : decode cX10_weigh 9 = .ok (.ireturn, 1) := by decide +kernel
theorem dX10_weigh_10 : decode cX10_weigh 10 = .ok (.iload_n 2, 1) := by decide +kernel
theorem dX10_weigh_11 : decode cX10_weigh 11 = .ok (.iconst 0, 1) := by decide +kernel
theorem dX10_weigh_12 : decode cX10_weigh 12 = .ok (.bipush 9, 2) := by decide +kernel
theorem dX10_weigh_14 : decode cX10_weigh 14 = .ok (.invokestatic 73, 3) := by decide +kernel
theorem dX10_weigh_17 : decode cX10_weigh 17 = .ok (.ifCond .ne 6, 3) := by decide +kernel
theorem dX10_weigh_20 : decode cX10_weigh 20 = .ok (.bipush (-2), 2) := by decide +kernel
theorem dX10_weigh_22 : decode cX10_weigh 22 = .ok (.ireturn, 1) := by decide +kernel
theorem dX10_weigh_23 : decode cX10_weigh 23 = .ok (.aload_n 0, 1) := by decide +kernel
theorem dX10_weigh_24 : decode cX10_weigh 24 = .ok (.getfield 19, 3) := by decide +kernel
theorem dX10_weigh_27 : decode cX10_weigh 27 = .ok (.iload_n 1, 1) := by decide +kernel
theorem dX10_weigh_28 : decode cX10_weigh 28 = .ok (.iaload, 1) := by decide +kernel
theorem dX10_weigh_29 : decode cX10_weigh 29 = .ok (.istore_n 3, 1) := by decide +kernel
theorem dX10_weigh_30 : decode cX10_weigh 30 = .ok (.aload_n 0, 1) := by decide +kernel
theorem dX10_weigh_31 : decode cX10_weigh 31 = .ok (.getfield 19, 3) := by decide +kernel
theorem dX10_weigh_34 : decode cX10_weigh 34 = .ok (.iload_n 1, 1) := by decide +kernel
theorem dX10_weigh_35 : decode cX10_weigh 35 = .ok (.iload_n 2, 1) := by decide +kernel
theorem dX10_weigh_36 : decode cX10_weigh 36 = .ok (.iastore, 1) := by decide +kernel
theorem dX10_weigh_37 : decode cX10_weigh 37 = .ok (.iload_n 3, 1) := by decide +kernel
theorem dX10_weigh_38 : decode cX10_weigh 38 = .ok (.ireturn, 1) := by decide +kernel
set_option maxRecDepth 20000 in
theorem ggX10_teach_X10_isPerson : GoodIn wsX10_teach wsX10_isPerson := goodIn_r _ [6, 7, 11, 12, 13, 14, 15, 16, 17, 18, 19, 20, 21, 22, 23, 24, 25, 26, 27, 28, 29, 30, 31, 32, 33, 34, 35, 36, 37, 38, 39, 40, 41, 42] (by decide +kernel) (by decide +kernel)
set_option maxRecDepth 20000 in
theorem gX10_teach_X10_isPerson : GoodIn wsX10_teach (wsV RX10 133 RX10 yX10_isPerson wsX10_isPerson) := goodIn_app (goodIn_of _ (by decide +kernel)) ggX10_teach_X10_isPerson
set_option maxRecDepth 20000 in
theorem ggX10_teach_X10_within : GoodIn wsX10_teach wsX10_within := goodIn_r _ [10] (by decide +kernel) (by decide +kernel)
set_option maxRecDepth 20000 in
theorem gX10_teach_X10_within : GoodIn wsX10_teach (va_wsS RX10 73 yX10_within wsX10_within) := goodIn_app (goodIn_of _ (by decide +kernel)) ggX10_teach_X10_within
theorem dX10_teach_0 : decode cX10_teach 0 = .ok (.aload_n 0, 1) := by decide +kernel
theorem dX10_teach_1 : decode cX10_teach 1 = .ok (.iload_n 1, 1) := by decide +kernel
theorem dX10_teach_2 : decode cX10_teach 2 = .ok (.invokevirtual 133, 3) := by decide +kernel
theorem dX10_teach_5 : decode cX10_teach 5 = .ok (.ifCond .ne 5, 3) := by decide +kernel
theorem dX10_teach_8 : decode cX10_teach 8 = .ok (.iconst (-1), 1) := by decide +kernel
theorem dX10_teach_9 : decode cX10_teach 9 = .ok (.ireturn, 1) := by decide +kernel
theorem dX10_teach_10 : decode cX10_teach 10 = .ok (.iload_n 2, 1) := by decide +kernel
theorem dX10_teach_11 : decode cX10_teach 11 = .ok (.iconst 0, 1) := by decide +kernel
theorem dX10_teach_12 : decode cX10_teach 12 = .ok (.bipush 7, 2) := by decide +kernel
theorem dX10_teach_14 : decode cX10_teach 14 = .ok (.invokestatic 73, 3) := by decide +kernel
theorem dX10_teach_17 : decode cX10_teach 17 = .ok (.ifCond .ne 6, 3) := by decide +kernel
theorem dX10_teach_20 : decode cX10_teach 20 = .ok (.bipush (-2), 2) := by decide +kernel
theorem dX10_teach_22 : decode cX10_teach 22 = .ok (.ireturn, 1) := by decide +kernel
theorem dX10_teach_23 : decode cX10_teach 23 = .ok (.aload_n 0, 1) := by decide +kernel
theorem dX10_teach_24 : decode cX10_teach 24 = .ok (.getfield 28, 3) := by decide +kernel
theorem dX10_teach_27 : decode cX10_teach 27 = .ok (.iload_n 1, 1) := by decide +kernel
theorem dX10_teach_28 : decode cX10_teach 28 = .ok (.iaload, 1) := by decide +kernel
theorem dX10_teach_29 : decode cX10_teach 29 = .ok (.istore_n 3, 1) := by decide +kernel
theorem dX10_teach_30 : decode cX10_teach 30 = .ok (.aload_n 0, 1) := by decide +kernel
theorem dX10_teach_31 : decode cX10_teach 31 = .ok (.getfield 28, 3) := by decide +kernel
theorem dX10_teach_34 : decode cX10_teach 34 = .ok (.iload_n 1, 1) := by decide +kernel
theorem dX10_teach_35 : decode cX10_teach 35 = .ok (.iload_n 2, 1) := by decide +kernel
theorem dX10_teach_36 : decode cX10_teach 36 = .ok (.iastore, 1) := by decide +kernel
theorem dX10_teach_37 : decode cX10_teach 37 = .ok (.iload_n 3, 1) := by decide +kernel
theorem dX10_teach_38 : decode cX10_teach 38 = .ok (.ireturn, 1) := by decide +kernel
set_option maxRecDepth 20000 in
theorem ggX10_sharpen_X10_isPerson : GoodIn wsX10_sharpen wsX10_isPerson := goodIn_r _ [6, 7, 11, 12, 13, 14, 15, 16, 17, 18, 19, 20, 21, 22, 23, 24, 25, 26, 27, 28, 29, 30, 31, 32, 33, 34, 35, 36, 37, 38, 39, 40, 41, 42] (by decide +kernel) (by decide +kernel)
set_option maxRecDepth 20000 in
theorem gX10_sharpen_X10_isPerson : GoodIn wsX10_sharpen (wsV RX10 133 RX10 yX10_isPerson wsX10_isPerson) := goodIn_app (goodIn_of _ (by decide +kernel)) ggX10_sharpen_X10_isPerson
set_option maxRecDepth 20000 in
theorem ggX10_sharpen_X10_within : GoodIn wsX10_sharpen wsX10_within := goodIn_r _ [10] (by decide +kernel) (by decide +kernel)
set_option maxRecDepth 20000 in
theorem gX10_sharpen_X10_within : GoodIn wsX10_sharpen (va_wsS RX10 73 yX10_within wsX10_within) := goodIn_app (goodIn_of _ (by decide +kernel)) ggX10_sharpen_X10_within
theorem dX10_sharpen_0 : decode cX10_sharpen 0 = .ok (.aload_n 0, 1) := by decide +kernel
theorem dX10_sharpen_1 : decode cX10_sharpen 1 = .ok (.iload_n 1, 1) := by decide +kernel
theorem dX10_sharpen_2 : decode cX10_sharpen 2 = .ok (.invokevirtual 133, 3) := by decide +kernel
theorem dX10_sharpen_5 : decode cX10_sharpen 5 = .ok (.ifCond .ne 5, 3) := by decide +kernel
theorem dX10_sharpen_8 : decode cX10_sharpen 8 = .ok (.iconst (-1), 1) := by decide +kernel
theorem dX10_sharpen_9 : decode cX10_sharpen 9 = .ok (.ireturn, 1) := by decide +kernel
theorem dX10_sharpen_10 : decode cX10_sharpen 10 = .ok (.iload_n 2, 1) := by decide +kernel
theorem dX10_sharpen_11 : decode cX10_sharpen 11 = .ok (.iconst 0, 1) := by decide +kernel
theorem dX10_sharpen_12 : decode cX10_sharpen 12 = .ok (.bipush 9, 2) := by decide +kernel
theorem dX10_sharpen_14 : decode cX10_sharpen 14 = .ok (.invokestatic 73, 3) := by decide +kernel
theorem dX10_sharpen_17 : decode cX10_sharpen 17 = .ok (.ifCond .ne 6, 3) := by decide +kernel
theorem dX10_sharpen_20 : decode cX10_sharpen 20 = .ok (.bipush (-2), 2) := by decide +kernel
theorem dX10_sharpen_22 : decode cX10_sharpen 22 = .ok (.ireturn, 1) := by decide +kernel
theorem dX10_sharpen_23 : decode cX10_sharpen 23 = .ok (.aload_n 0, 1) := by decide +kernel
theorem dX10_sharpen_24 : decode cX10_sharpen 24 = .ok (.getfield 31, 3) := by decide +kernel
theorem dX10_sharpen_27 : decode cX10_sharpen 27 = .ok (.iload_n 1, 1) := by decide +kernel
theorem dX10_sharpen_28 : decode cX10_sharpen 28 = .ok (.iaload, 1) := by decide +kernel
theorem dX10_sharpen_29 : decode cX10_sharpen 29 = .ok (.istore_n 3, 1) := by decide +kernel
theorem dX10_sharpen_30 : decode cX10_sharpen 30 = .ok (.aload_n 0, 1) := by decide +kernel
theorem dX10_sharpen_31 : decode cX10_sharpen 31 = .ok (.getfield 31, 3) := by decide +kernel
theorem dX10_sharpen_34 : decode cX10_sharpen 34 = .ok (.iload_n 1, 1) := by decide +kernel
theorem dX10_sharpen_35 : decode cX10_sharpen 35 = .ok (.iload_n 2, 1) := by decide +kernel
theorem dX10_sharpen_36 : decode cX10_sharpen 36 = .ok (.iastore, 1) := by decide +kernel
theorem dX10_sharpen_37 : decode cX10_sharpen 37 = .ok (.iload_n 3, 1) := by decide +kernel
theorem dX10_sharpen_38 : decode cX10_sharpen 38 = .ok (.ireturn, 1) := by decide +kernel
set_option maxRecDepth 20000 in
theorem ggX10_brings_X10_isPerson : GoodIn wsX10_brings wsX10_isPerson := goodIn_r _ [5, 6, 26, 27, 28, 29, 30, 31, 32, 33, 34, 35, 36, 37, 38, 39, 40, 41, 42, 43, 44, 45, 46, 47, 48, 49, 50, 51, 52, 53, 54, 55, 56, 57] (by decide +kernel) (by decide +kernel)
set_option maxRecDepth 20000 in
theorem gX10_brings_X10_isPerson : GoodIn wsX10_brings (wsV RX10 133 RX10 yX10_isPerson wsX10_isPerson) := goodIn_app (goodIn_of _ (by decide +kernel)) ggX10_brings_X10_isPerson
set_option maxRecDepth 20000 in
theorem ggX10_brings_X10_isMatter : GoodIn wsX10_brings wsX10_isMatter := goodIn_r _ [10, 6, 26, 27, 28, 29, 30, 31, 32, 33, 34, 35, 36, 37, 38, 39, 40, 41, 42, 43, 44, 45, 46, 47, 48, 49, 50, 51, 52, 53, 54, 55, 56, 57] (by decide +kernel) (by decide +kernel)
set_option maxRecDepth 20000 in
theorem gX10_brings_X10_isMatter : GoodIn wsX10_brings (wsV RX10 139 RX10 yX10_isMatter wsX10_isMatter) := goodIn_app (goodIn_of _ (by decide +kernel)) ggX10_brings_X10_isMatter
set_option maxRecDepth 20000 in
theorem ggX10_brings_X10_bringsOf : GoodIn wsX10_brings wsX10_bringsOf := goodIn_r _ [14, 15, 16, 17, 18, 4, 19, 20, 21, 22, 23, 24, 25, 26, 27, 28, 29, 30, 31, 32, 33, 34, 35, 36, 37, 38, 39, 40, 41, 42, 43, 44, 45, 46, 47, 48, 49, 50, 51, 52, 53, 54, 55, 56, 57] (by decide +kernel) (by decide +kernel)
set_option maxRecDepth 20000 in
theorem gX10_brings_X10_bringsOf : GoodIn wsX10_brings (wsV RX10 142 RX10 yX10_bringsOf wsX10_bringsOf) := goodIn_app (goodIn_of _ (by decide +kernel)) ggX10_brings_X10_bringsOf
theorem dX10_brings_0 : decode cX10_brings 0 = .ok (.aload_n 0, 1) := by decide +kernel
theorem dX10_brings_1 : decode cX10_brings 1 = .ok (.iload_n 1, 1) := by decide +kernel
theorem dX10_brings_2 : decode cX10_brings 2 = .ok (.invokevirtual 133, 3) := by decide +kernel
theorem dX10_brings_5 : decode cX10_brings 5 = .ok (.ifCond .eq 20, 3) := by decide +kernel
theorem dX10_brings_8 : decode cX10_brings 8 = .ok (.aload_n 0, 1) := by decide +kernel
theorem dX10_brings_9 : decode cX10_brings 9 = .ok (.iload_n 2, 1) := by decide +kernel
theorem dX10_brings_10 : decode cX10_brings 10 = .ok (.invokevirtual 139, 3) := by decide +kernel
theorem dX10_brings_13 : decode cX10_brings 13 = .ok (.ifCond .eq 12, 3) := by decide +kernel
theorem dX10_brings_16 : decode cX10_brings 16 = .ok (.aload_n 0, 1) := by decide +kernel
theorem dX10_brings_17 : decode cX10_brings 17 = .ok (.iload_n 1, 1) := by decide +kernel
theorem dX10_brings_18 : decode cX10_brings 18 = .ok (.iload_n 2, 1) := by decide +kernel
theorem dX10_brings_19 : decode cX10_brings 19 = .ok (.invokevirtual 142, 3) := by decide +kernel
theorem dX10_brings_22 : decode cX10_brings 22 = .ok (.goto 4, 3) := by decide +kernel
theorem dX10_brings_25 : decode cX10_brings 25 = .ok (.iconst (-1), 1) := by decide +kernel
theorem dX10_brings_26 : decode cX10_brings 26 = .ok (.ireturn, 1) := by decide +kernel
set_option maxRecDepth 20000 in
theorem ggX10_question_X10_isMatter : GoodIn wsX10_question wsX10_isMatter := goodIn_r _ [8, 9, 29, 30, 31, 32, 33, 34, 35, 36, 37, 38, 39, 40, 41, 42, 43, 44, 45, 46, 47, 48, 49, 50, 51, 52, 53, 54, 55, 56, 57, 58, 59, 60] (by decide +kernel) (by decide +kernel)
set_option maxRecDepth 20000 in
theorem gX10_question_X10_isMatter : GoodIn wsX10_question (wsV RX10 139 RX10 yX10_isMatter wsX10_isMatter) := goodIn_app (goodIn_of _ (by decide +kernel)) ggX10_question_X10_isMatter
set_option maxRecDepth 20000 in
theorem ggX10_question_X10_firstOf : GoodIn wsX10_question wsX10_firstOf := goodIn_r _ [13, 9, 1, 29, 30, 31, 32, 33, 34, 35, 36, 37, 38, 39, 40, 41, 42, 43, 44, 45, 46, 47, 48, 49, 50, 51, 52, 53, 54, 55, 56, 57, 58, 59, 60] (by decide +kernel) (by decide +kernel)
set_option maxRecDepth 20000 in
theorem gX10_question_X10_firstOf : GoodIn wsX10_question (wsV RX10 145 RX10 yX10_firstOf wsX10_firstOf) := goodIn_app (goodIn_of _ (by decide +kernel)) ggX10_question_X10_firstOf
set_option maxRecDepth 20000 in
theorem ggX10_question_X10_bringsOf : GoodIn wsX10_question wsX10_bringsOf := goodIn_r _ [17, 18, 19, 20, 21, 7, 22, 23, 24, 25, 26, 27, 28, 29, 30, 31, 32, 33, 34, 35, 36, 37, 38, 39, 40, 41, 42, 43, 44, 45, 46, 47, 48, 49, 50, 51, 52, 53, 54, 55, 56, 57, 58, 59, 60] (by decide +kernel) (by decide +kernel)
set_option maxRecDepth 20000 in
theorem gX10_question_X10_bringsOf : GoodIn wsX10_question (wsV RX10 142 RX10 yX10_bringsOf wsX10_bringsOf) := goodIn_app (goodIn_of _ (by decide +kernel)) ggX10_question_X10_bringsOf
theorem dX10_question_0 : decode cX10_question 0 = .ok (.aload_n 0, 1) := by decide +kernel
theorem dX10_question_1 : decode cX10_question 1 = .ok (.iload_n 1, 1) := by decide +kernel
theorem dX10_question_2 : decode cX10_question 2 = .ok (.invokevirtual 139, 3) := by decide +kernel
theorem dX10_question_5 : decode cX10_question 5 = .ok (.ifCond .ne 5, 3) := by decide +kernel
theorem dX10_question_8 : decode cX10_question 8 = .ok (.iconst (-1), 1) := by decide +kernel
theorem dX10_question_9 : decode cX10_question 9 = .ok (.ireturn, 1) := by decide +kernel
theorem dX10_question_10 : decode cX10_question 10 = .ok (.aload_n 0, 1) := by decide +kernel
theorem dX10_question_11 : decode cX10_question 11 = .ok (.invokevirtual 145, 3) := by decide +kernel
theorem dX10_question_14 : decode cX10_question 14 = .ok (.istore_n 2, 1) := by decide +kernel
theorem dX10_question_15 : decode cX10_question 15 = .ok (.aload_n 0, 1) := by decide +kernel
theorem dX10_question_16 : decode cX10_question 16 = .ok (.getfield 25, 3) := by decide +kernel
theorem dX10_question_19 : decode cX10_question 19 = .ok (.iload_n 2, 1) := by decide +kernel
theorem dX10_question_20 : decode cX10_question 20 = .ok (.dup2, 1) := by decide +kernel
theorem dX10_question_21 : decode cX10_question 21 = .ok (.iaload, 1) := by decide +kernel
theorem dX10_question_22 : decode cX10_question 22 = .ok (.iconst 1, 1) := by decide +kernel
theorem dX10_question_23 : decode cX10_question 23 = .ok (.iadd, 1) := by decide +kernel
theorem dX10_question_24 : decode cX10_question 24 = .ok (.iastore, 1) := by decide +kernel
theorem dX10_question_25 : decode cX10_question 25 = .ok (.aload_n 0, 1) := by decide +kernel
theorem dX10_question_26 : decode cX10_question 26 = .ok (.dup, 1) := by decide +kernel
theorem dX10_question_27 : decode cX10_question 27 = .ok (.getfield 107, 3) := by decide +kernel
theorem dX10_question_30 : decode cX10_question 30 = .ok (.iconst 1, 1) := by decide +kernel
theorem dX10_question_31 : decode cX10_question 31 = .ok (.iadd, 1) := by decide +kernel
theorem dX10_question_32 : decode cX10_question 32 = .ok (.putfield 107, 3) := by decide +kernel
theorem dX10_question_35 : decode cX10_question 35 = .ok (.aload_n 0, 1) := by decide +kernel
theorem dX10_question_36 : decode cX10_question 36 = .ok (.dup, 1) := by decide +kernel
theorem dX10_question_37 : decode cX10_question 37 = .ok (.getfield 110, 3) := by decide +kernel
theorem dX10_question_40 : decode cX10_question 40 = .ok (.aload_n 0, 1) := by decide +kernel
theorem dX10_question_41 : decode cX10_question 41 = .ok (.iload_n 2, 1) := by decide +kernel
theorem dX10_question_42 : decode cX10_question 42 = .ok (.iload_n 1, 1) := by decide +kernel
theorem dX10_question_43 : decode cX10_question 43 = .ok (.invokevirtual 142, 3) := by decide +kernel
theorem dX10_question_46 : decode cX10_question 46 = .ok (.iadd, 1) := by decide +kernel
theorem dX10_question_47 : decode cX10_question 47 = .ok (.putfield 110, 3) := by decide +kernel
theorem dX10_question_50 : decode cX10_question 50 = .ok (.iload_n 2, 1) := by decide +kernel
theorem dX10_question_51 : decode cX10_question 51 = .ok (.ireturn, 1) := by decide +kernel
set_option maxRecDepth 20000 in
theorem ggX10_feint_X10_isPerson : GoodIn wsX10_feint wsX10_isPerson := goodIn_r _ [6, 7, 12, 13, 14, 15, 16, 17, 18, 19, 20, 21, 22, 23, 24, 25, 26, 27, 28, 29, 30, 31, 32, 33, 34, 35, 36, 37, 38, 39, 40, 41, 42, 43] (by decide +kernel) (by decide +kernel)
set_option maxRecDepth 20000 in
theorem gX10_feint_X10_isPerson : GoodIn wsX10_feint (wsV RX10 133 RX10 yX10_isPerson wsX10_isPerson) := goodIn_app (goodIn_of _ (by decide +kernel)) ggX10_feint_X10_isPerson
set_option maxRecDepth 20000 in
theorem ggX10_feint_X10_firstOf : GoodIn wsX10_feint wsX10_firstOf := goodIn_r _ [11, 7, 1, 12, 13, 14, 15, 16, 17, 18, 19, 20, 21, 22, 23, 24, 25, 26, 27, 28, 29, 30, 31, 32, 33, 34, 35, 36, 37, 38, 39, 40, 41, 42, 43] (by decide +kernel) (by decide +kernel)
set_option maxRecDepth 20000 in
theorem gX10_feint_X10_firstOf : GoodIn wsX10_feint (wsV RX10 145 RX10 yX10_firstOf wsX10_firstOf) := goodIn_app (goodIn_of _ (by decide +kernel)) ggX10_feint_X10_firstOf
theorem dX10_feint_0 : decode cX10_feint 0 = .ok (.aload_n 0, 1) := by decide +kernel
theorem dX10_feint_1 : decode cX10_feint 1 = .ok (.iload_n 1, 1) := by decide +kernel
theorem dX10_feint_2 : decode cX10_feint 2 = .ok (.invokevirtual 133, 3) := by decide +kernel
theorem dX10_feint_5 : decode cX10_feint 5 = .ok (.ifCond .ne 5, 3) := by decide +kernel
theorem dX10_feint_8 : decode cX10_feint 8 = .ok (.iconst (-1), 1) := by decide +kernel
theorem dX10_feint_9 : decode cX10_feint 9 = .ok (.ireturn, 1) := by decide +kernel
theorem dX10_feint_10 : decode cX10_feint 10 = .ok (.iload_n 1, 1) := by decide +kernel
theorem dX10_feint_11 : decode cX10_feint 11 = .ok (.aload_n 0, 1) := by decide +kernel
theorem dX10_feint_12 : decode cX10_feint 12 = .ok (.invokevirtual 145, 3) := by decide +kernel
theorem dX10_feint_15 : decode cX10_feint 15 = .ok (.if_icmp .eq 6, 3) := by decide +kernel
theorem dX10_feint_18 : decode cX10_feint 18 = .ok (.bipush (-3), 2) := by decide +kernel
theorem dX10_feint_20 : decode cX10_feint 20 = .ok (.ireturn, 1) := by decide +kernel
theorem dX10_feint_21 : decode cX10_feint 21 = .ok (.aload_n 0, 1) := by decide +kernel
theorem dX10_feint_22 : decode cX10_feint 22 = .ok (.getfield 25, 3) := by decide +kernel
theorem dX10_feint_25 : decode cX10_feint 25 = .ok (.iload_n 1, 1) := by decide +kernel
theorem dX10_feint_26 : decode cX10_feint 26 = .ok (.dup2, 1) := by decide +kernel
theorem dX10_feint_27 : decode cX10_feint 27 = .ok (.iaload, 1) := by decide +kernel
theorem dX10_feint_28 : decode cX10_feint 28 = .ok (.iconst 1, 1) := by decide +kernel
theorem dX10_feint_29 : decode cX10_feint 29 = .ok (.iadd, 1) := by decide +kernel
theorem dX10_feint_30 : decode cX10_feint 30 = .ok (.iastore, 1) := by decide +kernel
theorem dX10_feint_31 : decode cX10_feint 31 = .ok (.aload_n 0, 1) := by decide +kernel
theorem dX10_feint_32 : decode cX10_feint 32 = .ok (.getfield 25, 3) := by decide +kernel
theorem dX10_feint_35 : decode cX10_feint 35 = .ok (.iload_n 1, 1) := by decide +kernel
theorem dX10_feint_36 : decode cX10_feint 36 = .ok (.iaload, 1) := by decide +kernel
theorem dX10_feint_37 : decode cX10_feint 37 = .ok (.ireturn, 1) := by decide +kernel
theorem dX10_keep_0 : decode cX10_keep 0 = .ok (.iconst 0, 1) := by decide +kernel
theorem dX10_keep_1 : decode cX10_keep 1 = .ok (.istore_n 1, 1) := by decide +kernel
theorem dX10_keep_2 : decode cX10_keep 2 = .ok (.iload_n 1, 1) := by decide +kernel
theorem dX10_keep_3 : decode cX10_keep 3 = .ok (.aload_n 0, 1) := by decide +kernel
theorem dX10_keep_4 : decode cX10_keep 4 = .ok (.getfield 77, 3) := by decide +kernel
theorem dX10_keep_7 : decode cX10_keep 7 = .ok (.if_icmp .ge 33, 3) := by decide +kernel
theorem dX10_keep_10 : decode cX10_keep 10 = .ok (.aload_n 0, 1) := by decide +kernel
theorem dX10_keep_11 : decode cX10_keep 11 = .ok (.getfield 40, 3) := by decide +kernel
theorem dX10_keep_14 : decode cX10_keep 14 = .ok (.iload_n 1, 1) := by decide +kernel
theorem dX10_keep_15 : decode cX10_keep 15 = .ok (.aload_n 0, 1) := by decide +kernel
theorem dX10_keep_16 : decode cX10_keep 16 = .ok (.getfield 25, 3) := by decide +kernel
theorem dX10_keep_19 : decode cX10_keep 19 = .ok (.iload_n 1, 1) := by decide +kernel
theorem dX10_keep_20 : decode cX10_keep 20 = .ok (.iaload, 1) := by decide +kernel
theorem dX10_keep_21 : decode cX10_keep 21 = .ok (.iastore, 1) := by decide +kernel
theorem dX10_keep_22 : decode cX10_keep 22 = .ok (.aload_n 0, 1) := by decide +kernel
theorem dX10_keep_23 : decode cX10_keep 23 = .ok (.getfield 43, 3) := by decide +kernel
theorem dX10_keep_26 : decode cX10_keep 26 = .ok (.iload_n 1, 1) := by decide +kernel
theorem dX10_keep_27 : decode cX10_keep 27 = .ok (.aload_n 0, 1) := by decide +kernel
theorem dX10_keep_28 : decode cX10_keep 28 = .ok (.getfield 28, 3) := by decide +kernel
theorem dX10_keep_31 : decode cX10_keep 31 = .ok (.iload_n 1, 1) := by decide +kernel
theorem dX10_keep_32 : decode cX10_keep 32 = .ok (.iaload, 1) := by decide +kernel
theorem dX10_keep_33 : decode cX10_keep 33 = .ok (.iastore, 1) := by decide +kernel
theorem dX10_keep_34 : decode cX10_keep 34 = .ok (.iinc 1 1, 3) := by decide +kernel
theorem dX10_keep_37 : decode cX10_keep 37 = .ok (.goto (-35), 3) := by decide +kernel
theorem dX10_keep_40 : decode cX10_keep 40 = .ok (.return_, 1) := by decide +kernel
theorem dX10_putBack_0 : decode cX10_putBack 0 = .ok (.iconst 0, 1) := by decide +kernel
theorem dX10_putBack_1 : decode cX10_putBack 1 = .ok (.istore_n 1, 1) := by decide +kernel
theorem dX10_putBack_2 : decode cX10_putBack 2 = .ok (.iload_n 1, 1) := by decide +kernel
theorem dX10_putBack_3 : decode cX10_putBack 3 = .ok (.aload_n 0, 1) := by decide +kernel
theorem dX10_putBack_4 : decode cX10_putBack 4 = .ok (.getfield 77, 3) := by decide +kernel
theorem dX10_putBack_7 : decode cX10_putBack 7 = .ok (.if_icmp .ge 33, 3) := by decide +kernel
theorem dX10_putBack_10 : decode cX10_putBack 10 = .ok (.aload_n 0, 1) := by decide +kernel
theorem dX10_putBack_11 : decode cX10_putBack 11 = .ok (.getfield 25, 3) := by decide +kernel
theorem dX10_putBack_14 : decode cX10_putBack 14 = .ok (.iload_n 1, 1) := by decide +kernel
theorem dX10_putBack_15 : decode cX10_putBack 15 = .ok (.aload_n 0, 1) := by decide +kernel
theorem dX10_putBack_16 : decode cX10_putBack 16 = .ok (.getfield 40, 3) := by decide +kernel
theorem dX10_putBack_19 : decode cX10_putBack 19 = .ok (.iload_n 1, 1) := by decide +kernel
theorem dX10_putBack_20 : decode cX10_putBack 20 = .ok (.iaload, 1) := by decide +kernel
theorem dX10_putBack_21 : decode cX10_putBack 21 = .ok (.iastore, 1) := by decide +kernel
theorem dX10_putBack_22 : decode cX10_putBack 22 = .ok (.aload_n 0, 1) := by decide +kernel
theorem dX10_putBack_23 : decode cX10_putBack 23 = .ok (.getfield 28, 3) := by decide +kernel
theorem dX10_putBack_26 : decode cX10_putBack 26 = .ok (.iload_n 1, 1) := by decide +kernel
theorem dX10_putBack_27 : decode cX10_putBack 27 = .ok (.aload_n 0, 1) := by decide +kernel
theorem dX10_putBack_28 : decode cX10_putBack 28 = .ok (.getfield 43, 3) := by decide +kernel
theorem dX10_putBack_31 : decode cX10_putBack 31 = .ok (.iload_n 1, 1) := by decide +kernel
theorem dX10_putBack_32 : decode cX10_putBack 32 = .ok (.iaload, 1) := by decide +kernel
theorem dX10_putBack_33 : decode cX10_putBack 33 = .ok (.iastore, 1) := by decide +kernel
theorem dX10_putBack_34 : decode cX10_putBack 34 = .ok (.iinc 1 1, 3) := by decide +kernel
theorem dX10_putBack_37 : decode cX10_putBack 37 = .ok (.goto (-35), 3) := by decide +kernel
theorem dX10_putBack_40 : decode cX10_putBack 40 = .ok (.return_, 1) := by decide +kernel
set_option maxRecDepth 20000 in
theorem ggX10_does_X10_firstOf : GoodIn wsX10_does wsX10_firstOf := goodIn_r _ [10, 11, 2, 30, 31, 32, 33, 34, 35, 36, 37, 38, 39, 40, 41, 42, 43, 44, 45, 46, 47, 48, 49, 50, 51, 52, 53, 54, 55, 56, 57, 58, 59, 60, 61] (by decide +kernel) (by decide +kernel)
set_option maxRecDepth 20000 in
theorem gX10_does_X10_firstOf : GoodIn wsX10_does (wsV RX10 145 RX10 yX10_firstOf wsX10_firstOf) := goodIn_app (goodIn_of _ (by decide +kernel)) ggX10_does_X10_firstOf
set_option maxRecDepth 20000 in
theorem ggX10_does_X10_isPerson : GoodIn wsX10_does wsX10_isPerson := goodIn_r _ [15, 11, 30, 31, 32, 33, 34, 35, 36, 37, 38, 39, 40, 41, 42, 43, 44, 45, 46, 47, 48, 49, 50, 51, 52, 53, 54, 55, 56, 57, 58, 59, 60, 61] (by decide +kernel) (by decide +kernel)
set_option maxRecDepth 20000 in
theorem gX10_does_X10_isPerson : GoodIn wsX10_does (wsV RX10 133 RX10 yX10_isPerson wsX10_isPerson) := goodIn_app (goodIn_of _ (by decide +kernel)) ggX10_does_X10_isPerson
set_option maxRecDepth 20000 in
theorem ggX10_does_X10_bringsOf : GoodIn wsX10_does wsX10_bringsOf := goodIn_r _ [19, 1, 20, 21, 22, 9, 23, 24, 25, 26, 27, 28, 29, 30, 31, 32, 33, 34, 35, 36, 37, 38, 39, 40, 41, 42, 43, 44, 45, 46, 47, 48, 49, 50, 51, 52, 53, 54, 55, 56, 57, 58, 59, 60, 61] (by decide +kernel) (by decide +kernel)
set_option maxRecDepth 20000 in
theorem gX10_does_X10_bringsOf : GoodIn wsX10_does (wsV RX10 142 RX10 yX10_bringsOf wsX10_bringsOf) := goodIn_app (goodIn_of _ (by decide +kernel)) ggX10_does_X10_bringsOf
set_option maxRecDepth 20000 in
theorem ggX10_does_X10_isOf : GoodIn wsX10_does wsX10_isOf := goodIn_r _ [23] (by decide +kernel) (by decide +kernel)
set_option maxRecDepth 20000 in
theorem gX10_does_X10_isOf : GoodIn wsX10_does (va_wsS RX10 127 yX10_isOf wsX10_isOf) := goodIn_app (goodIn_of _ (by decide +kernel)) ggX10_does_X10_isOf
theorem dX10_does_0 : decode cX10_does 0 = .ok (.aload_n 0, 1) := by decide +kernel
theorem dX10_does_1 : decode cX10_does 1 = .ok (.invokevirtual 145, 3) := by decide +kernel
theorem dX10_does_4 : decode cX10_does 4 = .ok (.istore_n 3, 1) := by decide +kernel
theorem dX10_does_5 : decode cX10_does 5 = .ok (.iload_n 2, 1) := by decide +kernel
theorem dX10_does_6 : decode cX10_does 6 = .ok (.bipush 10, 2) := by decide +kernel
theorem dX10_does_8 : decode cX10_does 8 = .ok (.if_icmp .lt 28, 3) := by decide +kernel
theorem dX10_does_11 : decode cX10_does 11 = .ok (.aload_n 0, 1) := by decide +kernel
theorem dX10_does_12 : decode cX10_does 12 = .ok (.iload_n 2, 1) := by decide +kernel
theorem dX10_does_13 : decode cX10_does 13 = .ok (.bipush 10, 2) := by decide +kernel
theorem dX10_does_15 : decode cX10_does 15 = .ok (.isub, 1) := by decide +kernel
theorem dX10_does_16 : decode cX10_does 16 = .ok (.invokevirtual 133, 3) := by decide +kernel
theorem dX10_does_19 : decode cX10_does 19 = .ok (.ifCond .ne 5, 3) := by decide +kernel
theorem dX10_does_22 : decode cX10_does 22 = .ok (.iconst 0, 1) := by decide +kernel
theorem dX10_does_23 : decode cX10_does 23 = .ok (.ireturn, 1) := by decide +kernel
theorem dX10_does_24 : decode cX10_does 24 = .ok (.aload_n 0, 1) := by decide +kernel
theorem dX10_does_25 : decode cX10_does 25 = .ok (.getfield 28, 3) := by decide +kernel
theorem dX10_does_28 : decode cX10_does 28 = .ok (.iload_n 2, 1) := by decide +kernel
theorem dX10_does_29 : decode cX10_does 29 = .ok (.bipush 10, 2) := by decide +kernel
theorem dX10_does_31 : decode cX10_does 31 = .ok (.isub, 1) := by decide +kernel
theorem dX10_does_32 : decode cX10_does 32 = .ok (.iload_n 1, 1) := by decide +kernel
theorem dX10_does_33 : decode cX10_does 33 = .ok (.iastore, 1) := by decide +kernel
theorem dX10_does_34 : decode cX10_does 34 = .ok (.iconst 1, 1) := by decide +kernel
theorem dX10_does_35 : decode cX10_does 35 = .ok (.ireturn, 1) := by decide +kernel
theorem dX10_does_36 : decode cX10_does 36 = .ok (.iload_n 2, 1) := by decide +kernel
theorem dX10_does_37 : decode cX10_does 37 = .ok (.iconst 1, 1) := by decide +kernel
theorem dX10_does_38 : decode cX10_does 38 = .ok (.if_icmp .ne 33, 3) := by decide +kernel
theorem dX10_does_41 : decode cX10_does 41 = .ok (.aload_n 0, 1) := by decide +kernel
theorem dX10_does_42 : decode cX10_does 42 = .ok (.getfield 25, 3) := by decide +kernel
theorem dX10_does_45 : decode cX10_does 45 = .ok (.iload_n 3, 1) := by decide +kernel
theorem dX10_does_46 : decode cX10_does 46 = .ok (.dup2, 1) := by decide +kernel
theorem dX10_does_47 : decode cX10_does 47 = .ok (.iaload, 1) := by decide +kernel
theorem dX10_does_48 : decode cX10_does 48 = .ok (.iload_n 1, 1) := by decide +kernel
theorem dX10_does_49 : decode cX10_does 49 = .ok (.iload_n 3, 1) := by decide +kernel
theorem dX10_does_50 : decode cX10_does 50 = .ok (.if_icmp .ne 7, 3) := by decide +kernel
theorem dX10_does_53 : decode cX10_does 53 = .ok (.iconst 1, 1) := by decide +kernel
theorem dX10_does_54 : decode cX10_does 54 = .ok (.goto 4, 3) := by decide +kernel
theorem dX10_does_57 : decode cX10_does 57 = .ok (.iconst 0, 1) := by decide +kernel
theorem dX10_does_58 : decode cX10_does 58 = .ok (.iadd, 1) := by decide +kernel
theorem dX10_does_59 : decode cX10_does 59 = .ok (.iastore, 1) := by decide +kernel
theorem dX10_does_60 : decode cX10_does 60 = .ok (.iload_n 1, 1) := by decide +kernel
theorem dX10_does_61 : decode cX10_does 61 = .ok (.iload_n 3, 1) := by decide +kernel
theorem dX10_does_62 : decode cX10_does 62 = .ok (.if_icmp .ne 7, 3) := by decide +kernel
theorem dX10_does_65 : decode cX10_does 65 = .ok (.iconst 1, 1) := by decide +kernel
theorem dX10_does_66 : decode cX10_does 66 = .ok (.goto 4, 3) := by decide +kernel
theorem dX10_does_69 : decode cX10_does 69 = .ok (.iconst 0, 1) := by decide +kernel
theorem dX10_does_70 : decode cX10_does 70 = .ok (.ireturn, 1) := by decide +kernel
theorem dX10_does_71 : decode cX10_does 71 = .ok (.aload_n 0, 1) := by decide +kernel
theorem dX10_does_72 : decode cX10_does 72 = .ok (.getfield 25, 3) := by decide +kernel
theorem dX10_does_75 : decode cX10_does 75 = .ok (.iload_n 3, 1) := by decide +kernel
theorem dX10_does_76 : decode cX10_does 76 = .ok (.dup2, 1) := by decide +kernel
theorem dX10_does_77 : decode cX10_does 77 = .ok (.iaload, 1) := by decide +kernel
theorem dX10_does_78 : decode cX10_does 78 = .ok (.iconst 1, 1) := by decide +kernel
theorem dX10_does_79 : decode cX10_does 79 = .ok (.iadd, 1) := by decide +kernel
theorem dX10_does_80 : decode cX10_does 80 = .ok (.iastore, 1) := by decide +kernel
theorem dX10_does_81 : decode cX10_does 81 = .ok (.aload_n 0, 1) := by decide +kernel
theorem dX10_does_82 : decode cX10_does 82 = .ok (.dup, 1) := by decide +kernel
theorem dX10_does_83 : decode cX10_does 83 = .ok (.getfield 149, 3) := by decide +kernel
theorem dX10_does_86 : decode cX10_does 86 = .ok (.aload_n 0, 1) := by decide +kernel
theorem dX10_does_87 : decode cX10_does 87 = .ok (.iload_n 3, 1) := by decide +kernel
theorem dX10_does_88 : decode cX10_does 88 = .ok (.iload_n 1, 1) := by decide +kernel
theorem dX10_does_89 : decode cX10_does 89 = .ok (.invokevirtual 142, 3) := by decide +kernel
theorem dX10_does_92 : decode cX10_does 92 = .ok (.iadd, 1) := by decide +kernel
theorem dX10_does_93 : decode cX10_does 93 = .ok (.putfield 149, 3) := by decide +kernel
theorem dX10_does_96 : decode cX10_does 96 = .ok (.aload_n 0, 1) := by decide +kernel
theorem dX10_does_97 : decode cX10_does 97 = .ok (.dup, 1) := by decide +kernel
theorem dX10_does_98 : decode cX10_does 98 = .ok (.getfield 152, 3) := by decide +kernel
theorem dX10_does_101 : decode cX10_does 101 = .ok (.iconst 1, 1) := by decide +kernel
theorem dX10_does_102 : decode cX10_does 102 = .ok (.iload_n 3, 1) := by decide +kernel
theorem dX10_does_103 : decode cX10_does 103 = .ok (.ishl, 1) := by decide +kernel
theorem dX10_does_104 : decode cX10_does 104 = .ok (.ior, 1) := by decide +kernel
theorem dX10_does_105 : decode cX10_does 105 = .ok (.putfield 152, 3) := by decide +kernel
theorem dX10_does_108 : decode cX10_does 108 = .ok (.aload_n 0, 1) := by decide +kernel
theorem dX10_does_109 : decode cX10_does 109 = .ok (.dup, 1) := by decide +kernel
theorem dX10_does_110 : decode cX10_does 110 = .ok (.getfield 155, 3) := by decide +kernel
theorem dX10_does_113 : decode cX10_does 113 = .ok (.aload_n 0, 1) := by decide +kernel
theorem dX10_does_114 : decode cX10_does 114 = .ok (.getfield 28, 3) := by decide +kernel
theorem dX10_does_117 : decode cX10_does 117 = .ok (.iload_n 3, 1) := by decide +kernel
theorem dX10_does_118 : decode cX10_does 118 = .ok (.iaload, 1) := by decide +kernel
theorem dX10_does_119 : decode cX10_does 119 = .ok (.iload_n 1, 1) := by decide +kernel
theorem dX10_does_120 : decode cX10_does 120 = .ok (.invokestatic 127, 3) := by decide +kernel
theorem dX10_does_123 : decode cX10_does 123 = .ok (.ifCond .eq 7, 3) := by decide +kernel
theorem dX10_does_126 : decode cX10_does 126 = .ok (.iconst 1, 1) := by decide +kernel
theorem dX10_does_127 : decode cX10_does 127 = .ok (.goto 4, 3) := by decide +kernel
theorem dX10_does_130 : decode cX10_does 130 = .ok (.iconst 0, 1) := by decide +kernel
theorem dX10_does_131 : decode cX10_does 131 = .ok (.iadd, 1) := by decide +kernel
theorem dX10_does_132 : decode cX10_does 132 = .ok (.putfield 155, 3) := by decide +kernel
theorem dX10_does_135 : decode cX10_does 135 = .ok (.iconst 1, 1) := by decide +kernel
theorem dX10_does_136 : decode cX10_does 136 = .ok (.ireturn, 1) := by decide +kernel
set_option maxRecDepth 20000 in
theorem ggX10_goYear_X10_does : GoodIn wsX10_goYear wsX10_does := goodIn_r _ [9, 10, 11, 1, 2, 3, 12, 13, 14, 8, 15, 16, 17, 18, 19, 20, 21, 22, 23, 24, 25, 26, 27, 28, 29, 30, 31, 32, 33, 34, 35, 36, 37, 38, 39, 40, 41, 42, 43, 44, 45, 46, 47, 48, 49, 50, 51, 52, 53, 54, 55, 56, 57, 58, 59, 60, 61, 62, 63, 64, 65, 66] (by decide +kernel) (by decide +kernel)
set_option maxRecDepth 20000 in
theorem gX10_goYear_X10_does : GoodIn wsX10_goYear (wsV RX10 158 RX10 yX10_does wsX10_does) := goodIn_app (goodIn_of _ (by decide +kernel)) ggX10_goYear_X10_does
theorem dX10_goYear_0 : decode cX10_goYear 0 = .ok (.aload_n 0, 1) := by decide +kernel
theorem dX10_goYear_1 : decode cX10_goYear 1 = .ok (.iconst 0, 1) := by decide +kernel
theorem dX10_goYear_2 : decode cX10_goYear 2 = .ok (.putfield 149, 3) := by decide +kernel
theorem dX10_goYear_5 : decode cX10_goYear 5 = .ok (.aload_n 0, 1) := by decide +kernel
theorem dX10_goYear_6 : decode cX10_goYear 6 = .ok (.iconst 0, 1) := by decide +kernel
theorem dX10_goYear_7 : decode cX10_goYear 7 = .ok (.putfield 152, 3) := by decide +kernel
theorem dX10_goYear_10 : decode cX10_goYear 10 = .ok (.aload_n 0, 1) := by decide +kernel
theorem dX10_goYear_11 : decode cX10_goYear 11 = .ok (.iconst 0, 1) := by decide +kernel
theorem dX10_goYear_12 : decode cX10_goYear 12 = .ok (.putfield 155, 3) := by decide +kernel
theorem dX10_goYear_15 : decode cX10_goYear 15 = .ok (.iconst 0, 1) := by decide +kernel
theorem dX10_goYear_16 : decode cX10_goYear 16 = .ok (.istore_n 3, 1) := by decide +kernel
theorem dX10_goYear_17 : decode cX10_goYear 17 = .ok (.iload_n 3, 1) := by decide +kernel
theorem dX10_goYear_18 : decode cX10_goYear 18 = .ok (.iload_n 2, 1) := by decide +kernel
theorem dX10_goYear_19 : decode cX10_goYear 19 = .ok (.if_icmp .ge 40, 3) := by decide +kernel
theorem dX10_goYear_22 : decode cX10_goYear 22 = .ok (.aload_n 0, 1) := by decide +kernel
theorem dX10_goYear_23 : decode cX10_goYear 23 = .ok (.aload_n 0, 1) := by decide +kernel
theorem dX10_goYear_24 : decode cX10_goYear 24 = .ok (.getfield 16, 3) := by decide +kernel
theorem dX10_goYear_27 : decode cX10_goYear 27 = .ok (.iload_n 1, 1) := by decide +kernel
theorem dX10_goYear_28 : decode cX10_goYear 28 = .ok (.iconst 2, 1) := by decide +kernel
theorem dX10_goYear_29 : decode cX10_goYear 29 = .ok (.iload_n 3, 1) := by decide +kernel
theorem dX10_goYear_30 : decode cX10_goYear 30 = .ok (.imul, 1) := by decide +kernel
theorem dX10_goYear_31 : decode cX10_goYear 31 = .ok (.iadd, 1) := by decide +kernel
theorem dX10_goYear_32 : decode cX10_goYear 32 = .ok (.iaload, 1) := by decide +kernel
theorem dX10_goYear_33 : decode cX10_goYear 33 = .ok (.aload_n 0, 1) := by decide +kernel
theorem dX10_goYear_34 : decode cX10_goYear 34 = .ok (.getfield 16, 3) := by decide +kernel
theorem dX10_goYear_37 : decode cX10_goYear 37 = .ok (.iload_n 1, 1) := by decide +kernel
theorem dX10_goYear_38 : decode cX10_goYear 38 = .ok (.iconst 2, 1) := by decide +kernel
theorem dX10_goYear_39 : decode cX10_goYear 39 = .ok (.iload_n 3, 1) := by decide +kernel
theorem dX10_goYear_40 : decode cX10_goYear 40 = .ok (.imul, 1) := by decide +kernel
theorem dX10_goYear_41 : decode cX10_goYear 41 = .ok (.iadd, 1) := by decide +kernel
theorem dX10_goYear_42 : decode cX10_goYear 42 = .ok (.iconst 1, 1) := by decide +kernel
theorem dX10_goYear_43 : decode cX10_goYear 43 = .ok (.iadd, 1) := by decide +kernel
theorem dX10_goYear_44 : decode cX10_goYear 44 = .ok (.iaload, 1) := by decide +kernel
theorem dX10_goYear_45 : decode cX10_goYear 45 = .ok (.invokevirtual 158, 3) := by decide +kernel
theorem dX10_goYear_48 : decode cX10_goYear 48 = .ok (.ifCond .ne 5, 3) := by decide +kernel
theorem dX10_goYear_51 : decode cX10_goYear 51 = .ok (.iload_n 3, 1) := by decide +kernel
theorem dX10_goYear_52 : decode cX10_goYear 52 = .ok (.ireturn, 1) := by decide +kernel
theorem dX10_goYear_53 : decode cX10_goYear 53 = .ok (.iinc 3 1, 3) := by decide +kernel
theorem dX10_goYear_56 : decode cX10_goYear 56 = .ok (.goto (-39), 3) := by decide +kernel
theorem dX10_goYear_59 : decode cX10_goYear 59 = .ok (.bipush (-9), 2) := by decide +kernel
theorem dX10_goYear_61 : decode cX10_goYear 61 = .ok (.ireturn, 1) := by decide +kernel
set_option maxRecDepth 20000 in
theorem ggX10_refusesPair_X10_within : GoodIn wsX10_refusesPair wsX10_within := goodIn_r _ [4] (by decide +kernel) (by decide +kernel)
set_option maxRecDepth 20000 in
theorem gX10_refusesPair_X10_within : GoodIn wsX10_refusesPair (va_wsS RX10 73 yX10_within wsX10_within) := goodIn_app (goodIn_of _ (by decide +kernel)) ggX10_refusesPair_X10_within
set_option maxRecDepth 20000 in
theorem ggX10_refusesPair_X10_isMatter : GoodIn wsX10_refusesPair wsX10_isMatter := goodIn_r _ [8, 9, 14, 15, 16, 17, 18, 19, 20, 21, 22, 23, 24, 25, 26, 27, 28, 29, 30, 31, 32, 33, 34, 35, 36, 37, 38, 39, 40, 41, 42, 43, 44, 45] (by decide +kernel) (by decide +kernel)
set_option maxRecDepth 20000 in
theorem gX10_refusesPair_X10_isMatter : GoodIn wsX10_refusesPair (wsV RX10 139 RX10 yX10_isMatter wsX10_isMatter) := goodIn_app (goodIn_of _ (by decide +kernel)) ggX10_refusesPair_X10_isMatter
set_option maxRecDepth 20000 in
theorem ggX10_refusesPair_X10_isPerson : GoodIn wsX10_refusesPair wsX10_isPerson := goodIn_r _ [13, 9, 14, 15, 16, 17, 18, 19, 20, 21, 22, 23, 24, 25, 26, 27, 28, 29, 30, 31, 32, 33, 34, 35, 36, 37, 38, 39, 40, 41, 42, 43, 44, 45] (by decide +kernel) (by decide +kernel)
set_option maxRecDepth 20000 in
theorem gX10_refusesPair_X10_isPerson : GoodIn wsX10_refusesPair (wsV RX10 133 RX10 yX10_isPerson wsX10_isPerson) := goodIn_app (goodIn_of _ (by decide +kernel)) ggX10_refusesPair_X10_isPerson
theorem dX10_refusesPair_0 : decode cX10_refusesPair 0 = .ok (.iload_n 2, 1) := by decide +kernel
theorem dX10_refusesPair_1 : decode cX10_refusesPair 1 = .ok (.bipush 10, 2) := by decide +kernel
theorem dX10_refusesPair_3 : decode cX10_refusesPair 3 = .ok (.bipush 15, 2) := by decide +kernel
theorem dX10_refusesPair_5 : decode cX10_refusesPair 5 = .ok (.invokestatic 73, 3) := by decide +kernel
theorem dX10_refusesPair_8 : decode cX10_refusesPair 8 = .ok (.istore_n 3, 1) := by decide +kernel
theorem dX10_refusesPair_9 : decode cX10_refusesPair 9 = .ok (.iload_n 2, 1) := by decide +kernel
theorem dX10_refusesPair_10 : decode cX10_refusesPair 10 = .ok (.iconst 0, 1) := by decide +kernel
theorem dX10_refusesPair_11 : decode cX10_refusesPair 11 = .ok (.iconst 1, 1) := by decide +kernel
theorem dX10_refusesPair_12 : decode cX10_refusesPair 12 = .ok (.invokestatic 73, 3) := by decide +kernel
theorem dX10_refusesPair_15 : decode cX10_refusesPair 15 = .ok (.ifCond .ne 7, 3) := by decide +kernel
theorem dX10_refusesPair_18 : decode cX10_refusesPair 18 = .ok (.iload_n 3, 1) := by decide +kernel
theorem dX10_refusesPair_19 : decode cX10_refusesPair 19 = .ok (.ifCond .eq 17, 3) := by decide +kernel
theorem dX10_refusesPair_22 : decode cX10_refusesPair 22 = .ok (.iload_n 3, 1) := by decide +kernel
theorem dX10_refusesPair_23 : decode cX10_refusesPair 23 = .ok (.ifCond .eq 16, 3) := by decide +kernel
theorem dX10_refusesPair_26 : decode cX10_refusesPair 26 = .ok (.iload_n 1, 1) := by decide +kernel
theorem dX10_refusesPair_27 : decode cX10_refusesPair 27 = .ok (.iconst 0, 1) := by decide +kernel
theorem dX10_refusesPair_28 : decode cX10_refusesPair 28 = .ok (.bipush 7, 2) := by decide +kernel
theorem dX10_refusesPair_30 : decode cX10_refusesPair 30 = .ok (.invokestatic 73, 3) := by decide +kernel
theorem dX10_refusesPair_33 : decode cX10_refusesPair 33 = .ok (.ifCond .ne 6, 3) := by decide +kernel
theorem dX10_refusesPair_36 : decode cX10_refusesPair 36 = .ok (.bipush (-2), 2) := by decide +kernel
theorem dX10_refusesPair_38 : decode cX10_refusesPair 38 = .ok (.ireturn, 1) := by decide +kernel
theorem dX10_refusesPair_39 : decode cX10_refusesPair 39 = .ok (.iload_n 3, 1) := by decide +kernel
theorem dX10_refusesPair_40 : decode cX10_refusesPair 40 = .ok (.ifCond .ne 28, 3) := by decide +kernel
theorem dX10_refusesPair_43 : decode cX10_refusesPair 43 = .ok (.iload_n 2, 1) := by decide +kernel
theorem dX10_refusesPair_44 : decode cX10_refusesPair 44 = .ok (.ifCond .ne 11, 3) := by decide +kernel
theorem dX10_refusesPair_47 : decode cX10_refusesPair 47 = .ok (.aload_n 0, 1) := by decide +kernel
theorem dX10_refusesPair_48 : decode cX10_refusesPair 48 = .ok (.iload_n 1, 1) := by decide +kernel
theorem dX10_refusesPair_49 : decode cX10_refusesPair 49 = .ok (.invokevirtual 139, 3) := by decide +kernel
theorem dX10_refusesPair_52 : decode cX10_refusesPair 52 = .ok (.ifCond .ne 16, 3) := by decide +kernel
theorem dX10_refusesPair_55 : decode cX10_refusesPair 55 = .ok (.iload_n 2, 1) := by decide +kernel
theorem dX10_refusesPair_56 : decode cX10_refusesPair 56 = .ok (.iconst 1, 1) := by decide +kernel
theorem dX10_refusesPair_57 : decode cX10_refusesPair 57 = .ok (.if_icmp .ne 15, 3) := by decide +kernel
theorem dX10_refusesPair_60 : decode cX10_refusesPair 60 = .ok (.aload_n 0, 1) := by decide +kernel
theorem dX10_refusesPair_61 : decode cX10_refusesPair 61 = .ok (.iload_n 1, 1) := by decide +kernel
theorem dX10_refusesPair_62 : decode cX10_refusesPair 62 = .ok (.invokevirtual 133, 3) := by decide +kernel
theorem dX10_refusesPair_65 : decode cX10_refusesPair 65 = .ok (.ifCond .eq 7, 3) := by decide +kernel
theorem dX10_refusesPair_68 : decode cX10_refusesPair 68 = .ok (.iconst 1, 1) := by decide +kernel
theorem dX10_refusesPair_69 : decode cX10_refusesPair 69 = .ok (.goto 4, 3) := by decide +kernel
theorem dX10_refusesPair_72 : decode cX10_refusesPair 72 = .ok (.iconst 0, 1) := by decide +kernel
theorem dX10_refusesPair_73 : decode cX10_refusesPair 73 = .ok (.istore 4, 2) := by decide +kernel
theorem dX10_refusesPair_75 : decode cX10_refusesPair 75 = .ok (.iload 4, 2) := by decide +kernel
theorem dX10_refusesPair_77 : decode cX10_refusesPair 77 = .ok (.ifCond .eq 7, 3) := by decide +kernel
theorem dX10_refusesPair_80 : decode cX10_refusesPair 80 = .ok (.iconst 0, 1) := by decide +kernel
theorem dX10_refusesPair_81 : decode cX10_refusesPair 81 = .ok (.goto 4, 3) := by decide +kernel
theorem dX10_refusesPair_84 : decode cX10_refusesPair 84 = .ok (.iconst (-1), 1) := by decide +kernel
theorem dX10_refusesPair_85 : decode cX10_refusesPair 85 = .ok (.ireturn, 1) := by decide +kernel
set_option maxRecDepth 20000 in
theorem ggX10_year_X10_isSheet : GoodIn wsX10_year wsX10_isSheet := goodIn_r _ [7, 8, 9, 6, 10] (by decide +kernel) (by decide +kernel)
set_option maxRecDepth 20000 in
theorem gX10_year_X10_isSheet : GoodIn wsX10_year (va_wsS RX10 83 yX10_isSheet wsX10_isSheet) := goodIn_app (goodIn_of _ (by decide +kernel)) ggX10_year_X10_isSheet
set_option maxRecDepth 20000 in
theorem ggX10_year_X10_isSort : GoodIn wsX10_year wsX10_isSort := goodIn_r _ [13, 8, 9, 6, 10] (by decide +kernel) (by decide +kernel)
set_option maxRecDepth 20000 in
theorem gX10_year_X10_isSort : GoodIn wsX10_year (va_wsS RX10 87 yX10_isSort wsX10_isSort) := goodIn_app (goodIn_of _ (by decide +kernel)) ggX10_year_X10_isSort
set_option maxRecDepth 20000 in
theorem ggX10_year_X10_within : GoodIn wsX10_year wsX10_within := goodIn_r _ [10] (by decide +kernel) (by decide +kernel)
set_option maxRecDepth 20000 in
theorem gX10_year_X10_within : GoodIn wsX10_year (va_wsS RX10 73 yX10_within wsX10_within) := goodIn_app (goodIn_of _ (by decide +kernel)) ggX10_year_X10_within
set_option maxRecDepth 20000 in
theorem ggX10_year_X10_against : GoodIn wsX10_year wsX10_against := goodIn_r _ [17, 18, 19, 81, 82, 83, 84, 85, 86, 87, 88, 89, 90, 91, 92, 93, 94, 95, 96, 97, 98, 99, 100, 101, 102, 103, 104, 105, 106, 107, 108, 109, 110, 111, 112] (by decide +kernel) (by decide +kernel)
set_option maxRecDepth 20000 in
theorem gX10_year_X10_against : GoodIn wsX10_year (wsV RX10 90 RX10 yX10_against wsX10_against) := goodIn_app (goodIn_of _ (by decide +kernel)) ggX10_year_X10_against
set_option maxRecDepth 20000 in
theorem ggX10_year_X10_fails : GoodIn wsX10_year wsX10_fails := goodIn_r _ [23, 1, 81, 82, 83, 84, 85, 86, 87, 88, 89, 90, 91, 92, 93, 94, 95, 96, 97, 98, 99, 100, 101, 102, 103, 104, 105, 106, 107, 108, 109, 110, 111, 112] (by decide +kernel) (by decide +kernel)
set_option maxRecDepth 20000 in
theorem gX10_year_X10_fails : GoodIn wsX10_year (wsV RX10 94 RX10 yX10_fails wsX10_fails) := goodIn_app (goodIn_of _ (by decide +kernel)) ggX10_year_X10_fails
set_option maxRecDepth 20000 in
theorem ggX10_year_X10_refusesPair : GoodIn wsX10_year wsX10_refusesPair := goodIn_r _ [27, 8, 9, 6, 10, 28, 29, 30, 31, 2, 32, 33, 34, 35, 81, 82, 83, 84, 85, 86, 87, 88, 89, 90, 91, 92, 93, 94, 95, 96, 97, 98, 99, 100, 101, 102, 103, 104, 105, 106, 107, 108, 109, 110, 111, 112] (by decide +kernel) (by decide +kernel)
set_option maxRecDepth 20000 in
theorem gX10_year_X10_refusesPair : GoodIn wsX10_year (wsV RX10 161 RX10 yX10_refusesPair wsX10_refusesPair) := goodIn_app (goodIn_of _ (by decide +kernel)) ggX10_year_X10_refusesPair
set_option maxRecDepth 20000 in
theorem ggX10_year_X10_keep : GoodIn wsX10_year wsX10_keep := goodIn_r _ [39, 2, 40, 41, 42, 43, 81, 82, 83, 84, 85, 86, 87, 88, 89, 90, 91, 92, 93, 94, 95, 96, 97, 98, 99, 100, 101, 102, 103, 104, 105, 106, 107, 108, 109, 110, 111, 112] (by decide +kernel) (by decide +kernel)
set_option maxRecDepth 20000 in
theorem gX10_year_X10_keep : GoodIn wsX10_year (wsV RX10 164 RX10 yX10_keep wsX10_keep) := goodIn_app (goodIn_of _ (by decide +kernel)) ggX10_year_X10_keep
set_option maxRecDepth 20000 in
theorem ggX10_year_X10_goYear : GoodIn wsX10_year wsX10_goYear := goodIn_r _ [47, 48, 49, 50, 3, 51, 52, 53, 6, 54, 43, 41, 55, 56, 57, 58, 2, 32, 33, 34, 35, 59, 60, 61, 62, 63, 64, 65, 66, 67, 68, 69, 70, 71, 72, 81, 82, 83, 84, 85, 86, 87, 88, 89, 90, 91, 92, 93, 94, 95, 96, 97, 98, 99, 100, 101, 102, 103, 104, 105, 106, 107, 108, 109, 110, 111, 112] (by decide +kernel) (by decide +kernel)
set_option maxRecDepth 20000 in
theorem gX10_year_X10_goYear : GoodIn wsX10_year (wsV RX10 167 RX10 yX10_goYear wsX10_goYear) := goodIn_app (goodIn_of _ (by decide +kernel)) ggX10_year_X10_goYear
set_option maxRecDepth 20000 in
theorem ggX10_year_X10_tellYear : GoodIn wsX10_year wsX10_tellYear := goodIn_r _ [76, 41, 48, 49, 50, 32, 33, 34, 6, 35, 2, 55, 56, 57, 58, 81, 82, 83, 84, 85, 86, 87, 88, 89, 90, 91, 92, 93, 94, 95, 96, 97, 98, 99, 100, 101, 102, 103, 104, 105, 106, 107, 108, 109, 110, 111, 112] (by decide +kernel) (by decide +kernel)
set_option maxRecDepth 20000 in
theorem gX10_year_X10_tellYear : GoodIn wsX10_year (wsV RX10 170 RX10 yX10_tellYear wsX10_tellYear) := goodIn_app (goodIn_of _ (by decide +kernel)) ggX10_year_X10_tellYear
set_option maxRecDepth 20000 in
theorem ggX10_year_X10_putBack : GoodIn wsX10_year wsX10_putBack := goodIn_r _ [80, 2, 41, 40, 43, 42, 81, 82, 83, 84, 85, 86, 87, 88, 89, 90, 91, 92, 93, 94, 95, 96, 97, 98, 99, 100, 101, 102, 103, 104, 105, 106, 107, 108, 109, 110, 111, 112] (by decide +kernel) (by decide +kernel)
set_option maxRecDepth 20000 in
theorem gX10_year_X10_putBack : GoodIn wsX10_year (wsV RX10 173 RX10 yX10_putBack wsX10_putBack) := goodIn_app (goodIn_of _ (by decide +kernel)) ggX10_year_X10_putBack
theorem dX10_year_0 : decode cX10_year 0 = .ok (.aload_n 0, 1) := by decide +kernel
theorem dX10_year_1 : decode cX10_year 1 = .ok (.iconst 0, 1) := by decide +kernel
theorem dX10_year_2 : decode cX10_year 2 = .ok (.putfield 67, 3) := by decide +kernel
theorem dX10_year_5 : decode cX10_year 5 = .ok (.iload_n 1, 1) := by decide +kernel
theorem dX10_year_6 : decode cX10_year 6 = .ok (.invokestatic 83, 3) := by decide +kernel
theorem dX10_year_9 : decode cX10_year 9 = .ok (.ifCond .ne 5, 3) := by decide +kernel
theorem dX10_year_12 : decode cX10_year 12 = .ok (.iconst (-1), 1) := by decide +kernel
theorem dX10_year_13 : decode cX10_year 13 = .ok (.ireturn, 1) := by decide +kernel
theorem dX10_year_14 : decode cX10_year 14 = .ok (.iload_n 2, 1) := by decide +kernel
theorem dX10_year_15 : decode cX10_year 15 = .ok (.invokestatic 87, 3) := by decide +kernel
theorem dX10_year_18 : decode cX10_year 18 = .ok (.ifCond .eq 36, 3) := by decide +kernel
theorem dX10_year_21 : decode cX10_year 21 = .ok (.iload 4, 2) := by decide +kernel
theorem dX10_year_23 : decode cX10_year 23 = .ok (.iconst 0, 1) := by decide +kernel
theorem dX10_year_24 : decode cX10_year 24 = .ok (.bipush 20, 2) := by decide +kernel
theorem dX10_year_26 : decode cX10_year 26 = .ok (.invokestatic 73, 3) := by decide +kernel
theorem dX10_year_29 : decode cX10_year 29 = .ok (.ifCond .eq 25, 3) := by decide +kernel
theorem dX10_year_32 : decode cX10_year 32 = .ok (.iload 5, 2) := by decide +kernel
theorem dX10_year_34 : decode cX10_year 34 = .ok (.iconst 0, 1) := by decide +kernel
theorem dX10_year_35 : decode cX10_year 35 = .ok (.iconst 4, 1) := by decide +kernel
theorem dX10_year_36 : decode cX10_year 36 = .ok (.invokestatic 73, 3) := by decide +kernel
theorem dX10_year_39 : decode cX10_year 39 = .ok (.ifCond .ne 18, 3) := by decide +kernel
theorem dX10_year_42 : decode cX10_year 42 = .ok (.iload 5, 2) := by decide +kernel
theorem dX10_year_44 : decode cX10_year 44 = .ok (.bipush 10, 2) := by decide +kernel
theorem dX10_year_46 : decode cX10_year 46 = .ok (.bipush 15, 2) := by decide +kernel
theorem dX10_year_48 : decode cX10_year 48 = .ok (.invokestatic 73, 3) := by decide +kernel
theorem dX10_year_51 : decode cX10_year 51 = .ok (.ifCond .ne 6, 3) := by decide +kernel
theorem dX10_year_54 : decode cX10_year 54 = .ok (.bipush (-2), 2) := by decide +kernel
theorem dX10_year_56 : decode cX10_year 56 = .ok (.ireturn, 1) := by decide +kernel
theorem dX10_year_57 : decode cX10_year 57 = .ok (.aload_n 0, 1) := by decide +kernel
theorem dX10_year_58 : decode cX10_year 58 = .ok (.iload_n 1, 1) := by decide +kernel
theorem dX10_year_59 : decode cX10_year 59 = .ok (.iload_n 2, 1) := by decide +kernel
theorem dX10_year_60 : decode cX10_year 60 = .ok (.iload_n 3, 1) := by decide +kernel
theorem dX10_year_61 : decode cX10_year 61 = .ok (.iconst 2, 1) := by decide +kernel
theorem dX10_year_62 : decode cX10_year 62 = .ok (.iload 4, 2) := by decide +kernel
theorem dX10_year_64 : decode cX10_year 64 = .ok (.imul, 1) := by decide +kernel
theorem dX10_year_65 : decode cX10_year 65 = .ok (.invokevirtual 90, 3) := by decide +kernel
theorem dX10_year_68 : decode cX10_year 68 = .ok (.istore 6, 2) := by decide +kernel
theorem dX10_year_70 : decode cX10_year 70 = .ok (.iload 6, 2) := by decide +kernel
theorem dX10_year_72 : decode cX10_year 72 = .ok (.ifCond .eq 10, 3) := by decide +kernel
theorem dX10_year_75 : decode cX10_year 75 = .ok (.aload_n 0, 1) := by decide +kernel
theorem dX10_year_76 : decode cX10_year 76 = .ok (.iload 6, 2) := by decide +kernel
theorem dX10_year_78 : decode cX10_year 78 = .ok (.invokevirtual 94, 3) := by decide +kernel
theorem dX10_year_81 : decode cX10_year 81 = .ok (.ireturn, 1) := by decide +kernel
theorem dX10_year_82 : decode cX10_year 82 = .ok (.aload_n 0, 1) := by decide +kernel
theorem dX10_year_83 : decode cX10_year 83 = .ok (.getfield 77, 3) := by decide +kernel
theorem dX10_year_86 : decode cX10_year 86 = .ok (.ifCond .ne 6, 3) := by decide +kernel
theorem dX10_year_89 : decode cX10_year 89 = .ok (.bipush (-3), 2) := by decide +kernel
theorem dX10_year_91 : decode cX10_year 91 = .ok (.ireturn, 1) := by decide +kernel
theorem dX10_year_92 : decode cX10_year 92 = .ok (.bipush 60, 2) := by decide +kernel
theorem dX10_year_94 : decode cX10_year 94 = .ok (.iload_n 1, 1) := by decide +kernel
theorem dX10_year_95 : decode cX10_year 95 = .ok (.imul, 1) := by decide +kernel
theorem dX10_year_96 : decode cX10_year 96 = .ok (.iload_n 3, 1) := by decide +kernel
theorem dX10_year_97 : decode cX10_year 97 = .ok (.iadd, 1) := by decide +kernel
theorem dX10_year_98 : decode cX10_year 98 = .ok (.istore 7, 2) := by decide +kernel
theorem dX10_year_100 : decode cX10_year 100 = .ok (.iconst 0, 1) := by decide +kernel
theorem dX10_year_101 : decode cX10_year 101 = .ok (.istore 8, 2) := by decide +kernel
theorem dX10_year_103 : decode cX10_year 103 = .ok (.iload 8, 2) := by decide +kernel
theorem dX10_year_105 : decode cX10_year 105 = .ok (.iload 4, 2) := by decide +kernel
theorem dX10_year_107 : decode cX10_year 107 = .ok (.if_icmp .ge 49, 3) := by decide +kernel
theorem dX10_year_110 : decode cX10_year 110 = .ok (.aload_n 0, 1) := by decide +kernel
theorem dX10_year_111 : decode cX10_year 111 = .ok (.aload_n 0, 1) := by decide +kernel
theorem dX10_year_112 : decode cX10_year 112 = .ok (.getfield 16, 3) := by decide +kernel
theorem dX10_year_115 : decode cX10_year 115 = .ok (.iload 7, 2) := by decide +kernel
theorem dX10_year_117 : decode cX10_year 117 = .ok (.iconst 2, 1) := by decide +kernel
theorem dX10_year_118 : decode cX10_year 118 = .ok (.iload 8, 2) := by decide +kernel
theorem dX10_year_120 : decode cX10_year 120 = .ok (.imul, 1) := by decide +kernel
theorem dX10_year_121 : decode cX10_year 121 = .ok (.iadd, 1) := by decide +kernel
theorem dX10_year_122 : decode cX10_year 122 = .ok (.iaload, 1) := by decide +kernel
theorem dX10_year_123 : decode cX10_year 123 = .ok (.aload_n 0, 1) := by decide +kernel
theorem dX10_year_124 : decode cX10_year 124 = .ok (.getfield 16, 3) := by decide +kernel
theorem dX10_year_127 : decode cX10_year 127 = .ok (.iload 7, 2) := by decide +kernel
theorem dX10_year_129 : decode cX10_year 129 = .ok (.iconst 2, 1) := by decide +kernel
theorem dX10_year_130 : decode cX10_year 130 = .ok (.iload 8, 2) := by decide +kernel
theorem dX10_year_132 : decode cX10_year 132 = .ok (.imul, 1) := by decide +kernel
theorem dX10_year_133 : decode cX10_year 133 = .ok (.iadd, 1) := by decide +kernel
theorem dX10_year_134 : decode cX10_year 134 = .ok (.iconst 1, 1) := by decide +kernel
theorem dX10_year_135 : decode cX10_year 135 = .ok (.iadd, 1) := by decide +kernel
theorem dX10_year_136 : decode cX10_year 136 = .ok (.iaload, 1) := by decide +kernel
theorem dX10_year_137 : decode cX10_year 137 = .ok (.invokevirtual 161, 3) := by decide +kernel
theorem dX10_year_140 : decode cX10_year 140 = .ok (.istore 9, 2) := by decide +kernel
theorem dX10_year_142 : decode cX10_year 142 = .ok (.iload 9, 2) := by decide +kernel
theorem dX10_year_144 : decode cX10_year 144 = .ok (.ifCond .eq 6, 3) := by decide +kernel
theorem dX10_year_147 : decode cX10_year 147 = .ok (.iload 9, 2) := by decide +kernel
theorem dX10_year_149 : decode cX10_year 149 = .ok (.ireturn, 1) := by decide +kernel
theorem dX10_year_150 : decode cX10_year 150 = .ok (.iinc 8 1, 3) := by decide +kernel
theorem dX10_year_153 : decode cX10_year 153 = .ok (.goto (-50), 3) := by decide +kernel
theorem dX10_year_156 : decode cX10_year 156 = .ok (.aload_n 0, 1) := by decide +kernel
theorem dX10_year_157 : decode cX10_year 157 = .ok (.invokevirtual 164, 3) := by decide +kernel
theorem dX10_year_160 : decode cX10_year 160 = .ok (.aload_n 0, 1) := by decide +kernel
theorem dX10_year_161 : decode cX10_year 161 = .ok (.iload 7, 2) := by decide +kernel
theorem dX10_year_163 : decode cX10_year 163 = .ok (.iload 4, 2) := by decide +kernel
theorem dX10_year_165 : decode cX10_year 165 = .ok (.invokevirtual 167, 3) := by decide +kernel
theorem dX10_year_168 : decode cX10_year 168 = .ok (.istore 8, 2) := by decide +kernel
theorem dX10_year_170 : decode cX10_year 170 = .ok (.aload_n 0, 1) := by decide +kernel
theorem dX10_year_171 : decode cX10_year 171 = .ok (.iload 5, 2) := by decide +kernel
theorem dX10_year_173 : decode cX10_year 173 = .ok (.invokevirtual 170, 3) := by decide +kernel
theorem dX10_year_176 : decode cX10_year 176 = .ok (.istore 9, 2) := by decide +kernel
theorem dX10_year_178 : decode cX10_year 178 = .ok (.aload_n 0, 1) := by decide +kernel
theorem dX10_year_179 : decode cX10_year 179 = .ok (.invokevirtual 173, 3) := by decide +kernel
theorem dX10_year_182 : decode cX10_year 182 = .ok (.iload 5, 2) := by decide +kernel
theorem dX10_year_184 : decode cX10_year 184 = .ok (.iconst 1, 1) := by decide +kernel
theorem dX10_year_185 : decode cX10_year 185 = .ok (.if_icmp .ne 8, 3) := by decide +kernel
theorem dX10_year_188 : decode cX10_year 188 = .ok (.iload 8, 2) := by decide +kernel
theorem dX10_year_190 : decode cX10_year 190 = .ok (.goto 20, 3) := by decide +kernel
theorem dX10_year_193 : decode cX10_year 193 = .ok (.iload 8, 2) := by decide +kernel
theorem dX10_year_195 : decode cX10_year 195 = .ok (.bipush (-9), 2) := by decide +kernel
theorem dX10_year_197 : decode cX10_year 197 = .ok (.if_icmp .ne 8, 3) := by decide +kernel
theorem dX10_year_200 : decode cX10_year 200 = .ok (.iload 9, 2) := by decide +kernel
theorem dX10_year_202 : decode cX10_year 202 = .ok (.goto 8, 3) := by decide +kernel
theorem dX10_year_205 : decode cX10_year 205 = .ok (.bipush (-100), 2) := by decide +kernel
theorem dX10_year_207 : decode cX10_year 207 = .ok (.iload 8, 2) := by decide +kernel
theorem dX10_year_209 : decode cX10_year 209 = .ok (.isub, 1) := by decide +kernel
theorem dX10_year_210 : decode cX10_year 210 = .ok (.ireturn, 1) := by decide +kernel
set_option maxRecDepth 20000 in
theorem ggX10_tellYear_X10_isPerson : GoodIn wsX10_tellYear wsX10_isPerson := goodIn_r _ [9, 10, 15, 16, 17, 18, 19, 20, 21, 22, 23, 24, 25, 26, 27, 28, 29, 30, 31, 32, 33, 34, 35, 36, 37, 38, 39, 40, 41, 42, 43, 44, 45, 46] (by decide +kernel) (by decide +kernel)
set_option maxRecDepth 20000 in
theorem gX10_tellYear_X10_isPerson : GoodIn wsX10_tellYear (wsV RX10 133 RX10 yX10_isPerson wsX10_isPerson) := goodIn_app (goodIn_of _ (by decide +kernel)) ggX10_tellYear_X10_isPerson
set_option maxRecDepth 20000 in
theorem ggX10_tellYear_X10_firstOf : GoodIn wsX10_tellYear wsX10_firstOf := goodIn_r _ [14, 10, 1, 15, 16, 17, 18, 19, 20, 21, 22, 23, 24, 25, 26, 27, 28, 29, 30, 31, 32, 33, 34, 35, 36, 37, 38, 39, 40, 41, 42, 43, 44, 45, 46] (by decide +kernel) (by decide +kernel)
set_option maxRecDepth 20000 in
theorem gX10_tellYear_X10_firstOf : GoodIn wsX10_tellYear (wsV RX10 145 RX10 yX10_firstOf wsX10_firstOf) := goodIn_app (goodIn_of _ (by decide +kernel)) ggX10_tellYear_X10_firstOf
theorem dX10_tellYear_0 : decode cX10_tellYear 0 = .ok (.iload_n 1, 1) := by decide +kernel
theorem dX10_tellYear_1 : decode cX10_tellYear 1 = .ok (.bipush 10, 2) := by decide +kernel
theorem dX10_tellYear_3 : decode cX10_tellYear 3 = .ok (.if_icmp .lt 29, 3) := by decide +kernel
theorem dX10_tellYear_6 : decode cX10_tellYear 6 = .ok (.aload_n 0, 1) := by decide +kernel
theorem dX10_tellYear_7 : decode cX10_tellYear 7 = .ok (.iload_n 1, 1) := by decide +kernel
theorem dX10_tellYear_8 : decode cX10_tellYear 8 = .ok (.bipush 10, 2) := by decide +kernel
theorem dX10_tellYear_10 : decode cX10_tellYear 10 = .ok (.isub, 1) := by decide +kernel
theorem dX10_tellYear_11 : decode cX10_tellYear 11 = .ok (.invokevirtual 133, 3) := by decide +kernel
theorem dX10_tellYear_14 : decode cX10_tellYear 14 = .ok (.ifCond .eq 15, 3) := by decide +kernel
theorem dX10_tellYear_17 : decode cX10_tellYear 17 = .ok (.aload_n 0, 1) := by decide +kernel
theorem dX10_tellYear_18 : decode cX10_tellYear 18 = .ok (.getfield 25, 3) := by decide +kernel
theorem dX10_tellYear_21 : decode cX10_tellYear 21 = .ok (.iload_n 1, 1) := by decide +kernel
theorem dX10_tellYear_22 : decode cX10_tellYear 22 = .ok (.bipush 10, 2) := by decide +kernel
theorem dX10_tellYear_24 : decode cX10_tellYear 24 = .ok (.isub, 1) := by decide +kernel
theorem dX10_tellYear_25 : decode cX10_tellYear 25 = .ok (.iaload, 1) := by decide +kernel
theorem dX10_tellYear_26 : decode cX10_tellYear 26 = .ok (.goto 5, 3) := by decide +kernel
theorem dX10_tellYear_29 : decode cX10_tellYear 29 = .ok (.bipush (-9), 2) := by decide +kernel
theorem dX10_tellYear_31 : decode cX10_tellYear 31 = .ok (.ireturn, 1) := by decide +kernel
theorem dX10_tellYear_32 : decode cX10_tellYear 32 = .ok (.iload_n 1, 1) := by decide +kernel
theorem dX10_tellYear_33 : decode cX10_tellYear 33 = .ok (.tableswitch 46 0 3 #[31, 46, 36, 41], 31) := by decide +kernel
theorem dX10_tellYear_64 : decode cX10_tellYear 64 = .ok (.aload_n 0, 1) := by decide +kernel
theorem dX10_tellYear_65 : decode cX10_tellYear 65 = .ok (.getfield 149, 3) := by decide +kernel
theorem dX10_tellYear_68 : decode cX10_tellYear 68 = .ok (.ireturn, 1) := by decide +kernel
theorem dX10_tellYear_69 : decode cX10_tellYear 69 = .ok (.aload_n 0, 1) := by decide +kernel
theorem dX10_tellYear_70 : decode cX10_tellYear 70 = .ok (.getfield 152, 3) := by decide +kernel
theorem dX10_tellYear_73 : decode cX10_tellYear 73 = .ok (.ireturn, 1) := by decide +kernel
theorem dX10_tellYear_74 : decode cX10_tellYear 74 = .ok (.aload_n 0, 1) := by decide +kernel
theorem dX10_tellYear_75 : decode cX10_tellYear 75 = .ok (.getfield 155, 3) := by decide +kernel
theorem dX10_tellYear_78 : decode cX10_tellYear 78 = .ok (.ireturn, 1) := by decide +kernel
theorem dX10_tellYear_79 : decode cX10_tellYear 79 = .ok (.aload_n 0, 1) := by decide +kernel
theorem dX10_tellYear_80 : decode cX10_tellYear 80 = .ok (.invokevirtual 145, 3) := by decide +kernel
theorem dX10_tellYear_83 : decode cX10_tellYear 83 = .ok (.ireturn, 1) := by decide +kernel
set_option maxRecDepth 20000 in
theorem ggX10_register_X10_within : GoodIn wsX10_register wsX10_within := goodIn_r _ [5] (by decide +kernel) (by decide +kernel)
set_option maxRecDepth 20000 in
theorem gX10_register_X10_within : GoodIn wsX10_register (va_wsS RX10 73 yX10_within wsX10_within) := goodIn_app (goodIn_of _ (by decide +kernel)) ggX10_register_X10_within
set_option maxRecDepth 20000 in
theorem ggX10_register_X10_placeOf : GoodIn wsX10_register wsX10_placeOf := goodIn_r _ [9, 1, 10, 11, 12, 13, 14, 15, 16, 17, 18, 19, 20, 21, 22, 23, 24, 25, 26, 27, 28, 29, 30, 31, 32, 33, 34, 35, 36, 37, 38, 39, 40, 41, 42] (by decide +kernel) (by decide +kernel)
set_option maxRecDepth 20000 in
theorem gX10_register_X10_placeOf : GoodIn wsX10_register (wsV RX10 136 RX10 yX10_placeOf wsX10_placeOf) := goodIn_app (goodIn_of _ (by decide +kernel)) ggX10_register_X10_placeOf
theorem dX10_register_0 : decode cX10_register 0 = .ok (.iload_n 1, 1) := by decide +kernel
theorem dX10_register_1 : decode cX10_register 1 = .ok (.iconst 0, 1) := by decide +kernel
theorem dX10_register_2 : decode cX10_register 2 = .ok (.iconst 5, 1) := by decide +kernel
theorem dX10_register_3 : decode cX10_register 3 = .ok (.invokestatic 73, 3) := by decide +kernel
theorem dX10_register_6 : decode cX10_register 6 = .ok (.ifCond .ne 6, 3) := by decide +kernel
theorem dX10_register_9 : decode cX10_register 9 = .ok (.bipush (-2), 2) := by decide +kernel
theorem dX10_register_11 : decode cX10_register 11 = .ok (.ireturn, 1) := by decide +kernel
theorem dX10_register_12 : decode cX10_register 12 = .ok (.aload_n 0, 1) := by decide +kernel
theorem dX10_register_13 : decode cX10_register 13 = .ok (.getfield 77, 3) := by decide +kernel
theorem dX10_register_16 : decode cX10_register 16 = .ok (.ifCond .ne 6, 3) := by decide +kernel
theorem dX10_register_19 : decode cX10_register 19 = .ok (.bipush (-3), 2) := by decide +kernel
theorem dX10_register_21 : decode cX10_register 21 = .ok (.ireturn, 1) := by decide +kernel
theorem dX10_register_22 : decode cX10_register 22 = .ok (.iconst 0, 1) := by decide +kernel
theorem dX10_register_23 : decode cX10_register 23 = .ok (.istore_n 2, 1) := by decide +kernel
theorem dX10_register_24 : decode cX10_register 24 = .ok (.iload_n 2, 1) := by decide +kernel
theorem dX10_register_25 : decode cX10_register 25 = .ok (.aload_n 0, 1) := by decide +kernel
theorem dX10_register_26 : decode cX10_register 26 = .ok (.getfield 77, 3) := by decide +kernel
theorem dX10_register_29 : decode cX10_register 29 = .ok (.if_icmp .ge 20, 3) := by decide +kernel
theorem dX10_register_32 : decode cX10_register 32 = .ok (.aload_n 0, 1) := by decide +kernel
theorem dX10_register_33 : decode cX10_register 33 = .ok (.iload_n 2, 1) := by decide +kernel
theorem dX10_register_34 : decode cX10_register 34 = .ok (.invokevirtual 136, 3) := by decide +kernel
theorem dX10_register_37 : decode cX10_register 37 = .ok (.iload_n 1, 1) := by decide +kernel
theorem dX10_register_38 : decode cX10_register 38 = .ok (.if_icmp .ne 5, 3) := by decide +kernel
theorem dX10_register_41 : decode cX10_register 41 = .ok (.iload_n 2, 1) := by decide +kernel
theorem dX10_register_42 : decode cX10_register 42 = .ok (.ireturn, 1) := by decide +kernel
theorem dX10_register_43 : decode cX10_register 43 = .ok (.iinc 2 1, 3) := by decide +kernel
theorem dX10_register_46 : decode cX10_register 46 = .ok (.goto (-22), 3) := by decide +kernel
theorem dX10_register_49 : decode cX10_register 49 = .ok (.bipush (-9), 2) := by decide +kernel
theorem dX10_register_51 : decode cX10_register 51 = .ok (.ireturn, 1) := by decide +kernel
set_option maxRecDepth 20000 in
theorem ggX10_turn_X10_isPerson : GoodIn wsX10_turn wsX10_isPerson := goodIn_r _ [6, 7, 23, 24, 25, 26, 27, 28, 29, 30, 31, 32, 33, 34, 35, 36, 37, 38, 39, 40, 41, 42, 43, 44, 45, 46, 47, 48, 49, 50, 51, 52, 53, 54] (by decide +kernel) (by decide +kernel)
set_option maxRecDepth 20000 in
theorem gX10_turn_X10_isPerson : GoodIn wsX10_turn (wsV RX10 133 RX10 yX10_isPerson wsX10_isPerson) := goodIn_app (goodIn_of _ (by decide +kernel)) ggX10_turn_X10_isPerson
set_option maxRecDepth 20000 in
theorem ggX10_turn_X10_keep : GoodIn wsX10_turn wsX10_keep := goodIn_r _ [11, 7, 12, 1, 13, 14, 23, 24, 25, 26, 27, 28, 29, 30, 31, 32, 33, 34, 35, 36, 37, 38, 39, 40, 41, 42, 43, 44, 45, 46, 47, 48, 49, 50, 51, 52, 53, 54] (by decide +kernel) (by decide +kernel)
set_option maxRecDepth 20000 in
theorem gX10_turn_X10_keep : GoodIn wsX10_turn (wsV RX10 164 RX10 yX10_keep wsX10_keep) := goodIn_app (goodIn_of _ (by decide +kernel)) ggX10_turn_X10_keep
set_option maxRecDepth 20000 in
theorem ggX10_turn_X10_firstOf : GoodIn wsX10_turn wsX10_firstOf := goodIn_r _ [18, 7, 1, 23, 24, 25, 26, 27, 28, 29, 30, 31, 32, 33, 34, 35, 36, 37, 38, 39, 40, 41, 42, 43, 44, 45, 46, 47, 48, 49, 50, 51, 52, 53, 54] (by decide +kernel) (by decide +kernel)
set_option maxRecDepth 20000 in
theorem gX10_turn_X10_firstOf : GoodIn wsX10_turn (wsV RX10 145 RX10 yX10_firstOf wsX10_firstOf) := goodIn_app (goodIn_of _ (by decide +kernel)) ggX10_turn_X10_firstOf
set_option maxRecDepth 20000 in
theorem ggX10_turn_X10_putBack : GoodIn wsX10_turn wsX10_putBack := goodIn_r _ [22, 7, 1, 12, 14, 13, 23, 24, 25, 26, 27, 28, 29, 30, 31, 32, 33, 34, 35, 36, 37, 38, 39, 40, 41, 42, 43, 44, 45, 46, 47, 48, 49, 50, 51, 52, 53, 54] (by decide +kernel) (by decide +kernel)
set_option maxRecDepth 20000 in
theorem gX10_turn_X10_putBack : GoodIn wsX10_turn (wsV RX10 173 RX10 yX10_putBack wsX10_putBack) := goodIn_app (goodIn_of _ (by decide +kernel)) ggX10_turn_X10_putBack
theorem dX10_turn_0 : decode cX10_turn 0 = .ok (.aload_n 0, 1) := by decide +kernel
theorem dX10_turn_1 : decode cX10_turn 1 = .ok (.iload_n 1, 1) := by decide +kernel
theorem dX10_turn_2 : decode cX10_turn 2 = .ok (.invokevirtual 133, 3) := by decide +kernel
theorem dX10_turn_5 : decode cX10_turn 5 = .ok (.ifCond .ne 5, 3) := by decide +kernel
theorem dX10_turn_8 : decode cX10_turn 8 = .ok (.iconst (-1), 1) := by decide +kernel
theorem dX10_turn_9 : decode cX10_turn 9 = .ok (.ireturn, 1) := by decide +kernel
theorem dX10_turn_10 : decode cX10_turn 10 = .ok (.aload_n 0, 1) := by decide +kernel
theorem dX10_turn_11 : decode cX10_turn 11 = .ok (.invokevirtual 164, 3) := by decide +kernel
theorem dX10_turn_14 : decode cX10_turn 14 = .ok (.iconst 0, 1) := by decide +kernel
theorem dX10_turn_15 : decode cX10_turn 15 = .ok (.istore_n 2, 1) := by decide +kernel
theorem dX10_turn_16 : decode cX10_turn 16 = .ok (.aload_n 0, 1) := by decide +kernel
theorem dX10_turn_17 : decode cX10_turn 17 = .ok (.invokevirtual 145, 3) := by decide +kernel
theorem dX10_turn_20 : decode cX10_turn 20 = .ok (.istore_n 3, 1) := by decide +kernel
theorem dX10_turn_21 : decode cX10_turn 21 = .ok (.iload_n 3, 1) := by decide +kernel
theorem dX10_turn_22 : decode cX10_turn 22 = .ok (.iload_n 1, 1) := by decide +kernel
theorem dX10_turn_23 : decode cX10_turn 23 = .ok (.if_icmp .eq 24, 3) := by decide +kernel
theorem dX10_turn_26 : decode cX10_turn 26 = .ok (.aload_n 0, 1) := by decide +kernel
theorem dX10_turn_27 : decode cX10_turn 27 = .ok (.getfield 25, 3) := by decide +kernel
theorem dX10_turn_30 : decode cX10_turn 30 = .ok (.iload_n 3, 1) := by decide +kernel
theorem dX10_turn_31 : decode cX10_turn 31 = .ok (.dup2, 1) := by decide +kernel
theorem dX10_turn_32 : decode cX10_turn 32 = .ok (.iaload, 1) := by decide +kernel
theorem dX10_turn_33 : decode cX10_turn 33 = .ok (.iconst 1, 1) := by decide +kernel
theorem dX10_turn_34 : decode cX10_turn 34 = .ok (.iadd, 1) := by decide +kernel
theorem dX10_turn_35 : decode cX10_turn 35 = .ok (.iastore, 1) := by decide +kernel
theorem dX10_turn_36 : decode cX10_turn 36 = .ok (.iinc 2 1, 3) := by decide +kernel
theorem dX10_turn_39 : decode cX10_turn 39 = .ok (.aload_n 0, 1) := by decide +kernel
theorem dX10_turn_40 : decode cX10_turn 40 = .ok (.invokevirtual 145, 3) := by decide +kernel
theorem dX10_turn_43 : decode cX10_turn 43 = .ok (.istore_n 3, 1) := by decide +kernel
theorem dX10_turn_44 : decode cX10_turn 44 = .ok (.goto (-23), 3) := by decide +kernel
theorem dX10_turn_47 : decode cX10_turn 47 = .ok (.aload_n 0, 1) := by decide +kernel
theorem dX10_turn_48 : decode cX10_turn 48 = .ok (.invokevirtual 173, 3) := by decide +kernel
theorem dX10_turn_51 : decode cX10_turn 51 = .ok (.iload_n 2, 1) := by decide +kernel
theorem dX10_turn_52 : decode cX10_turn 52 = .ok (.ireturn, 1) := by decide +kernel
set_option maxRecDepth 20000 in
theorem ggX10_steer_X10_isMatter : GoodIn wsX10_steer wsX10_isMatter := goodIn_r _ [8, 1, 26, 27, 28, 29, 30, 31, 32, 33, 34, 35, 36, 37, 38, 39, 40, 41, 42, 43, 44, 45, 46, 47, 48, 49, 50, 51, 52, 53, 54, 55, 56, 57] (by decide +kernel) (by decide +kernel)
set_option maxRecDepth 20000 in
theorem gX10_steer_X10_isMatter : GoodIn wsX10_steer (wsV RX10 139 RX10 yX10_isMatter wsX10_isMatter) := goodIn_app (goodIn_of _ (by decide +kernel)) ggX10_steer_X10_isMatter
set_option maxRecDepth 20000 in
theorem ggX10_steer_X10_isOf : GoodIn wsX10_steer wsX10_isOf := goodIn_r _ [11] (by decide +kernel) (by decide +kernel)
set_option maxRecDepth 20000 in
theorem gX10_steer_X10_isOf : GoodIn wsX10_steer (va_wsS RX10 127 yX10_isOf wsX10_isOf) := goodIn_app (goodIn_of _ (by decide +kernel)) ggX10_steer_X10_isOf
set_option maxRecDepth 20000 in
theorem ggX10_steer_X10_keep : GoodIn wsX10_steer wsX10_keep := goodIn_r _ [15, 1, 16, 3, 17, 2, 26, 27, 28, 29, 30, 31, 32, 33, 34, 35, 36, 37, 38, 39, 40, 41, 42, 43, 44, 45, 46, 47, 48, 49, 50, 51, 52, 53, 54, 55, 56, 57] (by decide +kernel) (by decide +kernel)
set_option maxRecDepth 20000 in
theorem gX10_steer_X10_keep : GoodIn wsX10_steer (wsV RX10 164 RX10 yX10_keep wsX10_keep) := goodIn_app (goodIn_of _ (by decide +kernel)) ggX10_steer_X10_keep
set_option maxRecDepth 20000 in
theorem ggX10_steer_X10_firstOf : GoodIn wsX10_steer wsX10_firstOf := goodIn_r _ [21, 1, 3, 26, 27, 28, 29, 30, 31, 32, 33, 34, 35, 36, 37, 38, 39, 40, 41, 42, 43, 44, 45, 46, 47, 48, 49, 50, 51, 52, 53, 54, 55, 56, 57] (by decide +kernel) (by decide +kernel)
set_option maxRecDepth 20000 in
theorem gX10_steer_X10_firstOf : GoodIn wsX10_steer (wsV RX10 145 RX10 yX10_firstOf wsX10_firstOf) := goodIn_app (goodIn_of _ (by decide +kernel)) ggX10_steer_X10_firstOf
set_option maxRecDepth 20000 in
theorem ggX10_steer_X10_putBack : GoodIn wsX10_steer wsX10_putBack := goodIn_r _ [25, 1, 3, 16, 2, 17, 26, 27, 28, 29, 30, 31, 32, 33, 34, 35, 36, 37, 38, 39, 40, 41, 42, 43, 44, 45, 46, 47, 48, 49, 50, 51, 52, 53, 54, 55, 56, 57] (by decide +kernel) (by decide +kernel)
set_option maxRecDepth 20000 in
theorem gX10_steer_X10_putBack : GoodIn wsX10_steer (wsV RX10 173 RX10 yX10_putBack wsX10_putBack) := goodIn_app (goodIn_of _ (by decide +kernel)) ggX10_steer_X10_putBack
theorem dX10_steer_0 : decode cX10_steer 0 = .ok (.aload_n 0, 1) := by decide +kernel
theorem dX10_steer_1 : decode cX10_steer 1 = .ok (.iload_n 1, 1) := by decide +kernel
theorem dX10_steer_2 : decode cX10_steer 2 = .ok (.invokevirtual 139, 3) := by decide +kernel
theorem dX10_steer_5 : decode cX10_steer 5 = .ok (.ifCond .ne 5, 3) := by decide +kernel
theorem dX10_steer_8 : decode cX10_steer 8 = .ok (.iconst (-1), 1) := by decide +kernel
theorem dX10_steer_9 : decode cX10_steer 9 = .ok (.ireturn, 1) := by decide +kernel
theorem dX10_steer_10 : decode cX10_steer 10 = .ok (.iconst 0, 1) := by decide +kernel
theorem dX10_steer_11 : decode cX10_steer 11 = .ok (.istore_n 2, 1) := by decide +kernel
theorem dX10_steer_12 : decode cX10_steer 12 = .ok (.iconst 0, 1) := by decide +kernel
theorem dX10_steer_13 : decode cX10_steer 13 = .ok (.istore_n 3, 1) := by decide +kernel
theorem dX10_steer_14 : decode cX10_steer 14 = .ok (.iload_n 3, 1) := by decide +kernel
theorem dX10_steer_15 : decode cX10_steer 15 = .ok (.aload_n 0, 1) := by decide +kernel
theorem dX10_steer_16 : decode cX10_steer 16 = .ok (.getfield 77, 3) := by decide +kernel
theorem dX10_steer_19 : decode cX10_steer 19 = .ok (.if_icmp .ge 32, 3) := by decide +kernel
theorem dX10_steer_22 : decode cX10_steer 22 = .ok (.iload_n 2, 1) := by decide +kernel
theorem dX10_steer_23 : decode cX10_steer 23 = .ok (.ifCond .ne 16, 3) := by decide +kernel
theorem dX10_steer_26 : decode cX10_steer 26 = .ok (.aload_n 0, 1) := by decide +kernel
theorem dX10_steer_27 : decode cX10_steer 27 = .ok (.getfield 28, 3) := by decide +kernel
theorem dX10_steer_30 : decode cX10_steer 30 = .ok (.iload_n 3, 1) := by decide +kernel
theorem dX10_steer_31 : decode cX10_steer 31 = .ok (.iaload, 1) := by decide +kernel
theorem dX10_steer_32 : decode cX10_steer 32 = .ok (.iload_n 1, 1) := by decide +kernel
theorem dX10_steer_33 : decode cX10_steer 33 = .ok (.invokestatic 127, 3) := by decide +kernel
theorem dX10_steer_36 : decode cX10_steer 36 = .ok (.ifCond .eq 7, 3) := by decide +kernel
theorem dX10_steer_39 : decode cX10_steer 39 = .ok (.iconst 1, 1) := by decide +kernel
theorem dX10_steer_40 : decode cX10_steer 40 = .ok (.goto 4, 3) := by decide +kernel
theorem dX10_steer_43 : decode cX10_steer 43 = .ok (.iconst 0, 1) := by decide +kernel
theorem dX10_steer_44 : decode cX10_steer 44 = .ok (.istore_n 2, 1) := by decide +kernel
theorem dX10_steer_45 : decode cX10_steer 45 = .ok (.iinc 3 1, 3) := by decide +kernel
theorem dX10_steer_48 : decode cX10_steer 48 = .ok (.goto (-34), 3) := by decide +kernel
theorem dX10_steer_51 : decode cX10_steer 51 = .ok (.iload_n 2, 1) := by decide +kernel
theorem dX10_steer_52 : decode cX10_steer 52 = .ok (.ifCond .ne 6, 3) := by decide +kernel
theorem dX10_steer_55 : decode cX10_steer 55 = .ok (.bipush (-9), 2) := by decide +kernel
theorem dX10_steer_57 : decode cX10_steer 57 = .ok (.ireturn, 1) := by decide +kernel
end
section
theorem dX10_steer_58 : decode cX10_steer 58 = .ok (.aload_n 0, 1) := by decide +kernel
theorem dX10_steer_59 : decode cX10_steer 59 = .ok (.invokevirtual 164, 3) := by decide +kernel
theorem dX10_steer_62 : decode cX10_steer 62 = .ok (.iconst 0, 1) := by decide +kernel
theorem dX10_steer_63 : decode cX10_steer 63 = .ok (.istore_n 3, 1) := by decide +kernel
theorem dX10_steer_64 : decode cX10_steer 64 = .ok (.aload_n 0, 1) := by decide +kernel
theorem dX10_steer_65 : decode cX10_steer 65 = .ok (.invokevirtual 145, 3) := by decide +kernel
theorem dX10_steer_68 : decode cX10_steer 68 = .ok (.istore 4, 2) := by decide +kernel
theorem dX10_steer_70 : decode cX10_steer 70 = .ok (.aload_n 0, 1) := by decide +kernel
theorem dX10_steer_71 : decode cX10_steer 71 = .ok (.getfield 28, 3) := by decide +kernel
theorem dX10_steer_74 : decode cX10_steer 74 = .ok (.iload 4, 2) := by decide +kernel
theorem dX10_steer_76 : decode cX10_steer 76 = .ok (.iaload, 1) := by decide +kernel
theorem dX10_steer_77 : decode cX10_steer 77 = .ok (.iload_n 1, 1) := by decide +kernel
theorem dX10_steer_78 : decode cX10_steer 78 = .ok (.invokestatic 127, 3) := by decide +kernel
theorem dX10_steer_81 : decode cX10_steer 81 = .ok (.ifCond .ne 26, 3) := by decide +kernel
theorem dX10_steer_84 : decode cX10_steer 84 = .ok (.aload_n 0, 1) := by decide +kernel
theorem dX10_steer_85 : decode cX10_steer 85 = .ok (.getfield 25, 3) := by decide +kernel
theorem dX10_steer_88 : decode cX10_steer 88 = .ok (.iload 4, 2) := by decide +kernel
theorem dX10_steer_90 : decode cX10_steer 90 = .ok (.dup2, 1) := by decide +kernel
theorem dX10_steer_91 : decode cX10_steer 91 = .ok (.iaload, 1) := by decide +kernel
theorem dX10_steer_92 : decode cX10_steer 92 = .ok (.iconst 1, 1) := by decide +kernel
theorem dX10_steer_93 : decode cX10_steer 93 = .ok (.iadd, 1) := by decide +kernel
theorem dX10_steer_94 : decode cX10_steer 94 = .ok (.iastore, 1) := by decide +kernel
theorem dX10_steer_95 : decode cX10_steer 95 = .ok (.iinc 3 1, 3) := by decide +kernel
theorem dX10_steer_98 : decode cX10_steer 98 = .ok (.aload_n 0, 1) := by decide +kernel
theorem dX10_steer_99 : decode cX10_steer 99 = .ok (.invokevirtual 145, 3) := by decide +kernel
theorem dX10_steer_102 : decode cX10_steer 102 = .ok (.istore 4, 2) := by decide +kernel
theorem dX10_steer_104 : decode cX10_steer 104 = .ok (.goto (-34), 3) := by decide +kernel
theorem dX10_steer_107 : decode cX10_steer 107 = .ok (.aload_n 0, 1) := by decide +kernel
theorem dX10_steer_108 : decode cX10_steer 108 = .ok (.invokevirtual 173, 3) := by decide +kernel
theorem dX10_steer_111 : decode cX10_steer 111 = .ok (.iload_n 3, 1) := by decide +kernel
theorem dX10_steer_112 : decode cX10_steer 112 = .ok (.ireturn, 1) := by decide +kernel
theorem dX10_even_0 : decode cX10_even 0 = .ok (.aload_n 0, 1) := by decide +kernel
theorem dX10_even_1 : decode cX10_even 1 = .ok (.getfield 77, 3) := by decide +kernel
theorem dX10_even_4 : decode cX10_even 4 = .ok (.ifCond .ne 6, 3) := by decide +kernel
theorem dX10_even_7 : decode cX10_even 7 = .ok (.bipush (-3), 2) := by decide +kernel
theorem dX10_even_9 : decode cX10_even 9 = .ok (.ireturn, 1) := by decide +kernel
theorem dX10_even_10 : decode cX10_even 10 = .ok (.iconst 0, 1) := by decide +kernel
theorem dX10_even_11 : decode cX10_even 11 = .ok (.istore_n 1, 1) := by decide +kernel
theorem dX10_even_12 : decode cX10_even 12 = .ok (.iconst 0, 1) := by decide +kernel
theorem dX10_even_13 : decode cX10_even 13 = .ok (.istore_n 2, 1) := by decide +kernel
theorem dX10_even_14 : decode cX10_even 14 = .ok (.iload_n 2, 1) := by decide +kernel
theorem dX10_even_15 : decode cX10_even 15 = .ok (.aload_n 0, 1) := by decide +kernel
theorem dX10_even_16 : decode cX10_even 16 = .ok (.getfield 77, 3) := by decide +kernel
theorem dX10_even_19 : decode cX10_even 19 = .ok (.if_icmp .ge 30, 3) := by decide +kernel
theorem dX10_even_22 : decode cX10_even 22 = .ok (.aload_n 0, 1) := by decide +kernel
theorem dX10_even_23 : decode cX10_even 23 = .ok (.getfield 25, 3) := by decide +kernel
theorem dX10_even_26 : decode cX10_even 26 = .ok (.iload_n 2, 1) := by decide +kernel
theorem dX10_even_27 : decode cX10_even 27 = .ok (.iaload, 1) := by decide +kernel
theorem dX10_even_28 : decode cX10_even 28 = .ok (.iload_n 1, 1) := by decide +kernel
theorem dX10_even_29 : decode cX10_even 29 = .ok (.if_icmp .le 12, 3) := by decide +kernel
theorem dX10_even_32 : decode cX10_even 32 = .ok (.aload_n 0, 1) := by decide +kernel
theorem dX10_even_33 : decode cX10_even 33 = .ok (.getfield 25, 3) := by decide +kernel
theorem dX10_even_36 : decode cX10_even 36 = .ok (.iload_n 2, 1) := by decide +kernel
theorem dX10_even_37 : decode cX10_even 37 = .ok (.iaload, 1) := by decide +kernel
theorem dX10_even_38 : decode cX10_even 38 = .ok (.goto 4, 3) := by decide +kernel
theorem dX10_even_41 : decode cX10_even 41 = .ok (.iload_n 1, 1) := by decide +kernel
theorem dX10_even_42 : decode cX10_even 42 = .ok (.istore_n 1, 1) := by decide +kernel
theorem dX10_even_43 : decode cX10_even 43 = .ok (.iinc 2 1, 3) := by decide +kernel
theorem dX10_even_46 : decode cX10_even 46 = .ok (.goto (-32), 3) := by decide +kernel
theorem dX10_even_49 : decode cX10_even 49 = .ok (.iconst 0, 1) := by decide +kernel
theorem dX10_even_50 : decode cX10_even 50 = .ok (.istore_n 2, 1) := by decide +kernel
theorem dX10_even_51 : decode cX10_even 51 = .ok (.iconst 0, 1) := by decide +kernel
theorem dX10_even_52 : decode cX10_even 52 = .ok (.istore_n 3, 1) := by decide +kernel
theorem dX10_even_53 : decode cX10_even 53 = .ok (.iload_n 3, 1) := by decide +kernel
theorem dX10_even_54 : decode cX10_even 54 = .ok (.aload_n 0, 1) := by decide +kernel
theorem dX10_even_55 : decode cX10_even 55 = .ok (.getfield 77, 3) := by decide +kernel
theorem dX10_even_58 : decode cX10_even 58 = .ok (.if_icmp .ge 20, 3) := by decide +kernel
theorem dX10_even_61 : decode cX10_even 61 = .ok (.iload_n 2, 1) := by decide +kernel
theorem dX10_even_62 : decode cX10_even 62 = .ok (.iload_n 1, 1) := by decide +kernel
theorem dX10_even_63 : decode cX10_even 63 = .ok (.aload_n 0, 1) := by decide +kernel
theorem dX10_even_64 : decode cX10_even 64 = .ok (.getfield 25, 3) := by decide +kernel
theorem dX10_even_67 : decode cX10_even 67 = .ok (.iload_n 3, 1) := by decide +kernel
theorem dX10_even_68 : decode cX10_even 68 = .ok (.iaload, 1) := by decide +kernel
theorem dX10_even_69 : decode cX10_even 69 = .ok (.isub, 1) := by decide +kernel
theorem dX10_even_70 : decode cX10_even 70 = .ok (.iadd, 1) := by decide +kernel
theorem dX10_even_71 : decode cX10_even 71 = .ok (.istore_n 2, 1) := by decide +kernel
theorem dX10_even_72 : decode cX10_even 72 = .ok (.iinc 3 1, 3) := by decide +kernel
theorem dX10_even_75 : decode cX10_even 75 = .ok (.goto (-22), 3) := by decide +kernel
theorem dX10_even_78 : decode cX10_even 78 = .ok (.iload_n 2, 1) := by decide +kernel
theorem dX10_even_79 : decode cX10_even 79 = .ok (.ireturn, 1) := by decide +kernel
theorem dX10_ordersOf_0 : decode cX10_ordersOf 0 = .ok (.iconst 1, 1) := by decide +kernel
theorem dX10_ordersOf_1 : decode cX10_ordersOf 1 = .ok (.istore_n 1, 1) := by decide +kernel
theorem dX10_ordersOf_2 : decode cX10_ordersOf 2 = .ok (.iconst 2, 1) := by decide +kernel
theorem dX10_ordersOf_3 : decode cX10_ordersOf 3 = .ok (.istore_n 2, 1) := by decide +kernel
theorem dX10_ordersOf_4 : decode cX10_ordersOf 4 = .ok (.iload_n 2, 1) := by decide +kernel
theorem dX10_ordersOf_5 : decode cX10_ordersOf 5 = .ok (.iload_n 0, 1) := by decide +kernel
theorem dX10_ordersOf_6 : decode cX10_ordersOf 6 = .ok (.if_icmp .gt 13, 3) := by decide +kernel
theorem dX10_ordersOf_9 : decode cX10_ordersOf 9 = .ok (.iload_n 1, 1) := by decide +kernel
theorem dX10_ordersOf_10 : decode cX10_ordersOf 10 = .ok (.iload_n 2, 1) := by decide +kernel
theorem dX10_ordersOf_11 : decode cX10_ordersOf 11 = .ok (.imul, 1) := by decide +kernel
theorem dX10_ordersOf_12 : decode cX10_ordersOf 12 = .ok (.istore_n 1, 1) := by decide +kernel
theorem dX10_ordersOf_13 : decode cX10_ordersOf 13 = .ok (.iinc 2 1, 3) := by decide +kernel
theorem dX10_ordersOf_16 : decode cX10_ordersOf 16 = .ok (.goto (-12), 3) := by decide +kernel
theorem dX10_ordersOf_19 : decode cX10_ordersOf 19 = .ok (.iload_n 1, 1) := by decide +kernel
theorem dX10_ordersOf_20 : decode cX10_ordersOf 20 = .ok (.ireturn, 1) := by decide +kernel
set_option maxRecDepth 20000 in
theorem ggX10_findRow_X10_ordersOf : GoodIn wsX10_findRow wsX10_ordersOf := goodIn_r _ [5] (by decide +kernel) (by decide +kernel)
set_option maxRecDepth 20000 in
theorem gX10_findRow_X10_ordersOf : GoodIn wsX10_findRow (va_wsS RX10 176 yX10_ordersOf wsX10_ordersOf) := goodIn_app (goodIn_of _ (by decide +kernel)) ggX10_findRow_X10_ordersOf
set_option maxRecDepth 20000 in
theorem ggX10_findRow_X10_isOf : GoodIn wsX10_findRow wsX10_isOf := goodIn_r _ [8] (by decide +kernel) (by decide +kernel)
set_option maxRecDepth 20000 in
theorem gX10_findRow_X10_isOf : GoodIn wsX10_findRow (va_wsS RX10 127 yX10_isOf wsX10_isOf) := goodIn_app (goodIn_of _ (by decide +kernel)) ggX10_findRow_X10_isOf
theorem dX10_findRow_0 : decode cX10_findRow 0 = .ok (.iload_n 1, 1) := by decide +kernel
theorem dX10_findRow_1 : decode cX10_findRow 1 = .ok (.istore_n 3, 1) := by decide +kernel
theorem dX10_findRow_2 : decode cX10_findRow 2 = .ok (.iload_n 2, 1) := by decide +kernel
theorem dX10_findRow_3 : decode cX10_findRow 3 = .ok (.iconst 1, 1) := by decide +kernel
theorem dX10_findRow_4 : decode cX10_findRow 4 = .ok (.isub, 1) := by decide +kernel
theorem dX10_findRow_5 : decode cX10_findRow 5 = .ok (.invokestatic 176, 3) := by decide +kernel
theorem dX10_findRow_8 : decode cX10_findRow 8 = .ok (.istore 4, 2) := by decide +kernel
theorem dX10_findRow_10 : decode cX10_findRow 10 = .ok (.iconst 0, 1) := by decide +kernel
theorem dX10_findRow_11 : decode cX10_findRow 11 = .ok (.istore 5, 2) := by decide +kernel
theorem dX10_findRow_13 : decode cX10_findRow 13 = .ok (.iconst 0, 1) := by decide +kernel
theorem dX10_findRow_14 : decode cX10_findRow 14 = .ok (.istore 6, 2) := by decide +kernel
theorem dX10_findRow_16 : decode cX10_findRow 16 = .ok (.iload 6, 2) := by decide +kernel
theorem dX10_findRow_18 : decode cX10_findRow 18 = .ok (.iload_n 2, 1) := by decide +kernel
theorem dX10_findRow_19 : decode cX10_findRow 19 = .ok (.if_icmp .ge 107, 3) := by decide +kernel
theorem dX10_findRow_22 : decode cX10_findRow 22 = .ok (.iload_n 3, 1) := by decide +kernel
theorem dX10_findRow_23 : decode cX10_findRow 23 = .ok (.iload 4, 2) := by decide +kernel
theorem dX10_findRow_25 : decode cX10_findRow 25 = .ok (.idiv, 1) := by decide +kernel
theorem dX10_findRow_26 : decode cX10_findRow 26 = .ok (.istore 7, 2) := by decide +kernel
theorem dX10_findRow_28 : decode cX10_findRow 28 = .ok (.iload_n 3, 1) := by decide +kernel
theorem dX10_findRow_29 : decode cX10_findRow 29 = .ok (.iload 4, 2) := by decide +kernel
theorem dX10_findRow_31 : decode cX10_findRow 31 = .ok (.irem, 1) := by decide +kernel
theorem dX10_findRow_32 : decode cX10_findRow 32 = .ok (.istore_n 3, 1) := by decide +kernel
theorem dX10_findRow_33 : decode cX10_findRow 33 = .ok (.iconst 0, 1) := by decide +kernel
theorem dX10_findRow_34 : decode cX10_findRow 34 = .ok (.istore 8, 2) := by decide +kernel
theorem dX10_findRow_36 : decode cX10_findRow 36 = .ok (.iload 5, 2) := by decide +kernel
theorem dX10_findRow_38 : decode cX10_findRow 38 = .ok (.iload 8, 2) := by decide +kernel
theorem dX10_findRow_40 : decode cX10_findRow 40 = .ok (.invokestatic 127, 3) := by decide +kernel
theorem dX10_findRow_43 : decode cX10_findRow 43 = .ok (.ifCond .ne 8, 3) := by decide +kernel
theorem dX10_findRow_46 : decode cX10_findRow 46 = .ok (.iload 7, 2) := by decide +kernel
theorem dX10_findRow_48 : decode cX10_findRow 48 = .ok (.ifCond .le 29, 3) := by decide +kernel
theorem dX10_findRow_51 : decode cX10_findRow 51 = .ok (.iload 7, 2) := by decide +kernel
theorem dX10_findRow_53 : decode cX10_findRow 53 = .ok (.iload 5, 2) := by decide +kernel
theorem dX10_findRow_55 : decode cX10_findRow 55 = .ok (.iload 8, 2) := by decide +kernel
theorem dX10_findRow_57 : decode cX10_findRow 57 = .ok (.invokestatic 127, 3) := by decide +kernel
theorem dX10_findRow_60 : decode cX10_findRow 60 = .ok (.ifCond .eq 7, 3) := by decide +kernel
theorem dX10_findRow_63 : decode cX10_findRow 63 = .ok (.iconst 0, 1) := by decide +kernel
theorem dX10_findRow_64 : decode cX10_findRow 64 = .ok (.goto 4, 3) := by decide +kernel
theorem dX10_findRow_67 : decode cX10_findRow 67 = .ok (.iconst 1, 1) := by decide +kernel
theorem dX10_findRow_68 : decode cX10_findRow 68 = .ok (.isub, 1) := by decide +kernel
theorem dX10_findRow_69 : decode cX10_findRow 69 = .ok (.istore 7, 2) := by decide +kernel
theorem dX10_findRow_71 : decode cX10_findRow 71 = .ok (.iinc 8 1, 3) := by decide +kernel
theorem dX10_findRow_74 : decode cX10_findRow 74 = .ok (.goto (-38), 3) := by decide +kernel
theorem dX10_findRow_77 : decode cX10_findRow 77 = .ok (.aload_n 0, 1) := by decide +kernel
theorem dX10_findRow_78 : decode cX10_findRow 78 = .ok (.getfield 46, 3) := by decide +kernel
theorem dX10_findRow_81 : decode cX10_findRow 81 = .ok (.iload 6, 2) := by decide +kernel
theorem dX10_findRow_83 : decode cX10_findRow 83 = .ok (.iload 8, 2) := by decide +kernel
theorem dX10_findRow_85 : decode cX10_findRow 85 = .ok (.iastore, 1) := by decide +kernel
theorem dX10_findRow_86 : decode cX10_findRow 86 = .ok (.iload 5, 2) := by decide +kernel
theorem dX10_findRow_88 : decode cX10_findRow 88 = .ok (.iconst 1, 1) := by decide +kernel
theorem dX10_findRow_89 : decode cX10_findRow 89 = .ok (.iload 8, 2) := by decide +kernel
theorem dX10_findRow_91 : decode cX10_findRow 91 = .ok (.ishl, 1) := by decide +kernel
theorem dX10_findRow_92 : decode cX10_findRow 92 = .ok (.ior, 1) := by decide +kernel
theorem dX10_findRow_93 : decode cX10_findRow 93 = .ok (.istore 5, 2) := by decide +kernel
theorem dX10_findRow_95 : decode cX10_findRow 95 = .ok (.iload_n 2, 1) := by decide +kernel
theorem dX10_findRow_96 : decode cX10_findRow 96 = .ok (.iload 6, 2) := by decide +kernel
theorem dX10_findRow_98 : decode cX10_findRow 98 = .ok (.isub, 1) := by decide +kernel
theorem dX10_findRow_99 : decode cX10_findRow 99 = .ok (.iconst 1, 1) := by decide +kernel
theorem dX10_findRow_100 : decode cX10_findRow 100 = .ok (.isub, 1) := by decide +kernel
theorem dX10_findRow_101 : decode cX10_findRow 101 = .ok (.iconst 1, 1) := by decide +kernel
theorem dX10_findRow_102 : decode cX10_findRow 102 = .ok (.if_icmp .le 15, 3) := by decide +kernel
theorem dX10_findRow_105 : decode cX10_findRow 105 = .ok (.iload 4, 2) := by decide +kernel
theorem dX10_findRow_107 : decode cX10_findRow 107 = .ok (.iload_n 2, 1) := by decide +kernel
theorem dX10_findRow_108 : decode cX10_findRow 108 = .ok (.iload 6, 2) := by decide +kernel
theorem dX10_findRow_110 : decode cX10_findRow 110 = .ok (.isub, 1) := by decide +kernel
theorem dX10_findRow_111 : decode cX10_findRow 111 = .ok (.iconst 1, 1) := by decide +kernel
theorem dX10_findRow_112 : decode cX10_findRow 112 = .ok (.isub, 1) := by decide +kernel
theorem dX10_findRow_113 : decode cX10_findRow 113 = .ok (.idiv, 1) := by decide +kernel
theorem dX10_findRow_114 : decode cX10_findRow 114 = .ok (.goto 4, 3) := by decide +kernel
theorem dX10_findRow_117 : decode cX10_findRow 117 = .ok (.iconst 1, 1) := by decide +kernel
theorem dX10_findRow_118 : decode cX10_findRow 118 = .ok (.istore 4, 2) := by decide +kernel
theorem dX10_findRow_120 : decode cX10_findRow 120 = .ok (.iinc 6 1, 3) := by decide +kernel
theorem dX10_findRow_123 : decode cX10_findRow 123 = .ok (.goto (-107), 3) := by decide +kernel
theorem dX10_findRow_126 : decode cX10_findRow 126 = .ok (.return_, 1) := by decide +kernel
set_option maxRecDepth 20000 in
theorem ggX10_findAsked_X10_keep : GoodIn wsX10_findAsked wsX10_keep := goodIn_r _ [7, 8, 9, 2, 10, 11, 20, 21, 22, 23, 24, 25, 26, 27, 28, 29, 30, 31, 32, 33, 34, 35, 36, 37, 38, 39, 40, 41, 42, 43, 44, 45, 46, 47, 48, 49, 50, 51] (by decide +kernel) (by decide +kernel)
set_option maxRecDepth 20000 in
theorem gX10_findAsked_X10_keep : GoodIn wsX10_findAsked (wsV RX10 164 RX10 yX10_keep wsX10_keep) := goodIn_app (goodIn_of _ (by decide +kernel)) ggX10_findAsked_X10_keep
set_option maxRecDepth 20000 in
theorem ggX10_findAsked_X10_firstOf : GoodIn wsX10_findAsked wsX10_firstOf := goodIn_r _ [15, 8, 2, 20, 21, 22, 23, 24, 25, 26, 27, 28, 29, 30, 31, 32, 33, 34, 35, 36, 37, 38, 39, 40, 41, 42, 43, 44, 45, 46, 47, 48, 49, 50, 51] (by decide +kernel) (by decide +kernel)
set_option maxRecDepth 20000 in
theorem gX10_findAsked_X10_firstOf : GoodIn wsX10_findAsked (wsV RX10 145 RX10 yX10_firstOf wsX10_firstOf) := goodIn_app (goodIn_of _ (by decide +kernel)) ggX10_findAsked_X10_firstOf
set_option maxRecDepth 20000 in
theorem ggX10_findAsked_X10_putBack : GoodIn wsX10_findAsked wsX10_putBack := goodIn_r _ [19, 8, 2, 9, 11, 10, 20, 21, 22, 23, 24, 25, 26, 27, 28, 29, 30, 31, 32, 33, 34, 35, 36, 37, 38, 39, 40, 41, 42, 43, 44, 45, 46, 47, 48, 49, 50, 51] (by decide +kernel) (by decide +kernel)
set_option maxRecDepth 20000 in
theorem gX10_findAsked_X10_putBack : GoodIn wsX10_findAsked (wsV RX10 173 RX10 yX10_putBack wsX10_putBack) := goodIn_app (goodIn_of _ (by decide +kernel)) ggX10_findAsked_X10_putBack
theorem dX10_findAsked_0 : decode cX10_findAsked 0 = .ok (.aload_n 0, 1) := by decide +kernel
theorem dX10_findAsked_1 : decode cX10_findAsked 1 = .ok (.invokevirtual 164, 3) := by decide +kernel
theorem dX10_findAsked_4 : decode cX10_findAsked 4 = .ok (.iconst 0, 1) := by decide +kernel
theorem dX10_findAsked_5 : decode cX10_findAsked 5 = .ok (.istore_n 2, 1) := by decide +kernel
theorem dX10_findAsked_6 : decode cX10_findAsked 6 = .ok (.iload_n 2, 1) := by decide +kernel
theorem dX10_findAsked_7 : decode cX10_findAsked 7 = .ok (.iload_n 1, 1) := by decide +kernel
theorem dX10_findAsked_8 : decode cX10_findAsked 8 = .ok (.if_icmp .ge 34, 3) := by decide +kernel
theorem dX10_findAsked_11 : decode cX10_findAsked 11 = .ok (.aload_n 0, 1) := by decide +kernel
theorem dX10_findAsked_12 : decode cX10_findAsked 12 = .ok (.getfield 49, 3) := by decide +kernel
theorem dX10_findAsked_15 : decode cX10_findAsked 15 = .ok (.iload_n 2, 1) := by decide +kernel
theorem dX10_findAsked_16 : decode cX10_findAsked 16 = .ok (.aload_n 0, 1) := by decide +kernel
theorem dX10_findAsked_17 : decode cX10_findAsked 17 = .ok (.invokevirtual 145, 3) := by decide +kernel
theorem dX10_findAsked_20 : decode cX10_findAsked 20 = .ok (.iastore, 1) := by decide +kernel
theorem dX10_findAsked_21 : decode cX10_findAsked 21 = .ok (.aload_n 0, 1) := by decide +kernel
theorem dX10_findAsked_22 : decode cX10_findAsked 22 = .ok (.getfield 25, 3) := by decide +kernel
theorem dX10_findAsked_25 : decode cX10_findAsked 25 = .ok (.aload_n 0, 1) := by decide +kernel
theorem dX10_findAsked_26 : decode cX10_findAsked 26 = .ok (.getfield 49, 3) := by decide +kernel
theorem dX10_findAsked_29 : decode cX10_findAsked 29 = .ok (.iload_n 2, 1) := by decide +kernel
theorem dX10_findAsked_30 : decode cX10_findAsked 30 = .ok (.iaload, 1) := by decide +kernel
theorem dX10_findAsked_31 : decode cX10_findAsked 31 = .ok (.dup2, 1) := by decide +kernel
theorem dX10_findAsked_32 : decode cX10_findAsked 32 = .ok (.iaload, 1) := by decide +kernel
theorem dX10_findAsked_33 : decode cX10_findAsked 33 = .ok (.iconst 1, 1) := by decide +kernel
theorem dX10_findAsked_34 : decode cX10_findAsked 34 = .ok (.iadd, 1) := by decide +kernel
theorem dX10_findAsked_35 : decode cX10_findAsked 35 = .ok (.iastore, 1) := by decide +kernel
theorem dX10_findAsked_36 : decode cX10_findAsked 36 = .ok (.iinc 2 1, 3) := by decide +kernel
theorem dX10_findAsked_39 : decode cX10_findAsked 39 = .ok (.goto (-33), 3) := by decide +kernel
theorem dX10_findAsked_42 : decode cX10_findAsked 42 = .ok (.aload_n 0, 1) := by decide +kernel
theorem dX10_findAsked_43 : decode cX10_findAsked 43 = .ok (.invokevirtual 173, 3) := by decide +kernel
theorem dX10_findAsked_46 : decode cX10_findAsked 46 = .ok (.return_, 1) := by decide +kernel
set_option maxRecDepth 20000 in
theorem ggX10_broughtByRow_X10_bringsOf : GoodIn wsX10_broughtByRow wsX10_bringsOf := goodIn_r _ [8, 9, 10, 11, 12, 7, 13, 14, 15, 16, 17, 18, 19, 20, 21, 22, 23, 24, 25, 26, 27, 28, 29, 30, 31, 32, 33, 34, 35, 36, 37, 38, 39, 40, 41, 42, 43, 44, 45, 46, 47, 48, 49, 50, 51] (by decide +kernel) (by decide +kernel)
set_option maxRecDepth 20000 in
theorem gX10_broughtByRow_X10_bringsOf : GoodIn wsX10_broughtByRow (wsV RX10 142 RX10 yX10_bringsOf wsX10_bringsOf) := goodIn_app (goodIn_of _ (by decide +kernel)) ggX10_broughtByRow_X10_bringsOf
theorem dX10_broughtByRow_0 : decode cX10_broughtByRow 0 = .ok (.iconst 0, 1) := by decide +kernel
theorem dX10_broughtByRow_1 : decode cX10_broughtByRow 1 = .ok (.istore_n 3, 1) := by decide +kernel
theorem dX10_broughtByRow_2 : decode cX10_broughtByRow 2 = .ok (.iconst 0, 1) := by decide +kernel
theorem dX10_broughtByRow_3 : decode cX10_broughtByRow 3 = .ok (.istore 4, 2) := by decide +kernel
theorem dX10_broughtByRow_5 : decode cX10_broughtByRow 5 = .ok (.iload 4, 2) := by decide +kernel
theorem dX10_broughtByRow_7 : decode cX10_broughtByRow 7 = .ok (.iload_n 2, 1) := by decide +kernel
theorem dX10_broughtByRow_8 : decode cX10_broughtByRow 8 = .ok (.if_icmp .ge 37, 3) := by decide +kernel
theorem dX10_broughtByRow_11 : decode cX10_broughtByRow 11 = .ok (.iload_n 3, 1) := by decide +kernel
theorem dX10_broughtByRow_12 : decode cX10_broughtByRow 12 = .ok (.aload_n 0, 1) := by decide +kernel
theorem dX10_broughtByRow_13 : decode cX10_broughtByRow 13 = .ok (.aload_n 0, 1) := by decide +kernel
theorem dX10_broughtByRow_14 : decode cX10_broughtByRow 14 = .ok (.getfield 49, 3) := by decide +kernel
theorem dX10_broughtByRow_17 : decode cX10_broughtByRow 17 = .ok (.iload 4, 2) := by decide +kernel
theorem dX10_broughtByRow_19 : decode cX10_broughtByRow 19 = .ok (.iaload, 1) := by decide +kernel
theorem dX10_broughtByRow_20 : decode cX10_broughtByRow 20 = .ok (.aload_n 0, 1) := by decide +kernel
theorem dX10_broughtByRow_21 : decode cX10_broughtByRow 21 = .ok (.getfield 16, 3) := by decide +kernel
theorem dX10_broughtByRow_24 : decode cX10_broughtByRow 24 = .ok (.iload_n 1, 1) := by decide +kernel
theorem dX10_broughtByRow_25 : decode cX10_broughtByRow 25 = .ok (.aload_n 0, 1) := by decide +kernel
theorem dX10_broughtByRow_26 : decode cX10_broughtByRow 26 = .ok (.getfield 46, 3) := by decide +kernel
theorem dX10_broughtByRow_29 : decode cX10_broughtByRow 29 = .ok (.iload 4, 2) := by decide +kernel
theorem dX10_broughtByRow_31 : decode cX10_broughtByRow 31 = .ok (.iaload, 1) := by decide +kernel
theorem dX10_broughtByRow_32 : decode cX10_broughtByRow 32 = .ok (.iadd, 1) := by decide +kernel
theorem dX10_broughtByRow_33 : decode cX10_broughtByRow 33 = .ok (.iaload, 1) := by decide +kernel
theorem dX10_broughtByRow_34 : decode cX10_broughtByRow 34 = .ok (.invokevirtual 142, 3) := by decide +kernel
theorem dX10_broughtByRow_37 : decode cX10_broughtByRow 37 = .ok (.iadd, 1) := by decide +kernel
theorem dX10_broughtByRow_38 : decode cX10_broughtByRow 38 = .ok (.istore_n 3, 1) := by decide +kernel
theorem dX10_broughtByRow_39 : decode cX10_broughtByRow 39 = .ok (.iinc 4 1, 3) := by decide +kernel
theorem dX10_broughtByRow_42 : decode cX10_broughtByRow 42 = .ok (.goto (-37), 3) := by decide +kernel
theorem dX10_broughtByRow_45 : decode cX10_broughtByRow 45 = .ok (.iload_n 3, 1) := by decide +kernel
theorem dX10_broughtByRow_46 : decode cX10_broughtByRow 46 = .ok (.ireturn, 1) := by decide +kernel
set_option maxRecDepth 20000 in
theorem ggX10_plan_X10_isSheet : GoodIn wsX10_plan wsX10_isSheet := goodIn_r _ [7, 8, 9, 6, 10] (by decide +kernel) (by decide +kernel)
set_option maxRecDepth 20000 in
theorem gX10_plan_X10_isSheet : GoodIn wsX10_plan (va_wsS RX10 83 yX10_isSheet wsX10_isSheet) := goodIn_app (goodIn_of _ (by decide +kernel)) ggX10_plan_X10_isSheet
set_option maxRecDepth 20000 in
theorem ggX10_plan_X10_isSort : GoodIn wsX10_plan wsX10_isSort := goodIn_r _ [13, 8, 9, 6, 10] (by decide +kernel) (by decide +kernel)
set_option maxRecDepth 20000 in
theorem gX10_plan_X10_isSort : GoodIn wsX10_plan (va_wsS RX10 87 yX10_isSort wsX10_isSort) := goodIn_app (goodIn_of _ (by decide +kernel)) ggX10_plan_X10_isSort
set_option maxRecDepth 20000 in
theorem ggX10_plan_X10_within : GoodIn wsX10_plan wsX10_within := goodIn_r _ [10] (by decide +kernel) (by decide +kernel)
set_option maxRecDepth 20000 in
theorem gX10_plan_X10_within : GoodIn wsX10_plan (va_wsS RX10 73 yX10_within wsX10_within) := goodIn_app (goodIn_of _ (by decide +kernel)) ggX10_plan_X10_within
set_option maxRecDepth 20000 in
theorem ggX10_plan_X10_against : GoodIn wsX10_plan wsX10_against := goodIn_r _ [17, 18, 19, 79, 80, 81, 82, 83, 84, 85, 86, 87, 88, 89, 90, 91, 92, 93, 94, 95, 96, 97, 98, 99, 100, 101, 102, 103, 104, 105, 106, 107, 108, 109, 110] (by decide +kernel) (by decide +kernel)
set_option maxRecDepth 20000 in
theorem gX10_plan_X10_against : GoodIn wsX10_plan (wsV RX10 90 RX10 yX10_against wsX10_against) := goodIn_app (goodIn_of _ (by decide +kernel)) ggX10_plan_X10_against
set_option maxRecDepth 20000 in
theorem ggX10_plan_X10_fails : GoodIn wsX10_plan wsX10_fails := goodIn_r _ [23, 1, 79, 80, 81, 82, 83, 84, 85, 86, 87, 88, 89, 90, 91, 92, 93, 94, 95, 96, 97, 98, 99, 100, 101, 102, 103, 104, 105, 106, 107, 108, 109, 110] (by decide +kernel) (by decide +kernel)
set_option maxRecDepth 20000 in
theorem gX10_plan_X10_fails : GoodIn wsX10_plan (wsV RX10 94 RX10 yX10_fails wsX10_fails) := goodIn_app (goodIn_of _ (by decide +kernel)) ggX10_plan_X10_fails
set_option maxRecDepth 20000 in
theorem ggX10_plan_X10_isMatter : GoodIn wsX10_plan wsX10_isMatter := goodIn_r _ [27, 2, 79, 80, 81, 82, 83, 84, 85, 86, 87, 88, 89, 90, 91, 92, 93, 94, 95, 96, 97, 98, 99, 100, 101, 102, 103, 104, 105, 106, 107, 108, 109, 110] (by decide +kernel) (by decide +kernel)
set_option maxRecDepth 20000 in
theorem gX10_plan_X10_isMatter : GoodIn wsX10_plan (wsV RX10 139 RX10 yX10_isMatter wsX10_isMatter) := goodIn_app (goodIn_of _ (by decide +kernel)) ggX10_plan_X10_isMatter
set_option maxRecDepth 20000 in
theorem ggX10_plan_X10_planOf : GoodIn wsX10_plan wsX10_planOf := goodIn_r _ [31, 32, 33, 34, 35, 6, 36, 37, 38, 39, 40, 41, 42, 2, 43, 44, 45, 46, 47, 48, 49, 50, 51, 52, 53, 54, 55, 56, 57, 58, 59, 60, 61, 62, 63, 64, 65, 66, 67, 3, 68, 69, 70, 71, 72, 73, 74, 75, 76, 77, 78, 79, 80, 81, 82, 83, 84, 85, 86, 87, 88, 89, 90, 91, 92, 93, 94, 95, 96, 97, 98, 99, 100, 101, 102, 103, 104, 105, 106, 107, 108, 109, 110] (by decide +kernel) (by decide +kernel)
set_option maxRecDepth 20000 in
theorem gX10_plan_X10_planOf : GoodIn wsX10_plan (wsV RX10 179 RX10 yX10_planOf wsX10_planOf) := goodIn_app (goodIn_of _ (by decide +kernel)) ggX10_plan_X10_planOf
theorem dX10_plan_0 : decode cX10_plan 0 = .ok (.aload_n 0, 1) := by decide +kernel
theorem dX10_plan_1 : decode cX10_plan 1 = .ok (.iconst 0, 1) := by decide +kernel
theorem dX10_plan_2 : decode cX10_plan 2 = .ok (.putfield 67, 3) := by decide +kernel
theorem dX10_plan_5 : decode cX10_plan 5 = .ok (.iload_n 1, 1) := by decide +kernel
theorem dX10_plan_6 : decode cX10_plan 6 = .ok (.invokestatic 83, 3) := by decide +kernel
theorem dX10_plan_9 : decode cX10_plan 9 = .ok (.ifCond .ne 5, 3) := by decide +kernel
theorem dX10_plan_12 : decode cX10_plan 12 = .ok (.iconst (-1), 1) := by decide +kernel
theorem dX10_plan_13 : decode cX10_plan 13 = .ok (.ireturn, 1) := by decide +kernel
theorem dX10_plan_14 : decode cX10_plan 14 = .ok (.iload_n 2, 1) := by decide +kernel
theorem dX10_plan_15 : decode cX10_plan 15 = .ok (.invokestatic 87, 3) := by decide +kernel
theorem dX10_plan_18 : decode cX10_plan 18 = .ok (.ifCond .eq 25, 3) := by decide +kernel
theorem dX10_plan_21 : decode cX10_plan 21 = .ok (.iload 4, 2) := by decide +kernel
theorem dX10_plan_23 : decode cX10_plan 23 = .ok (.iconst 0, 1) := by decide +kernel
theorem dX10_plan_24 : decode cX10_plan 24 = .ok (.bipush 7, 2) := by decide +kernel
theorem dX10_plan_26 : decode cX10_plan 26 = .ok (.invokestatic 73, 3) := by decide +kernel
theorem dX10_plan_29 : decode cX10_plan 29 = .ok (.ifCond .eq 14, 3) := by decide +kernel
theorem dX10_plan_32 : decode cX10_plan 32 = .ok (.iload 5, 2) := by decide +kernel
theorem dX10_plan_34 : decode cX10_plan 34 = .ok (.iconst (-1), 1) := by decide +kernel
theorem dX10_plan_35 : decode cX10_plan 35 = .ok (.bipush 6, 2) := by decide +kernel
theorem dX10_plan_37 : decode cX10_plan 37 = .ok (.invokestatic 73, 3) := by decide +kernel
theorem dX10_plan_40 : decode cX10_plan 40 = .ok (.ifCond .ne 6, 3) := by decide +kernel
theorem dX10_plan_43 : decode cX10_plan 43 = .ok (.bipush (-2), 2) := by decide +kernel
theorem dX10_plan_45 : decode cX10_plan 45 = .ok (.ireturn, 1) := by decide +kernel
theorem dX10_plan_46 : decode cX10_plan 46 = .ok (.aload_n 0, 1) := by decide +kernel
theorem dX10_plan_47 : decode cX10_plan 47 = .ok (.iload_n 1, 1) := by decide +kernel
theorem dX10_plan_48 : decode cX10_plan 48 = .ok (.iload_n 2, 1) := by decide +kernel
theorem dX10_plan_49 : decode cX10_plan 49 = .ok (.iload_n 3, 1) := by decide +kernel
theorem dX10_plan_50 : decode cX10_plan 50 = .ok (.iload 4, 2) := by decide +kernel
theorem dX10_plan_52 : decode cX10_plan 52 = .ok (.invokevirtual 90, 3) := by decide +kernel
theorem dX10_plan_55 : decode cX10_plan 55 = .ok (.istore 6, 2) := by decide +kernel
theorem dX10_plan_57 : decode cX10_plan 57 = .ok (.iload 6, 2) := by decide +kernel
theorem dX10_plan_59 : decode cX10_plan 59 = .ok (.ifCond .eq 10, 3) := by decide +kernel
theorem dX10_plan_62 : decode cX10_plan 62 = .ok (.aload_n 0, 1) := by decide +kernel
theorem dX10_plan_63 : decode cX10_plan 63 = .ok (.iload 6, 2) := by decide +kernel
theorem dX10_plan_65 : decode cX10_plan 65 = .ok (.invokevirtual 94, 3) := by decide +kernel
theorem dX10_plan_68 : decode cX10_plan 68 = .ok (.ireturn, 1) := by decide +kernel
theorem dX10_plan_69 : decode cX10_plan 69 = .ok (.aload_n 0, 1) := by decide +kernel
theorem dX10_plan_70 : decode cX10_plan 70 = .ok (.getfield 77, 3) := by decide +kernel
theorem dX10_plan_73 : decode cX10_plan 73 = .ok (.ifCond .ne 6, 3) := by decide +kernel
theorem dX10_plan_76 : decode cX10_plan 76 = .ok (.bipush (-3), 2) := by decide +kernel
theorem dX10_plan_78 : decode cX10_plan 78 = .ok (.ireturn, 1) := by decide +kernel
theorem dX10_plan_79 : decode cX10_plan 79 = .ok (.bipush 60, 2) := by decide +kernel
theorem dX10_plan_81 : decode cX10_plan 81 = .ok (.iload_n 1, 1) := by decide +kernel
theorem dX10_plan_82 : decode cX10_plan 82 = .ok (.imul, 1) := by decide +kernel
theorem dX10_plan_83 : decode cX10_plan 83 = .ok (.iload_n 3, 1) := by decide +kernel
theorem dX10_plan_84 : decode cX10_plan 84 = .ok (.iadd, 1) := by decide +kernel
theorem dX10_plan_85 : decode cX10_plan 85 = .ok (.istore 7, 2) := by decide +kernel
theorem dX10_plan_87 : decode cX10_plan 87 = .ok (.iconst 0, 1) := by decide +kernel
theorem dX10_plan_88 : decode cX10_plan 88 = .ok (.istore 8, 2) := by decide +kernel
theorem dX10_plan_90 : decode cX10_plan 90 = .ok (.iload 8, 2) := by decide +kernel
theorem dX10_plan_92 : decode cX10_plan 92 = .ok (.iload 4, 2) := by decide +kernel
theorem dX10_plan_94 : decode cX10_plan 94 = .ok (.if_icmp .ge 28, 3) := by decide +kernel
theorem dX10_plan_97 : decode cX10_plan 97 = .ok (.aload_n 0, 1) := by decide +kernel
theorem dX10_plan_98 : decode cX10_plan 98 = .ok (.aload_n 0, 1) := by decide +kernel
theorem dX10_plan_99 : decode cX10_plan 99 = .ok (.getfield 16, 3) := by decide +kernel
theorem dX10_plan_102 : decode cX10_plan 102 = .ok (.iload 7, 2) := by decide +kernel
theorem dX10_plan_104 : decode cX10_plan 104 = .ok (.iload 8, 2) := by decide +kernel
theorem dX10_plan_106 : decode cX10_plan 106 = .ok (.iadd, 1) := by decide +kernel
theorem dX10_plan_107 : decode cX10_plan 107 = .ok (.iaload, 1) := by decide +kernel
theorem dX10_plan_108 : decode cX10_plan 108 = .ok (.invokevirtual 139, 3) := by decide +kernel
theorem dX10_plan_111 : decode cX10_plan 111 = .ok (.ifCond .ne 5, 3) := by decide +kernel
theorem dX10_plan_114 : decode cX10_plan 114 = .ok (.iconst (-1), 1) := by decide +kernel
theorem dX10_plan_115 : decode cX10_plan 115 = .ok (.ireturn, 1) := by decide +kernel
theorem dX10_plan_116 : decode cX10_plan 116 = .ok (.iinc 8 1, 3) := by decide +kernel
theorem dX10_plan_119 : decode cX10_plan 119 = .ok (.goto (-29), 3) := by decide +kernel
theorem dX10_plan_122 : decode cX10_plan 122 = .ok (.aload_n 0, 1) := by decide +kernel
theorem dX10_plan_123 : decode cX10_plan 123 = .ok (.iload 7, 2) := by decide +kernel
theorem dX10_plan_125 : decode cX10_plan 125 = .ok (.iload 4, 2) := by decide +kernel
theorem dX10_plan_127 : decode cX10_plan 127 = .ok (.iload 5, 2) := by decide +kernel
theorem dX10_plan_129 : decode cX10_plan 129 = .ok (.invokevirtual 179, 3) := by decide +kernel
theorem dX10_plan_132 : decode cX10_plan 132 = .ok (.ireturn, 1) := by decide +kernel
set_option maxRecDepth 20000 in
theorem ggX10_planOf_X10_findAsked : GoodIn wsX10_planOf wsX10_findAsked := goodIn_r _ [6, 7, 8, 9, 10, 11, 5, 12, 13, 14, 15, 16, 17, 18, 19, 20, 21, 22, 23, 24, 51, 52, 53, 54, 55, 56, 57, 58, 59, 60, 61, 62, 63, 64, 65, 66, 67, 68, 69, 70, 71, 72, 73, 74, 75, 76, 77, 78, 79, 80, 81, 82] (by decide +kernel) (by decide +kernel)
set_option maxRecDepth 20000 in
theorem gX10_planOf_X10_findAsked : GoodIn wsX10_planOf (wsV RX10 183 RX10 yX10_findAsked wsX10_findAsked) := goodIn_app (goodIn_of _ (by decide +kernel)) ggX10_planOf_X10_findAsked
set_option maxRecDepth 20000 in
theorem ggX10_planOf_X10_ordersOf : GoodIn wsX10_planOf wsX10_ordersOf := goodIn_r _ [27] (by decide +kernel) (by decide +kernel)
set_option maxRecDepth 20000 in
theorem gX10_planOf_X10_ordersOf : GoodIn wsX10_planOf (va_wsS RX10 176 yX10_ordersOf wsX10_ordersOf) := goodIn_app (goodIn_of _ (by decide +kernel)) ggX10_planOf_X10_ordersOf
set_option maxRecDepth 20000 in
theorem ggX10_planOf_X10_findRow : GoodIn wsX10_planOf wsX10_findRow := goodIn_r _ [31, 1, 25, 26, 5, 27, 32, 33, 34, 51, 52, 53, 54, 55, 56, 57, 58, 59, 60, 61, 62, 63, 64, 65, 66, 67, 68, 69, 70, 71, 72, 73, 74, 75, 76, 77, 78, 79, 80, 81, 82] (by decide +kernel) (by decide +kernel)
set_option maxRecDepth 20000 in
theorem gX10_planOf_X10_findRow : GoodIn wsX10_planOf (wsV RX10 187 RX10 yX10_findRow wsX10_findRow) := goodIn_app (goodIn_of _ (by decide +kernel)) ggX10_planOf_X10_findRow
set_option maxRecDepth 20000 in
theorem ggX10_planOf_X10_broughtByRow : GoodIn wsX10_planOf wsX10_broughtByRow := goodIn_r _ [38, 7, 39, 1, 40, 41, 42, 5, 43, 16, 44, 32, 33, 34, 45, 46, 47, 48, 49, 50, 51, 52, 53, 54, 55, 56, 57, 58, 59, 60, 61, 62, 63, 64, 65, 66, 67, 68, 69, 70, 71, 72, 73, 74, 75, 76, 77, 78, 79, 80, 81, 82] (by decide +kernel) (by decide +kernel)
set_option maxRecDepth 20000 in
theorem gX10_planOf_X10_broughtByRow : GoodIn wsX10_planOf (wsV RX10 191 RX10 yX10_broughtByRow wsX10_broughtByRow) := goodIn_app (goodIn_of _ (by decide +kernel)) ggX10_planOf_X10_broughtByRow
theorem dX10_planOf_0 : decode cX10_planOf 0 = .ok (.aload_n 0, 1) := by decide +kernel
theorem dX10_planOf_1 : decode cX10_planOf 1 = .ok (.iload_n 2, 1) := by decide +kernel
theorem dX10_planOf_2 : decode cX10_planOf 2 = .ok (.invokevirtual 183, 3) := by decide +kernel
theorem dX10_planOf_5 : decode cX10_planOf 5 = .ok (.bipush (-9), 2) := by decide +kernel
theorem dX10_planOf_7 : decode cX10_planOf 7 = .ok (.istore 4, 2) := by decide +kernel
theorem dX10_planOf_9 : decode cX10_planOf 9 = .ok (.iconst 0, 1) := by decide +kernel
theorem dX10_planOf_10 : decode cX10_planOf 10 = .ok (.istore 5, 2) := by decide +kernel
theorem dX10_planOf_12 : decode cX10_planOf 12 = .ok (.iconst 0, 1) := by decide +kernel
theorem dX10_planOf_13 : decode cX10_planOf 13 = .ok (.istore 6, 2) := by decide +kernel
theorem dX10_planOf_15 : decode cX10_planOf 15 = .ok (.iload 6, 2) := by decide +kernel
theorem dX10_planOf_17 : decode cX10_planOf 17 = .ok (.iload_n 2, 1) := by decide +kernel
theorem dX10_planOf_18 : decode cX10_planOf 18 = .ok (.invokestatic 176, 3) := by decide +kernel
theorem dX10_planOf_21 : decode cX10_planOf 21 = .ok (.if_icmp .ge 46, 3) := by decide +kernel
theorem dX10_planOf_24 : decode cX10_planOf 24 = .ok (.aload_n 0, 1) := by decide +kernel
theorem dX10_planOf_25 : decode cX10_planOf 25 = .ok (.iload 6, 2) := by decide +kernel
theorem dX10_planOf_27 : decode cX10_planOf 27 = .ok (.iload_n 2, 1) := by decide +kernel
theorem dX10_planOf_28 : decode cX10_planOf 28 = .ok (.invokevirtual 187, 3) := by decide +kernel
theorem dX10_planOf_31 : decode cX10_planOf 31 = .ok (.aload_n 0, 1) := by decide +kernel
theorem dX10_planOf_32 : decode cX10_planOf 32 = .ok (.iload_n 1, 1) := by decide +kernel
theorem dX10_planOf_33 : decode cX10_planOf 33 = .ok (.iload_n 2, 1) := by decide +kernel
theorem dX10_planOf_34 : decode cX10_planOf 34 = .ok (.invokevirtual 191, 3) := by decide +kernel
theorem dX10_planOf_37 : decode cX10_planOf 37 = .ok (.istore 7, 2) := by decide +kernel
theorem dX10_planOf_39 : decode cX10_planOf 39 = .ok (.iload 4, 2) := by decide +kernel
theorem dX10_planOf_41 : decode cX10_planOf 41 = .ok (.bipush (-9), 2) := by decide +kernel
theorem dX10_planOf_43 : decode cX10_planOf 43 = .ok (.if_icmp .eq 10, 3) := by decide +kernel
theorem dX10_planOf_46 : decode cX10_planOf 46 = .ok (.iload 7, 2) := by decide +kernel
theorem dX10_planOf_48 : decode cX10_planOf 48 = .ok (.iload 5, 2) := by decide +kernel
theorem dX10_planOf_50 : decode cX10_planOf 50 = .ok (.if_icmp .le 11, 3) := by decide +kernel
theorem dX10_planOf_53 : decode cX10_planOf 53 = .ok (.iload 6, 2) := by decide +kernel
theorem dX10_planOf_55 : decode cX10_planOf 55 = .ok (.istore 4, 2) := by decide +kernel
theorem dX10_planOf_57 : decode cX10_planOf 57 = .ok (.iload 7, 2) := by decide +kernel
theorem dX10_planOf_59 : decode cX10_planOf 59 = .ok (.istore 5, 2) := by decide +kernel
theorem dX10_planOf_61 : decode cX10_planOf 61 = .ok (.iinc 6 1, 3) := by decide +kernel
theorem dX10_planOf_64 : decode cX10_planOf 64 = .ok (.goto (-49), 3) := by decide +kernel
theorem dX10_planOf_67 : decode cX10_planOf 67 = .ok (.iload_n 3, 1) := by decide +kernel
theorem dX10_planOf_68 : decode cX10_planOf 68 = .ok (.iconst (-1), 1) := by decide +kernel
theorem dX10_planOf_69 : decode cX10_planOf 69 = .ok (.if_icmp .ne 6, 3) := by decide +kernel
theorem dX10_planOf_72 : decode cX10_planOf 72 = .ok (.iload 5, 2) := by decide +kernel
theorem dX10_planOf_74 : decode cX10_planOf 74 = .ok (.ireturn, 1) := by decide +kernel
theorem dX10_planOf_75 : decode cX10_planOf 75 = .ok (.aload_n 0, 1) := by decide +kernel
theorem dX10_planOf_76 : decode cX10_planOf 76 = .ok (.iload 4, 2) := by decide +kernel
theorem dX10_planOf_78 : decode cX10_planOf 78 = .ok (.iload_n 2, 1) := by decide +kernel
theorem dX10_planOf_79 : decode cX10_planOf 79 = .ok (.invokevirtual 187, 3) := by decide +kernel
theorem dX10_planOf_82 : decode cX10_planOf 82 = .ok (.iload_n 3, 1) := by decide +kernel
theorem dX10_planOf_83 : decode cX10_planOf 83 = .ok (.iload_n 2, 1) := by decide +kernel
theorem dX10_planOf_84 : decode cX10_planOf 84 = .ok (.if_icmp .ge 12, 3) := by decide +kernel
theorem dX10_planOf_87 : decode cX10_planOf 87 = .ok (.aload_n 0, 1) := by decide +kernel
theorem dX10_planOf_88 : decode cX10_planOf 88 = .ok (.getfield 46, 3) := by decide +kernel
theorem dX10_planOf_91 : decode cX10_planOf 91 = .ok (.iload_n 3, 1) := by decide +kernel
theorem dX10_planOf_92 : decode cX10_planOf 92 = .ok (.iaload, 1) := by decide +kernel
theorem dX10_planOf_93 : decode cX10_planOf 93 = .ok (.goto 5, 3) := by decide +kernel
theorem dX10_planOf_96 : decode cX10_planOf 96 = .ok (.bipush (-9), 2) := by decide +kernel
theorem dX10_planOf_98 : decode cX10_planOf 98 = .ok (.ireturn, 1) := by decide +kernel
theorem dX10_canGive_0 : decode cX10_canGive 0 = .ok (.iload_n 1, 1) := by decide +kernel
theorem dX10_canGive_1 : decode cX10_canGive 1 = .ok (.istore_n 2, 1) := by decide +kernel
theorem dX10_canGive_2 : decode cX10_canGive 2 = .ok (.iconst 2, 1) := by decide +kernel
theorem dX10_canGive_3 : decode cX10_canGive 3 = .ok (.istore_n 3, 1) := by decide +kernel
theorem dX10_canGive_4 : decode cX10_canGive 4 = .ok (.iload_n 3, 1) := by decide +kernel
theorem dX10_canGive_5 : decode cX10_canGive 5 = .ok (.ifCond .lt 32, 3) := by decide +kernel
theorem dX10_canGive_8 : decode cX10_canGive 8 = .ok (.aload_n 0, 1) := by decide +kernel
theorem dX10_canGive_9 : decode cX10_canGive 9 = .ok (.getfield 52, 3) := by decide +kernel
theorem dX10_canGive_12 : decode cX10_canGive 12 = .ok (.iload_n 3, 1) := by decide +kernel
theorem dX10_canGive_13 : decode cX10_canGive 13 = .ok (.iload_n 2, 1) := by decide +kernel
theorem dX10_canGive_14 : decode cX10_canGive 14 = .ok (.aload_n 0, 1) := by decide +kernel
theorem dX10_canGive_15 : decode cX10_canGive 15 = .ok (.getfield 77, 3) := by decide +kernel
theorem dX10_canGive_18 : decode cX10_canGive 18 = .ok (.iconst 1, 1) := by decide +kernel
theorem dX10_canGive_19 : decode cX10_canGive 19 = .ok (.iadd, 1) := by decide +kernel
theorem dX10_canGive_20 : decode cX10_canGive 20 = .ok (.irem, 1) := by decide +kernel
theorem dX10_canGive_21 : decode cX10_canGive 21 = .ok (.iastore, 1) := by decide +kernel
theorem dX10_canGive_22 : decode cX10_canGive 22 = .ok (.iload_n 2, 1) := by decide +kernel
theorem dX10_canGive_23 : decode cX10_canGive 23 = .ok (.aload_n 0, 1) := by decide +kernel
theorem dX10_canGive_24 : decode cX10_canGive 24 = .ok (.getfield 77, 3) := by decide +kernel
theorem dX10_canGive_27 : decode cX10_canGive 27 = .ok (.iconst 1, 1) := by decide +kernel
theorem dX10_canGive_28 : decode cX10_canGive 28 = .ok (.iadd, 1) := by decide +kernel
theorem dX10_canGive_29 : decode cX10_canGive 29 = .ok (.idiv, 1) := by decide +kernel
theorem dX10_canGive_30 : decode cX10_canGive 30 = .ok (.istore_n 2, 1) := by decide +kernel
theorem dX10_canGive_31 : decode cX10_canGive 31 = .ok (.iinc 3 (-1), 3) := by decide +kernel
theorem dX10_canGive_34 : decode cX10_canGive 34 = .ok (.goto (-30), 3) := by decide +kernel
theorem dX10_canGive_37 : decode cX10_canGive 37 = .ok (.iconst 0, 1) := by decide +kernel
theorem dX10_canGive_38 : decode cX10_canGive 38 = .ok (.istore_n 3, 1) := by decide +kernel
theorem dX10_canGive_39 : decode cX10_canGive 39 = .ok (.iload_n 3, 1) := by decide +kernel
theorem dX10_canGive_40 : decode cX10_canGive 40 = .ok (.iconst 3, 1) := by decide +kernel
theorem dX10_canGive_41 : decode cX10_canGive 41 = .ok (.if_icmp .ge 55, 3) := by decide +kernel
theorem dX10_canGive_44 : decode cX10_canGive 44 = .ok (.iconst 0, 1) := by decide +kernel
theorem dX10_canGive_45 : decode cX10_canGive 45 = .ok (.istore 4, 2) := by decide +kernel
theorem dX10_canGive_47 : decode cX10_canGive 47 = .ok (.iload 4, 2) := by decide +kernel
theorem dX10_canGive_49 : decode cX10_canGive 49 = .ok (.iload_n 3, 1) := by decide +kernel
theorem dX10_canGive_50 : decode cX10_canGive 50 = .ok (.if_icmp .ge 40, 3) := by decide +kernel
theorem dX10_canGive_53 : decode cX10_canGive 53 = .ok (.aload_n 0, 1) := by decide +kernel
theorem dX10_canGive_54 : decode cX10_canGive 54 = .ok (.getfield 52, 3) := by decide +kernel
theorem dX10_canGive_57 : decode cX10_canGive 57 = .ok (.iload_n 3, 1) := by decide +kernel
theorem dX10_canGive_58 : decode cX10_canGive 58 = .ok (.iaload, 1) := by decide +kernel
theorem dX10_canGive_59 : decode cX10_canGive 59 = .ok (.aload_n 0, 1) := by decide +kernel
theorem dX10_canGive_60 : decode cX10_canGive 60 = .ok (.getfield 52, 3) := by decide +kernel
theorem dX10_canGive_63 : decode cX10_canGive 63 = .ok (.iload 4, 2) := by decide +kernel
theorem dX10_canGive_65 : decode cX10_canGive 65 = .ok (.iaload, 1) := by decide +kernel
theorem dX10_canGive_66 : decode cX10_canGive 66 = .ok (.if_icmp .ne 18, 3) := by decide +kernel
theorem dX10_canGive_69 : decode cX10_canGive 69 = .ok (.aload_n 0, 1) := by decide +kernel
theorem dX10_canGive_70 : decode cX10_canGive 70 = .ok (.getfield 52, 3) := by decide +kernel
theorem dX10_canGive_73 : decode cX10_canGive 73 = .ok (.iload_n 3, 1) := by decide +kernel
theorem dX10_canGive_74 : decode cX10_canGive 74 = .ok (.iaload, 1) := by decide +kernel
theorem dX10_canGive_75 : decode cX10_canGive 75 = .ok (.aload_n 0, 1) := by decide +kernel
theorem dX10_canGive_76 : decode cX10_canGive 76 = .ok (.getfield 77, 3) := by decide +kernel
theorem dX10_canGive_79 : decode cX10_canGive 79 = .ok (.if_icmp .ge 5, 3) := by decide +kernel
theorem dX10_canGive_82 : decode cX10_canGive 82 = .ok (.iconst 0, 1) := by decide +kernel
theorem dX10_canGive_83 : decode cX10_canGive 83 = .ok (.ireturn, 1) := by decide +kernel
theorem dX10_canGive_84 : decode cX10_canGive 84 = .ok (.iinc 4 1, 3) := by decide +kernel
theorem dX10_canGive_87 : decode cX10_canGive 87 = .ok (.goto (-40), 3) := by decide +kernel
theorem dX10_canGive_90 : decode cX10_canGive 90 = .ok (.iinc 3 1, 3) := by decide +kernel
theorem dX10_canGive_93 : decode cX10_canGive 93 = .ok (.goto (-54), 3) := by decide +kernel
theorem dX10_canGive_96 : decode cX10_canGive 96 = .ok (.iconst 1, 1) := by decide +kernel
theorem dX10_canGive_97 : decode cX10_canGive 97 = .ok (.ireturn, 1) := by decide +kernel
set_option maxRecDepth 20000 in
theorem ggX10_tryGiven_X10_bringsOf : GoodIn wsX10_tryGiven wsX10_bringsOf := goodIn_r _ [10, 11, 12, 13, 14, 9, 15, 16, 17, 18, 19, 20, 21, 22, 23, 24, 25, 26, 27, 28, 29, 30, 31, 32, 33, 34, 35, 36, 37, 38, 39, 40, 41, 42, 43, 44, 45, 46, 47, 48, 49, 50, 51, 52, 53] (by decide +kernel) (by decide +kernel)
set_option maxRecDepth 20000 in
theorem gX10_tryGiven_X10_bringsOf : GoodIn wsX10_tryGiven (wsV RX10 142 RX10 yX10_bringsOf wsX10_bringsOf) := goodIn_app (goodIn_of _ (by decide +kernel)) ggX10_tryGiven_X10_bringsOf
theorem dX10_tryGiven_0 : decode cX10_tryGiven 0 = .ok (.iconst 0, 1) := by decide +kernel
theorem dX10_tryGiven_1 : decode cX10_tryGiven 1 = .ok (.istore_n 1, 1) := by decide +kernel
theorem dX10_tryGiven_2 : decode cX10_tryGiven 2 = .ok (.iconst 0, 1) := by decide +kernel
theorem dX10_tryGiven_3 : decode cX10_tryGiven 3 = .ok (.istore_n 2, 1) := by decide +kernel
theorem dX10_tryGiven_4 : decode cX10_tryGiven 4 = .ok (.iconst 0, 1) := by decide +kernel
theorem dX10_tryGiven_5 : decode cX10_tryGiven 5 = .ok (.istore_n 3, 1) := by decide +kernel
theorem dX10_tryGiven_6 : decode cX10_tryGiven 6 = .ok (.iload_n 3, 1) := by decide +kernel
theorem dX10_tryGiven_7 : decode cX10_tryGiven 7 = .ok (.iconst 3, 1) := by decide +kernel
theorem dX10_tryGiven_8 : decode cX10_tryGiven 8 = .ok (.if_icmp .ge 61, 3) := by decide +kernel
theorem dX10_tryGiven_11 : decode cX10_tryGiven 11 = .ok (.iload_n 1, 1) := by decide +kernel
theorem dX10_tryGiven_12 : decode cX10_tryGiven 12 = .ok (.aload_n 0, 1) := by decide +kernel
theorem dX10_tryGiven_13 : decode cX10_tryGiven 13 = .ok (.getfield 52, 3) := by decide +kernel
theorem dX10_tryGiven_16 : decode cX10_tryGiven 16 = .ok (.iload_n 3, 1) := by decide +kernel
theorem dX10_tryGiven_17 : decode cX10_tryGiven 17 = .ok (.iaload, 1) := by decide +kernel
theorem dX10_tryGiven_18 : decode cX10_tryGiven 18 = .ok (.aload_n 0, 1) := by decide +kernel
theorem dX10_tryGiven_19 : decode cX10_tryGiven 19 = .ok (.getfield 77, 3) := by decide +kernel
theorem dX10_tryGiven_22 : decode cX10_tryGiven 22 = .ok (.if_icmp .ge 7, 3) := by decide +kernel
theorem dX10_tryGiven_25 : decode cX10_tryGiven 25 = .ok (.iconst 1, 1) := by decide +kernel
theorem dX10_tryGiven_26 : decode cX10_tryGiven 26 = .ok (.goto 4, 3) := by decide +kernel
theorem dX10_tryGiven_29 : decode cX10_tryGiven 29 = .ok (.iconst 0, 1) := by decide +kernel
theorem dX10_tryGiven_30 : decode cX10_tryGiven 30 = .ok (.iadd, 1) := by decide +kernel
theorem dX10_tryGiven_31 : decode cX10_tryGiven 31 = .ok (.istore_n 1, 1) := by decide +kernel
theorem dX10_tryGiven_32 : decode cX10_tryGiven 32 = .ok (.iload_n 2, 1) := by decide +kernel
theorem dX10_tryGiven_33 : decode cX10_tryGiven 33 = .ok (.aload_n 0, 1) := by decide +kernel
theorem dX10_tryGiven_34 : decode cX10_tryGiven 34 = .ok (.getfield 52, 3) := by decide +kernel
theorem dX10_tryGiven_37 : decode cX10_tryGiven 37 = .ok (.iload_n 3, 1) := by decide +kernel
theorem dX10_tryGiven_38 : decode cX10_tryGiven 38 = .ok (.iaload, 1) := by decide +kernel
theorem dX10_tryGiven_39 : decode cX10_tryGiven 39 = .ok (.aload_n 0, 1) := by decide +kernel
theorem dX10_tryGiven_40 : decode cX10_tryGiven 40 = .ok (.getfield 77, 3) := by decide +kernel
theorem dX10_tryGiven_43 : decode cX10_tryGiven 43 = .ok (.if_icmp .ge 17, 3) := by decide +kernel
theorem dX10_tryGiven_46 : decode cX10_tryGiven 46 = .ok (.aload_n 0, 1) := by decide +kernel
theorem dX10_tryGiven_47 : decode cX10_tryGiven 47 = .ok (.aload_n 0, 1) := by decide +kernel
theorem dX10_tryGiven_48 : decode cX10_tryGiven 48 = .ok (.getfield 52, 3) := by decide +kernel
theorem dX10_tryGiven_51 : decode cX10_tryGiven 51 = .ok (.iload_n 3, 1) := by decide +kernel
theorem dX10_tryGiven_52 : decode cX10_tryGiven 52 = .ok (.iaload, 1) := by decide +kernel
theorem dX10_tryGiven_53 : decode cX10_tryGiven 53 = .ok (.iload_n 3, 1) := by decide +kernel
theorem dX10_tryGiven_54 : decode cX10_tryGiven 54 = .ok (.invokevirtual 142, 3) := by decide +kernel
theorem dX10_tryGiven_57 : decode cX10_tryGiven 57 = .ok (.goto 4, 3) := by decide +kernel
theorem dX10_tryGiven_60 : decode cX10_tryGiven 60 = .ok (.iconst 0, 1) := by decide +kernel
theorem dX10_tryGiven_61 : decode cX10_tryGiven 61 = .ok (.iadd, 1) := by decide +kernel
theorem dX10_tryGiven_62 : decode cX10_tryGiven 62 = .ok (.istore_n 2, 1) := by decide +kernel
theorem dX10_tryGiven_63 : decode cX10_tryGiven 63 = .ok (.iinc 3 1, 3) := by decide +kernel
theorem dX10_tryGiven_66 : decode cX10_tryGiven 66 = .ok (.goto (-60), 3) := by decide +kernel
theorem dX10_tryGiven_69 : decode cX10_tryGiven 69 = .ok (.iload_n 1, 1) := by decide +kernel
theorem dX10_tryGiven_70 : decode cX10_tryGiven 70 = .ok (.aload_n 0, 1) := by decide +kernel
theorem dX10_tryGiven_71 : decode cX10_tryGiven 71 = .ok (.getfield 194, 3) := by decide +kernel
theorem dX10_tryGiven_74 : decode cX10_tryGiven 74 = .ok (.if_icmp .gt 19, 3) := by decide +kernel
theorem dX10_tryGiven_77 : decode cX10_tryGiven 77 = .ok (.iload_n 1, 1) := by decide +kernel
theorem dX10_tryGiven_78 : decode cX10_tryGiven 78 = .ok (.aload_n 0, 1) := by decide +kernel
theorem dX10_tryGiven_79 : decode cX10_tryGiven 79 = .ok (.getfield 194, 3) := by decide +kernel
theorem dX10_tryGiven_82 : decode cX10_tryGiven 82 = .ok (.if_icmp .ne 46, 3) := by decide +kernel
theorem dX10_tryGiven_85 : decode cX10_tryGiven 85 = .ok (.iload_n 2, 1) := by decide +kernel
theorem dX10_tryGiven_86 : decode cX10_tryGiven 86 = .ok (.aload_n 0, 1) := by decide +kernel
theorem dX10_tryGiven_87 : decode cX10_tryGiven 87 = .ok (.getfield 197, 3) := by decide +kernel
theorem dX10_tryGiven_90 : decode cX10_tryGiven 90 = .ok (.if_icmp .le 38, 3) := by decide +kernel
theorem dX10_tryGiven_93 : decode cX10_tryGiven 93 = .ok (.aload_n 0, 1) := by decide +kernel
theorem dX10_tryGiven_94 : decode cX10_tryGiven 94 = .ok (.iload_n 1, 1) := by decide +kernel
theorem dX10_tryGiven_95 : decode cX10_tryGiven 95 = .ok (.putfield 194, 3) := by decide +kernel
theorem dX10_tryGiven_98 : decode cX10_tryGiven 98 = .ok (.aload_n 0, 1) := by decide +kernel
theorem dX10_tryGiven_99 : decode cX10_tryGiven 99 = .ok (.iload_n 2, 1) := by decide +kernel
theorem dX10_tryGiven_100 : decode cX10_tryGiven 100 = .ok (.putfield 197, 3) := by decide +kernel
theorem dX10_tryGiven_103 : decode cX10_tryGiven 103 = .ok (.iconst 0, 1) := by decide +kernel
theorem dX10_tryGiven_104 : decode cX10_tryGiven 104 = .ok (.istore_n 3, 1) := by decide +kernel
theorem dX10_tryGiven_105 : decode cX10_tryGiven 105 = .ok (.iload_n 3, 1) := by decide +kernel
theorem dX10_tryGiven_106 : decode cX10_tryGiven 106 = .ok (.iconst 3, 1) := by decide +kernel
theorem dX10_tryGiven_107 : decode cX10_tryGiven 107 = .ok (.if_icmp .ge 21, 3) := by decide +kernel
theorem dX10_tryGiven_110 : decode cX10_tryGiven 110 = .ok (.aload_n 0, 1) := by decide +kernel
theorem dX10_tryGiven_111 : decode cX10_tryGiven 111 = .ok (.getfield 55, 3) := by decide +kernel
theorem dX10_tryGiven_114 : decode cX10_tryGiven 114 = .ok (.iload_n 3, 1) := by decide +kernel
theorem dX10_tryGiven_115 : decode cX10_tryGiven 115 = .ok (.aload_n 0, 1) := by decide +kernel
theorem dX10_tryGiven_116 : decode cX10_tryGiven 116 = .ok (.getfield 52, 3) := by decide +kernel
theorem dX10_tryGiven_119 : decode cX10_tryGiven 119 = .ok (.iload_n 3, 1) := by decide +kernel
theorem dX10_tryGiven_120 : decode cX10_tryGiven 120 = .ok (.iaload, 1) := by decide +kernel
theorem dX10_tryGiven_121 : decode cX10_tryGiven 121 = .ok (.iastore, 1) := by decide +kernel
theorem dX10_tryGiven_122 : decode cX10_tryGiven 122 = .ok (.iinc 3 1, 3) := by decide +kernel
theorem dX10_tryGiven_125 : decode cX10_tryGiven 125 = .ok (.goto (-20), 3) := by decide +kernel
theorem dX10_tryGiven_128 : decode cX10_tryGiven 128 = .ok (.return_, 1) := by decide +kernel
set_option maxRecDepth 20000 in
theorem ggX10_best_X10_within : GoodIn wsX10_best wsX10_within := goodIn_r _ [8] (by decide +kernel) (by decide +kernel)
set_option maxRecDepth 20000 in
theorem gX10_best_X10_within : GoodIn wsX10_best (va_wsS RX10 73 yX10_within wsX10_within) := goodIn_app (goodIn_of _ (by decide +kernel)) ggX10_best_X10_within
set_option maxRecDepth 20000 in
theorem ggX10_best_X10_canGive : GoodIn wsX10_best wsX10_canGive := goodIn_r _ [12, 13, 1, 33, 34, 35, 36, 37, 38, 39, 40, 41, 42, 43, 44, 45, 46, 47, 48, 49, 50, 51, 52, 53, 54, 55, 56, 57, 58, 59, 60, 61, 62, 63, 64] (by decide +kernel) (by decide +kernel)
set_option maxRecDepth 20000 in
theorem gX10_best_X10_canGive : GoodIn wsX10_best (wsV RX10 200 RX10 yX10_canGive wsX10_canGive) := goodIn_app (goodIn_of _ (by decide +kernel)) ggX10_best_X10_canGive
set_option maxRecDepth 20000 in
theorem ggX10_best_X10_tryGiven : GoodIn wsX10_best wsX10_tryGiven := goodIn_r _ [17, 13, 1, 2, 3, 4, 18, 19, 20, 7, 21, 22, 23, 24, 25, 26, 27, 28, 29, 30, 31, 32, 33, 34, 35, 36, 37, 38, 39, 40, 41, 42, 43, 44, 45, 46, 47, 48, 49, 50, 51, 52, 53, 54, 55, 56, 57, 58, 59, 60, 61, 62, 63, 64] (by decide +kernel) (by decide +kernel)
set_option maxRecDepth 20000 in
theorem gX10_best_X10_tryGiven : GoodIn wsX10_best (wsV RX10 203 RX10 yX10_tryGiven wsX10_tryGiven) := goodIn_app (goodIn_of _ (by decide +kernel)) ggX10_best_X10_tryGiven
theorem dX10_best_0 : decode cX10_best 0 = .ok (.iload_n 1, 1) := by decide +kernel
theorem dX10_best_1 : decode cX10_best 1 = .ok (.iconst (-1), 1) := by decide +kernel
theorem dX10_best_2 : decode cX10_best 2 = .ok (.iconst 2, 1) := by decide +kernel
theorem dX10_best_3 : decode cX10_best 3 = .ok (.invokestatic 73, 3) := by decide +kernel
theorem dX10_best_6 : decode cX10_best 6 = .ok (.ifCond .ne 6, 3) := by decide +kernel
theorem dX10_best_9 : decode cX10_best 9 = .ok (.bipush (-2), 2) := by decide +kernel
theorem dX10_best_11 : decode cX10_best 11 = .ok (.ireturn, 1) := by decide +kernel
theorem dX10_best_12 : decode cX10_best 12 = .ok (.aload_n 0, 1) := by decide +kernel
theorem dX10_best_13 : decode cX10_best 13 = .ok (.getfield 77, 3) := by decide +kernel
theorem dX10_best_16 : decode cX10_best 16 = .ok (.ifCond .ne 6, 3) := by decide +kernel
theorem dX10_best_19 : decode cX10_best 19 = .ok (.bipush (-3), 2) := by decide +kernel
theorem dX10_best_21 : decode cX10_best 21 = .ok (.ireturn, 1) := by decide +kernel
theorem dX10_best_22 : decode cX10_best 22 = .ok (.aload_n 0, 1) := by decide +kernel
theorem dX10_best_23 : decode cX10_best 23 = .ok (.bipush (-9), 2) := by decide +kernel
theorem dX10_best_25 : decode cX10_best 25 = .ok (.putfield 194, 3) := by decide +kernel
theorem dX10_best_28 : decode cX10_best 28 = .ok (.aload_n 0, 1) := by decide +kernel
theorem dX10_best_29 : decode cX10_best 29 = .ok (.iconst 0, 1) := by decide +kernel
theorem dX10_best_30 : decode cX10_best 30 = .ok (.putfield 197, 3) := by decide +kernel
theorem dX10_best_33 : decode cX10_best 33 = .ok (.aload_n 0, 1) := by decide +kernel
theorem dX10_best_34 : decode cX10_best 34 = .ok (.getfield 77, 3) := by decide +kernel
theorem dX10_best_37 : decode cX10_best 37 = .ok (.iconst 1, 1) := by decide +kernel
theorem dX10_best_38 : decode cX10_best 38 = .ok (.iadd, 1) := by decide +kernel
theorem dX10_best_39 : decode cX10_best 39 = .ok (.aload_n 0, 1) := by decide +kernel
theorem dX10_best_40 : decode cX10_best 40 = .ok (.getfield 77, 3) := by decide +kernel
theorem dX10_best_43 : decode cX10_best 43 = .ok (.iconst 1, 1) := by decide +kernel
theorem dX10_best_44 : decode cX10_best 44 = .ok (.iadd, 1) := by decide +kernel
theorem dX10_best_45 : decode cX10_best 45 = .ok (.imul, 1) := by decide +kernel
theorem dX10_best_46 : decode cX10_best 46 = .ok (.aload_n 0, 1) := by decide +kernel
theorem dX10_best_47 : decode cX10_best 47 = .ok (.getfield 77, 3) := by decide +kernel
theorem dX10_best_50 : decode cX10_best 50 = .ok (.iconst 1, 1) := by decide +kernel
theorem dX10_best_51 : decode cX10_best 51 = .ok (.iadd, 1) := by decide +kernel
theorem dX10_best_52 : decode cX10_best 52 = .ok (.imul, 1) := by decide +kernel
theorem dX10_best_53 : decode cX10_best 53 = .ok (.istore_n 2, 1) := by decide +kernel
theorem dX10_best_54 : decode cX10_best 54 = .ok (.iconst 0, 1) := by decide +kernel
theorem dX10_best_55 : decode cX10_best 55 = .ok (.istore_n 3, 1) := by decide +kernel
theorem dX10_best_56 : decode cX10_best 56 = .ok (.iload_n 3, 1) := by decide +kernel
theorem dX10_best_57 : decode cX10_best 57 = .ok (.iload_n 2, 1) := by decide +kernel
theorem dX10_best_58 : decode cX10_best 58 = .ok (.if_icmp .ge 21, 3) := by decide +kernel
theorem dX10_best_61 : decode cX10_best 61 = .ok (.aload_n 0, 1) := by decide +kernel
theorem dX10_best_62 : decode cX10_best 62 = .ok (.iload_n 3, 1) := by decide +kernel
theorem dX10_best_63 : decode cX10_best 63 = .ok (.invokevirtual 200, 3) := by decide +kernel
theorem dX10_best_66 : decode cX10_best 66 = .ok (.ifCond .eq 7, 3) := by decide +kernel
theorem dX10_best_69 : decode cX10_best 69 = .ok (.aload_n 0, 1) := by decide +kernel
theorem dX10_best_70 : decode cX10_best 70 = .ok (.invokevirtual 203, 3) := by decide +kernel
theorem dX10_best_73 : decode cX10_best 73 = .ok (.iinc 3 1, 3) := by decide +kernel
theorem dX10_best_76 : decode cX10_best 76 = .ok (.goto (-20), 3) := by decide +kernel
theorem dX10_best_79 : decode cX10_best 79 = .ok (.iload_n 1, 1) := by decide +kernel
theorem dX10_best_80 : decode cX10_best 80 = .ok (.iconst (-1), 1) := by decide +kernel
theorem dX10_best_81 : decode cX10_best 81 = .ok (.if_icmp .ne 8, 3) := by decide +kernel
theorem dX10_best_84 : decode cX10_best 84 = .ok (.aload_n 0, 1) := by decide +kernel
theorem dX10_best_85 : decode cX10_best 85 = .ok (.getfield 197, 3) := by decide +kernel
theorem dX10_best_88 : decode cX10_best 88 = .ok (.ireturn, 1) := by decide +kernel
theorem dX10_best_89 : decode cX10_best 89 = .ok (.aload_n 0, 1) := by decide +kernel
theorem dX10_best_90 : decode cX10_best 90 = .ok (.getfield 55, 3) := by decide +kernel
theorem dX10_best_93 : decode cX10_best 93 = .ok (.iload_n 1, 1) := by decide +kernel
theorem dX10_best_94 : decode cX10_best 94 = .ok (.iaload, 1) := by decide +kernel
theorem dX10_best_95 : decode cX10_best 95 = .ok (.aload_n 0, 1) := by decide +kernel
theorem dX10_best_96 : decode cX10_best 96 = .ok (.getfield 77, 3) := by decide +kernel
theorem dX10_best_99 : decode cX10_best 99 = .ok (.if_icmp .ge 12, 3) := by decide +kernel
theorem dX10_best_102 : decode cX10_best 102 = .ok (.aload_n 0, 1) := by decide +kernel
theorem dX10_best_103 : decode cX10_best 103 = .ok (.getfield 55, 3) := by decide +kernel
theorem dX10_best_106 : decode cX10_best 106 = .ok (.iload_n 1, 1) := by decide +kernel
theorem dX10_best_107 : decode cX10_best 107 = .ok (.iaload, 1) := by decide +kernel
theorem dX10_best_108 : decode cX10_best 108 = .ok (.goto 5, 3) := by decide +kernel
theorem dX10_best_111 : decode cX10_best 111 = .ok (.bipush (-9), 2) := by decide +kernel
theorem dX10_best_113 : decode cX10_best 113 = .ok (.ireturn, 1) := by decide +kernel
set_option maxRecDepth 20000 in
theorem ggX10_reading_X10_isPerson : GoodIn wsX10_reading wsX10_isPerson := goodIn_r _ [9, 10, 18, 19, 20, 21, 22, 23, 24, 25, 26, 27, 28, 29, 30, 31, 32, 33, 34, 35, 36, 37, 38, 39, 40, 41, 42, 43, 44, 45, 46, 47, 48, 49] (by decide +kernel) (by decide +kernel)
set_option maxRecDepth 20000 in
theorem gX10_reading_X10_isPerson : GoodIn wsX10_reading (wsV RX10 133 RX10 yX10_isPerson wsX10_isPerson) := goodIn_app (goodIn_of _ (by decide +kernel)) ggX10_reading_X10_isPerson
set_option maxRecDepth 20000 in
theorem ggX10_reading_X10_isMatter : GoodIn wsX10_reading wsX10_isMatter := goodIn_r _ [14, 10, 18, 19, 20, 21, 22, 23, 24, 25, 26, 27, 28, 29, 30, 31, 32, 33, 34, 35, 36, 37, 38, 39, 40, 41, 42, 43, 44, 45, 46, 47, 48, 49] (by decide +kernel) (by decide +kernel)
set_option maxRecDepth 20000 in
theorem gX10_reading_X10_isMatter : GoodIn wsX10_reading (wsV RX10 139 RX10 yX10_isMatter wsX10_isMatter) := goodIn_app (goodIn_of _ (by decide +kernel)) ggX10_reading_X10_isMatter
set_option maxRecDepth 20000 in
theorem ggX10_reading_X10_within : GoodIn wsX10_reading wsX10_within := goodIn_r _ [17] (by decide +kernel) (by decide +kernel)
set_option maxRecDepth 20000 in
theorem gX10_reading_X10_within : GoodIn wsX10_reading (va_wsS RX10 73 yX10_within wsX10_within) := goodIn_app (goodIn_of _ (by decide +kernel)) ggX10_reading_X10_within
theorem dX10_reading_0 : decode cX10_reading 0 = .ok (.aload_n 0, 1) := by decide +kernel
theorem dX10_reading_1 : decode cX10_reading 1 = .ok (.iload_n 1, 1) := by decide +kernel
theorem dX10_reading_2 : decode cX10_reading 2 = .ok (.invokevirtual 133, 3) := by decide +kernel
theorem dX10_reading_5 : decode cX10_reading 5 = .ok (.ifCond .eq 11, 3) := by decide +kernel
theorem dX10_reading_8 : decode cX10_reading 8 = .ok (.aload_n 0, 1) := by decide +kernel
theorem dX10_reading_9 : decode cX10_reading 9 = .ok (.iload_n 2, 1) := by decide +kernel
theorem dX10_reading_10 : decode cX10_reading 10 = .ok (.invokevirtual 139, 3) := by decide +kernel
theorem dX10_reading_13 : decode cX10_reading 13 = .ok (.ifCond .ne 5, 3) := by decide +kernel
theorem dX10_reading_16 : decode cX10_reading 16 = .ok (.iconst (-1), 1) := by decide +kernel
theorem dX10_reading_17 : decode cX10_reading 17 = .ok (.ireturn, 1) := by decide +kernel
theorem dX10_reading_18 : decode cX10_reading 18 = .ok (.iload_n 3, 1) := by decide +kernel
theorem dX10_reading_19 : decode cX10_reading 19 = .ok (.iconst 0, 1) := by decide +kernel
theorem dX10_reading_20 : decode cX10_reading 20 = .ok (.sipush 200, 3) := by decide +kernel
theorem dX10_reading_23 : decode cX10_reading 23 = .ok (.invokestatic 73, 3) := by decide +kernel
theorem dX10_reading_26 : decode cX10_reading 26 = .ok (.ifCond .ne 6, 3) := by decide +kernel
theorem dX10_reading_29 : decode cX10_reading 29 = .ok (.bipush (-2), 2) := by decide +kernel
theorem dX10_reading_31 : decode cX10_reading 31 = .ok (.ireturn, 1) := by decide +kernel
theorem dX10_reading_32 : decode cX10_reading 32 = .ok (.aload_n 0, 1) := by decide +kernel
theorem dX10_reading_33 : decode cX10_reading 33 = .ok (.getfield 113, 3) := by decide +kernel
theorem dX10_reading_36 : decode cX10_reading 36 = .ok (.bipush 8, 2) := by decide +kernel
theorem dX10_reading_38 : decode cX10_reading 38 = .ok (.if_icmp .ne 6, 3) := by decide +kernel
theorem dX10_reading_41 : decode cX10_reading 41 = .ok (.bipush (-4), 2) := by decide +kernel
theorem dX10_reading_43 : decode cX10_reading 43 = .ok (.ireturn, 1) := by decide +kernel
theorem dX10_reading_44 : decode cX10_reading 44 = .ok (.aload_n 0, 1) := by decide +kernel
theorem dX10_reading_45 : decode cX10_reading 45 = .ok (.getfield 58, 3) := by decide +kernel
theorem dX10_reading_48 : decode cX10_reading 48 = .ok (.aload_n 0, 1) := by decide +kernel
theorem dX10_reading_49 : decode cX10_reading 49 = .ok (.getfield 113, 3) := by decide +kernel
theorem dX10_reading_52 : decode cX10_reading 52 = .ok (.iload_n 1, 1) := by decide +kernel
theorem dX10_reading_53 : decode cX10_reading 53 = .ok (.iastore, 1) := by decide +kernel
theorem dX10_reading_54 : decode cX10_reading 54 = .ok (.aload_n 0, 1) := by decide +kernel
theorem dX10_reading_55 : decode cX10_reading 55 = .ok (.getfield 61, 3) := by decide +kernel
theorem dX10_reading_58 : decode cX10_reading 58 = .ok (.aload_n 0, 1) := by decide +kernel
theorem dX10_reading_59 : decode cX10_reading 59 = .ok (.getfield 113, 3) := by decide +kernel
theorem dX10_reading_62 : decode cX10_reading 62 = .ok (.iload_n 2, 1) := by decide +kernel
theorem dX10_reading_63 : decode cX10_reading 63 = .ok (.iastore, 1) := by decide +kernel
theorem dX10_reading_64 : decode cX10_reading 64 = .ok (.aload_n 0, 1) := by decide +kernel
theorem dX10_reading_65 : decode cX10_reading 65 = .ok (.getfield 64, 3) := by decide +kernel
theorem dX10_reading_68 : decode cX10_reading 68 = .ok (.aload_n 0, 1) := by decide +kernel
theorem dX10_reading_69 : decode cX10_reading 69 = .ok (.getfield 113, 3) := by decide +kernel
theorem dX10_reading_72 : decode cX10_reading 72 = .ok (.iload_n 3, 1) := by decide +kernel
theorem dX10_reading_73 : decode cX10_reading 73 = .ok (.iastore, 1) := by decide +kernel
theorem dX10_reading_74 : decode cX10_reading 74 = .ok (.aload_n 0, 1) := by decide +kernel
theorem dX10_reading_75 : decode cX10_reading 75 = .ok (.dup, 1) := by decide +kernel
theorem dX10_reading_76 : decode cX10_reading 76 = .ok (.getfield 113, 3) := by decide +kernel
theorem dX10_reading_79 : decode cX10_reading 79 = .ok (.iconst 1, 1) := by decide +kernel
theorem dX10_reading_80 : decode cX10_reading 80 = .ok (.iadd, 1) := by decide +kernel
theorem dX10_reading_81 : decode cX10_reading 81 = .ok (.putfield 113, 3) := by decide +kernel
theorem dX10_reading_84 : decode cX10_reading 84 = .ok (.aload_n 0, 1) := by decide +kernel
theorem dX10_reading_85 : decode cX10_reading 85 = .ok (.getfield 113, 3) := by decide +kernel
theorem dX10_reading_88 : decode cX10_reading 88 = .ok (.iconst 1, 1) := by decide +kernel
theorem dX10_reading_89 : decode cX10_reading 89 = .ok (.isub, 1) := by decide +kernel
theorem dX10_reading_90 : decode cX10_reading 90 = .ok (.ireturn, 1) := by decide +kernel
set_option maxRecDepth 20000 in
theorem ggX10_back_X10_within : GoodIn wsX10_back wsX10_within := goodIn_r _ [5] (by decide +kernel) (by decide +kernel)
set_option maxRecDepth 20000 in
theorem gX10_back_X10_within : GoodIn wsX10_back (va_wsS RX10 73 yX10_within wsX10_within) := goodIn_app (goodIn_of _ (by decide +kernel)) ggX10_back_X10_within
theorem dX10_back_0 : decode cX10_back 0 = .ok (.iload_n 1, 1) := by decide +kernel
theorem dX10_back_1 : decode cX10_back 1 = .ok (.iconst 0, 1) := by decide +kernel
theorem dX10_back_2 : decode cX10_back 2 = .ok (.aload_n 0, 1) := by decide +kernel
theorem dX10_back_3 : decode cX10_back 3 = .ok (.getfield 113, 3) := by decide +kernel
theorem dX10_back_6 : decode cX10_back 6 = .ok (.invokestatic 73, 3) := by decide +kernel
theorem dX10_back_9 : decode cX10_back 9 = .ok (.ifCond .ne 6, 3) := by decide +kernel
theorem dX10_back_12 : decode cX10_back 12 = .ok (.bipush (-2), 2) := by decide +kernel
theorem dX10_back_14 : decode cX10_back 14 = .ok (.ireturn, 1) := by decide +kernel
theorem dX10_back_15 : decode cX10_back 15 = .ok (.aload_n 0, 1) := by decide +kernel
theorem dX10_back_16 : decode cX10_back 16 = .ok (.dup, 1) := by decide +kernel
theorem dX10_back_17 : decode cX10_back 17 = .ok (.getfield 113, 3) := by decide +kernel
theorem dX10_back_20 : decode cX10_back 20 = .ok (.iload_n 1, 1) := by decide +kernel
theorem dX10_back_21 : decode cX10_back 21 = .ok (.isub, 1) := by decide +kernel
theorem dX10_back_22 : decode cX10_back 22 = .ok (.putfield 113, 3) := by decide +kernel
theorem dX10_back_25 : decode cX10_back 25 = .ok (.aload_n 0, 1) := by decide +kernel
theorem dX10_back_26 : decode cX10_back 26 = .ok (.getfield 113, 3) := by decide +kernel
theorem dX10_back_29 : decode cX10_back 29 = .ok (.ireturn, 1) := by decide +kernel
set_option maxRecDepth 20000 in
theorem ggX10_areSo_X10_bringsOf : GoodIn wsX10_areSo wsX10_bringsOf := goodIn_r _ [9, 10, 11, 12, 13, 8, 14, 15, 16, 17, 18, 19, 20, 21, 22, 23, 24, 25, 26, 27, 28, 29, 30, 31, 32, 33, 34, 35, 36, 37, 38, 39, 40, 41, 42, 43, 44, 45, 46, 47, 48, 49, 50, 51, 52] (by decide +kernel) (by decide +kernel)
set_option maxRecDepth 20000 in
theorem gX10_areSo_X10_bringsOf : GoodIn wsX10_areSo (wsV RX10 142 RX10 yX10_bringsOf wsX10_bringsOf) := goodIn_app (goodIn_of _ (by decide +kernel)) ggX10_areSo_X10_bringsOf
theorem dX10_areSo_0 : decode cX10_areSo 0 = .ok (.iconst 0, 1) := by decide +kernel
theorem dX10_areSo_1 : decode cX10_areSo 1 = .ok (.istore_n 1, 1) := by decide +kernel
theorem dX10_areSo_2 : decode cX10_areSo 2 = .ok (.iload_n 1, 1) := by decide +kernel
theorem dX10_areSo_3 : decode cX10_areSo 3 = .ok (.aload_n 0, 1) := by decide +kernel
theorem dX10_areSo_4 : decode cX10_areSo 4 = .ok (.getfield 113, 3) := by decide +kernel
theorem dX10_areSo_7 : decode cX10_areSo 7 = .ok (.if_icmp .ge 36, 3) := by decide +kernel
theorem dX10_areSo_10 : decode cX10_areSo 10 = .ok (.aload_n 0, 1) := by decide +kernel
theorem dX10_areSo_11 : decode cX10_areSo 11 = .ok (.aload_n 0, 1) := by decide +kernel
theorem dX10_areSo_12 : decode cX10_areSo 12 = .ok (.getfield 58, 3) := by decide +kernel
theorem dX10_areSo_15 : decode cX10_areSo 15 = .ok (.iload_n 1, 1) := by decide +kernel
theorem dX10_areSo_16 : decode cX10_areSo 16 = .ok (.iaload, 1) := by decide +kernel
theorem dX10_areSo_17 : decode cX10_areSo 17 = .ok (.aload_n 0, 1) := by decide +kernel
theorem dX10_areSo_18 : decode cX10_areSo 18 = .ok (.getfield 61, 3) := by decide +kernel
theorem dX10_areSo_21 : decode cX10_areSo 21 = .ok (.iload_n 1, 1) := by decide +kernel
theorem dX10_areSo_22 : decode cX10_areSo 22 = .ok (.iaload, 1) := by decide +kernel
theorem dX10_areSo_23 : decode cX10_areSo 23 = .ok (.invokevirtual 142, 3) := by decide +kernel
theorem dX10_areSo_26 : decode cX10_areSo 26 = .ok (.aload_n 0, 1) := by decide +kernel
theorem dX10_areSo_27 : decode cX10_areSo 27 = .ok (.getfield 64, 3) := by decide +kernel
theorem dX10_areSo_30 : decode cX10_areSo 30 = .ok (.iload_n 1, 1) := by decide +kernel
theorem dX10_areSo_31 : decode cX10_areSo 31 = .ok (.iaload, 1) := by decide +kernel
theorem dX10_areSo_32 : decode cX10_areSo 32 = .ok (.if_icmp .eq 5, 3) := by decide +kernel
theorem dX10_areSo_35 : decode cX10_areSo 35 = .ok (.iconst 0, 1) := by decide +kernel
theorem dX10_areSo_36 : decode cX10_areSo 36 = .ok (.ireturn, 1) := by decide +kernel
theorem dX10_areSo_37 : decode cX10_areSo 37 = .ok (.iinc 1 1, 3) := by decide +kernel
theorem dX10_areSo_40 : decode cX10_areSo 40 = .ok (.goto (-38), 3) := by decide +kernel
theorem dX10_areSo_43 : decode cX10_areSo 43 = .ok (.iconst 1, 1) := by decide +kernel
theorem dX10_areSo_44 : decode cX10_areSo 44 = .ok (.ireturn, 1) := by decide +kernel
set_option maxRecDepth 20000 in
theorem ggX10_knowings_X10_isPerson : GoodIn wsX10_knowings wsX10_isPerson := goodIn_r _ [6, 7, 30, 31, 32, 33, 34, 35, 36, 37, 38, 39, 40, 41, 42, 43, 44, 45, 46, 47, 48, 49, 50, 51, 52, 53, 54, 55, 56, 57, 58, 59, 60, 61] (by decide +kernel) (by decide +kernel)
set_option maxRecDepth 20000 in
theorem gX10_knowings_X10_isPerson : GoodIn wsX10_knowings (wsV RX10 133 RX10 yX10_isPerson wsX10_isPerson) := goodIn_app (goodIn_of _ (by decide +kernel)) ggX10_knowings_X10_isPerson
set_option maxRecDepth 20000 in
theorem ggX10_knowings_X10_areSo : GoodIn wsX10_knowings wsX10_areSo := goodIn_r _ [11, 12, 13, 14, 15, 16, 17, 18, 5, 19, 1, 20, 21, 22, 23, 24, 25, 26, 27, 28, 29, 30, 31, 32, 33, 34, 35, 36, 37, 38, 39, 40, 41, 42, 43, 44, 45, 46, 47, 48, 49, 50, 51, 52, 53, 54, 55, 56, 57, 58, 59, 60, 61] (by decide +kernel) (by decide +kernel)
set_option maxRecDepth 20000 in
theorem gX10_knowings_X10_areSo : GoodIn wsX10_knowings (wsV RX10 206 RX10 yX10_areSo wsX10_areSo) := goodIn_app (goodIn_of _ (by decide +kernel)) ggX10_knowings_X10_areSo
theorem dX10_knowings_0 : decode cX10_knowings 0 = .ok (.aload_n 0, 1) := by decide +kernel
theorem dX10_knowings_1 : decode cX10_knowings 1 = .ok (.iload_n 1, 1) := by decide +kernel
theorem dX10_knowings_2 : decode cX10_knowings 2 = .ok (.invokevirtual 133, 3) := by decide +kernel
theorem dX10_knowings_5 : decode cX10_knowings 5 = .ok (.ifCond .ne 5, 3) := by decide +kernel
theorem dX10_knowings_8 : decode cX10_knowings 8 = .ok (.iconst (-1), 1) := by decide +kernel
theorem dX10_knowings_9 : decode cX10_knowings 9 = .ok (.ireturn, 1) := by decide +kernel
theorem dX10_knowings_10 : decode cX10_knowings 10 = .ok (.aload_n 0, 1) := by decide +kernel
theorem dX10_knowings_11 : decode cX10_knowings 11 = .ok (.getfield 28, 3) := by decide +kernel
theorem dX10_knowings_14 : decode cX10_knowings 14 = .ok (.iload_n 1, 1) := by decide +kernel
theorem dX10_knowings_15 : decode cX10_knowings 15 = .ok (.iaload, 1) := by decide +kernel
theorem dX10_knowings_16 : decode cX10_knowings 16 = .ok (.istore_n 2, 1) := by decide +kernel
theorem dX10_knowings_17 : decode cX10_knowings 17 = .ok (.iconst 0, 1) := by decide +kernel
theorem dX10_knowings_18 : decode cX10_knowings 18 = .ok (.istore_n 3, 1) := by decide +kernel
theorem dX10_knowings_19 : decode cX10_knowings 19 = .ok (.iconst 0, 1) := by decide +kernel
theorem dX10_knowings_20 : decode cX10_knowings 20 = .ok (.istore 4, 2) := by decide +kernel
theorem dX10_knowings_22 : decode cX10_knowings 22 = .ok (.iload 4, 2) := by decide +kernel
theorem dX10_knowings_24 : decode cX10_knowings 24 = .ok (.bipush 7, 2) := by decide +kernel
theorem dX10_knowings_26 : decode cX10_knowings 26 = .ok (.if_icmp .gt 35, 3) := by decide +kernel
theorem dX10_knowings_29 : decode cX10_knowings 29 = .ok (.aload_n 0, 1) := by decide +kernel
theorem dX10_knowings_30 : decode cX10_knowings 30 = .ok (.getfield 28, 3) := by decide +kernel
theorem dX10_knowings_33 : decode cX10_knowings 33 = .ok (.iload_n 1, 1) := by decide +kernel
theorem dX10_knowings_34 : decode cX10_knowings 34 = .ok (.iload 4, 2) := by decide +kernel
theorem dX10_knowings_36 : decode cX10_knowings 36 = .ok (.iastore, 1) := by decide +kernel
theorem dX10_knowings_37 : decode cX10_knowings 37 = .ok (.iload_n 3, 1) := by decide +kernel
theorem dX10_knowings_38 : decode cX10_knowings 38 = .ok (.aload_n 0, 1) := by decide +kernel
theorem dX10_knowings_39 : decode cX10_knowings 39 = .ok (.invokevirtual 206, 3) := by decide +kernel
theorem dX10_knowings_42 : decode cX10_knowings 42 = .ok (.ifCond .eq 10, 3) := by decide +kernel
theorem dX10_knowings_45 : decode cX10_knowings 45 = .ok (.iconst 1, 1) := by decide +kernel
theorem dX10_knowings_46 : decode cX10_knowings 46 = .ok (.iload 4, 2) := by decide +kernel
theorem dX10_knowings_48 : decode cX10_knowings 48 = .ok (.ishl, 1) := by decide +kernel
theorem dX10_knowings_49 : decode cX10_knowings 49 = .ok (.goto 4, 3) := by decide +kernel
theorem dX10_knowings_52 : decode cX10_knowings 52 = .ok (.iconst 0, 1) := by decide +kernel
theorem dX10_knowings_53 : decode cX10_knowings 53 = .ok (.ior, 1) := by decide +kernel
theorem dX10_knowings_54 : decode cX10_knowings 54 = .ok (.istore_n 3, 1) := by decide +kernel
theorem dX10_knowings_55 : decode cX10_knowings 55 = .ok (.iinc 4 1, 3) := by decide +kernel
theorem dX10_knowings_58 : decode cX10_knowings 58 = .ok (.goto (-36), 3) := by decide +kernel
theorem dX10_knowings_61 : decode cX10_knowings 61 = .ok (.aload_n 0, 1) := by decide +kernel
theorem dX10_knowings_62 : decode cX10_knowings 62 = .ok (.getfield 28, 3) := by decide +kernel
theorem dX10_knowings_65 : decode cX10_knowings 65 = .ok (.iload_n 1, 1) := by decide +kernel
theorem dX10_knowings_66 : decode cX10_knowings 66 = .ok (.iload_n 2, 1) := by decide +kernel
theorem dX10_knowings_67 : decode cX10_knowings 67 = .ok (.iastore, 1) := by decide +kernel
theorem dX10_knowings_68 : decode cX10_knowings 68 = .ok (.iload_n 3, 1) := by decide +kernel
theorem dX10_knowings_69 : decode cX10_knowings 69 = .ok (.ireturn, 1) := by decide +kernel
set_option maxRecDepth 20000 in
theorem ggX10_wits_X10_isPerson : GoodIn wsX10_wits wsX10_isPerson := goodIn_r _ [6, 7, 30, 31, 32, 33, 34, 35, 36, 37, 38, 39, 40, 41, 42, 43, 44, 45, 46, 47, 48, 49, 50, 51, 52, 53, 54, 55, 56, 57, 58, 59, 60, 61] (by decide +kernel) (by decide +kernel)
set_option maxRecDepth 20000 in
theorem gX10_wits_X10_isPerson : GoodIn wsX10_wits (wsV RX10 133 RX10 yX10_isPerson wsX10_isPerson) := goodIn_app (goodIn_of _ (by decide +kernel)) ggX10_wits_X10_isPerson
set_option maxRecDepth 20000 in
theorem ggX10_wits_X10_areSo : GoodIn wsX10_wits wsX10_areSo := goodIn_r _ [11, 12, 13, 14, 15, 16, 17, 18, 5, 19, 20, 21, 22, 23, 24, 25, 26, 27, 28, 29, 1, 30, 31, 32, 33, 34, 35, 36, 37, 38, 39, 40, 41, 42, 43, 44, 45, 46, 47, 48, 49, 50, 51, 52, 53, 54, 55, 56, 57, 58, 59, 60, 61] (by decide +kernel) (by decide +kernel)
set_option maxRecDepth 20000 in
theorem gX10_wits_X10_areSo : GoodIn wsX10_wits (wsV RX10 206 RX10 yX10_areSo wsX10_areSo) := goodIn_app (goodIn_of _ (by decide +kernel)) ggX10_wits_X10_areSo
theorem dX10_wits_0 : decode cX10_wits 0 = .ok (.aload_n 0, 1) := by decide +kernel
theorem dX10_wits_1 : decode cX10_wits 1 = .ok (.iload_n 1, 1) := by decide +kernel
theorem dX10_wits_2 : decode cX10_wits 2 = .ok (.invokevirtual 133, 3) := by decide +kernel
theorem dX10_wits_5 : decode cX10_wits 5 = .ok (.ifCond .ne 5, 3) := by decide +kernel
theorem dX10_wits_8 : decode cX10_wits 8 = .ok (.iconst (-1), 1) := by decide +kernel
theorem dX10_wits_9 : decode cX10_wits 9 = .ok (.ireturn, 1) := by decide +kernel
theorem dX10_wits_10 : decode cX10_wits 10 = .ok (.aload_n 0, 1) := by decide +kernel
theorem dX10_wits_11 : decode cX10_wits 11 = .ok (.getfield 31, 3) := by decide +kernel
theorem dX10_wits_14 : decode cX10_wits 14 = .ok (.iload_n 1, 1) := by decide +kernel
theorem dX10_wits_15 : decode cX10_wits 15 = .ok (.iaload, 1) := by decide +kernel
theorem dX10_wits_16 : decode cX10_wits 16 = .ok (.istore_n 2, 1) := by decide +kernel
theorem dX10_wits_17 : decode cX10_wits 17 = .ok (.iconst 0, 1) := by decide +kernel
theorem dX10_wits_18 : decode cX10_wits 18 = .ok (.istore_n 3, 1) := by decide +kernel
theorem dX10_wits_19 : decode cX10_wits 19 = .ok (.iconst 0, 1) := by decide +kernel
theorem dX10_wits_20 : decode cX10_wits 20 = .ok (.istore 4, 2) := by decide +kernel
theorem dX10_wits_22 : decode cX10_wits 22 = .ok (.iload 4, 2) := by decide +kernel
theorem dX10_wits_24 : decode cX10_wits 24 = .ok (.bipush 9, 2) := by decide +kernel
theorem dX10_wits_26 : decode cX10_wits 26 = .ok (.if_icmp .gt 35, 3) := by decide +kernel
theorem dX10_wits_29 : decode cX10_wits 29 = .ok (.aload_n 0, 1) := by decide +kernel
theorem dX10_wits_30 : decode cX10_wits 30 = .ok (.getfield 31, 3) := by decide +kernel
theorem dX10_wits_33 : decode cX10_wits 33 = .ok (.iload_n 1, 1) := by decide +kernel
theorem dX10_wits_34 : decode cX10_wits 34 = .ok (.iload 4, 2) := by decide +kernel
theorem dX10_wits_36 : decode cX10_wits 36 = .ok (.iastore, 1) := by decide +kernel
theorem dX10_wits_37 : decode cX10_wits 37 = .ok (.iload_n 3, 1) := by decide +kernel
theorem dX10_wits_38 : decode cX10_wits 38 = .ok (.aload_n 0, 1) := by decide +kernel
theorem dX10_wits_39 : decode cX10_wits 39 = .ok (.invokevirtual 206, 3) := by decide +kernel
theorem dX10_wits_42 : decode cX10_wits 42 = .ok (.ifCond .eq 10, 3) := by decide +kernel
theorem dX10_wits_45 : decode cX10_wits 45 = .ok (.iconst 1, 1) := by decide +kernel
theorem dX10_wits_46 : decode cX10_wits 46 = .ok (.iload 4, 2) := by decide +kernel
theorem dX10_wits_48 : decode cX10_wits 48 = .ok (.ishl, 1) := by decide +kernel
theorem dX10_wits_49 : decode cX10_wits 49 = .ok (.goto 4, 3) := by decide +kernel
theorem dX10_wits_52 : decode cX10_wits 52 = .ok (.iconst 0, 1) := by decide +kernel
theorem dX10_wits_53 : decode cX10_wits 53 = .ok (.ior, 1) := by decide +kernel
theorem dX10_wits_54 : decode cX10_wits 54 = .ok (.istore_n 3, 1) := by decide +kernel
theorem dX10_wits_55 : decode cX10_wits 55 = .ok (.iinc 4 1, 3) := by decide +kernel
theorem dX10_wits_58 : decode cX10_wits 58 = .ok (.goto (-36), 3) := by decide +kernel
theorem dX10_wits_61 : decode cX10_wits 61 = .ok (.aload_n 0, 1) := by decide +kernel
theorem dX10_wits_62 : decode cX10_wits 62 = .ok (.getfield 31, 3) := by decide +kernel
theorem dX10_wits_65 : decode cX10_wits 65 = .ok (.iload_n 1, 1) := by decide +kernel
theorem dX10_wits_66 : decode cX10_wits 66 = .ok (.iload_n 2, 1) := by decide +kernel
theorem dX10_wits_67 : decode cX10_wits 67 = .ok (.iastore, 1) := by decide +kernel
theorem dX10_wits_68 : decode cX10_wits 68 = .ok (.iload_n 3, 1) := by decide +kernel
theorem dX10_wits_69 : decode cX10_wits 69 = .ok (.ireturn, 1) := by decide +kernel
set_option maxRecDepth 20000 in
theorem ggX10_kinds_X10_isPerson : GoodIn wsX10_kinds wsX10_isPerson := goodIn_r _ [6, 7, 30, 31, 32, 33, 34, 35, 36, 37, 38, 39, 40, 41, 42, 43, 44, 45, 46, 47, 48, 49, 50, 51, 52, 53, 54, 55, 56, 57, 58, 59, 60, 61] (by decide +kernel) (by decide +kernel)
set_option maxRecDepth 20000 in
theorem gX10_kinds_X10_isPerson : GoodIn wsX10_kinds (wsV RX10 133 RX10 yX10_isPerson wsX10_isPerson) := goodIn_app (goodIn_of _ (by decide +kernel)) ggX10_kinds_X10_isPerson
set_option maxRecDepth 20000 in
theorem ggX10_kinds_X10_areSo : GoodIn wsX10_kinds wsX10_areSo := goodIn_r _ [11, 12, 13, 14, 15, 16, 17, 18, 5, 19, 20, 21, 22, 23, 24, 25, 26, 27, 28, 1, 29, 30, 31, 32, 33, 34, 35, 36, 37, 38, 39, 40, 41, 42, 43, 44, 45, 46, 47, 48, 49, 50, 51, 52, 53, 54, 55, 56, 57, 58, 59, 60, 61] (by decide +kernel) (by decide +kernel)
set_option maxRecDepth 20000 in
theorem gX10_kinds_X10_areSo : GoodIn wsX10_kinds (wsV RX10 206 RX10 yX10_areSo wsX10_areSo) := goodIn_app (goodIn_of _ (by decide +kernel)) ggX10_kinds_X10_areSo
theorem dX10_kinds_0 : decode cX10_kinds 0 = .ok (.aload_n 0, 1) := by decide +kernel
theorem dX10_kinds_1 : decode cX10_kinds 1 = .ok (.iload_n 1, 1) := by decide +kernel
theorem dX10_kinds_2 : decode cX10_kinds 2 = .ok (.invokevirtual 133, 3) := by decide +kernel
theorem dX10_kinds_5 : decode cX10_kinds 5 = .ok (.ifCond .ne 5, 3) := by decide +kernel
theorem dX10_kinds_8 : decode cX10_kinds 8 = .ok (.iconst (-1), 1) := by decide +kernel
theorem dX10_kinds_9 : decode cX10_kinds 9 = .ok (.ireturn, 1) := by decide +kernel
theorem dX10_kinds_10 : decode cX10_kinds 10 = .ok (.aload_n 0, 1) := by decide +kernel
theorem dX10_kinds_11 : decode cX10_kinds 11 = .ok (.getfield 22, 3) := by decide +kernel
theorem dX10_kinds_14 : decode cX10_kinds 14 = .ok (.iload_n 1, 1) := by decide +kernel
theorem dX10_kinds_15 : decode cX10_kinds 15 = .ok (.iaload, 1) := by decide +kernel
theorem dX10_kinds_16 : decode cX10_kinds 16 = .ok (.istore_n 2, 1) := by decide +kernel
theorem dX10_kinds_17 : decode cX10_kinds 17 = .ok (.iconst 0, 1) := by decide +kernel
theorem dX10_kinds_18 : decode cX10_kinds 18 = .ok (.istore_n 3, 1) := by decide +kernel
theorem dX10_kinds_19 : decode cX10_kinds 19 = .ok (.iconst 0, 1) := by decide +kernel
theorem dX10_kinds_20 : decode cX10_kinds 20 = .ok (.istore 4, 2) := by decide +kernel
theorem dX10_kinds_22 : decode cX10_kinds 22 = .ok (.iload 4, 2) := by decide +kernel
theorem dX10_kinds_24 : decode cX10_kinds 24 = .ok (.iconst 3, 1) := by decide +kernel
theorem dX10_kinds_25 : decode cX10_kinds 25 = .ok (.if_icmp .ge 35, 3) := by decide +kernel
theorem dX10_kinds_28 : decode cX10_kinds 28 = .ok (.aload_n 0, 1) := by decide +kernel
theorem dX10_kinds_29 : decode cX10_kinds 29 = .ok (.getfield 22, 3) := by decide +kernel
theorem dX10_kinds_32 : decode cX10_kinds 32 = .ok (.iload_n 1, 1) := by decide +kernel
theorem dX10_kinds_33 : decode cX10_kinds 33 = .ok (.iload 4, 2) := by decide +kernel
theorem dX10_kinds_35 : decode cX10_kinds 35 = .ok (.iastore, 1) := by decide +kernel
theorem dX10_kinds_36 : decode cX10_kinds 36 = .ok (.iload_n 3, 1) := by decide +kernel
theorem dX10_kinds_37 : decode cX10_kinds 37 = .ok (.aload_n 0, 1) := by decide +kernel
theorem dX10_kinds_38 : decode cX10_kinds 38 = .ok (.invokevirtual 206, 3) := by decide +kernel
theorem dX10_kinds_41 : decode cX10_kinds 41 = .ok (.ifCond .eq 10, 3) := by decide +kernel
theorem dX10_kinds_44 : decode cX10_kinds 44 = .ok (.iconst 1, 1) := by decide +kernel
theorem dX10_kinds_45 : decode cX10_kinds 45 = .ok (.iload 4, 2) := by decide +kernel
theorem dX10_kinds_47 : decode cX10_kinds 47 = .ok (.ishl, 1) := by decide +kernel
theorem dX10_kinds_48 : decode cX10_kinds 48 = .ok (.goto 4, 3) := by decide +kernel
theorem dX10_kinds_51 : decode cX10_kinds 51 = .ok (.iconst 0, 1) := by decide +kernel
theorem dX10_kinds_52 : decode cX10_kinds 52 = .ok (.ior, 1) := by decide +kernel
theorem dX10_kinds_53 : decode cX10_kinds 53 = .ok (.istore_n 3, 1) := by decide +kernel
theorem dX10_kinds_54 : decode cX10_kinds 54 = .ok (.iinc 4 1, 3) := by decide +kernel
theorem dX10_kinds_57 : decode cX10_kinds 57 = .ok (.goto (-35), 3) := by decide +kernel
theorem dX10_kinds_60 : decode cX10_kinds 60 = .ok (.aload_n 0, 1) := by decide +kernel
theorem dX10_kinds_61 : decode cX10_kinds 61 = .ok (.getfield 22, 3) := by decide +kernel
theorem dX10_kinds_64 : decode cX10_kinds 64 = .ok (.iload_n 1, 1) := by decide +kernel
theorem dX10_kinds_65 : decode cX10_kinds 65 = .ok (.iload_n 2, 1) := by decide +kernel
theorem dX10_kinds_66 : decode cX10_kinds 66 = .ok (.iastore, 1) := by decide +kernel
theorem dX10_kinds_67 : decode cX10_kinds 67 = .ok (.iload_n 3, 1) := by decide +kernel
theorem dX10_kinds_68 : decode cX10_kinds 68 = .ok (.ireturn, 1) := by decide +kernel
set_option maxRecDepth 20000 in
theorem ggX10_worths_X10_isMatter : GoodIn wsX10_worths wsX10_isMatter := goodIn_r _ [6, 7, 30, 31, 32, 33, 34, 35, 36, 37, 38, 39, 40, 41, 42, 43, 44, 45, 46, 47, 48, 49, 50, 51, 52, 53, 54, 55, 56, 57, 58, 59, 60, 61] (by decide +kernel) (by decide +kernel)
set_option maxRecDepth 20000 in
theorem gX10_worths_X10_isMatter : GoodIn wsX10_worths (wsV RX10 139 RX10 yX10_isMatter wsX10_isMatter) := goodIn_app (goodIn_of _ (by decide +kernel)) ggX10_worths_X10_isMatter
set_option maxRecDepth 20000 in
theorem ggX10_worths_X10_areSo : GoodIn wsX10_worths wsX10_areSo := goodIn_r _ [11, 12, 13, 14, 15, 16, 17, 18, 5, 19, 20, 1, 21, 22, 23, 24, 25, 26, 27, 28, 29, 30, 31, 32, 33, 34, 35, 36, 37, 38, 39, 40, 41, 42, 43, 44, 45, 46, 47, 48, 49, 50, 51, 52, 53, 54, 55, 56, 57, 58, 59, 60, 61] (by decide +kernel) (by decide +kernel)
set_option maxRecDepth 20000 in
theorem gX10_worths_X10_areSo : GoodIn wsX10_worths (wsV RX10 206 RX10 yX10_areSo wsX10_areSo) := goodIn_app (goodIn_of _ (by decide +kernel)) ggX10_worths_X10_areSo
theorem dX10_worths_0 : decode cX10_worths 0 = .ok (.aload_n 0, 1) := by decide +kernel
theorem dX10_worths_1 : decode cX10_worths 1 = .ok (.iload_n 1, 1) := by decide +kernel
theorem dX10_worths_2 : decode cX10_worths 2 = .ok (.invokevirtual 139, 3) := by decide +kernel
theorem dX10_worths_5 : decode cX10_worths 5 = .ok (.ifCond .ne 5, 3) := by decide +kernel
theorem dX10_worths_8 : decode cX10_worths 8 = .ok (.iconst (-1), 1) := by decide +kernel
theorem dX10_worths_9 : decode cX10_worths 9 = .ok (.ireturn, 1) := by decide +kernel
theorem dX10_worths_10 : decode cX10_worths 10 = .ok (.aload_n 0, 1) := by decide +kernel
theorem dX10_worths_11 : decode cX10_worths 11 = .ok (.getfield 19, 3) := by decide +kernel
theorem dX10_worths_14 : decode cX10_worths 14 = .ok (.iload_n 1, 1) := by decide +kernel
theorem dX10_worths_15 : decode cX10_worths 15 = .ok (.iaload, 1) := by decide +kernel
theorem dX10_worths_16 : decode cX10_worths 16 = .ok (.istore_n 2, 1) := by decide +kernel
theorem dX10_worths_17 : decode cX10_worths 17 = .ok (.iconst 0, 1) := by decide +kernel
theorem dX10_worths_18 : decode cX10_worths 18 = .ok (.istore_n 3, 1) := by decide +kernel
theorem dX10_worths_19 : decode cX10_worths 19 = .ok (.iconst 0, 1) := by decide +kernel
theorem dX10_worths_20 : decode cX10_worths 20 = .ok (.istore 4, 2) := by decide +kernel
theorem dX10_worths_22 : decode cX10_worths 22 = .ok (.iload 4, 2) := by decide +kernel
theorem dX10_worths_24 : decode cX10_worths 24 = .ok (.bipush 9, 2) := by decide +kernel
theorem dX10_worths_26 : decode cX10_worths 26 = .ok (.if_icmp .gt 35, 3) := by decide +kernel
theorem dX10_worths_29 : decode cX10_worths 29 = .ok (.aload_n 0, 1) := by decide +kernel
theorem dX10_worths_30 : decode cX10_worths 30 = .ok (.getfield 19, 3) := by decide +kernel
theorem dX10_worths_33 : decode cX10_worths 33 = .ok (.iload_n 1, 1) := by decide +kernel
theorem dX10_worths_34 : decode cX10_worths 34 = .ok (.iload 4, 2) := by decide +kernel
theorem dX10_worths_36 : decode cX10_worths 36 = .ok (.iastore, 1) := by decide +kernel
theorem dX10_worths_37 : decode cX10_worths 37 = .ok (.iload_n 3, 1) := by decide +kernel
theorem dX10_worths_38 : decode cX10_worths 38 = .ok (.aload_n 0, 1) := by decide +kernel
theorem dX10_worths_39 : decode cX10_worths 39 = .ok (.invokevirtual 206, 3) := by decide +kernel
theorem dX10_worths_42 : decode cX10_worths 42 = .ok (.ifCond .eq 10, 3) := by decide +kernel
theorem dX10_worths_45 : decode cX10_worths 45 = .ok (.iconst 1, 1) := by decide +kernel
theorem dX10_worths_46 : decode cX10_worths 46 = .ok (.iload 4, 2) := by decide +kernel
theorem dX10_worths_48 : decode cX10_worths 48 = .ok (.ishl, 1) := by decide +kernel
theorem dX10_worths_49 : decode cX10_worths 49 = .ok (.goto 4, 3) := by decide +kernel
theorem dX10_worths_52 : decode cX10_worths 52 = .ok (.iconst 0, 1) := by decide +kernel
theorem dX10_worths_53 : decode cX10_worths 53 = .ok (.ior, 1) := by decide +kernel
theorem dX10_worths_54 : decode cX10_worths 54 = .ok (.istore_n 3, 1) := by decide +kernel
theorem dX10_worths_55 : decode cX10_worths 55 = .ok (.iinc 4 1, 3) := by decide +kernel
theorem dX10_worths_58 : decode cX10_worths 58 = .ok (.goto (-36), 3) := by decide +kernel
theorem dX10_worths_61 : decode cX10_worths 61 = .ok (.aload_n 0, 1) := by decide +kernel
theorem dX10_worths_62 : decode cX10_worths 62 = .ok (.getfield 19, 3) := by decide +kernel
theorem dX10_worths_65 : decode cX10_worths 65 = .ok (.iload_n 1, 1) := by decide +kernel
theorem dX10_worths_66 : decode cX10_worths 66 = .ok (.iload_n 2, 1) := by decide +kernel
theorem dX10_worths_67 : decode cX10_worths 67 = .ok (.iastore, 1) := by decide +kernel
theorem dX10_worths_68 : decode cX10_worths 68 = .ok (.iload_n 3, 1) := by decide +kernel
theorem dX10_worths_69 : decode cX10_worths 69 = .ok (.ireturn, 1) := by decide +kernel
theorem dX10_inLeastTerms_0 : decode cX10_inLeastTerms 0 = .ok (.lload_n 0, 1) := by decide +kernel
theorem dX10_inLeastTerms_1 : decode cX10_inLeastTerms 1 = .ok (.lstore 5, 2) := by decide +kernel
theorem dX10_inLeastTerms_3 : decode cX10_inLeastTerms 3 = .ok (.lload_n 2, 1) := by decide +kernel
theorem dX10_inLeastTerms_4 : decode cX10_inLeastTerms 4 = .ok (.lstore 7, 2) := by decide +kernel
theorem dX10_inLeastTerms_6 : decode cX10_inLeastTerms 6 = .ok (.lload 7, 2) := by decide +kernel
theorem dX10_inLeastTerms_8 : decode cX10_inLeastTerms 8 = .ok (.lconst 0, 1) := by decide +kernel
theorem dX10_inLeastTerms_9 : decode cX10_inLeastTerms 9 = .ok (.lcmp, 1) := by decide +kernel
theorem dX10_inLeastTerms_10 : decode cX10_inLeastTerms 10 = .ok (.ifCond .eq 21, 3) := by decide +kernel
theorem dX10_inLeastTerms_13 : decode cX10_inLeastTerms 13 = .ok (.lload 5, 2) := by decide +kernel
theorem dX10_inLeastTerms_15 : decode cX10_inLeastTerms 15 = .ok (.lload 7, 2) := by decide +kernel
theorem dX10_inLeastTerms_17 : decode cX10_inLeastTerms 17 = .ok (.lrem, 1) := by decide +kernel
theorem dX10_inLeastTerms_18 : decode cX10_inLeastTerms 18 = .ok (.lstore 9, 2) := by decide +kernel
theorem dX10_inLeastTerms_20 : decode cX10_inLeastTerms 20 = .ok (.lload 7, 2) := by decide +kernel
theorem dX10_inLeastTerms_22 : decode cX10_inLeastTerms 22 = .ok (.lstore 5, 2) := by decide +kernel
theorem dX10_inLeastTerms_24 : decode cX10_inLeastTerms 24 = .ok (.lload 9, 2) := by decide +kernel
theorem dX10_inLeastTerms_26 : decode cX10_inLeastTerms 26 = .ok (.lstore 7, 2) := by decide +kernel
theorem dX10_inLeastTerms_28 : decode cX10_inLeastTerms 28 = .ok (.goto (-22), 3) := by decide +kernel
theorem dX10_inLeastTerms_31 : decode cX10_inLeastTerms 31 = .ok (.iload 4, 2) := by decide +kernel
theorem dX10_inLeastTerms_33 : decode cX10_inLeastTerms 33 = .ok (.ifCond .ne 10, 3) := by decide +kernel
theorem dX10_inLeastTerms_36 : decode cX10_inLeastTerms 36 = .ok (.lload_n 0, 1) := by decide +kernel
theorem dX10_inLeastTerms_37 : decode cX10_inLeastTerms 37 = .ok (.lload 5, 2) := by decide +kernel
theorem dX10_inLeastTerms_39 : decode cX10_inLeastTerms 39 = .ok (.ldiv, 1) := by decide +kernel
theorem dX10_inLeastTerms_40 : decode cX10_inLeastTerms 40 = .ok (.goto 7, 3) := by decide +kernel
theorem dX10_inLeastTerms_43 : decode cX10_inLeastTerms 43 = .ok (.lload_n 2, 1) := by decide +kernel
theorem dX10_inLeastTerms_44 : decode cX10_inLeastTerms 44 = .ok (.lload 5, 2) := by decide +kernel
theorem dX10_inLeastTerms_46 : decode cX10_inLeastTerms 46 = .ok (.ldiv, 1) := by decide +kernel
theorem dX10_inLeastTerms_47 : decode cX10_inLeastTerms 47 = .ok (.lreturn, 1) := by decide +kernel
set_option maxRecDepth 20000 in
theorem ggX10_odds_X10_isPerson : GoodIn wsX10_odds wsX10_isPerson := goodIn_r _ [8, 9, 30, 31, 32, 33, 34, 35, 36, 37, 38, 39, 40, 41, 42, 43, 44, 45, 46, 47, 48, 49, 50, 51, 52, 53, 54, 55, 56, 57, 58, 59, 60, 61] (by decide +kernel) (by decide +kernel)
set_option maxRecDepth 20000 in
theorem gX10_odds_X10_isPerson : GoodIn wsX10_odds (wsV RX10 133 RX10 yX10_isPerson wsX10_isPerson) := goodIn_app (goodIn_of _ (by decide +kernel)) ggX10_odds_X10_isPerson
set_option maxRecDepth 20000 in
theorem ggX10_odds_X10_within : GoodIn wsX10_odds wsX10_within := goodIn_r _ [12] (by decide +kernel) (by decide +kernel)
set_option maxRecDepth 20000 in
theorem gX10_odds_X10_within : GoodIn wsX10_odds (va_wsS RX10 73 yX10_within wsX10_within) := goodIn_app (goodIn_of _ (by decide +kernel)) ggX10_odds_X10_within
set_option maxRecDepth 20000 in
theorem ggX10_odds_X10_bringsOf : GoodIn wsX10_odds wsX10_bringsOf := goodIn_r _ [16, 2, 17, 18, 19, 7, 20, 21, 22, 23, 24, 25, 26, 30, 31, 32, 33, 34, 35, 36, 37, 38, 39, 40, 41, 42, 43, 44, 45, 46, 47, 48, 49, 50, 51, 52, 53, 54, 55, 56, 57, 58, 59, 60, 61] (by decide +kernel) (by decide +kernel)
set_option maxRecDepth 20000 in
theorem gX10_odds_X10_bringsOf : GoodIn wsX10_odds (wsV RX10 142 RX10 yX10_bringsOf wsX10_bringsOf) := goodIn_app (goodIn_of _ (by decide +kernel)) ggX10_odds_X10_bringsOf
set_option maxRecDepth 20000 in
theorem ggX10_odds_X10_inLeastTerms : GoodIn wsX10_odds wsX10_inLeastTerms := goodIn_r _ [29] (by decide +kernel) (by decide +kernel)
set_option maxRecDepth 20000 in
theorem gX10_odds_X10_inLeastTerms : GoodIn wsX10_odds (va_wsS RX10 212 yX10_inLeastTerms wsX10_inLeastTerms) := goodIn_app (goodIn_of _ (by decide +kernel)) ggX10_odds_X10_inLeastTerms
theorem dX10_odds_0 : decode cX10_odds 0 = .ok (.aload_n 0, 1) := by decide +kernel
theorem dX10_odds_1 : decode cX10_odds 1 = .ok (.iload_n 1, 1) := by decide +kernel
theorem dX10_odds_2 : decode cX10_odds 2 = .ok (.invokevirtual 133, 3) := by decide +kernel
theorem dX10_odds_5 : decode cX10_odds 5 = .ok (.ifCond .eq 23, 3) := by decide +kernel
theorem dX10_odds_8 : decode cX10_odds 8 = .ok (.iload_n 2, 1) := by decide +kernel
theorem dX10_odds_9 : decode cX10_odds 9 = .ok (.iconst 0, 1) := by decide +kernel
theorem dX10_odds_10 : decode cX10_odds 10 = .ok (.sipush 200, 3) := by decide +kernel
theorem dX10_odds_13 : decode cX10_odds 13 = .ok (.invokestatic 73, 3) := by decide +kernel
theorem dX10_odds_16 : decode cX10_odds 16 = .ok (.ifCond .eq 12, 3) := by decide +kernel
theorem dX10_odds_19 : decode cX10_odds 19 = .ok (.iload_n 3, 1) := by decide +kernel
theorem dX10_odds_20 : decode cX10_odds 20 = .ok (.iconst 0, 1) := by decide +kernel
theorem dX10_odds_21 : decode cX10_odds 21 = .ok (.iconst 1, 1) := by decide +kernel
theorem dX10_odds_22 : decode cX10_odds 22 = .ok (.invokestatic 73, 3) := by decide +kernel
theorem dX10_odds_25 : decode cX10_odds 25 = .ok (.ifCond .ne 7, 3) := by decide +kernel
theorem dX10_odds_28 : decode cX10_odds 28 = .ok (.ldc2_w 71, 3) := by decide +kernel
theorem dX10_odds_31 : decode cX10_odds 31 = .ok (.lreturn, 1) := by decide +kernel
theorem dX10_odds_32 : decode cX10_odds 32 = .ok (.aload_n 0, 1) := by decide +kernel
theorem dX10_odds_33 : decode cX10_odds 33 = .ok (.getfield 28, 3) := by decide +kernel
theorem dX10_odds_36 : decode cX10_odds 36 = .ok (.iload_n 1, 1) := by decide +kernel
theorem dX10_odds_37 : decode cX10_odds 37 = .ok (.iaload, 1) := by decide +kernel
theorem dX10_odds_38 : decode cX10_odds 38 = .ok (.istore 4, 2) := by decide +kernel
theorem dX10_odds_40 : decode cX10_odds 40 = .ok (.iconst 0, 1) := by decide +kernel
theorem dX10_odds_41 : decode cX10_odds 41 = .ok (.istore 5, 2) := by decide +kernel
theorem dX10_odds_43 : decode cX10_odds 43 = .ok (.iconst 0, 1) := by decide +kernel
theorem dX10_odds_44 : decode cX10_odds 44 = .ok (.istore 6, 2) := by decide +kernel
theorem dX10_odds_46 : decode cX10_odds 46 = .ok (.iload 6, 2) := by decide +kernel
theorem dX10_odds_48 : decode cX10_odds 48 = .ok (.bipush 7, 2) := by decide +kernel
theorem dX10_odds_50 : decode cX10_odds 50 = .ok (.if_icmp .gt 53, 3) := by decide +kernel
theorem dX10_odds_53 : decode cX10_odds 53 = .ok (.aload_n 0, 1) := by decide +kernel
theorem dX10_odds_54 : decode cX10_odds 54 = .ok (.getfield 28, 3) := by decide +kernel
theorem dX10_odds_57 : decode cX10_odds 57 = .ok (.iload_n 1, 1) := by decide +kernel
theorem dX10_odds_58 : decode cX10_odds 58 = .ok (.iload 6, 2) := by decide +kernel
theorem dX10_odds_60 : decode cX10_odds 60 = .ok (.iastore, 1) := by decide +kernel
theorem dX10_odds_61 : decode cX10_odds 61 = .ok (.iconst 0, 1) := by decide +kernel
theorem dX10_odds_62 : decode cX10_odds 62 = .ok (.istore 7, 2) := by decide +kernel
theorem dX10_odds_64 : decode cX10_odds 64 = .ok (.iload 7, 2) := by decide +kernel
theorem dX10_odds_66 : decode cX10_odds 66 = .ok (.iconst 3, 1) := by decide +kernel
theorem dX10_odds_67 : decode cX10_odds 67 = .ok (.if_icmp .ge 30, 3) := by decide +kernel
theorem dX10_odds_70 : decode cX10_odds 70 = .ok (.iload 5, 2) := by decide +kernel
theorem dX10_odds_72 : decode cX10_odds 72 = .ok (.aload_n 0, 1) := by decide +kernel
theorem dX10_odds_73 : decode cX10_odds 73 = .ok (.iload_n 1, 1) := by decide +kernel
theorem dX10_odds_74 : decode cX10_odds 74 = .ok (.iload 7, 2) := by decide +kernel
theorem dX10_odds_76 : decode cX10_odds 76 = .ok (.invokevirtual 142, 3) := by decide +kernel
theorem dX10_odds_79 : decode cX10_odds 79 = .ok (.iload_n 2, 1) := by decide +kernel
theorem dX10_odds_80 : decode cX10_odds 80 = .ok (.if_icmp .lt 7, 3) := by decide +kernel
theorem dX10_odds_83 : decode cX10_odds 83 = .ok (.iconst 1, 1) := by decide +kernel
theorem dX10_odds_84 : decode cX10_odds 84 = .ok (.goto 4, 3) := by decide +kernel
theorem dX10_odds_87 : decode cX10_odds 87 = .ok (.iconst 0, 1) := by decide +kernel
theorem dX10_odds_88 : decode cX10_odds 88 = .ok (.iadd, 1) := by decide +kernel
theorem dX10_odds_89 : decode cX10_odds 89 = .ok (.istore 5, 2) := by decide +kernel
theorem dX10_odds_91 : decode cX10_odds 91 = .ok (.iinc 7 1, 3) := by decide +kernel
theorem dX10_odds_94 : decode cX10_odds 94 = .ok (.goto (-30), 3) := by decide +kernel
theorem dX10_odds_97 : decode cX10_odds 97 = .ok (.iinc 6 1, 3) := by decide +kernel
theorem dX10_odds_100 : decode cX10_odds 100 = .ok (.goto (-54), 3) := by decide +kernel
theorem dX10_odds_103 : decode cX10_odds 103 = .ok (.aload_n 0, 1) := by decide +kernel
theorem dX10_odds_104 : decode cX10_odds 104 = .ok (.getfield 28, 3) := by decide +kernel
theorem dX10_odds_107 : decode cX10_odds 107 = .ok (.iload_n 1, 1) := by decide +kernel
theorem dX10_odds_108 : decode cX10_odds 108 = .ok (.iload 4, 2) := by decide +kernel
theorem dX10_odds_110 : decode cX10_odds 110 = .ok (.iastore, 1) := by decide +kernel
theorem dX10_odds_111 : decode cX10_odds 111 = .ok (.iload 5, 2) := by decide +kernel
theorem dX10_odds_113 : decode cX10_odds 113 = .ok (.i2l, 1) := by decide +kernel
theorem dX10_odds_114 : decode cX10_odds 114 = .ok (.ldc2_w 210, 3) := by decide +kernel
theorem dX10_odds_117 : decode cX10_odds 117 = .ok (.iload_n 3, 1) := by decide +kernel
theorem dX10_odds_118 : decode cX10_odds 118 = .ok (.invokestatic 212, 3) := by decide +kernel
theorem dX10_odds_121 : decode cX10_odds 121 = .ok (.lreturn, 1) := by decide +kernel
set_option maxRecDepth 20000 in
theorem ggX10_sheet_X10_isSheet : GoodIn wsX10_sheet wsX10_isSheet := goodIn_r _ [8, 9, 10, 7, 11] (by decide +kernel) (by decide +kernel)
set_option maxRecDepth 20000 in
theorem gX10_sheet_X10_isSheet : GoodIn wsX10_sheet (va_wsS RX10 83 yX10_isSheet wsX10_isSheet) := goodIn_app (goodIn_of _ (by decide +kernel)) ggX10_sheet_X10_isSheet
set_option maxRecDepth 20000 in
theorem ggX10_sheet_X10_isSort : GoodIn wsX10_sheet wsX10_isSort := goodIn_r _ [14, 9, 10, 7, 11] (by decide +kernel) (by decide +kernel)
set_option maxRecDepth 20000 in
theorem gX10_sheet_X10_isSort : GoodIn wsX10_sheet (va_wsS RX10 87 yX10_isSort wsX10_isSort) := goodIn_app (goodIn_of _ (by decide +kernel)) ggX10_sheet_X10_isSort
set_option maxRecDepth 20000 in
theorem ggX10_sheet_X10_fails : GoodIn wsX10_sheet wsX10_fails := goodIn_r _ [18, 1, 19, 20, 21, 22, 23, 24, 25, 26, 27, 28, 29, 30, 31, 32, 33, 34, 35, 36, 37, 38, 39, 40, 41, 42, 43, 44, 45, 46, 47, 48, 49, 50] (by decide +kernel) (by decide +kernel)
set_option maxRecDepth 20000 in
theorem gX10_sheet_X10_fails : GoodIn wsX10_sheet (wsV RX10 94 RX10 yX10_fails wsX10_fails) := goodIn_app (goodIn_of _ (by decide +kernel)) ggX10_sheet_X10_fails
theorem dX10_sheet_0 : decode cX10_sheet 0 = .ok (.aload_n 0, 1) := by decide +kernel
theorem dX10_sheet_1 : decode cX10_sheet 1 = .ok (.iconst 0, 1) := by decide +kernel
theorem dX10_sheet_2 : decode cX10_sheet 2 = .ok (.putfield 67, 3) := by decide +kernel
theorem dX10_sheet_5 : decode cX10_sheet 5 = .ok (.iload_n 1, 1) := by decide +kernel
theorem dX10_sheet_6 : decode cX10_sheet 6 = .ok (.invokestatic 83, 3) := by decide +kernel
theorem dX10_sheet_9 : decode cX10_sheet 9 = .ok (.ifCond .ne 5, 3) := by decide +kernel
theorem dX10_sheet_12 : decode cX10_sheet 12 = .ok (.iconst (-1), 1) := by decide +kernel
theorem dX10_sheet_13 : decode cX10_sheet 13 = .ok (.ireturn, 1) := by decide +kernel
theorem dX10_sheet_14 : decode cX10_sheet 14 = .ok (.iload_n 2, 1) := by decide +kernel
theorem dX10_sheet_15 : decode cX10_sheet 15 = .ok (.invokestatic 87, 3) := by decide +kernel
theorem dX10_sheet_18 : decode cX10_sheet 18 = .ok (.ifCond .eq 9, 3) := by decide +kernel
theorem dX10_sheet_21 : decode cX10_sheet 21 = .ok (.iload_n 3, 1) := by decide +kernel
theorem dX10_sheet_22 : decode cX10_sheet 22 = .ok (.bipush 60, 2) := by decide +kernel
theorem dX10_sheet_24 : decode cX10_sheet 24 = .ok (.if_icmp .le 6, 3) := by decide +kernel
theorem dX10_sheet_27 : decode cX10_sheet 27 = .ok (.bipush (-2), 2) := by decide +kernel
theorem dX10_sheet_29 : decode cX10_sheet 29 = .ok (.ireturn, 1) := by decide +kernel
theorem dX10_sheet_30 : decode cX10_sheet 30 = .ok (.iload_n 3, 1) := by decide +kernel
theorem dX10_sheet_31 : decode cX10_sheet 31 = .ok (.ifCond .ge 9, 3) := by decide +kernel
theorem dX10_sheet_34 : decode cX10_sheet 34 = .ok (.aload_n 0, 1) := by decide +kernel
theorem dX10_sheet_35 : decode cX10_sheet 35 = .ok (.iconst 4, 1) := by decide +kernel
theorem dX10_sheet_36 : decode cX10_sheet 36 = .ok (.invokevirtual 94, 3) := by decide +kernel
theorem dX10_sheet_39 : decode cX10_sheet 39 = .ok (.ireturn, 1) := by decide +kernel
theorem dX10_sheet_40 : decode cX10_sheet 40 = .ok (.aload_n 0, 1) := by decide +kernel
theorem dX10_sheet_41 : decode cX10_sheet 41 = .ok (.getfield 9, 3) := by decide +kernel
theorem dX10_sheet_44 : decode cX10_sheet 44 = .ok (.iload_n 1, 1) := by decide +kernel
theorem dX10_sheet_45 : decode cX10_sheet 45 = .ok (.iload_n 2, 1) := by decide +kernel
theorem dX10_sheet_46 : decode cX10_sheet 46 = .ok (.iastore, 1) := by decide +kernel
theorem dX10_sheet_47 : decode cX10_sheet 47 = .ok (.aload_n 0, 1) := by decide +kernel
theorem dX10_sheet_48 : decode cX10_sheet 48 = .ok (.getfield 13, 3) := by decide +kernel
theorem dX10_sheet_51 : decode cX10_sheet 51 = .ok (.iload_n 1, 1) := by decide +kernel
theorem dX10_sheet_52 : decode cX10_sheet 52 = .ok (.iload_n 3, 1) := by decide +kernel
theorem dX10_sheet_53 : decode cX10_sheet 53 = .ok (.iastore, 1) := by decide +kernel
theorem dX10_sheet_54 : decode cX10_sheet 54 = .ok (.iconst 0, 1) := by decide +kernel
theorem dX10_sheet_55 : decode cX10_sheet 55 = .ok (.istore 4, 2) := by decide +kernel
theorem dX10_sheet_57 : decode cX10_sheet 57 = .ok (.iload 4, 2) := by decide +kernel
theorem dX10_sheet_59 : decode cX10_sheet 59 = .ok (.bipush 60, 2) := by decide +kernel
theorem dX10_sheet_61 : decode cX10_sheet 61 = .ok (.if_icmp .ge 22, 3) := by decide +kernel
theorem dX10_sheet_64 : decode cX10_sheet 64 = .ok (.aload_n 0, 1) := by decide +kernel
theorem dX10_sheet_65 : decode cX10_sheet 65 = .ok (.getfield 16, 3) := by decide +kernel
theorem dX10_sheet_68 : decode cX10_sheet 68 = .ok (.bipush 60, 2) := by decide +kernel
theorem dX10_sheet_70 : decode cX10_sheet 70 = .ok (.iload_n 1, 1) := by decide +kernel
theorem dX10_sheet_71 : decode cX10_sheet 71 = .ok (.imul, 1) := by decide +kernel
theorem dX10_sheet_72 : decode cX10_sheet 72 = .ok (.iload 4, 2) := by decide +kernel
theorem dX10_sheet_74 : decode cX10_sheet 74 = .ok (.iadd, 1) := by decide +kernel
theorem dX10_sheet_75 : decode cX10_sheet 75 = .ok (.iconst 0, 1) := by decide +kernel
theorem dX10_sheet_76 : decode cX10_sheet 76 = .ok (.iastore, 1) := by decide +kernel
theorem dX10_sheet_77 : decode cX10_sheet 77 = .ok (.iinc 4 1, 3) := by decide +kernel
theorem dX10_sheet_80 : decode cX10_sheet 80 = .ok (.goto (-23), 3) := by decide +kernel
theorem dX10_sheet_83 : decode cX10_sheet 83 = .ok (.iconst 1, 1) := by decide +kernel
theorem dX10_sheet_84 : decode cX10_sheet 84 = .ok (.ireturn, 1) := by decide +kernel
set_option maxRecDepth 20000 in
theorem ggX10_lose_X10_isSheet : GoodIn wsX10_lose wsX10_isSheet := goodIn_r _ [5, 6, 7, 4, 8] (by decide +kernel) (by decide +kernel)
set_option maxRecDepth 20000 in
theorem gX10_lose_X10_isSheet : GoodIn wsX10_lose (va_wsS RX10 83 yX10_isSheet wsX10_isSheet) := goodIn_app (goodIn_of _ (by decide +kernel)) ggX10_lose_X10_isSheet
theorem dX10_lose_0 : decode cX10_lose 0 = .ok (.iload_n 1, 1) := by decide +kernel
theorem dX10_lose_1 : decode cX10_lose 1 = .ok (.invokestatic 83, 3) := by decide +kernel
theorem dX10_lose_4 : decode cX10_lose 4 = .ok (.ifCond .ne 5, 3) := by decide +kernel
theorem dX10_lose_7 : decode cX10_lose 7 = .ok (.iconst (-1), 1) := by decide +kernel
theorem dX10_lose_8 : decode cX10_lose 8 = .ok (.ireturn, 1) := by decide +kernel
theorem dX10_lose_9 : decode cX10_lose 9 = .ok (.aload_n 0, 1) := by decide +kernel
theorem dX10_lose_10 : decode cX10_lose 10 = .ok (.getfield 9, 3) := by decide +kernel
theorem dX10_lose_13 : decode cX10_lose 13 = .ok (.iload_n 1, 1) := by decide +kernel
theorem dX10_lose_14 : decode cX10_lose 14 = .ok (.iaload, 1) := by decide +kernel
theorem dX10_lose_15 : decode cX10_lose 15 = .ok (.bipush (-9), 2) := by decide +kernel
theorem dX10_lose_17 : decode cX10_lose 17 = .ok (.if_icmp .ne 7, 3) := by decide +kernel
theorem dX10_lose_20 : decode cX10_lose 20 = .ok (.iconst 0, 1) := by decide +kernel
theorem dX10_lose_21 : decode cX10_lose 21 = .ok (.goto 4, 3) := by decide +kernel
theorem dX10_lose_24 : decode cX10_lose 24 = .ok (.iconst 1, 1) := by decide +kernel
theorem dX10_lose_25 : decode cX10_lose 25 = .ok (.istore_n 2, 1) := by decide +kernel
theorem dX10_lose_26 : decode cX10_lose 26 = .ok (.aload_n 0, 1) := by decide +kernel
theorem dX10_lose_27 : decode cX10_lose 27 = .ok (.getfield 9, 3) := by decide +kernel
theorem dX10_lose_30 : decode cX10_lose 30 = .ok (.iload_n 1, 1) := by decide +kernel
theorem dX10_lose_31 : decode cX10_lose 31 = .ok (.bipush (-9), 2) := by decide +kernel
theorem dX10_lose_33 : decode cX10_lose 33 = .ok (.iastore, 1) := by decide +kernel
theorem dX10_lose_34 : decode cX10_lose 34 = .ok (.iload_n 2, 1) := by decide +kernel
theorem dX10_lose_35 : decode cX10_lose 35 = .ok (.ireturn, 1) := by decide +kernel
set_option maxRecDepth 20000 in
theorem ggX10_put_X10_isSheet : GoodIn wsX10_put wsX10_isSheet := goodIn_r _ [8, 9, 10, 7, 11] (by decide +kernel) (by decide +kernel)
set_option maxRecDepth 20000 in
theorem gX10_put_X10_isSheet : GoodIn wsX10_put (va_wsS RX10 83 yX10_isSheet wsX10_isSheet) := goodIn_app (goodIn_of _ (by decide +kernel)) ggX10_put_X10_isSheet
set_option maxRecDepth 20000 in
theorem ggX10_put_X10_fails : GoodIn wsX10_put wsX10_fails := goodIn_r _ [15, 1, 16, 17, 18, 19, 20, 21, 22, 23, 24, 25, 26, 27, 28, 29, 30, 31, 32, 33, 34, 35, 36, 37, 38, 39, 40, 41, 42, 43, 44, 45, 46, 47] (by decide +kernel) (by decide +kernel)
set_option maxRecDepth 20000 in
theorem gX10_put_X10_fails : GoodIn wsX10_put (wsV RX10 94 RX10 yX10_fails wsX10_fails) := goodIn_app (goodIn_of _ (by decide +kernel)) ggX10_put_X10_fails
set_option maxRecDepth 20000 in
theorem ggX10_put_X10_within : GoodIn wsX10_put wsX10_within := goodIn_r _ [11] (by decide +kernel) (by decide +kernel)
set_option maxRecDepth 20000 in
theorem gX10_put_X10_within : GoodIn wsX10_put (va_wsS RX10 73 yX10_within wsX10_within) := goodIn_app (goodIn_of _ (by decide +kernel)) ggX10_put_X10_within
theorem dX10_put_0 : decode cX10_put 0 = .ok (.aload_n 0, 1) := by decide +kernel
theorem dX10_put_1 : decode cX10_put 1 = .ok (.iconst 0, 1) := by decide +kernel
theorem dX10_put_2 : decode cX10_put 2 = .ok (.putfield 67, 3) := by decide +kernel
theorem dX10_put_5 : decode cX10_put 5 = .ok (.iload_n 1, 1) := by decide +kernel
theorem dX10_put_6 : decode cX10_put 6 = .ok (.invokestatic 83, 3) := by decide +kernel
theorem dX10_put_9 : decode cX10_put 9 = .ok (.ifCond .ne 5, 3) := by decide +kernel
theorem dX10_put_12 : decode cX10_put 12 = .ok (.iconst (-1), 1) := by decide +kernel
theorem dX10_put_13 : decode cX10_put 13 = .ok (.ireturn, 1) := by decide +kernel
theorem dX10_put_14 : decode cX10_put 14 = .ok (.aload_n 0, 1) := by decide +kernel
theorem dX10_put_15 : decode cX10_put 15 = .ok (.getfield 9, 3) := by decide +kernel
theorem dX10_put_18 : decode cX10_put 18 = .ok (.iload_n 1, 1) := by decide +kernel
theorem dX10_put_19 : decode cX10_put 19 = .ok (.iaload, 1) := by decide +kernel
theorem dX10_put_20 : decode cX10_put 20 = .ok (.bipush (-9), 2) := by decide +kernel
theorem dX10_put_22 : decode cX10_put 22 = .ok (.if_icmp .ne 9, 3) := by decide +kernel
theorem dX10_put_25 : decode cX10_put 25 = .ok (.aload_n 0, 1) := by decide +kernel
theorem dX10_put_26 : decode cX10_put 26 = .ok (.iconst 1, 1) := by decide +kernel
theorem dX10_put_27 : decode cX10_put 27 = .ok (.invokevirtual 94, 3) := by decide +kernel
theorem dX10_put_30 : decode cX10_put 30 = .ok (.ireturn, 1) := by decide +kernel
theorem dX10_put_31 : decode cX10_put 31 = .ok (.iload_n 2, 1) := by decide +kernel
theorem dX10_put_32 : decode cX10_put 32 = .ok (.iconst 0, 1) := by decide +kernel
theorem dX10_put_33 : decode cX10_put 33 = .ok (.aload_n 0, 1) := by decide +kernel
theorem dX10_put_34 : decode cX10_put 34 = .ok (.getfield 13, 3) := by decide +kernel
theorem dX10_put_37 : decode cX10_put 37 = .ok (.iload_n 1, 1) := by decide +kernel
theorem dX10_put_38 : decode cX10_put 38 = .ok (.iaload, 1) := by decide +kernel
theorem dX10_put_39 : decode cX10_put 39 = .ok (.iconst 1, 1) := by decide +kernel
theorem dX10_put_40 : decode cX10_put 40 = .ok (.isub, 1) := by decide +kernel
theorem dX10_put_41 : decode cX10_put 41 = .ok (.invokestatic 73, 3) := by decide +kernel
theorem dX10_put_44 : decode cX10_put 44 = .ok (.ifCond .ne 9, 3) := by decide +kernel
theorem dX10_put_47 : decode cX10_put 47 = .ok (.aload_n 0, 1) := by decide +kernel
theorem dX10_put_48 : decode cX10_put 48 = .ok (.iconst 3, 1) := by decide +kernel
theorem dX10_put_49 : decode cX10_put 49 = .ok (.invokevirtual 94, 3) := by decide +kernel
theorem dX10_put_52 : decode cX10_put 52 = .ok (.ireturn, 1) := by decide +kernel
theorem dX10_put_53 : decode cX10_put 53 = .ok (.aload_n 0, 1) := by decide +kernel
theorem dX10_put_54 : decode cX10_put 54 = .ok (.getfield 16, 3) := by decide +kernel
theorem dX10_put_57 : decode cX10_put 57 = .ok (.bipush 60, 2) := by decide +kernel
theorem dX10_put_59 : decode cX10_put 59 = .ok (.iload_n 1, 1) := by decide +kernel
theorem dX10_put_60 : decode cX10_put 60 = .ok (.imul, 1) := by decide +kernel
theorem dX10_put_61 : decode cX10_put 61 = .ok (.iload_n 2, 1) := by decide +kernel
theorem dX10_put_62 : decode cX10_put 62 = .ok (.iadd, 1) := by decide +kernel
theorem dX10_put_63 : decode cX10_put 63 = .ok (.aload_n 0, 1) := by decide +kernel
theorem dX10_put_64 : decode cX10_put 64 = .ok (.getfield 9, 3) := by decide +kernel
theorem dX10_put_67 : decode cX10_put 67 = .ok (.iload_n 1, 1) := by decide +kernel
theorem dX10_put_68 : decode cX10_put 68 = .ok (.iaload, 1) := by decide +kernel
theorem dX10_put_69 : decode cX10_put 69 = .ok (.ifCond .ne 8, 3) := by decide +kernel
theorem dX10_put_72 : decode cX10_put 72 = .ok (.iload_n 3, 1) := by decide +kernel
theorem dX10_put_73 : decode cX10_put 73 = .ok (.i2b, 1) := by decide +kernel
theorem dX10_put_74 : decode cX10_put 74 = .ok (.goto 19, 3) := by decide +kernel
theorem dX10_put_77 : decode cX10_put 77 = .ok (.aload_n 0, 1) := by decide +kernel
theorem dX10_put_78 : decode cX10_put 78 = .ok (.getfield 9, 3) := by decide +kernel
theorem dX10_put_81 : decode cX10_put 81 = .ok (.iload_n 1, 1) := by decide +kernel
theorem dX10_put_82 : decode cX10_put 82 = .ok (.iaload, 1) := by decide +kernel
theorem dX10_put_83 : decode cX10_put 83 = .ok (.iconst 1, 1) := by decide +kernel
theorem dX10_put_84 : decode cX10_put 84 = .ok (.if_icmp .ne 8, 3) := by decide +kernel
theorem dX10_put_87 : decode cX10_put 87 = .ok (.iload_n 3, 1) := by decide +kernel
theorem dX10_put_88 : decode cX10_put 88 = .ok (.i2s, 1) := by decide +kernel
theorem dX10_put_89 : decode cX10_put 89 = .ok (.goto 4, 3) := by decide +kernel
theorem dX10_put_92 : decode cX10_put 92 = .ok (.iload_n 3, 1) := by decide +kernel
theorem dX10_put_93 : decode cX10_put 93 = .ok (.iastore, 1) := by decide +kernel
theorem dX10_put_94 : decode cX10_put 94 = .ok (.iconst 1, 1) := by decide +kernel
theorem dX10_put_95 : decode cX10_put 95 = .ok (.ireturn, 1) := by decide +kernel
set_option maxRecDepth 20000 in
theorem ggX10_cell_X10_isSheet : GoodIn wsX10_cell wsX10_isSheet := goodIn_r _ [9, 10, 11, 8, 12] (by decide +kernel) (by decide +kernel)
set_option maxRecDepth 20000 in
theorem gX10_cell_X10_isSheet : GoodIn wsX10_cell (va_wsS RX10 83 yX10_isSheet wsX10_isSheet) := goodIn_app (goodIn_of _ (by decide +kernel)) ggX10_cell_X10_isSheet
set_option maxRecDepth 20000 in
theorem ggX10_cell_X10_isSort : GoodIn wsX10_cell wsX10_isSort := goodIn_r _ [15, 10, 11, 8, 12] (by decide +kernel) (by decide +kernel)
set_option maxRecDepth 20000 in
theorem gX10_cell_X10_isSort : GoodIn wsX10_cell (va_wsS RX10 87 yX10_isSort wsX10_isSort) := goodIn_app (goodIn_of _ (by decide +kernel)) ggX10_cell_X10_isSort
set_option maxRecDepth 20000 in
theorem ggX10_cell_X10_lost : GoodIn wsX10_cell wsX10_lost := goodIn_r _ [19, 1, 2, 20, 21, 22, 23, 24, 25, 26, 27, 28, 29, 30, 31, 32, 33, 34, 35, 36, 37, 38, 39, 40, 41, 42, 43, 44, 45, 46, 47, 48, 49, 50, 51] (by decide +kernel) (by decide +kernel)
set_option maxRecDepth 20000 in
theorem gX10_cell_X10_lost : GoodIn wsX10_cell (wsV RX10 216 RX10 yX10_lost wsX10_lost) := goodIn_app (goodIn_of _ (by decide +kernel)) ggX10_cell_X10_lost
set_option maxRecDepth 20000 in
theorem ggX10_cell_X10_within : GoodIn wsX10_cell wsX10_within := goodIn_r _ [12] (by decide +kernel) (by decide +kernel)
set_option maxRecDepth 20000 in
theorem gX10_cell_X10_within : GoodIn wsX10_cell (va_wsS RX10 73 yX10_within wsX10_within) := goodIn_app (goodIn_of _ (by decide +kernel)) ggX10_cell_X10_within
theorem dX10_cell_0 : decode cX10_cell 0 = .ok (.aload_n 0, 1) := by decide +kernel
theorem dX10_cell_1 : decode cX10_cell 1 = .ok (.iconst 0, 1) := by decide +kernel
theorem dX10_cell_2 : decode cX10_cell 2 = .ok (.putfield 67, 3) := by decide +kernel
theorem dX10_cell_5 : decode cX10_cell 5 = .ok (.iload_n 1, 1) := by decide +kernel
theorem dX10_cell_6 : decode cX10_cell 6 = .ok (.invokestatic 83, 3) := by decide +kernel
theorem dX10_cell_9 : decode cX10_cell 9 = .ok (.ifCond .eq 10, 3) := by decide +kernel
theorem dX10_cell_12 : decode cX10_cell 12 = .ok (.iload_n 3, 1) := by decide +kernel
theorem dX10_cell_13 : decode cX10_cell 13 = .ok (.invokestatic 87, 3) := by decide +kernel
theorem dX10_cell_16 : decode cX10_cell 16 = .ok (.ifCond .ne 7, 3) := by decide +kernel
theorem dX10_cell_19 : decode cX10_cell 19 = .ok (.ldc2_w 71, 3) := by decide +kernel
theorem dX10_cell_22 : decode cX10_cell 22 = .ok (.lreturn, 1) := by decide +kernel
theorem dX10_cell_23 : decode cX10_cell 23 = .ok (.aload_n 0, 1) := by decide +kernel
theorem dX10_cell_24 : decode cX10_cell 24 = .ok (.getfield 9, 3) := by decide +kernel
theorem dX10_cell_27 : decode cX10_cell 27 = .ok (.iload_n 1, 1) := by decide +kernel
theorem dX10_cell_28 : decode cX10_cell 28 = .ok (.iaload, 1) := by decide +kernel
theorem dX10_cell_29 : decode cX10_cell 29 = .ok (.bipush (-9), 2) := by decide +kernel
theorem dX10_cell_31 : decode cX10_cell 31 = .ok (.if_icmp .eq 19, 3) := by decide +kernel
theorem dX10_cell_34 : decode cX10_cell 34 = .ok (.aload_n 0, 1) := by decide +kernel
theorem dX10_cell_35 : decode cX10_cell 35 = .ok (.getfield 9, 3) := by decide +kernel
theorem dX10_cell_38 : decode cX10_cell 38 = .ok (.iload_n 1, 1) := by decide +kernel
theorem dX10_cell_39 : decode cX10_cell 39 = .ok (.iaload, 1) := by decide +kernel
theorem dX10_cell_40 : decode cX10_cell 40 = .ok (.iload_n 3, 1) := by decide +kernel
theorem dX10_cell_41 : decode cX10_cell 41 = .ok (.if_icmp .eq 9, 3) := by decide +kernel
theorem dX10_cell_44 : decode cX10_cell 44 = .ok (.aload_n 0, 1) := by decide +kernel
theorem dX10_cell_45 : decode cX10_cell 45 = .ok (.iconst 2, 1) := by decide +kernel
theorem dX10_cell_46 : decode cX10_cell 46 = .ok (.invokevirtual 216, 3) := by decide +kernel
theorem dX10_cell_49 : decode cX10_cell 49 = .ok (.lreturn, 1) := by decide +kernel
theorem dX10_cell_50 : decode cX10_cell 50 = .ok (.aload_n 0, 1) := by decide +kernel
theorem dX10_cell_51 : decode cX10_cell 51 = .ok (.getfield 9, 3) := by decide +kernel
theorem dX10_cell_54 : decode cX10_cell 54 = .ok (.iload_n 1, 1) := by decide +kernel
theorem dX10_cell_55 : decode cX10_cell 55 = .ok (.iaload, 1) := by decide +kernel
theorem dX10_cell_56 : decode cX10_cell 56 = .ok (.bipush (-9), 2) := by decide +kernel
theorem dX10_cell_58 : decode cX10_cell 58 = .ok (.if_icmp .ne 9, 3) := by decide +kernel
theorem dX10_cell_61 : decode cX10_cell 61 = .ok (.aload_n 0, 1) := by decide +kernel
theorem dX10_cell_62 : decode cX10_cell 62 = .ok (.iconst 1, 1) := by decide +kernel
theorem dX10_cell_63 : decode cX10_cell 63 = .ok (.invokevirtual 216, 3) := by decide +kernel
theorem dX10_cell_66 : decode cX10_cell 66 = .ok (.lreturn, 1) := by decide +kernel
theorem dX10_cell_67 : decode cX10_cell 67 = .ok (.iload_n 2, 1) := by decide +kernel
theorem dX10_cell_68 : decode cX10_cell 68 = .ok (.iconst 0, 1) := by decide +kernel
theorem dX10_cell_69 : decode cX10_cell 69 = .ok (.aload_n 0, 1) := by decide +kernel
theorem dX10_cell_70 : decode cX10_cell 70 = .ok (.getfield 13, 3) := by decide +kernel
theorem dX10_cell_73 : decode cX10_cell 73 = .ok (.iload_n 1, 1) := by decide +kernel
theorem dX10_cell_74 : decode cX10_cell 74 = .ok (.iaload, 1) := by decide +kernel
theorem dX10_cell_75 : decode cX10_cell 75 = .ok (.iconst 1, 1) := by decide +kernel
theorem dX10_cell_76 : decode cX10_cell 76 = .ok (.isub, 1) := by decide +kernel
theorem dX10_cell_77 : decode cX10_cell 77 = .ok (.invokestatic 73, 3) := by decide +kernel
theorem dX10_cell_80 : decode cX10_cell 80 = .ok (.ifCond .ne 9, 3) := by decide +kernel
theorem dX10_cell_83 : decode cX10_cell 83 = .ok (.aload_n 0, 1) := by decide +kernel
theorem dX10_cell_84 : decode cX10_cell 84 = .ok (.iconst 3, 1) := by decide +kernel
theorem dX10_cell_85 : decode cX10_cell 85 = .ok (.invokevirtual 216, 3) := by decide +kernel
theorem dX10_cell_88 : decode cX10_cell 88 = .ok (.lreturn, 1) := by decide +kernel
theorem dX10_cell_89 : decode cX10_cell 89 = .ok (.aload_n 0, 1) := by decide +kernel
theorem dX10_cell_90 : decode cX10_cell 90 = .ok (.getfield 16, 3) := by decide +kernel
theorem dX10_cell_93 : decode cX10_cell 93 = .ok (.bipush 60, 2) := by decide +kernel
theorem dX10_cell_95 : decode cX10_cell 95 = .ok (.iload_n 1, 1) := by decide +kernel
theorem dX10_cell_96 : decode cX10_cell 96 = .ok (.imul, 1) := by decide +kernel
theorem dX10_cell_97 : decode cX10_cell 97 = .ok (.iload_n 2, 1) := by decide +kernel
theorem dX10_cell_98 : decode cX10_cell 98 = .ok (.iadd, 1) := by decide +kernel
theorem dX10_cell_99 : decode cX10_cell 99 = .ok (.iaload, 1) := by decide +kernel
theorem dX10_cell_100 : decode cX10_cell 100 = .ok (.i2l, 1) := by decide +kernel
theorem dX10_cell_101 : decode cX10_cell 101 = .ok (.lreturn, 1) := by decide +kernel
set_option maxRecDepth 20000 in
theorem ggX10_copy_X10_isSheet : GoodIn wsX10_copy wsX10_isSheet := goodIn_r _ [8, 9, 10, 7, 11] (by decide +kernel) (by decide +kernel)
set_option maxRecDepth 20000 in
theorem gX10_copy_X10_isSheet : GoodIn wsX10_copy (va_wsS RX10 83 yX10_isSheet wsX10_isSheet) := goodIn_app (goodIn_of _ (by decide +kernel)) ggX10_copy_X10_isSheet
set_option maxRecDepth 20000 in
theorem ggX10_copy_X10_fails : GoodIn wsX10_copy wsX10_fails := goodIn_r _ [15, 1, 16, 17, 18, 19, 20, 21, 22, 23, 24, 25, 26, 27, 28, 29, 30, 31, 32, 33, 34, 35, 36, 37, 38, 39, 40, 41, 42, 43, 44, 45, 46, 47] (by decide +kernel) (by decide +kernel)
set_option maxRecDepth 20000 in
theorem gX10_copy_X10_fails : GoodIn wsX10_copy (wsV RX10 94 RX10 yX10_fails wsX10_fails) := goodIn_app (goodIn_of _ (by decide +kernel)) ggX10_copy_X10_fails
theorem dX10_copy_0 : decode cX10_copy 0 = .ok (.aload_n 0, 1) := by decide +kernel
theorem dX10_copy_1 : decode cX10_copy 1 = .ok (.iconst 0, 1) := by decide +kernel
theorem dX10_copy_2 : decode cX10_copy 2 = .ok (.putfield 67, 3) := by decide +kernel
theorem dX10_copy_5 : decode cX10_copy 5 = .ok (.iload_n 1, 1) := by decide +kernel
theorem dX10_copy_6 : decode cX10_copy 6 = .ok (.invokestatic 83, 3) := by decide +kernel
theorem dX10_copy_9 : decode cX10_copy 9 = .ok (.ifCond .eq 10, 3) := by decide +kernel
theorem dX10_copy_12 : decode cX10_copy 12 = .ok (.iload_n 3, 1) := by decide +kernel
theorem dX10_copy_13 : decode cX10_copy 13 = .ok (.invokestatic 83, 3) := by decide +kernel
theorem dX10_copy_16 : decode cX10_copy 16 = .ok (.ifCond .ne 5, 3) := by decide +kernel
theorem dX10_copy_19 : decode cX10_copy 19 = .ok (.iconst (-1), 1) := by decide +kernel
theorem dX10_copy_20 : decode cX10_copy 20 = .ok (.ireturn, 1) := by decide +kernel
theorem dX10_copy_21 : decode cX10_copy 21 = .ok (.aload_n 0, 1) := by decide +kernel
theorem dX10_copy_22 : decode cX10_copy 22 = .ok (.getfield 9, 3) := by decide +kernel
theorem dX10_copy_25 : decode cX10_copy 25 = .ok (.iload_n 1, 1) := by decide +kernel
theorem dX10_copy_26 : decode cX10_copy 26 = .ok (.iaload, 1) := by decide +kernel
theorem dX10_copy_27 : decode cX10_copy 27 = .ok (.bipush (-9), 2) := by decide +kernel
theorem dX10_copy_29 : decode cX10_copy 29 = .ok (.if_icmp .eq 14, 3) := by decide +kernel
theorem dX10_copy_32 : decode cX10_copy 32 = .ok (.aload_n 0, 1) := by decide +kernel
theorem dX10_copy_33 : decode cX10_copy 33 = .ok (.getfield 9, 3) := by decide +kernel
theorem dX10_copy_36 : decode cX10_copy 36 = .ok (.iload_n 3, 1) := by decide +kernel
theorem dX10_copy_37 : decode cX10_copy 37 = .ok (.iaload, 1) := by decide +kernel
theorem dX10_copy_38 : decode cX10_copy 38 = .ok (.bipush (-9), 2) := by decide +kernel
theorem dX10_copy_40 : decode cX10_copy 40 = .ok (.if_icmp .ne 9, 3) := by decide +kernel
theorem dX10_copy_43 : decode cX10_copy 43 = .ok (.aload_n 0, 1) := by decide +kernel
theorem dX10_copy_44 : decode cX10_copy 44 = .ok (.iconst 1, 1) := by decide +kernel
theorem dX10_copy_45 : decode cX10_copy 45 = .ok (.invokevirtual 94, 3) := by decide +kernel
theorem dX10_copy_48 : decode cX10_copy 48 = .ok (.ireturn, 1) := by decide +kernel
theorem dX10_copy_49 : decode cX10_copy 49 = .ok (.aload_n 0, 1) := by decide +kernel
theorem dX10_copy_50 : decode cX10_copy 50 = .ok (.getfield 9, 3) := by decide +kernel
theorem dX10_copy_53 : decode cX10_copy 53 = .ok (.iload_n 1, 1) := by decide +kernel
theorem dX10_copy_54 : decode cX10_copy 54 = .ok (.iaload, 1) := by decide +kernel
theorem dX10_copy_55 : decode cX10_copy 55 = .ok (.aload_n 0, 1) := by decide +kernel
theorem dX10_copy_56 : decode cX10_copy 56 = .ok (.getfield 9, 3) := by decide +kernel
theorem dX10_copy_59 : decode cX10_copy 59 = .ok (.iload_n 3, 1) := by decide +kernel
theorem dX10_copy_60 : decode cX10_copy 60 = .ok (.iaload, 1) := by decide +kernel
theorem dX10_copy_61 : decode cX10_copy 61 = .ok (.if_icmp .eq 9, 3) := by decide +kernel
theorem dX10_copy_64 : decode cX10_copy 64 = .ok (.aload_n 0, 1) := by decide +kernel
theorem dX10_copy_65 : decode cX10_copy 65 = .ok (.iconst 2, 1) := by decide +kernel
theorem dX10_copy_66 : decode cX10_copy 66 = .ok (.invokevirtual 94, 3) := by decide +kernel
theorem dX10_copy_69 : decode cX10_copy 69 = .ok (.ireturn, 1) := by decide +kernel
theorem dX10_copy_70 : decode cX10_copy 70 = .ok (.iload_n 2, 1) := by decide +kernel
theorem dX10_copy_71 : decode cX10_copy 71 = .ok (.ifCond .lt 38, 3) := by decide +kernel
theorem dX10_copy_74 : decode cX10_copy 74 = .ok (.iload 4, 2) := by decide +kernel
theorem dX10_copy_76 : decode cX10_copy 76 = .ok (.ifCond .lt 33, 3) := by decide +kernel
theorem dX10_copy_79 : decode cX10_copy 79 = .ok (.iload 5, 2) := by decide +kernel
theorem dX10_copy_81 : decode cX10_copy 81 = .ok (.ifCond .lt 28, 3) := by decide +kernel
theorem dX10_copy_84 : decode cX10_copy 84 = .ok (.iload_n 2, 1) := by decide +kernel
theorem dX10_copy_85 : decode cX10_copy 85 = .ok (.aload_n 0, 1) := by decide +kernel
theorem dX10_copy_86 : decode cX10_copy 86 = .ok (.getfield 13, 3) := by decide +kernel
theorem dX10_copy_89 : decode cX10_copy 89 = .ok (.iload_n 1, 1) := by decide +kernel
theorem dX10_copy_90 : decode cX10_copy 90 = .ok (.iaload, 1) := by decide +kernel
theorem dX10_copy_91 : decode cX10_copy 91 = .ok (.if_icmp .gt 18, 3) := by decide +kernel
theorem dX10_copy_94 : decode cX10_copy 94 = .ok (.iload 4, 2) := by decide +kernel
theorem dX10_copy_96 : decode cX10_copy 96 = .ok (.aload_n 0, 1) := by decide +kernel
theorem dX10_copy_97 : decode cX10_copy 97 = .ok (.getfield 13, 3) := by decide +kernel
theorem dX10_copy_100 : decode cX10_copy 100 = .ok (.iload_n 3, 1) := by decide +kernel
theorem dX10_copy_101 : decode cX10_copy 101 = .ok (.iaload, 1) := by decide +kernel
theorem dX10_copy_102 : decode cX10_copy 102 = .ok (.if_icmp .gt 7, 3) := by decide +kernel
theorem dX10_copy_105 : decode cX10_copy 105 = .ok (.iconst 1, 1) := by decide +kernel
theorem dX10_copy_106 : decode cX10_copy 106 = .ok (.goto 4, 3) := by decide +kernel
theorem dX10_copy_109 : decode cX10_copy 109 = .ok (.iconst 0, 1) := by decide +kernel
theorem dX10_copy_110 : decode cX10_copy 110 = .ok (.istore 6, 2) := by decide +kernel
theorem dX10_copy_112 : decode cX10_copy 112 = .ok (.iload 6, 2) := by decide +kernel
theorem dX10_copy_114 : decode cX10_copy 114 = .ok (.ifCond .eq 30, 3) := by decide +kernel
theorem dX10_copy_117 : decode cX10_copy 117 = .ok (.iload 5, 2) := by decide +kernel
theorem dX10_copy_119 : decode cX10_copy 119 = .ok (.aload_n 0, 1) := by decide +kernel
theorem dX10_copy_120 : decode cX10_copy 120 = .ok (.getfield 13, 3) := by decide +kernel
theorem dX10_copy_123 : decode cX10_copy 123 = .ok (.iload_n 1, 1) := by decide +kernel
theorem dX10_copy_124 : decode cX10_copy 124 = .ok (.iaload, 1) := by decide +kernel
theorem dX10_copy_125 : decode cX10_copy 125 = .ok (.iload_n 2, 1) := by decide +kernel
theorem dX10_copy_126 : decode cX10_copy 126 = .ok (.isub, 1) := by decide +kernel
theorem dX10_copy_127 : decode cX10_copy 127 = .ok (.if_icmp .gt 17, 3) := by decide +kernel
theorem dX10_copy_130 : decode cX10_copy 130 = .ok (.iload 5, 2) := by decide +kernel
theorem dX10_copy_132 : decode cX10_copy 132 = .ok (.aload_n 0, 1) := by decide +kernel
theorem dX10_copy_133 : decode cX10_copy 133 = .ok (.getfield 13, 3) := by decide +kernel
theorem dX10_copy_136 : decode cX10_copy 136 = .ok (.iload_n 3, 1) := by decide +kernel
theorem dX10_copy_137 : decode cX10_copy 137 = .ok (.iaload, 1) := by decide +kernel
theorem dX10_copy_138 : decode cX10_copy 138 = .ok (.iload 4, 2) := by decide +kernel
theorem dX10_copy_140 : decode cX10_copy 140 = .ok (.isub, 1) := by decide +kernel
theorem dX10_copy_141 : decode cX10_copy 141 = .ok (.if_icmp .le 9, 3) := by decide +kernel
theorem dX10_copy_144 : decode cX10_copy 144 = .ok (.aload_n 0, 1) := by decide +kernel
theorem dX10_copy_145 : decode cX10_copy 145 = .ok (.iconst 3, 1) := by decide +kernel
theorem dX10_copy_146 : decode cX10_copy 146 = .ok (.invokevirtual 94, 3) := by decide +kernel
theorem dX10_copy_149 : decode cX10_copy 149 = .ok (.ireturn, 1) := by decide +kernel
theorem dX10_copy_150 : decode cX10_copy 150 = .ok (.iload_n 2, 1) := by decide +kernel
theorem dX10_copy_151 : decode cX10_copy 151 = .ok (.iload 4, 2) := by decide +kernel
theorem dX10_copy_153 : decode cX10_copy 153 = .ok (.if_icmp .ge 7, 3) := by decide +kernel
theorem dX10_copy_156 : decode cX10_copy 156 = .ok (.iconst 1, 1) := by decide +kernel
theorem dX10_copy_157 : decode cX10_copy 157 = .ok (.goto 4, 3) := by decide +kernel
theorem dX10_copy_160 : decode cX10_copy 160 = .ok (.iconst 0, 1) := by decide +kernel
theorem dX10_copy_161 : decode cX10_copy 161 = .ok (.istore 7, 2) := by decide +kernel
theorem dX10_copy_163 : decode cX10_copy 163 = .ok (.iconst 0, 1) := by decide +kernel
theorem dX10_copy_164 : decode cX10_copy 164 = .ok (.istore 8, 2) := by decide +kernel
theorem dX10_copy_166 : decode cX10_copy 166 = .ok (.iload 8, 2) := by decide +kernel
theorem dX10_copy_168 : decode cX10_copy 168 = .ok (.iload 5, 2) := by decide +kernel
theorem dX10_copy_170 : decode cX10_copy 170 = .ok (.if_icmp .ge 57, 3) := by decide +kernel
theorem dX10_copy_173 : decode cX10_copy 173 = .ok (.iload 7, 2) := by decide +kernel
theorem dX10_copy_175 : decode cX10_copy 175 = .ok (.ifCond .eq 13, 3) := by decide +kernel
theorem dX10_copy_178 : decode cX10_copy 178 = .ok (.iload 5, 2) := by decide +kernel
theorem dX10_copy_180 : decode cX10_copy 180 = .ok (.iconst 1, 1) := by decide +kernel
theorem dX10_copy_181 : decode cX10_copy 181 = .ok (.isub, 1) := by decide +kernel
theorem dX10_copy_182 : decode cX10_copy 182 = .ok (.iload 8, 2) := by decide +kernel
theorem dX10_copy_184 : decode cX10_copy 184 = .ok (.isub, 1) := by decide +kernel
theorem dX10_copy_185 : decode cX10_copy 185 = .ok (.goto 5, 3) := by decide +kernel
theorem dX10_copy_188 : decode cX10_copy 188 = .ok (.iload 8, 2) := by decide +kernel
theorem dX10_copy_190 : decode cX10_copy 190 = .ok (.istore 9, 2) := by decide +kernel
theorem dX10_copy_192 : decode cX10_copy 192 = .ok (.aload_n 0, 1) := by decide +kernel
theorem dX10_copy_193 : decode cX10_copy 193 = .ok (.getfield 16, 3) := by decide +kernel
theorem dX10_copy_196 : decode cX10_copy 196 = .ok (.bipush 60, 2) := by decide +kernel
theorem dX10_copy_198 : decode cX10_copy 198 = .ok (.iload_n 3, 1) := by decide +kernel
theorem dX10_copy_199 : decode cX10_copy 199 = .ok (.imul, 1) := by decide +kernel
theorem dX10_copy_200 : decode cX10_copy 200 = .ok (.iload 4, 2) := by decide +kernel
theorem dX10_copy_202 : decode cX10_copy 202 = .ok (.iadd, 1) := by decide +kernel
theorem dX10_copy_203 : decode cX10_copy 203 = .ok (.iload 9, 2) := by decide +kernel
theorem dX10_copy_205 : decode cX10_copy 205 = .ok (.iadd, 1) := by decide +kernel
theorem dX10_copy_206 : decode cX10_copy 206 = .ok (.aload_n 0, 1) := by decide +kernel
theorem dX10_copy_207 : decode cX10_copy 207 = .ok (.getfield 16, 3) := by decide +kernel
theorem dX10_copy_210 : decode cX10_copy 210 = .ok (.bipush 60, 2) := by decide +kernel
theorem dX10_copy_212 : decode cX10_copy 212 = .ok (.iload_n 1, 1) := by decide +kernel
theorem dX10_copy_213 : decode cX10_copy 213 = .ok (.imul, 1) := by decide +kernel
theorem dX10_copy_214 : decode cX10_copy 214 = .ok (.iload_n 2, 1) := by decide +kernel
theorem dX10_copy_215 : decode cX10_copy 215 = .ok (.iadd, 1) := by decide +kernel
theorem dX10_copy_216 : decode cX10_copy 216 = .ok (.iload 9, 2) := by decide +kernel
theorem dX10_copy_218 : decode cX10_copy 218 = .ok (.iadd, 1) := by decide +kernel
theorem dX10_copy_219 : decode cX10_copy 219 = .ok (.iaload, 1) := by decide +kernel
theorem dX10_copy_220 : decode cX10_copy 220 = .ok (.iastore, 1) := by decide +kernel
theorem dX10_copy_221 : decode cX10_copy 221 = .ok (.iinc 8 1, 3) := by decide +kernel
theorem dX10_copy_224 : decode cX10_copy 224 = .ok (.goto (-58), 3) := by decide +kernel
theorem dX10_copy_227 : decode cX10_copy 227 = .ok (.iload 5, 2) := by decide +kernel
theorem dX10_copy_229 : decode cX10_copy 229 = .ok (.ireturn, 1) := by decide +kernel
theorem dX10_begins_0 : decode cX10_begins 0 = .ok (.aload_n 0, 1) := by decide +kernel
theorem dX10_begins_1 : decode cX10_begins 1 = .ok (.bipush 31, 2) := by decide +kernel
theorem dX10_begins_3 : decode cX10_begins 3 = .ok (.aload_n 0, 1) := by decide +kernel
theorem dX10_begins_4 : decode cX10_begins 4 = .ok (.getfield 220, 3) := by decide +kernel
theorem dX10_begins_7 : decode cX10_begins 7 = .ok (.imul, 1) := by decide +kernel
theorem dX10_begins_8 : decode cX10_begins 8 = .ok (.iload_n 1, 1) := by decide +kernel
theorem dX10_begins_9 : decode cX10_begins 9 = .ok (.iadd, 1) := by decide +kernel
theorem dX10_begins_10 : decode cX10_begins 10 = .ok (.putfield 220, 3) := by decide +kernel
theorem dX10_begins_13 : decode cX10_begins 13 = .ok (.return_, 1) := by decide +kernel
set_option maxRecDepth 20000 in
theorem ggX10_tell_X10_isPerson : GoodIn wsX10_tell wsX10_isPerson := goodIn_r _ [7, 8, 14, 15, 16, 17, 18, 19, 20, 21, 22, 23, 24, 25, 26, 27, 28, 29, 30, 31, 32, 33, 34, 35, 36, 37, 38, 39, 40, 41, 42, 43, 44, 45] (by decide +kernel) (by decide +kernel)
set_option maxRecDepth 20000 in
theorem gX10_tell_X10_isPerson : GoodIn wsX10_tell (wsV RX10 133 RX10 yX10_isPerson wsX10_isPerson) := goodIn_app (goodIn_of _ (by decide +kernel)) ggX10_tell_X10_isPerson
set_option maxRecDepth 20000 in
theorem ggX10_tell_X10_begins : GoodIn wsX10_tell wsX10_begins := goodIn_r _ [12, 13, 14, 15, 16, 17, 18, 19, 20, 21, 22, 23, 24, 25, 26, 27, 28, 29, 30, 31, 32, 33, 34, 35, 36, 37, 38, 39, 40, 41, 42, 43, 44, 45] (by decide +kernel) (by decide +kernel)
set_option maxRecDepth 20000 in
theorem gX10_tell_X10_begins : GoodIn wsX10_tell (wsV RX10 223 RX10 yX10_begins wsX10_begins) := goodIn_app (goodIn_of _ (by decide +kernel)) ggX10_tell_X10_begins
theorem dX10_tell_0 : decode cX10_tell 0 = .ok (.aload_n 0, 1) := by decide +kernel
theorem dX10_tell_1 : decode cX10_tell 1 = .ok (.iload_n 1, 1) := by decide +kernel
theorem dX10_tell_2 : decode cX10_tell 2 = .ok (.invokevirtual 133, 3) := by decide +kernel
theorem dX10_tell_5 : decode cX10_tell 5 = .ok (.ifCond .ne 5, 3) := by decide +kernel
theorem dX10_tell_8 : decode cX10_tell 8 = .ok (.iconst (-1), 1) := by decide +kernel
theorem dX10_tell_9 : decode cX10_tell 9 = .ok (.ireturn, 1) := by decide +kernel
theorem dX10_tell_10 : decode cX10_tell 10 = .ok (.aload_n 0, 1) := by decide +kernel
theorem dX10_tell_11 : decode cX10_tell 11 = .ok (.getfield 31, 3) := by decide +kernel
theorem dX10_tell_14 : decode cX10_tell 14 = .ok (.iload_n 1, 1) := by decide +kernel
theorem dX10_tell_15 : decode cX10_tell 15 = .ok (.iaload, 1) := by decide +kernel
theorem dX10_tell_16 : decode cX10_tell 16 = .ok (.istore_n 2, 1) := by decide +kernel
theorem dX10_tell_17 : decode cX10_tell 17 = .ok (.aload_n 0, 1) := by decide +kernel
theorem dX10_tell_18 : decode cX10_tell 18 = .ok (.getfield 22, 3) := by decide +kernel
theorem dX10_tell_21 : decode cX10_tell 21 = .ok (.iload_n 1, 1) := by decide +kernel
theorem dX10_tell_22 : decode cX10_tell 22 = .ok (.iaload, 1) := by decide +kernel
theorem dX10_tell_23 : decode cX10_tell 23 = .ok (.lookupswitch 67 #[(1, 25), (2, 40)], 25) := by decide +kernel
theorem dX10_tell_48 : decode cX10_tell 48 = .ok (.aload_n 0, 1) := by decide +kernel
theorem dX10_tell_49 : decode cX10_tell 49 = .ok (.iconst 2, 1) := by decide +kernel
theorem dX10_tell_50 : decode cX10_tell 50 = .ok (.invokevirtual 223, 3) := by decide +kernel
theorem dX10_tell_53 : decode cX10_tell 53 = .ok (.aload_n 0, 1) := by decide +kernel
theorem dX10_tell_54 : decode cX10_tell 54 = .ok (.iconst 1, 1) := by decide +kernel
theorem dX10_tell_55 : decode cX10_tell 55 = .ok (.invokevirtual 223, 3) := by decide +kernel
theorem dX10_tell_58 : decode cX10_tell 58 = .ok (.iload_n 2, 1) := by decide +kernel
theorem dX10_tell_59 : decode cX10_tell 59 = .ok (.bipush 100, 2) := by decide +kernel
theorem dX10_tell_61 : decode cX10_tell 61 = .ok (.iadd, 1) := by decide +kernel
theorem dX10_tell_62 : decode cX10_tell 62 = .ok (.ireturn, 1) := by decide +kernel
theorem dX10_tell_63 : decode cX10_tell 63 = .ok (.aload_n 0, 1) := by decide +kernel
theorem dX10_tell_64 : decode cX10_tell 64 = .ok (.iconst 3, 1) := by decide +kernel
theorem dX10_tell_65 : decode cX10_tell 65 = .ok (.invokevirtual 223, 3) := by decide +kernel
theorem dX10_tell_68 : decode cX10_tell 68 = .ok (.aload_n 0, 1) := by decide +kernel
theorem dX10_tell_69 : decode cX10_tell 69 = .ok (.iconst 2, 1) := by decide +kernel
theorem dX10_tell_70 : decode cX10_tell 70 = .ok (.invokevirtual 223, 3) := by decide +kernel
theorem dX10_tell_73 : decode cX10_tell 73 = .ok (.aload_n 0, 1) := by decide +kernel
theorem dX10_tell_74 : decode cX10_tell 74 = .ok (.iconst 1, 1) := by decide +kernel
theorem dX10_tell_75 : decode cX10_tell 75 = .ok (.invokevirtual 223, 3) := by decide +kernel
theorem dX10_tell_78 : decode cX10_tell 78 = .ok (.aload_n 0, 1) := by decide +kernel
theorem dX10_tell_79 : decode cX10_tell 79 = .ok (.iconst 1, 1) := by decide +kernel
theorem dX10_tell_80 : decode cX10_tell 80 = .ok (.invokevirtual 223, 3) := by decide +kernel
theorem dX10_tell_83 : decode cX10_tell 83 = .ok (.iconst 2, 1) := by decide +kernel
theorem dX10_tell_84 : decode cX10_tell 84 = .ok (.iload_n 2, 1) := by decide +kernel
theorem dX10_tell_85 : decode cX10_tell 85 = .ok (.imul, 1) := by decide +kernel
theorem dX10_tell_86 : decode cX10_tell 86 = .ok (.bipush 100, 2) := by decide +kernel
theorem dX10_tell_88 : decode cX10_tell 88 = .ok (.iadd, 1) := by decide +kernel
theorem dX10_tell_89 : decode cX10_tell 89 = .ok (.ireturn, 1) := by decide +kernel
theorem dX10_tell_90 : decode cX10_tell 90 = .ok (.aload_n 0, 1) := by decide +kernel
theorem dX10_tell_91 : decode cX10_tell 91 = .ok (.iconst 1, 1) := by decide +kernel
theorem dX10_tell_92 : decode cX10_tell 92 = .ok (.invokevirtual 223, 3) := by decide +kernel
theorem dX10_tell_95 : decode cX10_tell 95 = .ok (.iload_n 2, 1) := by decide +kernel
theorem dX10_tell_96 : decode cX10_tell 96 = .ok (.ireturn, 1) := by decide +kernel
set_option maxRecDepth 20000 in
theorem ggX10_greet_X10_isPerson : GoodIn wsX10_greet wsX10_isPerson := goodIn_r _ [7, 8, 14, 15, 16, 17, 18, 19, 20, 21, 22, 23, 24, 25, 26, 27, 28, 29, 30, 31, 32, 33, 34, 35, 36, 37, 38, 39, 40, 41, 42, 43, 44, 45] (by decide +kernel) (by decide +kernel)
set_option maxRecDepth 20000 in
theorem gX10_greet_X10_isPerson : GoodIn wsX10_greet (wsV RX10 133 RX10 yX10_isPerson wsX10_isPerson) := goodIn_app (goodIn_of _ (by decide +kernel)) ggX10_greet_X10_isPerson
set_option maxRecDepth 20000 in
theorem ggX10_greet_X10_begins : GoodIn wsX10_greet wsX10_begins := goodIn_r _ [12, 13, 14, 15, 16, 17, 18, 19, 20, 21, 22, 23, 24, 25, 26, 27, 28, 29, 30, 31, 32, 33, 34, 35, 36, 37, 38, 39, 40, 41, 42, 43, 44, 45] (by decide +kernel) (by decide +kernel)
set_option maxRecDepth 20000 in
theorem gX10_greet_X10_begins : GoodIn wsX10_greet (wsV RX10 223 RX10 yX10_begins wsX10_begins) := goodIn_app (goodIn_of _ (by decide +kernel)) ggX10_greet_X10_begins
theorem dX10_greet_0 : decode cX10_greet 0 = .ok (.aload_n 0, 1) := by decide +kernel
theorem dX10_greet_1 : decode cX10_greet 1 = .ok (.iload_n 1, 1) := by decide +kernel
theorem dX10_greet_2 : decode cX10_greet 2 = .ok (.invokevirtual 133, 3) := by decide +kernel
theorem dX10_greet_5 : decode cX10_greet 5 = .ok (.ifCond .ne 5, 3) := by decide +kernel
theorem dX10_greet_8 : decode cX10_greet 8 = .ok (.iconst (-1), 1) := by decide +kernel
theorem dX10_greet_9 : decode cX10_greet 9 = .ok (.ireturn, 1) := by decide +kernel
theorem dX10_greet_10 : decode cX10_greet 10 = .ok (.aload_n 0, 1) := by decide +kernel
theorem dX10_greet_11 : decode cX10_greet 11 = .ok (.aload_n 0, 1) := by decide +kernel
theorem dX10_greet_12 : decode cX10_greet 12 = .ok (.getfield 22, 3) := by decide +kernel
theorem dX10_greet_15 : decode cX10_greet 15 = .ok (.iload_n 1, 1) := by decide +kernel
theorem dX10_greet_16 : decode cX10_greet 16 = .ok (.iaload, 1) := by decide +kernel
theorem dX10_greet_17 : decode cX10_greet 17 = .ok (.iconst 2, 1) := by decide +kernel
theorem dX10_greet_18 : decode cX10_greet 18 = .ok (.if_icmp .ne 7, 3) := by decide +kernel
theorem dX10_greet_21 : decode cX10_greet 21 = .ok (.iconst 5, 1) := by decide +kernel
theorem dX10_greet_22 : decode cX10_greet 22 = .ok (.goto 4, 3) := by decide +kernel
theorem dX10_greet_25 : decode cX10_greet 25 = .ok (.iconst 4, 1) := by decide +kernel
theorem dX10_greet_26 : decode cX10_greet 26 = .ok (.invokevirtual 223, 3) := by decide +kernel
theorem dX10_greet_29 : decode cX10_greet 29 = .ok (.aload_n 0, 1) := by decide +kernel
theorem dX10_greet_30 : decode cX10_greet 30 = .ok (.getfield 22, 3) := by decide +kernel
theorem dX10_greet_33 : decode cX10_greet 33 = .ok (.iload_n 1, 1) := by decide +kernel
theorem dX10_greet_34 : decode cX10_greet 34 = .ok (.iaload, 1) := by decide +kernel
theorem dX10_greet_35 : decode cX10_greet 35 = .ok (.iconst 2, 1) := by decide +kernel
theorem dX10_greet_36 : decode cX10_greet 36 = .ok (.if_icmp .ne 8, 3) := by decide +kernel
theorem dX10_greet_39 : decode cX10_greet 39 = .ok (.bipush 40, 2) := by decide +kernel
theorem dX10_greet_41 : decode cX10_greet 41 = .ok (.goto 9, 3) := by decide +kernel
theorem dX10_greet_44 : decode cX10_greet 44 = .ok (.aload_n 0, 1) := by decide +kernel
theorem dX10_greet_45 : decode cX10_greet 45 = .ok (.getfield 25, 3) := by decide +kernel
theorem dX10_greet_48 : decode cX10_greet 48 = .ok (.iload_n 1, 1) := by decide +kernel
theorem dX10_greet_49 : decode cX10_greet 49 = .ok (.iaload, 1) := by decide +kernel
theorem dX10_greet_50 : decode cX10_greet 50 = .ok (.ireturn, 1) := by decide +kernel
set_option maxRecDepth 20000 in
theorem ggX10_as_X10_isPerson : GoodIn wsX10_as wsX10_isPerson := goodIn_r _ [7, 8, 16, 17, 18, 19, 20, 21, 22, 23, 24, 25, 26, 27, 28, 29, 30, 31, 32, 33, 34, 35, 36, 37, 38, 39, 40, 41, 42, 43, 44, 45, 46, 47] (by decide +kernel) (by decide +kernel)
set_option maxRecDepth 20000 in
theorem gX10_as_X10_isPerson : GoodIn wsX10_as (wsV RX10 133 RX10 yX10_isPerson wsX10_isPerson) := goodIn_app (goodIn_of _ (by decide +kernel)) ggX10_as_X10_isPerson
set_option maxRecDepth 20000 in
theorem ggX10_as_X10_within : GoodIn wsX10_as wsX10_within := goodIn_r _ [11] (by decide +kernel) (by decide +kernel)
set_option maxRecDepth 20000 in
theorem gX10_as_X10_within : GoodIn wsX10_as (va_wsS RX10 73 yX10_within wsX10_within) := goodIn_app (goodIn_of _ (by decide +kernel)) ggX10_as_X10_within
set_option maxRecDepth 20000 in
theorem ggX10_as_X10_fails : GoodIn wsX10_as wsX10_fails := goodIn_r _ [15, 1, 16, 17, 18, 19, 20, 21, 22, 23, 24, 25, 26, 27, 28, 29, 30, 31, 32, 33, 34, 35, 36, 37, 38, 39, 40, 41, 42, 43, 44, 45, 46, 47] (by decide +kernel) (by decide +kernel)
set_option maxRecDepth 20000 in
theorem gX10_as_X10_fails : GoodIn wsX10_as (wsV RX10 94 RX10 yX10_fails wsX10_fails) := goodIn_app (goodIn_of _ (by decide +kernel)) ggX10_as_X10_fails
theorem dX10_as_0 : decode cX10_as 0 = .ok (.aload_n 0, 1) := by decide +kernel
theorem dX10_as_1 : decode cX10_as 1 = .ok (.iconst 0, 1) := by decide +kernel
theorem dX10_as_2 : decode cX10_as 2 = .ok (.putfield 67, 3) := by decide +kernel
theorem dX10_as_5 : decode cX10_as 5 = .ok (.aload_n 0, 1) := by decide +kernel
theorem dX10_as_6 : decode cX10_as 6 = .ok (.iload_n 1, 1) := by decide +kernel
theorem dX10_as_7 : decode cX10_as 7 = .ok (.invokevirtual 133, 3) := by decide +kernel
theorem dX10_as_10 : decode cX10_as 10 = .ok (.ifCond .ne 5, 3) := by decide +kernel
theorem dX10_as_13 : decode cX10_as 13 = .ok (.iconst (-1), 1) := by decide +kernel
theorem dX10_as_14 : decode cX10_as 14 = .ok (.ireturn, 1) := by decide +kernel
theorem dX10_as_15 : decode cX10_as 15 = .ok (.iload_n 2, 1) := by decide +kernel
theorem dX10_as_16 : decode cX10_as 16 = .ok (.iconst 0, 1) := by decide +kernel
theorem dX10_as_17 : decode cX10_as 17 = .ok (.iconst 2, 1) := by decide +kernel
theorem dX10_as_18 : decode cX10_as 18 = .ok (.invokestatic 73, 3) := by decide +kernel
theorem dX10_as_21 : decode cX10_as 21 = .ok (.ifCond .ne 6, 3) := by decide +kernel
theorem dX10_as_24 : decode cX10_as 24 = .ok (.bipush (-2), 2) := by decide +kernel
theorem dX10_as_26 : decode cX10_as 26 = .ok (.ireturn, 1) := by decide +kernel
theorem dX10_as_27 : decode cX10_as 27 = .ok (.aload_n 0, 1) := by decide +kernel
theorem dX10_as_28 : decode cX10_as 28 = .ok (.getfield 22, 3) := by decide +kernel
theorem dX10_as_31 : decode cX10_as 31 = .ok (.iload_n 1, 1) := by decide +kernel
theorem dX10_as_32 : decode cX10_as 32 = .ok (.iaload, 1) := by decide +kernel
theorem dX10_as_33 : decode cX10_as 33 = .ok (.iload_n 2, 1) := by decide +kernel
theorem dX10_as_34 : decode cX10_as 34 = .ok (.if_icmp .lt 7, 3) := by decide +kernel
theorem dX10_as_37 : decode cX10_as 37 = .ok (.iconst 1, 1) := by decide +kernel
theorem dX10_as_38 : decode cX10_as 38 = .ok (.goto 8, 3) := by decide +kernel
theorem dX10_as_41 : decode cX10_as 41 = .ok (.aload_n 0, 1) := by decide +kernel
theorem dX10_as_42 : decode cX10_as 42 = .ok (.iconst 2, 1) := by decide +kernel
theorem dX10_as_43 : decode cX10_as 43 = .ok (.invokevirtual 94, 3) := by decide +kernel
theorem dX10_as_46 : decode cX10_as 46 = .ok (.ireturn, 1) := by decide +kernel
theorem dX10_trace_0 : decode cX10_trace 0 = .ok (.aload_n 0, 1) := by decide +kernel
theorem dX10_trace_1 : decode cX10_trace 1 = .ok (.getfield 220, 3) := by decide +kernel
theorem dX10_trace_4 : decode cX10_trace 4 = .ok (.ireturn, 1) := by decide +kernel
theorem dX10_fault_0 : decode cX10_fault 0 = .ok (.aload_n 0, 1) := by decide +kernel
theorem dX10_fault_1 : decode cX10_fault 1 = .ok (.getfield 67, 3) := by decide +kernel
theorem dX10_fault_4 : decode cX10_fault 4 = .ok (.ireturn, 1) := by decide +kernel
theorem dX10_many_0 : decode cX10_many 0 = .ok (.iload_n 1, 1) := by decide +kernel
theorem dX10_many_1 : decode cX10_many 1 = .ok (.tableswitch 51 0 3 #[31, 36, 41, 46], 31) := by decide +kernel
theorem dX10_many_32 : decode cX10_many 32 = .ok (.aload_n 0, 1) := by decide +kernel
theorem dX10_many_33 : decode cX10_many 33 = .ok (.getfield 77, 3) := by decide +kernel
theorem dX10_many_36 : decode cX10_many 36 = .ok (.ireturn, 1) := by decide +kernel
theorem dX10_many_37 : decode cX10_many 37 = .ok (.aload_n 0, 1) := by decide +kernel
theorem dX10_many_38 : decode cX10_many 38 = .ok (.getfield 107, 3) := by decide +kernel
theorem dX10_many_41 : decode cX10_many 41 = .ok (.ireturn, 1) := by decide +kernel
theorem dX10_many_42 : decode cX10_many 42 = .ok (.aload_n 0, 1) := by decide +kernel
theorem dX10_many_43 : decode cX10_many 43 = .ok (.getfield 110, 3) := by decide +kernel
theorem dX10_many_46 : decode cX10_many 46 = .ok (.ireturn, 1) := by decide +kernel
theorem dX10_many_47 : decode cX10_many 47 = .ok (.aload_n 0, 1) := by decide +kernel
theorem dX10_many_48 : decode cX10_many 48 = .ok (.getfield 113, 3) := by decide +kernel
theorem dX10_many_51 : decode cX10_many 51 = .ok (.ireturn, 1) := by decide +kernel
theorem dX10_many_52 : decode cX10_many 52 = .ok (.bipush (-2), 2) := by decide +kernel
theorem dX10_many_54 : decode cX10_many 54 = .ok (.ireturn, 1) := by decide +kernel
end
section
/-! ===== base: the memory of ints by object number, the worlds made of it, the rows over them ===== -/
abbrev zMem : Type := Nat → Nat → Int32
def zsa (σ : zMem) (o : Nat) (r : Nat → Int32) : zMem := fun a => if a = o then r else σ a
def zst (σ : zMem) (o k : Nat) (v : Int32) : zMem := zsa σ o (upd (σ o) k v)
theorem zsa_s {σ : zMem} {o : Nat} {r : Nat → Int32} : zsa σ o r o = r := by simp [zsa]
theorem zsa_n {σ : zMem} {o a : Nat} {r : Nat → Int32} (h : a ≠ o) : zsa σ o r a = σ a := by simp [zsa, h]
theorem zst_s {σ : zMem} {o k : Nat} {v : Int32} : zst σ o k v o = upd (σ o) k v := by simp [zst, zsa]
theorem zst_n {σ : zMem} {o a k : Nat} {v : Int32} (h : a ≠ o) : zst σ o k v a = σ a := by simp [zst, zsa, h]
def zgd {R : Type} (c : Prop) [Decidable c] (k : Option R) : Option R := if c then k else none
theorem zgd_inv {R : Type} {c : Prop} [Decidable c] {k : Option R} {r : R} (h : zgd c k = some r) : c ∧ k = some r := by
  unfold zgd at h
  by_cases hc : c
  · rw [if_pos hc] at h
    exact ⟨hc, h⟩
  · rw [if_neg hc] at h
    cases h
theorem zgd_t {R : Type} {c : Prop} [Decidable c] {k : Option R} (h : c) : zgd c k = k := by simp [zgd, h]
def zif {R : Type} (c : Prop) [Decidable c] (a b : Option R) : Option R := if c then a else b
theorem zif_t {R : Type} {c : Prop} [Decidable c] {a b : Option R} (h : c) {r : R} (e : zif c a b = some r) : a = some r := by
  unfold zif at e
  rw [if_pos h] at e
  exact e
theorem zif_f {R : Type} {c : Prop} [Decidable c] {a b : Option R} (h : ¬ c) {r : R} (e : zif c a b = some r) : b = some r := by
  unfold zif at e
  rw [if_neg h] at e
  exact e
def zbd {V R : Type} (x : Option (V × zMem)) (k : V → zMem → Option R) : Option R := match x with
  | some q => k q.1 q.2
  | none => none
theorem zbd_inv {V R : Type} {x : Option (V × zMem)} {k : V → zMem → Option R} {r : R} (h : zbd x k = some r) : ∃ (v : V) (σ : zMem), x = some (v, σ) ∧ k v σ = some r := by
  cases x with
  | none => cases h
  | some q => exact ⟨q.1, q.2, rfl, h⟩
def zlp {S R : Type} (body : (S → Option R) → S → Option R) : Nat → S → Option R
  | 0, _ => none
  | n + 1, s => body (zlp body n) s
def zlet {A R : Type} (x : A) (k : A → Option R) : Option R := k x
theorem zlet_inv {A R : Type} {x : A} {k : A → Option R} {r : R} (h : zlet x k = some r) : ∃ y, y = x ∧ k y = some r := ⟨x, rfl, h⟩
theorem zlp_0 {S R : Type} {body : (S → Option R) → S → Option R} {s : S} {r : R} (h : zlp body 0 s = some r) : False := by cases h
theorem zlp_s {S R : Type} {body : (S → Option R) → S → Option R} {n : Nat} {s : S} {r : R} (h : zlp body (n + 1) s = some r) : body (zlp body n) s = some r := h
/-- the cells of a world: object number o lies at ad o and holds what its kind makes of its ints -/
def zW (ct : Nat → (Nat → Int32) → va_E) (M : Nat) (ad : Nat → Nat) (σ : zMem) : va_W := (List.range M).map (fun o => (ad o, ct o (σ o)))
theorem zW_len {ct : Nat → (Nat → Int32) → va_E} {M : Nat} {ad : Nat → Nat} {σ : zMem} : (zW ct M ad σ).length = M := by simp [zW]
theorem zW_at {ct : Nat → (Nat → Int32) → va_E} {M : Nat} {ad : Nat → Nat} {σ : zMem} {o : Nat} {E : va_E} (h : o < M) (e : ct o (σ o) = E) : (zW ct M ad σ)[o]? = some (ad o, E) := by
  subst e
  unfold zW
  rw [List.getElem?_map, List.getElem?_range h]
  rfl
theorem zW_out {ct : Nat → (Nat → Int32) → va_E} {M : Nat} {ad : Nat → Nat} {σ : zMem} {i : Nat} (h : ¬ i < M) : (zW ct M ad σ)[i]? = none := List.getElem?_eq_none (by rw [zW_len]; omega)
theorem zW_setA {ct : Nat → (Nat → Int32) → va_E} {M : Nat} {ad : Nat → Nat} {σ : zMem} {o : Nat} {r : Nat → Int32} {E : va_E} (h : o < M) (e : ct o r = E) : (zW ct M ad σ).set o (ad o, E) = zW ct M ad (zsa σ o r) := by
  apply List.ext_getElem?
  intro i
  by_cases hi : i < M
  · by_cases hio : i = o
    · subst hio
      rw [List.getElem?_set_self (by rw [zW_len]; exact hi), zW_at (E := E) hi (by rw [zsa_s]; exact e)]
    · rw [List.getElem?_set_ne (fun q => hio q.symm), zW_at hi rfl, zW_at (E := ct i (σ i)) hi (by rw [zsa_n hio])]
  · rw [zW_out hi, List.getElem?_eq_none (by rw [List.length_set, zW_len]; omega)]
theorem zW_set {ct : Nat → (Nat → Int32) → va_E} {M : Nat} {ad : Nat → Nat} {σ : zMem} {o k : Nat} {v : Int32} {E : va_E} (h : o < M) (e : ct o (upd (σ o) k v) = E) : (zW ct M ad σ).set o (ad o, E) = zW ct M ad (zst σ o k v) := zW_setA h e
/-- the private isBelow of the nest, as Province and YearRun link it -/
def zN (U : State) : Prop := va_Nw (.methodLinkNest RX4 45 yX9_isBelow RX9) U ∧ va_Nw (.methodLinkNest RX8 24 yX9_isBelow RX9) U
theorem zN.same {u U : State} (h : u.vm = U.vm) (q : zN u) : zN U := ⟨va_Nw.same rfl h q.1, va_Nw.same rfl h q.2⟩
theorem zN.warm {s U : State} (hW : s.WarmedH U.vm) (q : zN s) : zN U := ⟨va_Nw.warmM hW q.1, va_Nw.warmM hW q.2⟩
/-- the world before and behind a method -/
def zB (ct : Nat → (Nat → Int32) → va_E) (M : Nat) (ad : Nat → Nat) (D : va_G) (tys : List (ClassId × FieldType)) (A : Nat → Prop) (σ : zMem) (U : State) : Prop := va_P D vwCl (zW ct M ad σ) U.heap ∧ va_K D vwCl tys U ∧ va_D A (zW ct M ad σ) ∧ zN U
theorem zB_blind {ct : Nat → (Nat → Int32) → va_E} {M : Nat} {ad : Nat → Nat} {D : va_G} {tys : List (ClassId × FieldType)} {A : Nat → Prop} {σ : zMem} {As : List Value} : FrameBlind (va_Pc As (zB ct M ad D tys A σ)) := fun a U g mk q => ⟨q.1, q.2.1, va_K.moved (u := U) (U := U.calling g mk a) (Vm.Alike.refl U.vm) q.2.2.1, q.2.2.2.1, zN.same (u := U) rfl q.2.2.2.2⟩
theorem z_preS {ct : Nat → (Nat → Int32) → va_E} {M : Nat} {ad : Nat → Nat} {D : va_G} {tys : List (ClassId × FieldType)} {A : Nat → Prop} {σ : zMem} {s : State} {H : Heap} {As : List Value} (hN : zN s) (hK : va_K D vwCl tys s) (hP : va_P D vwCl (zW ct M ad σ) H) (hD : va_D A (zW ct M ad σ)) : PreS s H (va_Pc As (zB ct M ad D tys A σ)) As := ⟨zB_blind, fun U hU hW => ⟨rfl, by rw [hU]; exact hP, va_K.moved hW.alike hK, hD, zN.warm hW hN⟩⟩
theorem z_preV {ct : Nat → (Nat → Int32) → va_E} {M : Nat} {ad : Nat → Nat} {D : va_G} {tys : List (ClassId × FieldType)} {A : Nat → Prop} {σ : zMem} {s : State} {H : Heap} {As : List Value} {o ci : Nat} {fs : List Value} {C : String} {T : u_T} {N : Nat} (hN : zN s) (hK : va_K D vwCl tys s) (hP : va_P D vwCl (zW ct M ad σ) H) (hD : va_D A (zW ct M ad σ)) (ho : o < M) (he : ct o (σ o) = .inr (ci, fs)) (hc : vwCl[ci]? = some (C, T, N)) : PreV s H C (ad o) (va_Pc (.ref (ad o) :: As) (zB ct M ad D tys A σ)) As :=
  ⟨zB_blind, va_recv hK hP hc (zW_at ho he), fun U hU hW => ⟨rfl, by rw [hU]; exact hP, va_K.moved hW.alike hK, hD, zN.warm hW hN⟩⟩
section ZROW
variable {p : Program} {l : Launch} {e : Env} {R : Room} {s : State} {m : MethodId} {args : Array Value} {below : List Frame} {meth : Method} {c : Code} {H : Heap} {locs : List Loc} {cells slots : Nat} {Q : State → Prop}
variable {cc : ByteArray} {pc : Nat} {ls : Array Slot} {rest st0 : List Value} {D : va_G} {tys : List (ClassId × FieldType)} {A : Nat → Prop} {H0 : Heap} {ct : Nat → (Nat → Int32) → va_E} {M : Nat} {ad : Nat → Nat} {σ σ' : zMem} {a : Array Value}
theorem z_get (hexec : p.tables.exec = Jvm.exec) (hb : c.code = cc) {own ref C : String} {T : u_T} {N ci index : Nat} {Ts : List Cond} (hts : ∀ w ∈ Ts, w.before args s = true) (hin : ∀ w ∈ u_ws C T N, w ∈ Ts) (hown : s.vm.findClass own = some m.cls) (hK : va_K D vwCl tys s) (hP : va_P D vwCl (zW ct M ad σ) H) {o : Nat} (ho : o < M) {fs : List Value} (he : ct o (σ o) = .inr (ci, fs)) (hc : vwCl[ci]? = some (C, T, N)) (k : Nat) (hk : k < N) (hlink : Cond.fieldLink own index ref (T k).2.1 (T k).2.2.1 ∈ Ts) (href : (T k).1 = ref) {v : Value} (hv : fs[k]? = some v) (hdg : decode cc pc = .ok (.getfield index, 3))
    (kk : W p l e R s m args below meth c H locs cells slots Q (F0 m (pc + 3) ls (v :: rest))) : W p l e R s m args below meth c H locs cells slots Q (F0 m pc ls (.ref (ad o) :: rest)) :=
  va_get hexec hb hts hin hown hK hP o (zW_at ho he) hc k hk (hts _ hlink) (fun _ h9 => by rw [← href]; exact h9) hv hdg kk
theorem z_put (hexec : p.tables.exec = Jvm.exec) (hb : c.code = cc) {own ref C : String} {T : u_T} {N ci index : Nat} {Ts : List Cond} (hts : ∀ w ∈ Ts, w.before args s = true) (hin : ∀ w ∈ u_ws C T N, w ∈ Ts) (ty0 : Nat → FieldType) (hty : ∀ k, k < N → parseFieldDescriptor (T k).2.2.1 = some (ty0 k)) (hnm : ∀ a, a < N → ∀ b, b < N → a ≠ b → (T a).2.1 ≠ (T b).2.1) (hown : s.vm.findClass own = some m.cls) (hK : va_K D vwCl tys s) (hP : va_P D vwCl (zW ct M ad σ) H) (hD : va_D A (zW ct M ad σ)) (hS : va_S A H0 H locs) {o : Nat} (ho : o < M) {fs : List Value} (he : ct o (σ o) = .inr (ci, fs)) (hc : vwCl[ci]? = some (C, T, N)) (k : Nat) (hk : k < N) (hlink : Cond.fieldLink own index ref (T k).2.1 (T k).2.2.1 ∈ Ts) (href : (T k).1 = ref) (hfin : (T k).2.2.2 = false) {v : Int32} (hn : narrow (ty0 k) (.int v) = .int v) (hfit : fits (ty0 k) (.int v) = true) (hl : k < fs.length) (hset : ct o (upd (σ o) k v) = .inr (ci, fs.set k (.int v)))
    (hdg : decode cc pc = .ok (.putfield index, 3)) (kk : ∀ (H1 : Heap) (locs1 : List Loc), va_P D vwCl (zW ct M ad (zst σ o k v)) H1 → va_D A (zW ct M ad (zst σ o k v)) → va_S A H0 H1 locs1 → W p l e R s m args below meth c H1 locs1 cells slots Q (F0 m (pc + 3) ls rest)) : W p l e R s m args below meth c H locs cells slots Q (F0 m pc ls (.int v :: .ref (ad o) :: rest)) :=
  va_put hexec hb hts hin ty0 hty hnm hown hK hP hD hS o (zW_at ho he) hc k hk (hts _ hlink) (fun _ h9 => by rw [← href]; exact h9) hfin (hty k hk) hn hfit hl hdg (fun H1 locs1 h1 h2 h3 => kk H1 locs1 (by rw [zW_set ho hset] at h1; exact h1) (by rw [zW_set ho hset] at h2; exact h2) h3)
theorem z_iald (hexec : p.tables.exec = Jvm.exec) (hb : c.code = cc) (hK : va_K D vwCl tys s) (hP : va_P D vwCl (zW ct M ad σ) H) {o : Nat} (ho : o < M) {cA : ClassId} {n : Nat} (he : ct o (σ o) = .inl (cA, n, .inl (σ o))) (ht : tys[0]? = some (cA, .int)) {i : Int32} (hin : ¬ (i < 0 ∨ n ≤ i.toNatClampNeg)) (hdg : decode cc pc = .ok (.iaload, 1))
    (kk : W p l e R s m args below meth c H locs cells slots Q (F0 m (pc + 1) ls (.int (σ o i.toNatClampNeg) :: rest))) : W p l e R s m args below meth c H locs cells slots Q (F0 m pc ls (.int i :: .ref (ad o) :: rest)) :=
  va_iald hexec hb hK hP o 0 (zW_at ho he) ht hin hdg kk
theorem z_iast (hexec : p.tables.exec = Jvm.exec) (hb : c.code = cc) (hK : va_K D vwCl tys s) (hP : va_P D vwCl (zW ct M ad σ) H) (hD : va_D A (zW ct M ad σ)) (hS : va_S A H0 H locs) {o : Nat} (ho : o < M) {cA : ClassId} {n : Nat} (he : ∀ r : Nat → Int32, ct o r = .inl (cA, n, .inl r)) (ht : tys[0]? = some (cA, .int)) {i x : Int32} (hin : ¬ (i < 0 ∨ n ≤ i.toNatClampNeg)) (hdg : decode cc pc = .ok (.iastore, 1))
    (kk : ∀ (H1 : Heap) (locs1 : List Loc), va_P D vwCl (zW ct M ad (zst σ o i.toNatClampNeg x)) H1 → va_D A (zW ct M ad (zst σ o i.toNatClampNeg x)) → va_S A H0 H1 locs1 → W p l e R s m args below meth c H1 locs1 cells slots Q (F0 m (pc + 1) ls rest)) : W p l e R s m args below meth c H locs cells slots Q (F0 m pc ls (.int x :: .int i :: .ref (ad o) :: rest)) :=
  va_iast hexec hb hK hP hD hS o 0 (zW_at ho (he _)) ht hin hdg (fun H1 locs1 h1 h2 h3 => kk H1 locs1 (by rw [zW_set ho (he _)] at h1; exact h1) (by rw [zW_set ho (he _)] at h2; exact h2) h3)
theorem z_aldq (hexec : p.tables.exec = Jvm.exec) (hb : c.code = cc) (hK : va_K D vwCl tys s) (hP : va_P D vwCl (zW ct M ad σ) H) (t0 : Nat) {o : Nat} (ho : o < M) {cA : ClassId} {C : String} {n : Nat} {g : Nat → Nat} (he : ct o (σ o) = .inl (cA, n, .inr (.inr (.inr (.inr (fun j => some (ad (g j)))))))) (ht : tys[t0]? = some (cA, .object C)) {i : Int32} (hin : ¬ (i < 0 ∨ n ≤ i.toNatClampNeg)) (hdg : decode cc pc = .ok (.aaload, 1))
    (kk : W p l e R s m args below meth c H locs cells slots Q (F0 m (pc + 1) ls (.ref (ad (g i.toNatClampNeg)) :: rest))) : W p l e R s m args below meth c H locs cells slots Q (F0 m pc ls (.int i :: .ref (ad o) :: rest)) :=
  va_aldq hexec hb hK hP o t0 (zW_at ho he) ht hin hdg kk
theorem z_alen (hexec : p.tables.exec = Jvm.exec) (hb : c.code = cc) (hK : va_K D vwCl tys s) (hP : va_P D vwCl (zW ct M ad σ) H) {o : Nat} (ho : o < M) {cA : ClassId} {n : Nat} (he : ct o (σ o) = .inl (cA, n, .inl (σ o))) (ht : tys[0]? = some (cA, .int)) {v : Int32} (hv : Int32.ofNat n = v) (hdg : decode cc pc = .ok (.arraylength, 1))
    (kk : W p l e R s m args below meth c H locs cells slots Q (F0 m (pc + 1) ls (.int v :: rest))) : W p l e R s m args below meth c H locs cells slots Q (F0 m pc ls (.ref (ad o) :: rest)) :=
  va_alen hexec hb hK hP o 0 (zW_at ho he) ht hv hdg kk
theorem z_copy (hexec : p.tables.exec = Jvm.exec) (hb : c.code = cc) (hml : c.maxLocals = ls.size) {own : String} {index : Nat} (hown : s.vm.findClass own = some m.cls) (hlink : (Cond.methodLink own index arraycopyName).before args s = true) (hnat : (Cond.native arraycopyName).before args s = true) (hstat : (Cond.static arraycopyName).before args s = true) (hini : (Cond.initialized "java/lang/System").before args s = true)
    (hK : va_K D vwCl tys s) (hP : va_P D vwCl (zW ct M ad σ) H) (hD : va_D A (zW ct M ad σ)) (hS : va_S A H0 H locs) {o0 o1 : Nat} {cA : ClassId} {n0 n1 : Nat} (ho0 : o0 < M) (he0 : ct o0 (σ o0) = .inl (cA, n0, .inl (σ o0))) (ho1 : o1 < M) (he1 : ∀ r : Nat → Int32, ct o1 r = .inl (cA, n1, .inl r)) (ht : tys[0]? = some (cA, .int))
    {sp dp n : Int32} (hg : (¬ sp < 0 ∧ ¬ dp < 0 ∧ ¬ n < 0) ∧ sp.toNatClampNeg + n.toNatClampNeg ≤ n0 ∧ dp.toNatClampNeg + n.toNatClampNeg ≤ n1)
    (hframes : 1 ≤ R.frames) (hlocals : (rest.map fun v => v.category).sum + (nativeFrameWords "java/lang/System" "arraycopy" 5 + 11) ≤ R.locals) (hdg : decode cc pc = .ok (.invokestatic index, 3))
    (kk : ∀ (H1 : Heap) (locs1 : List Loc), va_P D vwCl (zW ct M ad (zsa σ o1 (va_cpy (σ o0) (σ o1) sp.toNatClampNeg dp.toNatClampNeg n.toNatClampNeg))) H1 → va_D A (zW ct M ad (zsa σ o1 (va_cpy (σ o0) (σ o1) sp.toNatClampNeg dp.toNatClampNeg n.toNatClampNeg))) → va_S A H0 H1 locs1 → W p l e R s m args below meth c H1 locs1 cells slots Q (F0 m (pc + 3) ls rest)) : W p l e R s m args below meth c H locs cells slots Q (F0 m pc ls (.int n :: .int dp :: .ref (ad o1) :: .int sp :: .ref (ad o0) :: rest)) :=
  va_copyi hexec hb hml hown hlink hnat hstat hini hK hP hD hS o0 o1 0 0 (zW_at ho0 he0) (zW_at ho1 (he1 _)) ht ht rfl hg.1.1 hg.1.2.1 hg.1.2.2 hg.2.1 hg.2.2 (fun _ _ => rfl) hframes hlocals hdg (fun H1 locs1 h1 h2 h3 => kk H1 locs1 (by rw [zW_setA ho1 (he1 _)] at h1; exact h1) (by rw [zW_setA ho1 (he1 _)] at h2; exact h2) h3)
theorem z_calli {r0 : Int32} (hr : va_Run p l e R s m args below meth c H locs cells slots 0 0 (F0 m pc ls st0) rest (va_Qi (fun r u => r = r0 ∧ u = σ') (zB ct M ad D tys A) A a) A) (hS : va_S A H0 H locs)
    (kk : ∀ (H1 : Heap) (locs1 : List Loc), va_P D vwCl (zW ct M ad σ') H1 → va_D A (zW ct M ad σ') → va_S A H0 H1 locs1 → W p l e R s m args below meth c H1 locs1 cells slots Q (F0 m (pc + 3) ls (.int r0 :: rest))) : W p l e R s m args below meth c H locs cells slots Q (F0 m pc ls st0) :=
  va_calli hr hS (fun _ _ h => h) (fun _ h => h) (fun r u t H1 locs1 ht hvm hp hB hz hk hS1 => by
    obtain ⟨rfl, rfl⟩ := hp
    obtain ⟨h1, h2, h3, -⟩ := hB
    rw [ht] at h1
    exact kk H1 locs1 h1 h3 hS1)
theorem z_calll {r0 : Int64} (hr : va_Run p l e R s m args below meth c H locs cells slots 0 0 (F0 m pc ls st0) rest (va_Ql (fun r u => r = r0 ∧ u = σ') (zB ct M ad D tys A) A a) A) (hS : va_S A H0 H locs)
    (kk : ∀ (H1 : Heap) (locs1 : List Loc), va_P D vwCl (zW ct M ad σ') H1 → va_D A (zW ct M ad σ') → va_S A H0 H1 locs1 → W p l e R s m args below meth c H1 locs1 cells slots Q (F0 m (pc + 3) ls (.long r0 :: rest))) : W p l e R s m args below meth c H locs cells slots Q (F0 m pc ls st0) :=
  va_calll hr hS (fun _ _ h => h) (fun _ h => h) (fun r u t H1 locs1 ht hvm hp hB hz hk hS1 => by
    obtain ⟨rfl, rfl⟩ := hp
    obtain ⟨h1, h2, h3, -⟩ := hB
    rw [ht] at h1
    exact kk H1 locs1 h1 h3 hS1)
theorem z_callv (hr : va_Run p l e R s m args below meth c H locs cells slots 0 0 (F0 m pc ls st0) rest (va_Qv (fun u => u = σ') (zB ct M ad D tys A) A a) A) (hS : va_S A H0 H locs)
    (kk : ∀ (H1 : Heap) (locs1 : List Loc), va_P D vwCl (zW ct M ad σ') H1 → va_D A (zW ct M ad σ') → va_S A H0 H1 locs1 → W p l e R s m args below meth c H1 locs1 cells slots Q (F0 m (pc + 3) ls rest)) : W p l e R s m args below meth c H locs cells slots Q (F0 m pc ls st0) :=
  va_callv hr hS (fun _ _ h => h) (fun _ h => h) (fun u t H1 locs1 ht hvm hp hB hz hk hS1 => by
    subst hp
    obtain ⟨h1, h2, h3, -⟩ := hB
    rw [ht] at h1
    exact kk H1 locs1 h1 h3 hS1)
theorem z_iret {v r0 : Int32} (hexec : p.tables.exec = Jvm.exec) (hb : c.code = cc) (hr : meth.sig.returnType = some .int) (hlocks : meth.locks = false) (hN : zN s) (hK : va_K D vwCl tys s) (hP : va_P D vwCl (zW ct M ad σ) H) (hD : va_D A (zW ct M ad σ)) (hS : va_S A s.heap H locs) (hF : some (v, σ) = some (r0, σ')) (hdg : decode cc pc = .ok (.ireturn, 1)) : W p l e R s m args below meth c H locs cells slots (MQ below (va_Qi (fun r u => r = r0 ∧ u = σ') (zB ct M ad D tys A) A) args s cells slots A) (F0 m pc ls [.int v]) := by
  cases hF
  exact W.iret hexec hb hr (fun t ht hW => ⟨⟨v, σ, rfl, ⟨rfl, rfl⟩, by rw [ht]; exact hP, va_K.moved hW.alike hK, hD, zN.warm hW hN⟩, hS.F ht⟩) hS.2.2 hdg hlocks
theorem z_zret {v r0 : Int32} (hexec : p.tables.exec = Jvm.exec) (hb : c.code = cc) (hr : meth.sig.returnType = some .boolean) (hlocks : meth.locks = false) (hv : v = 0 ∨ v = 1) (hN : zN s) (hK : va_K D vwCl tys s) (hP : va_P D vwCl (zW ct M ad σ) H) (hD : va_D A (zW ct M ad σ)) (hS : va_S A s.heap H locs) (hF : some (v, σ) = some (r0, σ')) (hdg : decode cc pc = .ok (.ireturn, 1)) : W p l e R s m args below meth c H locs cells slots (MQ below (va_Qi (fun r u => r = r0 ∧ u = σ') (zB ct M ad D tys A) A) args s cells slots A) (F0 m pc ls [.int v]) := by
  cases hF
  exact W.zret hexec hb hr (by rcases hv with h | h <;> subst h <;> rfl) (fun t ht hW => ⟨⟨v, σ, rfl, ⟨rfl, rfl⟩, by rw [ht]; exact hP, va_K.moved hW.alike hK, hD, zN.warm hW hN⟩, hS.F ht⟩) hS.2.2 hdg hlocks
theorem z_lret {v r0 : Int64} (hexec : p.tables.exec = Jvm.exec) (hb : c.code = cc) (hr : meth.sig.returnType = some .long) (hlocks : meth.locks = false) (hN : zN s) (hK : va_K D vwCl tys s) (hP : va_P D vwCl (zW ct M ad σ) H) (hD : va_D A (zW ct M ad σ)) (hS : va_S A s.heap H locs) (hF : some (v, σ) = some (r0, σ')) (hdg : decode cc pc = .ok (.lreturn, 1)) : W p l e R s m args below meth c H locs cells slots (MQ below (va_Ql (fun r u => r = r0 ∧ u = σ') (zB ct M ad D tys A) A) args s cells slots A) (F0 m pc ls [.long v]) := by
  cases hF
  exact W.lret hexec hb hr (fun t ht hW => ⟨⟨v, σ, rfl, ⟨rfl, rfl⟩, by rw [ht]; exact hP, va_K.moved hW.alike hK, hD, zN.warm hW hN⟩, hS.F ht⟩) hS.2.2 hdg hlocks
theorem z_vret {v r0 : Int32} (hexec : p.tables.exec = Jvm.exec) (hb : c.code = cc) (hr : meth.sig.returnType = none) (hlocks : meth.locks = false) (hN : zN s) (hK : va_K D vwCl tys s) (hP : va_P D vwCl (zW ct M ad σ) H) (hD : va_D A (zW ct M ad σ)) (hS : va_S A s.heap H locs) (hF : some (v, σ) = some (r0, σ')) (hdg : decode cc pc = .ok (.return_, 1)) : W p l e R s m args below meth c H locs cells slots (MQ below (va_Qv (fun u => u = σ') (zB ct M ad D tys A) A) args s cells slots A) (F0 m pc ls []) := by
  cases hF
  exact W.vret hexec hb hr (fun t ht hW => ⟨⟨σ, rfl, rfl, by rw [ht]; exact hP, va_K.moved hW.alike hK, hD, zN.warm hW hN⟩, hS.F ht⟩) hS.2.2 hdg hlocks
end ZROW
/-! ===== the class's world: numbers of its objects, and what each holds ===== -/
def zxL : List Nat := [8, 21, 6, 6, 6, 6, 160, 160, 160, 160, 4, 103, 22, 2, 2, 2, 2, 2, 2, 4, 103, 22, 2, 2, 2, 2, 2, 2, 7, 3, 107, 107, 107, 228, 1, 103, 5, 108, 108, 108, 0]
def zk (o : Nat) : Nat := zxL.getD o 99
abbrev zty (cI cS cP : ClassId) : List (ClassId × FieldType) := [(cI, .int), (cS, .object "LeastAsked$Sheet"), (cP, .object "LeastAsked$Person")]
def zx (cI cS cP : ClassId) (ad : Nat → Nat) (o : Nat) (r : Nat → Int32) : va_E :=
  if zk o = 0 then .inr (0, [.int (r 0)])
  else if zk o = 1 then .inr (1, [.ref (ad (o + 1)), .int (r 1)])
  else if zk o = 2 then .inr (2, [.int (r 0), .int (r 1), .int (r 2), .int (r 3)])
  else if zk o = 3 then .inr (3, [.ref (ad (o + 1)), .ref (ad (o + 2)), .ref (ad (o + 3)), .ref (ad (o + 4)), .int (r 4)])
  else if zk o = 4 then .inr (4, [.ref (ad (o + 1)), .ref (ad (o + 2)), .int (r 2)])
  else if zk o = 5 then .inr (5, [.ref (ad (o + 1)), .ref (ad (o + 2)), .ref (ad (o + 3)), .int (r 3)])
  else if zk o = 6 then .inr (6, [.ref (ad (o + 4)), .int (r 1), .int (r 2), .int (r 3)])
  else if zk o = 7 then .inr (7, [.int (r 0), .int (r 1), .int (r 2), .int (r 3)])
  else if zk o = 8 then .inr (8, [.ref (ad 1), .ref (ad 10), .ref (ad 19), .ref (ad 28), .ref (ad 29), .ref (ad 34), .ref (ad 36), .ref (ad 40), .int (r 8), .int (r 9), .int (r 10)])
  else if zk o = 21 then .inl (cS, 4, .inr (.inr (.inr (.inr (fun j => some (ad (2 + j)))))))
  else if zk o = 22 then .inl (cP, 6, .inr (.inr (.inr (.inr (fun j => some (ad (o + 1 + j)))))))
  else .inl (cI, zk o - 100, .inl r)
theorem zk_lt {o k : Nat} (h : zk o = k) (hk : k ≠ 99) : o < 41 := by
  rcases Nat.lt_or_ge o 41 with q | q
  · exact q
  · refine absurd ?_ hk
    rw [← h]
    unfold zk
    rw [List.getD_eq_getElem?_getD, List.getElem?_eq_none (by exact q)]
    rfl
section ZX
variable {cI cS cP : ClassId} {ad : Nat → Nat} {o : Nat} {r : Nat → Int32}
theorem zx_0 (h : zk o = 0) : zx cI cS cP ad o r = .inr (0, [.int (r 0)]) := by simp [zx, h]
theorem zx_1 (h : zk o = 1) : zx cI cS cP ad o r = .inr (1, [.ref (ad (o + 1)), .int (r 1)]) := by simp [zx, h]
theorem zx_2 (h : zk o = 2) : zx cI cS cP ad o r = .inr (2, [.int (r 0), .int (r 1), .int (r 2), .int (r 3)]) := by simp [zx, h]
theorem zx_3 (h : zk o = 3) : zx cI cS cP ad o r = .inr (3, [.ref (ad (o + 1)), .ref (ad (o + 2)), .ref (ad (o + 3)), .ref (ad (o + 4)), .int (r 4)]) := by simp [zx, h]
theorem zx_4 (h : zk o = 4) : zx cI cS cP ad o r = .inr (4, [.ref (ad (o + 1)), .ref (ad (o + 2)), .int (r 2)]) := by simp [zx, h]
theorem zx_5 (h : zk o = 5) : zx cI cS cP ad o r = .inr (5, [.ref (ad (o + 1)), .ref (ad (o + 2)), .ref (ad (o + 3)), .int (r 3)]) := by simp [zx, h]
theorem zx_6 (h : zk o = 6) : zx cI cS cP ad o r = .inr (6, [.ref (ad (o + 4)), .int (r 1), .int (r 2), .int (r 3)]) := by simp [zx, h]
theorem zx_7 (h : zk o = 7) : zx cI cS cP ad o r = .inr (7, [.int (r 0), .int (r 1), .int (r 2), .int (r 3)]) := by simp [zx, h]
theorem zx_8 (h : zk o = 8) : zx cI cS cP ad o r = .inr (8, [.ref (ad 1), .ref (ad 10), .ref (ad 19), .ref (ad 28), .ref (ad 29), .ref (ad 34), .ref (ad 36), .ref (ad 40), .int (r 8), .int (r 9), .int (r 10)]) := by simp [zx, h]
theorem zx_21 (h : zk o = 21) : zx cI cS cP ad o r = .inl (cS, 4, .inr (.inr (.inr (.inr (fun j => some (ad (2 + j))))))) := by simp [zx, h]
theorem zx_22 (h : zk o = 22) : zx cI cS cP ad o r = .inl (cP, 6, .inr (.inr (.inr (.inr (fun j => some (ad (o + 1 + j))))))) := by simp [zx, h]
theorem zx_103 (h : zk o = 103) : zx cI cS cP ad o r = .inl (cI, 3, .inl r) := by simp [zx, h]
theorem zx_107 (h : zk o = 107) : zx cI cS cP ad o r = .inl (cI, 7, .inl r) := by simp [zx, h]
theorem zx_108 (h : zk o = 108) : zx cI cS cP ad o r = .inl (cI, 8, .inl r) := by simp [zx, h]
theorem zx_160 (h : zk o = 160) : zx cI cS cP ad o r = .inl (cI, 60, .inl r) := by simp [zx, h]
theorem zx_228 (h : zk o = 228) : zx cI cS cP ad o r = .inl (cI, 128, .inl r) := by simp [zx, h]
end ZX
theorem zk_a6 : ∀ o, o < 41 → zk o = 6 → zk (o + 4) = 160 := by decide +kernel
theorem zk_a4 : ∀ o, o < 41 → zk o = 4 → zk (o + 1) = 103 ∧ zk (o + 2) = 22 := by decide +kernel
theorem zk_a22 : ∀ o, o < 41 → zk o = 22 → ∀ j, j < 6 → zk (o + 1 + j) = 2 := by decide +kernel
theorem zk_a21 : ∀ j, j < 4 → zk (2 + j) = 6 := by decide +kernel
theorem zk_a1 : ∀ o, o < 41 → zk o = 1 → zk (o + 1) = 103 := by decide +kernel
theorem zk_a3 : ∀ o, o < 41 → zk o = 3 → zk (o + 1) = 107 ∧ zk (o + 2) = 107 ∧ zk (o + 3) = 107 ∧ zk (o + 4) = 228 := by decide +kernel
theorem zk_a5 : ∀ o, o < 41 → zk o = 5 → zk (o + 1) = 108 ∧ zk (o + 2) = 108 ∧ zk (o + 3) = 108 := by decide +kernel
theorem zin_lt {i : Int32} {n : Nat} (h : ¬ (i < 0 ∨ n ≤ i.toNatClampNeg)) : i.toNatClampNeg < n := by
  rcases Nat.lt_or_ge i.toNatClampNeg n with q | q
  · exact q
  · exact absurd (Or.inr q) h
theorem zk_6c {o : Nat} (h : zk o = 6) : zk (o + 4) = 160 := zk_a6 o (zk_lt h (by decide)) h
theorem zk_4w {o : Nat} (h : zk o = 4) : zk (o + 1) = 103 := (zk_a4 o (zk_lt h (by decide)) h).1
theorem zk_4p {o : Nat} (h : zk o = 4) : zk (o + 2) = 22 := (zk_a4 o (zk_lt h (by decide)) h).2
theorem zk_22p {o : Nat} (h : zk o = 22) {i : Int32} (hi : ¬ (i < 0 ∨ 6 ≤ i.toNatClampNeg)) : zk (o + 1 + i.toNatClampNeg) = 2 := zk_a22 o (zk_lt h (by decide)) h _ (zin_lt hi)
theorem zk_21s {o : Nat} (_ : zk o = 21) {i : Int32} (hi : ¬ (i < 0 ∨ 4 ≤ i.toNatClampNeg)) : zk (2 + i.toNatClampNeg) = 6 := zk_a21 _ (zin_lt hi)
theorem zk_1r {o : Nat} (h : zk o = 1) : zk (o + 1) = 103 := zk_a1 o (zk_lt h (by decide)) h
theorem zk_3a {o : Nat} (h : zk o = 3) : zk (o + 1) = 107 := (zk_a3 o (zk_lt h (by decide)) h).1
theorem zk_3b {o : Nat} (h : zk o = 3) : zk (o + 2) = 107 := (zk_a3 o (zk_lt h (by decide)) h).2.1
theorem zk_3c {o : Nat} (h : zk o = 3) : zk (o + 3) = 107 := (zk_a3 o (zk_lt h (by decide)) h).2.2.1
theorem zk_3d {o : Nat} (h : zk o = 3) : zk (o + 4) = 228 := (zk_a3 o (zk_lt h (by decide)) h).2.2.2
theorem zk_5a {o : Nat} (h : zk o = 5) : zk (o + 1) = 108 := (zk_a5 o (zk_lt h (by decide)) h).1
theorem zk_5b {o : Nat} (h : zk o = 5) : zk (o + 2) = 108 := (zk_a5 o (zk_lt h (by decide)) h).2.1
theorem zk_5c {o : Nat} (h : zk o = 5) : zk (o + 3) = 108 := (zk_a5 o (zk_lt h (by decide)) h).2.2
/-! ===== the reference's world: object 0, its rows 1 .. 19 ===== -/
def zmL : List Nat := [99, 4, 4, 240, 3, 6, 6, 6, 6, 3, 24, 6, 6, 7, 7, 3, 3, 8, 8, 8]
def zm (cI : ClassId) (ad : Nat → Nat) (o : Nat) (r : Nat → Int32) : va_E :=
  if o = 0 then .inr (9, [.int (r 0), .int (r 1), .ref (ad 1), .ref (ad 2), .ref (ad 3), .int (r 5), .int (r 6), .int (r 7), .ref (ad 4), .ref (ad 5), .ref (ad 6), .ref (ad 7), .ref (ad 8), .int (r 13), .int (r 14), .ref (ad 9), .ref (ad 10), .ref (ad 11), .ref (ad 12), .int (r 19), .int (r 20), .int (r 21), .ref (ad 13), .ref (ad 14), .ref (ad 15), .ref (ad 16), .int (r 26), .int (r 27), .int (r 28), .ref (ad 17), .ref (ad 18), .ref (ad 19)])
  else .inl (cI, zmL.getD o 0, .inl r)
theorem zm_0 {cI : ClassId} {ad : Nat → Nat} {r : Nat → Int32} : zm cI ad 0 r = .inr (9, [.int (r 0), .int (r 1), .ref (ad 1), .ref (ad 2), .ref (ad 3), .int (r 5), .int (r 6), .int (r 7), .ref (ad 4), .ref (ad 5), .ref (ad 6), .ref (ad 7), .ref (ad 8), .int (r 13), .int (r 14), .ref (ad 9), .ref (ad 10), .ref (ad 11), .ref (ad 12), .int (r 19), .int (r 20), .int (r 21), .ref (ad 13), .ref (ad 14), .ref (ad 15), .ref (ad 16), .int (r 26), .int (r 27), .int (r 28), .ref (ad 17), .ref (ad 18), .ref (ad 19)]) := rfl
theorem zm_a {cI : ClassId} {ad : Nat → Nat} {o n : Nat} {r : Nat → Int32} (h : o ≠ 0 ∧ zmL.getD o 0 = n) : zm cI ad o r = .inl (cI, n, .inl r) := by
  unfold zm
  rw [if_neg h.1, h.2]
end
section
def FX9_isBelow (n : Nat) (σ : zMem) (p1 : Int32) (p2 : Int32) : Option (Int32 × zMem) := zif (p1 < 0) (some ((0 : Int32), σ)) (zif (p2 ≤ p1) (some ((0 : Int32), σ)) (some ((1 : Int32), σ)))
def FX4_hasPerson (n : Nat) (o : Nat) (σ : zMem) (p1 : Int32) : Option (Int32 × zMem) := zbd (FX9_isBelow n σ p1 (σ o 2)) (fun r2 σ1 => zgd (r2 = 0 ∨ r2 = 1) (some (r2, σ1)))
def LBX4_first_4 (n : Nat) (o : Nat) (k4 : zMem × Int32 × Int32 → Option (Int32 × zMem)) (σ : zMem) (l1 : Int32) (l2 : Int32) : Option (Int32 × zMem) := zif ((σ o 2) ≤ l2) (some ((l1 : Int32), σ)) (zgd (¬ ((l2 : Int32) < 0 ∨ 6 ≤ (l2 : Int32).toNatClampNeg)) (zgd (¬ ((l1 : Int32) < 0 ∨ 6 ≤ (l1 : Int32).toNatClampNeg)) (zif ((σ ((o + 3) + (l1 : Int32).toNatClampNeg) 1) ≤ (σ ((o + 3) + (l2 : Int32).toNatClampNeg) 1)) (k4 (σ, l1, (l2 + (1 : Int32)))) (k4 (σ, l2, (l2 + (1 : Int32)))))))
def LX4_first_4 (n : Nat) (o : Nat) (k4 : zMem × Int32 × Int32 → Option (Int32 × zMem)) (s : zMem × Int32 × Int32) : Option (Int32 × zMem) := LBX4_first_4 n o  k4 s.1 s.2.1 s.2.2
def FX4_first (n : Nat) (o : Nat) (σ : zMem) : Option (Int32 × zMem) := zlp (LX4_first_4 n o ) n (σ, (0 : Int32), (1 : Int32))
def FX2_saying (n : Nat) (o : Nat) (σ : zMem) : Option (Int32 × zMem) := zif ((σ o 0) = (1 : Int32)) (some ((((σ o 3) + (1 : Int32)) : Int32), σ)) (zif ((σ o 0) = (2 : Int32)) (some ((((2 : Int32) * (σ o 3)) : Int32), σ)) (some (((σ o 3) : Int32), σ)))
def FX2_isKnowing (n : Nat) (o : Nat) (σ : zMem) (p1 : Int32) : Option (Int32 × zMem) := zif ((((σ o 2) >>> (p1 &&& 31)) &&& (1 : Int32)) = (1 : Int32)) (some ((1 : Int32), σ)) (some ((0 : Int32), σ))
def FX0_begin (n : Nat) (o : Nat) (σ : zMem) (p1 : Int32) : Option (Int32 × zMem) := zlet (zst σ o 0 (((31 : Int32) * (σ o 0)) + p1)) (fun σ1 => some ((0 : Int32), σ1))
def FX9_failed (n : Nat) (σ : zMem) (p1 : Int32) : Option (Int32 × zMem) := zlet (zst σ 0 10 p1) (fun σ1 => some ((((-10 : Int32) - p1) : Int32), σ1))
def FX10_within (n : Nat) (σ : zMem) (p1 : Int32) (p2 : Int32) (p3 : Int32) : Option (Int32 × zMem) := zif (p1 < p2) (some ((0 : Int32), σ)) (zif (p3 < p1) (some ((0 : Int32), σ)) (some ((1 : Int32), σ)))
def LBX10_firstOf_4 (n : Nat) (k4 : zMem × Int32 × Int32 → Option (Int32 × zMem)) (σ : zMem) (l1 : Int32) (l2 : Int32) : Option (Int32 × zMem) := zif ((σ 0 5) ≤ l2) (some ((l1 : Int32), σ)) (zgd (¬ ((l2 : Int32) < 0 ∨ 6 ≤ (l2 : Int32).toNatClampNeg)) (zgd (¬ ((l1 : Int32) < 0 ∨ 6 ≤ (l1 : Int32).toNatClampNeg)) (zif ((σ 6 (l1 : Int32).toNatClampNeg) ≤ (σ 6 (l2 : Int32).toNatClampNeg)) (k4 (σ, l1, (l2 + (1 : Int32)))) (k4 (σ, l2, (l2 + (1 : Int32)))))))
def LX10_firstOf_4 (n : Nat) (k4 : zMem × Int32 × Int32 → Option (Int32 × zMem)) (s : zMem × Int32 × Int32) : Option (Int32 × zMem) := LBX10_firstOf_4 n   k4 s.1 s.2.1 s.2.2
def FX10_firstOf (n : Nat) (σ : zMem) : Option (Int32 × zMem) := zlp (LX10_firstOf_4 n  ) n (σ, (0 : Int32), (1 : Int32))
def FX10_fails (n : Nat) (σ : zMem) (p1 : Int32) : Option (Int32 × zMem) := zlet (zst σ 0 0 p1) (fun σ1 => some ((((-10 : Int32) - p1) : Int32), σ1))
set_option maxHeartbeats 4000000 in
set_option maxRecDepth 100000 in
theorem CX9_isBelow (l : Launch) (D : va_G) (cI cS cP : ClassId) (ad : Nat → Nat) (A : Nat → Prop) (n : Nat) (σ σ' : zMem) (r0 : Int32) (p1 : Int32) (p2 : Int32) (hF : FX9_isBelow n σ p1 p2 = some (r0, σ')) : Met l yX9_isBelow wsX9_isBelow ({ frames := 0, cells := 0, slots := 0, locals := 0 } : Room) (va_Pc [.int p1, .int p2] (zB (zx cI cS cP ad) 41 ad D (zty cI cS cP) A σ)) (va_Qi (fun r u => r = r0 ∧ u = σ') (zB (zx cI cS cP ad) 41 ad D (zty cI cS cP) A) A) 0 0 A := by
  refine Met.ofW (cc := cX9_isBelow) (maxL := 2) (ret := (some .boolean)) (by decide) rfl ?_
  intro p e s m args below meth c s₁ B hml hv
  obtain ⟨rfl, hP, hK, hD, hN⟩ := hv
  have hx := B.exec
  have hb := B.bytes
  have hr := B.returns
  have hts := atoms_spec (ws := wsX9_isBelow) B.pre
  have hown : s.vm.findClass RX9 = some m.cls := findClass_of_methodNamed B.named
  have hlocks := B.notSynchronized
  have hS : va_S A s.heap s.heap [] := va_S.rf
  have hl := lv_entry ([.int p1, .int p2]) (n := 2) (Nat.le_of_ble_eq_true rfl)
  rw [lg_entry_eq]
  generalize (lg_sl ([.int p1, .int p2]) ++ List.replicate (2 - (lg_sl ([.int p1, .int p2])).length) Slot.unset).toArray = ls at hl ⊢
  have hl : lv_has ls 2 [(0, .int p1), (1, .int p2)] := hl
  clear B
  unfold FX9_isBelow at hF
  refine lv_iload_n hx hb dX9_isBelow_0 rfl (lv_at hl 0 rfl) ?_
  refine lv_if_lt (tgt := 13) hx hb dX9_isBelow_1 (by decide) (fun b1 => ?_) (fun b1 => ?_)
  · have hF := zif_t b1 hF
    refine lv_iconst (v := (0 : Int32)) hx hb dX9_isBelow_13 (by decide) ?_
    exact z_zret hx hb hr hlocks (Or.inl rfl) hN hK hP hD hS hF dX9_isBelow_14
  · have hF := zif_f b1 hF
    refine lv_iload_n hx hb dX9_isBelow_4 rfl (lv_at hl 0 rfl) ?_
    refine lv_iload_n hx hb dX9_isBelow_5 rfl (lv_at hl 1 rfl) ?_
    refine lv_icmp_ge (tgt := 13) hx hb dX9_isBelow_6 (by decide) (fun b2 => ?_) (fun b2 => ?_)
    · have hF := zif_t b2 hF
      refine lv_iconst (v := (0 : Int32)) hx hb dX9_isBelow_13 (by decide) ?_
      exact z_zret hx hb hr hlocks (Or.inl rfl) hN hK hP hD hS hF dX9_isBelow_14
    · have hF := zif_f b2 hF
      refine lv_iconst (v := (1 : Int32)) hx hb dX9_isBelow_9 (by decide) ?_
      refine lv_goto (tgt := 14) hx hb dX9_isBelow_10 (by decide) ?_
      exact z_zret hx hb hr hlocks (Or.inr rfl) hN hK hP hD hS hF dX9_isBelow_14
theorem kX4_hasPerson_f21 : Cond.fieldLink RX4 21 "LeastAsked$Province" "count" "I" ∈ wsX4_hasPerson := by decide +kernel
theorem kX4_hasPerson_iX9 : Cond.initialized RX9 ∈ wsX4_hasPerson := by decide +kernel
theorem kX4_hasPerson_stX9_isBelow : Cond.static yX9_isBelow ∈ wsX4_hasPerson := by decide +kernel
theorem iX4_hasPerson_X4 : ∀ w ∈ u_ws RX4 TX4 3, w ∈ wsX4_hasPerson := fun _ h => List.mem_cons_of_mem _ (List.mem_append_right _ h)
set_option maxHeartbeats 4000000 in
set_option maxRecDepth 100000 in
theorem CX4_hasPerson (l : Launch) (D : va_G) (cI cS cP : ClassId) (ad : Nat → Nat) (A : Nat → Prop) (n : Nat) (σ σ' : zMem) (r0 : Int32) (o : Nat) (p1 : Int32) (ho : zk o = 4) (hF : FX4_hasPerson n o σ p1 = some (r0, σ')) : Met l yX4_hasPerson wsX4_hasPerson ({ frames := 1, cells := 0, slots := 0, locals := 21 } : Room) (va_Pc [.ref (ad o), .int p1] (zB (zx cI cS cP ad) 41 ad D (zty cI cS cP) A σ)) (va_Qi (fun r u => r = r0 ∧ u = σ') (zB (zx cI cS cP ad) 41 ad D (zty cI cS cP) A) A) 0 0 A := by
  refine Met.ofW (cc := cX4_hasPerson) (maxL := 2) (ret := (some .boolean)) (by decide) rfl ?_
  intro p e s m args below meth c s₁ B hml hv
  obtain ⟨rfl, hP, hK, hD, hN⟩ := hv
  have hx := B.exec
  have hb := B.bytes
  have hr := B.returns
  have hts := atoms_spec (ws := wsX4_hasPerson) B.pre
  have hown : s.vm.findClass RX4 = some m.cls := findClass_of_methodNamed B.named
  have hlocks := B.notSynchronized
  have hS : va_S A s.heap s.heap [] := va_S.rf
  have hl := lv_entry ([.ref (ad o), .int p1]) (n := 2) (Nat.le_of_ble_eq_true rfl)
  rw [lg_entry_eq]
  generalize (lg_sl ([.ref (ad o), .int p1]) ++ List.replicate (2 - (lg_sl ([.ref (ad o), .int p1])).length) Slot.unset).toArray = ls at hl ⊢
  have hl : lv_has ls 2 [(0, .ref (ad o)), (1, .int p1)] := hl
  clear B
  unfold FX4_hasPerson at hF
  refine lv_iload_n hx hb dX4_hasPerson_0 rfl (lv_at hl 1 rfl) ?_
  refine lv_aload_n hx hb dX4_hasPerson_1 rfl (lv_at hl 0 rfl) ?_
  refine z_get (ci := 4) (C := RX4) (T := TX4) (N := 3) hx hb hts iX4_hasPerson_X4 hown hK hP (zk_lt ho (by decide)) (zx_4 ho) rfl 2 (by decide) kX4_hasPerson_f21 rfl (v := .int (σ o 2)) rfl dX4_hasPerson_2 ?_
  obtain ⟨r2, σ1, hC3, hF⟩ := zbd_inv hF
  refine z_calli (va_runSN (As := [.int p1, .int (σ o 2)]) (rest := []) ⟨hx, hb, hml, hown, hts⟩ (CX9_isBelow l D cI cS cP ad A n σ σ1 r2 p1 (σ o 2) hC3) ⟨va_cnB 2 hts gX4_hasPerson_X9_isBelow_n45 rfl rfl rfl hN.1 (hts _ kX4_hasPerson_iX9) (by decide +kernel) ⟨Nat.le_of_ble_eq_true rfl, Nat.le_of_ble_eq_true rfl⟩, hts _ kX4_hasPerson_stX9_isBelow, trivial⟩ (z_preS hN hK hP hD) rfl rfl hl.1 rfl (lv_room (Nat.le_of_ble_eq_true rfl)) dX4_hasPerson_5 ⟨Nat.zero_le _, Nat.zero_le _⟩) hS (fun H locs hP hD hS => ?_)
  obtain ⟨g4, hF⟩ := zgd_inv hF
  exact z_zret hx hb hr hlocks g4 hN hK hP hD hS hF dX4_hasPerson_8
theorem kX4_first_f21 : Cond.fieldLink RX4 21 "LeastAsked$Province" "count" "I" ∈ wsX4_first := by decide +kernel
theorem kX4_first_f17 : Cond.fieldLink RX4 17 "LeastAsked$Province" "people" "[LLeastAsked$Person;" ∈ wsX4_first := by decide +kernel
theorem kX4_first_f57 : Cond.fieldLink RX4 57 "LeastAsked$Person" "asked" "I" ∈ wsX4_first := by decide +kernel
theorem iX4_first_X4 : ∀ w ∈ u_ws RX4 TX4 3, w ∈ wsX4_first := fun _ h => List.mem_cons_of_mem _ (List.mem_append_left _ (List.mem_append_right _ h))
theorem iX4_first_X2 : ∀ w ∈ u_ws RX2 TX2 4, w ∈ wsX4_first := fun _ h => List.mem_cons_of_mem _ (List.mem_append_right _ h)
set_option maxHeartbeats 4000000 in
set_option maxRecDepth 100000 in
theorem CX4_first (l : Launch) (D : va_G) (cI cS cP : ClassId) (ad : Nat → Nat) (A : Nat → Prop) (n : Nat) (σ σ' : zMem) (r0 : Int32) (o : Nat) (ho : zk o = 4) (hF : FX4_first n o σ = some (r0, σ')) : Met l yX4_first wsX4_first ({ frames := 0, cells := 0, slots := 0, locals := 0 } : Room) (va_Pc [.ref (ad o)] (zB (zx cI cS cP ad) 41 ad D (zty cI cS cP) A σ)) (va_Qi (fun r u => r = r0 ∧ u = σ') (zB (zx cI cS cP ad) 41 ad D (zty cI cS cP) A) A) 0 0 A := by
  refine Met.ofW (cc := cX4_first) (maxL := 3) (ret := (some .int)) (by decide) rfl ?_
  intro p e s m args below meth c s₁ B hml hv
  obtain ⟨rfl, hP, hK, hD, hN⟩ := hv
  have hx := B.exec
  have hb := B.bytes
  have hr := B.returns
  have hts := atoms_spec (ws := wsX4_first) B.pre
  have hown : s.vm.findClass RX4 = some m.cls := findClass_of_methodNamed B.named
  have hlocks := B.notSynchronized
  have hS : va_S A s.heap s.heap [] := va_S.rf
  have hl := lv_entry ([.ref (ad o)]) (n := 3) (Nat.le_of_ble_eq_true rfl)
  rw [lg_entry_eq]
  generalize (lg_sl ([.ref (ad o)]) ++ List.replicate (3 - (lg_sl ([.ref (ad o)])).length) Slot.unset).toArray = ls at hl ⊢
  have hl : lv_has ls 3 [(0, .ref (ad o))] := hl
  clear B
  have hB4 : ∀ (f4 : Nat) (σ : zMem) (l1 : Int32) (l2 : Int32) (H : Heap) (locs : List Loc) (ls : Array Slot), zlp (LX4_first_4 n o) f4 (σ, l1, l2) = some (r0, σ') → va_P D vwCl (zW (zx cI cS cP ad) 41 ad σ) H → va_D A (zW (zx cI cS cP ad) 41 ad σ) → va_S A s.heap H locs → lv_has ls 3 [(0, .ref (ad o)), (1, .int l1), (2, .int l2)] → W p l e (headSpec wsX4_first ({ frames := 0, cells := 0, slots := 0, locals := 0 } : Room)).room s m ([.ref (ad o)] : List Value).toArray below meth c H locs 0 0 (MQ below (va_Qi (fun r u => r = r0 ∧ u = σ') (zB (zx cI cS cP ad) 41 ad D (zty cI cS cP) A) A) ([.ref (ad o)] : List Value).toArray s 0 0 A) (F0 m 4 ls []) := by
    intro f4
    induction f4 with
    | zero => intro σ l1 l2 H locs ls hF hP hD hS hl; exact (zlp_0 hF).elim
    | succ f4 ih4 =>
      intro σ l1 l2 H locs ls hF hP hD hS hl
      have hF : LBX4_first_4 n o  (zlp (LX4_first_4 n o) f4) σ l1 l2 = some (r0, σ') := hF
      unfold LBX4_first_4 at hF
      refine lv_iload_n hx hb dX4_first_4 rfl (lv_at hl 2 rfl) ?_
      refine lv_aload_n hx hb dX4_first_5 rfl (lv_at hl 0 rfl) ?_
      refine z_get (ci := 4) (C := RX4) (T := TX4) (N := 3) hx hb hts iX4_first_X4 hown hK hP (zk_lt ho (by decide)) (zx_4 ho) rfl 2 (by decide) kX4_first_f21 rfl (v := .int (σ o 2)) rfl dX4_first_6 ?_
      refine lv_icmp_ge (tgt := 41) hx hb dX4_first_9 (by decide) (fun b1 => ?_) (fun b1 => ?_)
      · have hF := zif_t b1 hF
        refine lv_iload_n hx hb dX4_first_41 rfl (lv_at hl 1 rfl) ?_
        exact z_iret hx hb hr hlocks hN hK hP hD hS hF dX4_first_42
      · have hF := zif_f b1 hF
        refine lv_aload_n hx hb dX4_first_12 rfl (lv_at hl 0 rfl) ?_
        refine z_get (ci := 4) (C := RX4) (T := TX4) (N := 3) hx hb hts iX4_first_X4 hown hK hP (zk_lt ho (by decide)) (zx_4 ho) rfl 1 (by decide) kX4_first_f17 rfl (v := .ref (ad (o + 2))) rfl dX4_first_13 ?_
        refine lv_iload_n hx hb dX4_first_16 rfl (lv_at hl 2 rfl) ?_
        obtain ⟨g2, hF⟩ := zgd_inv hF
        refine z_aldq hx hb hK hP 2 (zk_lt (zk_4p ho) (by decide)) (zx_22 (zk_4p ho)) rfl g2 dX4_first_17 ?_
        refine z_get (ci := 2) (C := RX2) (T := TX2) (N := 4) hx hb hts iX4_first_X2 hown hK hP (zk_lt (zk_22p (zk_4p ho) g2) (by decide)) (zx_2 (zk_22p (zk_4p ho) g2)) rfl 1 (by decide) kX4_first_f57 rfl (v := .int (σ ((o + 3) + (l2 : Int32).toNatClampNeg) 1)) rfl dX4_first_18 ?_
        refine lv_aload_n hx hb dX4_first_21 rfl (lv_at hl 0 rfl) ?_
        refine z_get (ci := 4) (C := RX4) (T := TX4) (N := 3) hx hb hts iX4_first_X4 hown hK hP (zk_lt ho (by decide)) (zx_4 ho) rfl 1 (by decide) kX4_first_f17 rfl (v := .ref (ad (o + 2))) rfl dX4_first_22 ?_
        refine lv_iload_n hx hb dX4_first_25 rfl (lv_at hl 1 rfl) ?_
        obtain ⟨g3, hF⟩ := zgd_inv hF
        refine z_aldq hx hb hK hP 2 (zk_lt (zk_4p ho) (by decide)) (zx_22 (zk_4p ho)) rfl g3 dX4_first_26 ?_
        refine z_get (ci := 2) (C := RX2) (T := TX2) (N := 4) hx hb hts iX4_first_X2 hown hK hP (zk_lt (zk_22p (zk_4p ho) g3) (by decide)) (zx_2 (zk_22p (zk_4p ho) g3)) rfl 1 (by decide) kX4_first_f57 rfl (v := .int (σ ((o + 3) + (l1 : Int32).toNatClampNeg) 1)) rfl dX4_first_27 ?_
        refine lv_icmp_ge (tgt := 35) hx hb dX4_first_30 (by decide) (fun b4 => ?_) (fun b4 => ?_)
        · have hF := zif_t b4 hF
          refine lv_iinc (v := (l2 + (1 : Int32))) (lv' := [(2, .int (l2 + (1 : Int32))), (0, .ref (ad o)), (1, .int l1)]) hx hb dX4_first_35 hl (k := 2) rfl rfl (by decide) rfl (fun ls hl => ?_)
          refine lv_goto (tgt := 4) hx hb dX4_first_38 (by decide) ?_
          exact ih4 σ l1 (l2 + (1 : Int32)) _ _ _ hF hP hD hS (lv_sub hl [1, 2, 0] rfl)
        · have hF := zif_f b4 hF
          refine lv_iload_n hx hb dX4_first_33 rfl (lv_at hl 2 rfl) ?_
          refine lv_istore_n (lv' := [(1, .int l2), (0, .ref (ad o)), (2, .int l2)]) hx hb dX4_first_34 rfl hl (by decide) rfl (fun ls hl => ?_)
          refine lv_iinc (v := (l2 + (1 : Int32))) (lv' := [(2, .int (l2 + (1 : Int32))), (1, .int l2), (0, .ref (ad o))]) hx hb dX4_first_35 hl (k := 2) rfl rfl (by decide) rfl (fun ls hl => ?_)
          refine lv_goto (tgt := 4) hx hb dX4_first_38 (by decide) ?_
          exact ih4 σ l2 (l2 + (1 : Int32)) _ _ _ hF hP hD hS (lv_sub hl [2, 1, 0] rfl)
  unfold FX4_first at hF
  refine lv_iconst (v := (0 : Int32)) hx hb dX4_first_0 (by decide) ?_
  refine lv_istore_n (lv' := [(1, .int (0 : Int32)), (0, .ref (ad o))]) hx hb dX4_first_1 rfl hl (by decide) rfl (fun ls hl => ?_)
  refine lv_iconst (v := (1 : Int32)) hx hb dX4_first_2 (by decide) ?_
  refine lv_istore_n (lv' := [(2, .int (1 : Int32)), (1, .int (0 : Int32)), (0, .ref (ad o))]) hx hb dX4_first_3 rfl hl (by decide) rfl (fun ls hl => ?_)
  exact hB4 n σ (0 : Int32) (1 : Int32) _ _ _ hF hP hD hS (lv_sub hl [2, 1, 0] rfl)
theorem kX2_saying_f9 : Cond.fieldLink RX2 9 "LeastAsked$Person" "kind" "I" ∈ wsX2_saying := by decide +kernel
theorem kX2_saying_f21 : Cond.fieldLink RX2 21 "LeastAsked$Person" "wit" "I" ∈ wsX2_saying := by decide +kernel
theorem iX2_saying_X2 : ∀ w ∈ u_ws RX2 TX2 4, w ∈ wsX2_saying := fun _ h => List.mem_cons_of_mem _ (List.mem_append_right _ h)
set_option maxHeartbeats 4000000 in
set_option maxRecDepth 100000 in
theorem CX2_saying (l : Launch) (D : va_G) (cI cS cP : ClassId) (ad : Nat → Nat) (A : Nat → Prop) (n : Nat) (σ σ' : zMem) (r0 : Int32) (o : Nat) (ho : zk o = 2) (hF : FX2_saying n o σ = some (r0, σ')) : Met l yX2_saying wsX2_saying ({ frames := 0, cells := 0, slots := 0, locals := 0 } : Room) (va_Pc [.ref (ad o)] (zB (zx cI cS cP ad) 41 ad D (zty cI cS cP) A σ)) (va_Qi (fun r u => r = r0 ∧ u = σ') (zB (zx cI cS cP ad) 41 ad D (zty cI cS cP) A) A) 0 0 A := by
  refine Met.ofW (cc := cX2_saying) (maxL := 1) (ret := (some .int)) (by decide) rfl ?_
  intro p e s m args below meth c s₁ B hml hv
  obtain ⟨rfl, hP, hK, hD, hN⟩ := hv
  have hx := B.exec
  have hb := B.bytes
  have hr := B.returns
  have hts := atoms_spec (ws := wsX2_saying) B.pre
  have hown : s.vm.findClass RX2 = some m.cls := findClass_of_methodNamed B.named
  have hlocks := B.notSynchronized
  have hS : va_S A s.heap s.heap [] := va_S.rf
  have hl := lv_entry ([.ref (ad o)]) (n := 1) (Nat.le_of_ble_eq_true rfl)
  rw [lg_entry_eq]
  generalize (lg_sl ([.ref (ad o)]) ++ List.replicate (1 - (lg_sl ([.ref (ad o)])).length) Slot.unset).toArray = ls at hl ⊢
  have hl : lv_has ls 1 [(0, .ref (ad o))] := hl
  clear B
  unfold FX2_saying at hF
  refine lv_aload_n hx hb dX2_saying_0 rfl (lv_at hl 0 rfl) ?_
  refine z_get (ci := 2) (C := RX2) (T := TX2) (N := 4) hx hb hts iX2_saying_X2 hown hK hP (zk_lt ho (by decide)) (zx_2 ho) rfl 0 (by decide) kX2_saying_f9 rfl (v := .int (σ o 0)) rfl dX2_saying_1 ?_
  refine lv_iconst (v := (1 : Int32)) hx hb dX2_saying_4 (by decide) ?_
  refine lv_icmp_ne (tgt := 15) hx hb dX2_saying_5 (by decide) (fun b1 => ?_) (fun b1 => ?_)
  · have hF := zif_f b1 hF
    refine lv_aload_n hx hb dX2_saying_15 rfl (lv_at hl 0 rfl) ?_
    refine z_get (ci := 2) (C := RX2) (T := TX2) (N := 4) hx hb hts iX2_saying_X2 hown hK hP (zk_lt ho (by decide)) (zx_2 ho) rfl 0 (by decide) kX2_saying_f9 rfl (v := .int (σ o 0)) rfl dX2_saying_16 ?_
    refine lv_iconst (v := (2 : Int32)) hx hb dX2_saying_19 (by decide) ?_
    refine lv_icmp_ne (tgt := 32) hx hb dX2_saying_20 (by decide) (fun b2 => ?_) (fun b2 => ?_)
    · have hF := zif_f b2 hF
      refine lv_aload_n hx hb dX2_saying_32 rfl (lv_at hl 0 rfl) ?_
      refine z_get (ci := 2) (C := RX2) (T := TX2) (N := 4) hx hb hts iX2_saying_X2 hown hK hP (zk_lt ho (by decide)) (zx_2 ho) rfl 3 (by decide) kX2_saying_f21 rfl (v := .int (σ o 3)) rfl dX2_saying_33 ?_
      exact z_iret hx hb hr hlocks hN hK hP hD hS hF dX2_saying_36
    · have hF := zif_t b2 hF
      refine lv_iconst (v := (2 : Int32)) hx hb dX2_saying_23 (by decide) ?_
      refine lv_aload_n hx hb dX2_saying_24 rfl (lv_at hl 0 rfl) ?_
      refine z_get (ci := 2) (C := RX2) (T := TX2) (N := 4) hx hb hts iX2_saying_X2 hown hK hP (zk_lt ho (by decide)) (zx_2 ho) rfl 3 (by decide) kX2_saying_f21 rfl (v := .int (σ o 3)) rfl dX2_saying_25 ?_
      refine lv_imul hx hb dX2_saying_28 ?_
      refine lv_goto (tgt := 36) hx hb dX2_saying_29 (by decide) ?_
      exact z_iret hx hb hr hlocks hN hK hP hD hS hF dX2_saying_36
  · have hF := zif_t b1 hF
    refine lv_aload_n hx hb dX2_saying_8 rfl (lv_at hl 0 rfl) ?_
    refine z_get (ci := 2) (C := RX2) (T := TX2) (N := 4) hx hb hts iX2_saying_X2 hown hK hP (zk_lt ho (by decide)) (zx_2 ho) rfl 3 (by decide) kX2_saying_f21 rfl (v := .int (σ o 3)) rfl dX2_saying_9 ?_
    refine lv_iconst (v := (1 : Int32)) hx hb dX2_saying_12 (by decide) ?_
    refine lv_iadd hx hb dX2_saying_13 ?_
    exact z_iret hx hb hr hlocks hN hK hP hD hS hF dX2_saying_14
theorem kX2_isKnowing_f18 : Cond.fieldLink RX2 18 "LeastAsked$Person" "knows" "I" ∈ wsX2_isKnowing := by decide +kernel
theorem iX2_isKnowing_X2 : ∀ w ∈ u_ws RX2 TX2 4, w ∈ wsX2_isKnowing := fun _ h => List.mem_cons_of_mem _ (List.mem_append_right _ h)
set_option maxHeartbeats 4000000 in
set_option maxRecDepth 100000 in
theorem CX2_isKnowing (l : Launch) (D : va_G) (cI cS cP : ClassId) (ad : Nat → Nat) (A : Nat → Prop) (n : Nat) (σ σ' : zMem) (r0 : Int32) (o : Nat) (p1 : Int32) (ho : zk o = 2) (hF : FX2_isKnowing n o σ p1 = some (r0, σ')) : Met l yX2_isKnowing wsX2_isKnowing ({ frames := 0, cells := 0, slots := 0, locals := 0 } : Room) (va_Pc [.ref (ad o), .int p1] (zB (zx cI cS cP ad) 41 ad D (zty cI cS cP) A σ)) (va_Qi (fun r u => r = r0 ∧ u = σ') (zB (zx cI cS cP ad) 41 ad D (zty cI cS cP) A) A) 0 0 A := by
  refine Met.ofW (cc := cX2_isKnowing) (maxL := 2) (ret := (some .boolean)) (by decide) rfl ?_
  intro p e s m args below meth c s₁ B hml hv
  obtain ⟨rfl, hP, hK, hD, hN⟩ := hv
  have hx := B.exec
  have hb := B.bytes
  have hr := B.returns
  have hts := atoms_spec (ws := wsX2_isKnowing) B.pre
  have hown : s.vm.findClass RX2 = some m.cls := findClass_of_methodNamed B.named
  have hlocks := B.notSynchronized
  have hS : va_S A s.heap s.heap [] := va_S.rf
  have hl := lv_entry ([.ref (ad o), .int p1]) (n := 2) (Nat.le_of_ble_eq_true rfl)
  rw [lg_entry_eq]
  generalize (lg_sl ([.ref (ad o), .int p1]) ++ List.replicate (2 - (lg_sl ([.ref (ad o), .int p1])).length) Slot.unset).toArray = ls at hl ⊢
  have hl : lv_has ls 2 [(0, .ref (ad o)), (1, .int p1)] := hl
  clear B
  unfold FX2_isKnowing at hF
  refine lv_aload_n hx hb dX2_isKnowing_0 rfl (lv_at hl 0 rfl) ?_
  refine z_get (ci := 2) (C := RX2) (T := TX2) (N := 4) hx hb hts iX2_isKnowing_X2 hown hK hP (zk_lt ho (by decide)) (zx_2 ho) rfl 2 (by decide) kX2_isKnowing_f18 rfl (v := .int (σ o 2)) rfl dX2_isKnowing_1 ?_
  refine lv_iload_n hx hb dX2_isKnowing_4 rfl (lv_at hl 1 rfl) ?_
  refine lv_ishr hx hb dX2_isKnowing_5 ?_
  refine lv_iconst (v := (1 : Int32)) hx hb dX2_isKnowing_6 (by decide) ?_
  refine lv_iand hx hb dX2_isKnowing_7 ?_
  refine lv_iconst (v := (1 : Int32)) hx hb dX2_isKnowing_8 (by decide) ?_
  refine lv_icmp_ne (tgt := 16) hx hb dX2_isKnowing_9 (by decide) (fun b1 => ?_) (fun b1 => ?_)
  · have hF := zif_f b1 hF
    refine lv_iconst (v := (0 : Int32)) hx hb dX2_isKnowing_16 (by decide) ?_
    exact z_zret hx hb hr hlocks (Or.inl rfl) hN hK hP hD hS hF dX2_isKnowing_17
  · have hF := zif_t b1 hF
    refine lv_iconst (v := (1 : Int32)) hx hb dX2_isKnowing_12 (by decide) ?_
    refine lv_goto (tgt := 17) hx hb dX2_isKnowing_13 (by decide) ?_
    exact z_zret hx hb hr hlocks (Or.inr rfl) hN hK hP hD hS hF dX2_isKnowing_17
theorem kX0_begin_f9 : Cond.fieldLink RX0 9 "LeastAsked$Bodies" "left" "I" ∈ wsX0_begin := by decide +kernel
theorem iX0_begin_X0 : ∀ w ∈ u_ws RX0 TX0 1, w ∈ wsX0_begin := fun _ h => List.mem_cons_of_mem _ (List.mem_append_right _ h)
set_option maxHeartbeats 4000000 in
set_option maxRecDepth 100000 in
theorem CX0_begin (l : Launch) (D : va_G) (cI cS cP : ClassId) (ad : Nat → Nat) (A : Nat → Prop) (n : Nat) (σ σ' : zMem) (r0 : Int32) (o : Nat) (p1 : Int32) (ho : zk o = 0) (hF : FX0_begin n o σ p1 = some (r0, σ')) : Met l yX0_begin wsX0_begin ({ frames := 0, cells := 0, slots := 0, locals := 0 } : Room) (va_Pc [.ref (ad o), .int p1] (zB (zx cI cS cP ad) 41 ad D (zty cI cS cP) A σ)) (va_Qv (fun u => u = σ') (zB (zx cI cS cP ad) 41 ad D (zty cI cS cP) A) A) 0 0 A := by
  refine Met.ofW (cc := cX0_begin) (maxL := 2) (ret := none) (by decide) rfl ?_
  intro p e s m args below meth c s₁ B hml hv
  obtain ⟨rfl, hP, hK, hD, hN⟩ := hv
  have hx := B.exec
  have hb := B.bytes
  have hr := B.returns
  have hts := atoms_spec (ws := wsX0_begin) B.pre
  have hown : s.vm.findClass RX0 = some m.cls := findClass_of_methodNamed B.named
  have hlocks := B.notSynchronized
  have hS : va_S A s.heap s.heap [] := va_S.rf
  have hl := lv_entry ([.ref (ad o), .int p1]) (n := 2) (Nat.le_of_ble_eq_true rfl)
  rw [lg_entry_eq]
  generalize (lg_sl ([.ref (ad o), .int p1]) ++ List.replicate (2 - (lg_sl ([.ref (ad o), .int p1])).length) Slot.unset).toArray = ls at hl ⊢
  have hl : lv_has ls 2 [(0, .ref (ad o)), (1, .int p1)] := hl
  clear B
  unfold FX0_begin at hF
  refine lv_aload_n hx hb dX0_begin_0 rfl (lv_at hl 0 rfl) ?_
  refine lv_bipush (v := (31 : Int32)) hx hb dX0_begin_1 (by decide) ?_
  refine lv_aload_n hx hb dX0_begin_3 rfl (lv_at hl 0 rfl) ?_
  refine z_get (ci := 0) (C := RX0) (T := TX0) (N := 1) hx hb hts iX0_begin_X0 hown hK hP (zk_lt ho (by decide)) (zx_0 ho) rfl 0 (by decide) kX0_begin_f9 rfl (v := .int (σ o 0)) rfl dX0_begin_4 ?_
  refine lv_imul hx hb dX0_begin_7 ?_
  refine lv_iload_n hx hb dX0_begin_8 rfl (lv_at hl 1 rfl) ?_
  refine lv_iadd hx hb dX0_begin_9 ?_
  obtain ⟨σ1, eσ1, hF⟩ := zlet_inv hF
  refine z_put (ci := 0) (C := RX0) (T := TX0) (N := 1) hx hb hts iX0_begin_X0 tyX0 tyX0_ok nmX0 hown hK hP hD hS (zk_lt ho (by decide)) (zx_0 ho) rfl 0 (by decide) kX0_begin_f9 rfl rfl rfl rfl (Nat.le_of_ble_eq_true rfl) (zx_0 ho) dX0_begin_10 (fun H locs hP hD hS => ?_)
  have hP : va_P D vwCl (zW (zx cI cS cP ad) 41 ad σ1) H := by rw [eσ1]; exact hP
  have hD : va_D A (zW (zx cI cS cP ad) 41 ad σ1) := by rw [eσ1]; exact hD
  exact z_vret hx hb hr hlocks hN hK hP hD hS hF dX0_begin_13
theorem kX9_failed_f69 : Cond.fieldLink RX9 69 "LeastAsked" "lastFault" "I" ∈ wsX9_failed := by decide +kernel
theorem iX9_failed_X9 : ∀ w ∈ u_ws RX9 TX9 11, w ∈ wsX9_failed := fun _ h => List.mem_cons_of_mem _ (List.mem_append_right _ h)
set_option maxHeartbeats 4000000 in
set_option maxRecDepth 100000 in
theorem CX9_failed (l : Launch) (D : va_G) (cI cS cP : ClassId) (ad : Nat → Nat) (A : Nat → Prop) (n : Nat) (σ σ' : zMem) (r0 : Int32) (p1 : Int32) (hF : FX9_failed n σ p1 = some (r0, σ')) : Met l yX9_failed wsX9_failed ({ frames := 0, cells := 0, slots := 0, locals := 0 } : Room) (va_Pc [.ref (ad 0), .int p1] (zB (zx cI cS cP ad) 41 ad D (zty cI cS cP) A σ)) (va_Qi (fun r u => r = r0 ∧ u = σ') (zB (zx cI cS cP ad) 41 ad D (zty cI cS cP) A) A) 0 0 A := by
  refine Met.ofW (cc := cX9_failed) (maxL := 2) (ret := (some .int)) (by decide) rfl ?_
  intro p e s m args below meth c s₁ B hml hv
  obtain ⟨rfl, hP, hK, hD, hN⟩ := hv
  have hx := B.exec
  have hb := B.bytes
  have hr := B.returns
  have hts := atoms_spec (ws := wsX9_failed) B.pre
  have hown : s.vm.findClass RX9 = some m.cls := findClass_of_methodNamed B.named
  have hlocks := B.notSynchronized
  have hS : va_S A s.heap s.heap [] := va_S.rf
  have hl := lv_entry ([.ref (ad 0), .int p1]) (n := 2) (Nat.le_of_ble_eq_true rfl)
  rw [lg_entry_eq]
  generalize (lg_sl ([.ref (ad 0), .int p1]) ++ List.replicate (2 - (lg_sl ([.ref (ad 0), .int p1])).length) Slot.unset).toArray = ls at hl ⊢
  have hl : lv_has ls 2 [(0, .ref (ad 0)), (1, .int p1)] := hl
  clear B
  unfold FX9_failed at hF
  refine lv_aload_n hx hb dX9_failed_0 rfl (lv_at hl 0 rfl) ?_
  refine lv_iload_n hx hb dX9_failed_1 rfl (lv_at hl 1 rfl) ?_
  obtain ⟨σ1, eσ1, hF⟩ := zlet_inv hF
  refine z_put (ci := 8) (C := RX9) (T := TX9) (N := 11) hx hb hts iX9_failed_X9 tyX9 tyX9_ok nmX9 hown hK hP hD hS (zk_lt (rfl : zk 0 = 8) (by decide)) (zx_8 (rfl : zk 0 = 8)) rfl 10 (by decide) kX9_failed_f69 rfl rfl rfl rfl (Nat.le_of_ble_eq_true rfl) (zx_8 (rfl : zk 0 = 8)) dX9_failed_2 (fun H locs hP hD hS => ?_)
  have hP : va_P D vwCl (zW (zx cI cS cP ad) 41 ad σ1) H := by rw [eσ1]; exact hP
  have hD : va_D A (zW (zx cI cS cP ad) 41 ad σ1) := by rw [eσ1]; exact hD
  refine lv_bipush (v := (-10 : Int32)) hx hb dX9_failed_5 (by decide) ?_
  refine lv_iload_n hx hb dX9_failed_7 rfl (lv_at hl 1 rfl) ?_
  refine lv_isub hx hb dX9_failed_8 ?_
  exact z_iret hx hb hr hlocks hN hK hP hD hS hF dX9_failed_9
set_option maxHeartbeats 4000000 in
set_option maxRecDepth 100000 in
theorem CX10_within (l : Launch) (D : va_G) (cI cS cP : ClassId) (ad : Nat → Nat) (A : Nat → Prop) (n : Nat) (σ σ' : zMem) (r0 : Int32) (p1 : Int32) (p2 : Int32) (p3 : Int32) (hF : FX10_within n σ p1 p2 p3 = some (r0, σ')) : Met l yX10_within wsX10_within ({ frames := 0, cells := 0, slots := 0, locals := 0 } : Room) (va_Pc [.int p1, .int p2, .int p3] (zB (zm cI ad) 20 ad D (zty cI cS cP) A σ)) (va_Qi (fun r u => r = r0 ∧ u = σ') (zB (zm cI ad) 20 ad D (zty cI cS cP) A) A) 0 0 A := by
  refine Met.ofW (cc := cX10_within) (maxL := 3) (ret := (some .boolean)) (by decide) rfl ?_
  intro p e s m args below meth c s₁ B hml hv
  obtain ⟨rfl, hP, hK, hD, hN⟩ := hv
  have hx := B.exec
  have hb := B.bytes
  have hr := B.returns
  have hts := atoms_spec (ws := wsX10_within) B.pre
  have hown : s.vm.findClass RX10 = some m.cls := findClass_of_methodNamed B.named
  have hlocks := B.notSynchronized
  have hS : va_S A s.heap s.heap [] := va_S.rf
  have hl := lv_entry ([.int p1, .int p2, .int p3]) (n := 3) (Nat.le_of_ble_eq_true rfl)
  rw [lg_entry_eq]
  generalize (lg_sl ([.int p1, .int p2, .int p3]) ++ List.replicate (3 - (lg_sl ([.int p1, .int p2, .int p3])).length) Slot.unset).toArray = ls at hl ⊢
  have hl : lv_has ls 3 [(0, .int p1), (1, .int p2), (2, .int p3)] := hl
  clear B
  unfold FX10_within at hF
  refine lv_iload_n hx hb dX10_within_0 rfl (lv_at hl 0 rfl) ?_
  refine lv_iload_n hx hb dX10_within_1 rfl (lv_at hl 1 rfl) ?_
  refine lv_icmp_lt (tgt := 14) hx hb dX10_within_2 (by decide) (fun b1 => ?_) (fun b1 => ?_)
  · have hF := zif_t b1 hF
    refine lv_iconst (v := (0 : Int32)) hx hb dX10_within_14 (by decide) ?_
    exact z_zret hx hb hr hlocks (Or.inl rfl) hN hK hP hD hS hF dX10_within_15
  · have hF := zif_f b1 hF
    refine lv_iload_n hx hb dX10_within_5 rfl (lv_at hl 0 rfl) ?_
    refine lv_iload_n hx hb dX10_within_6 rfl (lv_at hl 2 rfl) ?_
    refine lv_icmp_gt (tgt := 14) hx hb dX10_within_7 (by decide) (fun b2 => ?_) (fun b2 => ?_)
    · have hF := zif_t b2 hF
      refine lv_iconst (v := (0 : Int32)) hx hb dX10_within_14 (by decide) ?_
      exact z_zret hx hb hr hlocks (Or.inl rfl) hN hK hP hD hS hF dX10_within_15
    · have hF := zif_f b2 hF
      refine lv_iconst (v := (1 : Int32)) hx hb dX10_within_10 (by decide) ?_
      refine lv_goto (tgt := 15) hx hb dX10_within_11 (by decide) ?_
      exact z_zret hx hb hr hlocks (Or.inr rfl) hN hK hP hD hS hF dX10_within_15
theorem kX10_firstOf_f77 : Cond.fieldLink RX10 77 "LeastAskedModel" "people" "I" ∈ wsX10_firstOf := by decide +kernel
theorem kX10_firstOf_f25 : Cond.fieldLink RX10 25 "LeastAskedModel" "asked" "[I" ∈ wsX10_firstOf := by decide +kernel
theorem iX10_firstOf_X10 : ∀ w ∈ u_ws RX10 TX10 32, w ∈ wsX10_firstOf := fun _ h => List.mem_cons_of_mem _ (List.mem_append_right _ h)
set_option maxHeartbeats 4000000 in
set_option maxRecDepth 100000 in
theorem CX10_firstOf (l : Launch) (D : va_G) (cI cS cP : ClassId) (ad : Nat → Nat) (A : Nat → Prop) (n : Nat) (σ σ' : zMem) (r0 : Int32) (hF : FX10_firstOf n σ = some (r0, σ')) : Met l yX10_firstOf wsX10_firstOf ({ frames := 0, cells := 0, slots := 0, locals := 0 } : Room) (va_Pc [.ref (ad 0)] (zB (zm cI ad) 20 ad D (zty cI cS cP) A σ)) (va_Qi (fun r u => r = r0 ∧ u = σ') (zB (zm cI ad) 20 ad D (zty cI cS cP) A) A) 0 0 A := by
  refine Met.ofW (cc := cX10_firstOf) (maxL := 3) (ret := (some .int)) (by decide) rfl ?_
  intro p e s m args below meth c s₁ B hml hv
  obtain ⟨rfl, hP, hK, hD, hN⟩ := hv
  have hx := B.exec
  have hb := B.bytes
  have hr := B.returns
  have hts := atoms_spec (ws := wsX10_firstOf) B.pre
  have hown : s.vm.findClass RX10 = some m.cls := findClass_of_methodNamed B.named
  have hlocks := B.notSynchronized
  have hS : va_S A s.heap s.heap [] := va_S.rf
  have hl := lv_entry ([.ref (ad 0)]) (n := 3) (Nat.le_of_ble_eq_true rfl)
  rw [lg_entry_eq]
  generalize (lg_sl ([.ref (ad 0)]) ++ List.replicate (3 - (lg_sl ([.ref (ad 0)])).length) Slot.unset).toArray = ls at hl ⊢
  have hl : lv_has ls 3 [(0, .ref (ad 0))] := hl
  clear B
  have hB4 : ∀ (f4 : Nat) (σ : zMem) (l1 : Int32) (l2 : Int32) (H : Heap) (locs : List Loc) (ls : Array Slot), zlp (LX10_firstOf_4 n) f4 (σ, l1, l2) = some (r0, σ') → va_P D vwCl (zW (zm cI ad) 20 ad σ) H → va_D A (zW (zm cI ad) 20 ad σ) → va_S A s.heap H locs → lv_has ls 3 [(0, .ref (ad 0)), (1, .int l1), (2, .int l2)] → W p l e (headSpec wsX10_firstOf ({ frames := 0, cells := 0, slots := 0, locals := 0 } : Room)).room s m ([.ref (ad 0)] : List Value).toArray below meth c H locs 0 0 (MQ below (va_Qi (fun r u => r = r0 ∧ u = σ') (zB (zm cI ad) 20 ad D (zty cI cS cP) A) A) ([.ref (ad 0)] : List Value).toArray s 0 0 A) (F0 m 4 ls []) := by
    intro f4
    induction f4 with
    | zero => intro σ l1 l2 H locs ls hF hP hD hS hl; exact (zlp_0 hF).elim
    | succ f4 ih4 =>
      intro σ l1 l2 H locs ls hF hP hD hS hl
      have hF : LBX10_firstOf_4 n   (zlp (LX10_firstOf_4 n) f4) σ l1 l2 = some (r0, σ') := hF
      unfold LBX10_firstOf_4 at hF
      refine lv_iload_n hx hb dX10_firstOf_4 rfl (lv_at hl 2 rfl) ?_
      refine lv_aload_n hx hb dX10_firstOf_5 rfl (lv_at hl 0 rfl) ?_
      refine z_get (ci := 9) (C := RX10) (T := TX10) (N := 32) hx hb hts iX10_firstOf_X10 hown hK hP (by decide) zm_0 rfl 5 (by decide) kX10_firstOf_f77 rfl (v := .int (σ 0 5)) rfl dX10_firstOf_6 ?_
      refine lv_icmp_ge (tgt := 39) hx hb dX10_firstOf_9 (by decide) (fun b1 => ?_) (fun b1 => ?_)
      · have hF := zif_t b1 hF
        refine lv_iload_n hx hb dX10_firstOf_39 rfl (lv_at hl 1 rfl) ?_
        exact z_iret hx hb hr hlocks hN hK hP hD hS hF dX10_firstOf_40
      · have hF := zif_f b1 hF
        refine lv_aload_n hx hb dX10_firstOf_12 rfl (lv_at hl 0 rfl) ?_
        refine z_get (ci := 9) (C := RX10) (T := TX10) (N := 32) hx hb hts iX10_firstOf_X10 hown hK hP (by decide) zm_0 rfl 10 (by decide) kX10_firstOf_f25 rfl (v := .ref (ad 6)) rfl dX10_firstOf_13 ?_
        refine lv_iload_n hx hb dX10_firstOf_16 rfl (lv_at hl 2 rfl) ?_
        obtain ⟨g2, hF⟩ := zgd_inv hF
        refine z_iald hx hb hK hP (by decide) (zm_a (n := 6) (by decide)) rfl g2 dX10_firstOf_17 ?_
        refine lv_aload_n hx hb dX10_firstOf_18 rfl (lv_at hl 0 rfl) ?_
        refine z_get (ci := 9) (C := RX10) (T := TX10) (N := 32) hx hb hts iX10_firstOf_X10 hown hK hP (by decide) zm_0 rfl 10 (by decide) kX10_firstOf_f25 rfl (v := .ref (ad 6)) rfl dX10_firstOf_19 ?_
        refine lv_iload_n hx hb dX10_firstOf_22 rfl (lv_at hl 1 rfl) ?_
        obtain ⟨g3, hF⟩ := zgd_inv hF
        refine z_iald hx hb hK hP (by decide) (zm_a (n := 6) (by decide)) rfl g3 dX10_firstOf_23 ?_
        refine lv_icmp_ge (tgt := 31) hx hb dX10_firstOf_24 (by decide) (fun b4 => ?_) (fun b4 => ?_)
        · have hF := zif_t b4 hF
          refine lv_iload_n hx hb dX10_firstOf_31 rfl (lv_at hl 1 rfl) ?_
          refine lv_istore_n (lv' := [(1, .int l1), (0, .ref (ad 0)), (2, .int l2)]) hx hb dX10_firstOf_32 rfl hl (by decide) rfl (fun ls hl => ?_)
          refine lv_iinc (v := (l2 + (1 : Int32))) (lv' := [(2, .int (l2 + (1 : Int32))), (1, .int l1), (0, .ref (ad 0))]) hx hb dX10_firstOf_33 hl (k := 2) rfl rfl (by decide) rfl (fun ls hl => ?_)
          refine lv_goto (tgt := 4) hx hb dX10_firstOf_36 (by decide) ?_
          exact ih4 σ l1 (l2 + (1 : Int32)) _ _ _ hF hP hD hS (lv_sub hl [2, 1, 0] rfl)
        · have hF := zif_f b4 hF
          refine lv_iload_n hx hb dX10_firstOf_27 rfl (lv_at hl 2 rfl) ?_
          refine lv_goto (tgt := 32) hx hb dX10_firstOf_28 (by decide) ?_
          refine lv_istore_n (lv' := [(1, .int l2), (0, .ref (ad 0)), (2, .int l2)]) hx hb dX10_firstOf_32 rfl hl (by decide) rfl (fun ls hl => ?_)
          refine lv_iinc (v := (l2 + (1 : Int32))) (lv' := [(2, .int (l2 + (1 : Int32))), (1, .int l2), (0, .ref (ad 0))]) hx hb dX10_firstOf_33 hl (k := 2) rfl rfl (by decide) rfl (fun ls hl => ?_)
          refine lv_goto (tgt := 4) hx hb dX10_firstOf_36 (by decide) ?_
          exact ih4 σ l2 (l2 + (1 : Int32)) _ _ _ hF hP hD hS (lv_sub hl [2, 1, 0] rfl)
  unfold FX10_firstOf at hF
  refine lv_iconst (v := (0 : Int32)) hx hb dX10_firstOf_0 (by decide) ?_
  refine lv_istore_n (lv' := [(1, .int (0 : Int32)), (0, .ref (ad 0))]) hx hb dX10_firstOf_1 rfl hl (by decide) rfl (fun ls hl => ?_)
  refine lv_iconst (v := (1 : Int32)) hx hb dX10_firstOf_2 (by decide) ?_
  refine lv_istore_n (lv' := [(2, .int (1 : Int32)), (1, .int (0 : Int32)), (0, .ref (ad 0))]) hx hb dX10_firstOf_3 rfl hl (by decide) rfl (fun ls hl => ?_)
  exact hB4 n σ (0 : Int32) (1 : Int32) _ _ _ hF hP hD hS (lv_sub hl [2, 1, 0] rfl)
theorem kX10_fails_f67 : Cond.fieldLink RX10 67 "LeastAskedModel" "fault" "I" ∈ wsX10_fails := by decide +kernel
theorem iX10_fails_X10 : ∀ w ∈ u_ws RX10 TX10 32, w ∈ wsX10_fails := fun _ h => List.mem_cons_of_mem _ (List.mem_append_right _ h)
set_option maxHeartbeats 4000000 in
set_option maxRecDepth 100000 in
theorem CX10_fails (l : Launch) (D : va_G) (cI cS cP : ClassId) (ad : Nat → Nat) (A : Nat → Prop) (n : Nat) (σ σ' : zMem) (r0 : Int32) (p1 : Int32) (hF : FX10_fails n σ p1 = some (r0, σ')) : Met l yX10_fails wsX10_fails ({ frames := 0, cells := 0, slots := 0, locals := 0 } : Room) (va_Pc [.ref (ad 0), .int p1] (zB (zm cI ad) 20 ad D (zty cI cS cP) A σ)) (va_Qi (fun r u => r = r0 ∧ u = σ') (zB (zm cI ad) 20 ad D (zty cI cS cP) A) A) 0 0 A := by
  refine Met.ofW (cc := cX10_fails) (maxL := 2) (ret := (some .int)) (by decide) rfl ?_
  intro p e s m args below meth c s₁ B hml hv
  obtain ⟨rfl, hP, hK, hD, hN⟩ := hv
  have hx := B.exec
  have hb := B.bytes
  have hr := B.returns
  have hts := atoms_spec (ws := wsX10_fails) B.pre
  have hown : s.vm.findClass RX10 = some m.cls := findClass_of_methodNamed B.named
  have hlocks := B.notSynchronized
  have hS : va_S A s.heap s.heap [] := va_S.rf
  have hl := lv_entry ([.ref (ad 0), .int p1]) (n := 2) (Nat.le_of_ble_eq_true rfl)
  rw [lg_entry_eq]
  generalize (lg_sl ([.ref (ad 0), .int p1]) ++ List.replicate (2 - (lg_sl ([.ref (ad 0), .int p1])).length) Slot.unset).toArray = ls at hl ⊢
  have hl : lv_has ls 2 [(0, .ref (ad 0)), (1, .int p1)] := hl
  clear B
  unfold FX10_fails at hF
  refine lv_aload_n hx hb dX10_fails_0 rfl (lv_at hl 0 rfl) ?_
  refine lv_iload_n hx hb dX10_fails_1 rfl (lv_at hl 1 rfl) ?_
  obtain ⟨σ1, eσ1, hF⟩ := zlet_inv hF
  refine z_put (ci := 9) (C := RX10) (T := TX10) (N := 32) hx hb hts iX10_fails_X10 tyX10 tyX10_ok nmX10 hown hK hP hD hS (by decide) zm_0 rfl 0 (by decide) kX10_fails_f67 rfl rfl rfl rfl (Nat.le_of_ble_eq_true rfl) zm_0 dX10_fails_2 (fun H locs hP hD hS => ?_)
  have hP : va_P D vwCl (zW (zm cI ad) 20 ad σ1) H := by rw [eσ1]; exact hP
  have hD : va_D A (zW (zm cI ad) 20 ad σ1) := by rw [eσ1]; exact hD
  refine lv_bipush (v := (-10 : Int32)) hx hb dX10_fails_5 (by decide) ?_
  refine lv_iload_n hx hb dX10_fails_7 rfl (lv_at hl 1 rfl) ?_
  refine lv_isub hx hb dX10_fails_8 ?_
  exact z_iret hx hb hr hlocks hN hK hP hD hS hF dX10_fails_9
end
