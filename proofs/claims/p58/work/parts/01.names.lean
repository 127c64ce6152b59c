/-! ===== BEGIN words of one list among another's, by their places ===== -/
theorem goodIn_r {big : List Cond} (ws : List Cond) (ps : List Nat) (hp : ws = ps.filterMap (fun i => big[i]?)) (h : ws.all goodWord = true) : GoodIn big ws := by
  intro w hw
  have h1 := List.all_eq_true.mp h w hw
  rw [hp] at hw
  obtain ⟨i, -, hi⟩ := List.mem_filterMap.mp hw
  have hm : w ∈ big := by first | exact List.mem_of_getElem? hi | exact List.getElem?_mem hi
  exact ⟨hm, good_of_word h1⟩
theorem goodIn_app {big a b : List Cond} (ha : GoodIn big a) (hb : GoodIn big b) : GoodIn big (a ++ b) := fun w h => (List.mem_append.mp h).elim (ha w) (hb w)
theorem goodIn_ca {big a b : List Cond} {c : Cond} (ha : GoodIn big (c :: a)) (hb : GoodIn big b) : GoodIn big (c :: (a ++ b)) := fun w h => (List.mem_cons.mp h).elim (fun e => ha w (List.mem_cons.mpr (Or.inl e))) (fun h => (List.mem_append.mp h).elim (fun h => ha w (List.mem_cons.mpr (Or.inr h))) (hb w))
theorem goodIn_sub {big ws : List Cond} (hm : ∀ w ∈ ws, w ∈ big) (h : ws.all goodWord = true) : GoodIn big ws := fun w hw => ⟨hm w hw, good_of_word (List.all_eq_true.mp h w hw)⟩
/-! ===== END ===== -/
def RX6 : String := "HoleWhistleLaw$Whistle"
def TX6 : u_T := fun k => match k with
  | 0 => ("HoleWhistleLaw$Whistle", "length", "I", false)
  | 1 => ("HoleWhistleLaw$Whistle", "bore", "I", false)
  | 2 => ("HoleWhistleLaw$Whistle", "tolerance", "I", false)
  | 3 => ("HoleWhistleLaw$Whistle", "halves", "I", false)
  | 4 => ("HoleWhistleLaw$Whistle", "crosses", "I", false)
  | 5 => ("HoleWhistleLaw$Whistle", "move", "I", false)
  | 6 => ("HoleWhistleLaw$Whistle", "half", "I", false)
  | 7 => ("HoleWhistleLaw$Whistle", "breath", "I", false)
  | 8 => ("HoleWhistleLaw$Whistle", "play", "I", false)
  | 9 => ("HoleWhistleLaw$Whistle", "spent", "I", false)
  | 10 => ("HoleWhistleLaw$Whistle", "place", "I", false)
  | 11 => ("HoleWhistleLaw$Whistle", "holes", "Ljava/util/ArrayList;", true)
  | _ => ("HoleWhistleLaw$Whistle", "notes", "Ljava/util/ArrayList;", true)
def tyX6 : Nat → FieldType := fun k => match k with
  | 0 => .int
  | 1 => .int
  | 2 => .int
  | 3 => .int
  | 4 => .int
  | 5 => .int
  | 6 => .int
  | 7 => .int
  | 8 => .int
  | 9 => .int
  | 10 => .int
  | 11 => .object "java/util/ArrayList"
  | _ => .object "java/util/ArrayList"
abbrev wsX60 : List Cond := u_ws RX6 TX6 13
theorem nmX6 : ∀ a, a < 13 → ∀ b, b < 13 → a ≠ b → (TX6 a).2.1 ≠ (TX6 b).2.1 := by decide +kernel
theorem tyX6_ok : ∀ k, k < 13 → parseFieldDescriptor (TX6 k).2.2.1 = some (tyX6 k) := by decide +kernel
abbrev cX6_init : ByteArray := prog_8_method_1_code
def yX6_init : MethodName := ⟨RX6, "<init>", "()V"⟩
abbrev cX6_copy : ByteArray := prog_8_method_2_code
def yX6_copy : MethodName := ⟨RX6, "copy", "()LHoleWhistleLaw$Whistle;"⟩
abbrev cX6_soft : ByteArray := prog_8_method_3_code
def yX6_soft : MethodName := ⟨RX6, "soft", "()I"⟩
abbrev cX6_digits : ByteArray := prog_8_method_4_code
def yX6_digits : MethodName := ⟨RX6, "digits", "(I)[I"⟩
abbrev cX6_sounding : ByteArray := prog_8_method_5_code
def yX6_sounding : MethodName := ⟨RX6, "sounding", "(I)I"⟩
abbrev cX6_cents : ByteArray := prog_8_method_6_code
def yX6_cents : MethodName := ⟨RX6, "cents", "(I)I"⟩
abbrev cX6_tone : ByteArray := prog_8_method_7_code
def yX6_tone : MethodName := ⟨RX6, "tone", "(I)I"⟩
abbrev cX6_many : ByteArray := prog_8_method_8_code
def yX6_many : MethodName := ⟨RX6, "many", "(II)I"⟩
abbrev cX6_crosses : ByteArray := prog_8_method_9_code
def yX6_crosses : MethodName := ⟨RX6, "crosses", "(I)I"⟩
abbrev cX6_change : ByteArray := prog_8_method_10_code
def yX6_change : MethodName := ⟨RX6, "change", "(II)I"⟩
abbrev cX6_easy : ByteArray := prog_8_method_11_code
def yX6_easy : MethodName := ⟨RX6, "easy", "(III)Ljava/util/ArrayList;"⟩
abbrev cX6_isNoted : ByteArray := prog_8_method_12_code
def yX6_isNoted : MethodName := ⟨RX6, "isNoted", "(I)Z"⟩
abbrev cX6_rests : ByteArray := prog_8_method_13_code
def yX6_rests : MethodName := ⟨RX6, "rests", "()I"⟩
abbrev cX6_lacking : ByteArray := prog_8_method_14_code
def yX6_lacking : MethodName := ⟨RX6, "lacking", "(IIII)I"⟩
abbrev cX6_way : ByteArray := prog_8_method_15_code
def yX6_way : MethodName := ⟨RX6, "way", "(IIIII)[I"⟩
abbrev cX6_costOf : ByteArray := prog_8_method_16_code
def yX6_costOf : MethodName := ⟨RX6, "costOf", "([I)I"⟩
abbrev cX6_costBy : ByteArray := prog_8_method_17_code
def yX6_costBy : MethodName := ⟨RX6, "costBy", "(I)I"⟩
def RJx4a65c : String := "java/util/ArrayList"
def TJx4a65c : u_T := fun k => match k with
  | 0 => ("java/util/AbstractList", "modCount", "I", false)
  | 1 => ("java/util/ArrayList", "elementData", "[Ljava/lang/Object;", false)
  | _ => ("java/util/ArrayList", "size", "I", false)
def tyJx4a65c : Nat → FieldType := fun k => match k with
  | 0 => .int
  | 1 => .array (.object "java/lang/Object")
  | _ => .int
abbrev wsJx4a65c0 : List Cond := u_ws RJx4a65c TJx4a65c 3
theorem nmJx4a65c : ∀ a, a < 3 → ∀ b, b < 3 → a ≠ b → (TJx4a65c a).2.1 ≠ (TJx4a65c b).2.1 := by decide +kernel
theorem tyJx4a65c_ok : ∀ k, k < 3 → parseFieldDescriptor (TJx4a65c k).2.2.1 = some (tyJx4a65c k) := by decide +kernel
abbrev cJx4a65c_size_8abf5 : ByteArray := prog_35_method_8_code
def yJx4a65c_size_8abf5 : MethodName := ⟨RJx4a65c, "size", "()I"⟩
def wsJx4a65c_size_8abf5 : List Cond := .code yJx4a65c_size_8abf5 cJx4a65c_size_8abf5 1 (some .int) :: ([.fieldLink RJx4a65c 48 "java/util/ArrayList" "size" "I"] ++ wsJx4a65c0)
def wsX6_digits : List Cond := .code yX6_digits cX6_digits 5 (some (.array .int)) :: ([.fieldLink RX6 37 "HoleWhistleLaw$Whistle" "holes" "Ljava/util/ArrayList;", .arrayClass .int, .methodLink RX6 76 yJx4a65c_size_8abf5, .instanceMethod yJx4a65c_size_8abf5, .selects RJx4a65c yJx4a65c_size_8abf5 yJx4a65c_size_8abf5, .initialized RJx4a65c, .code yJx4a65c_size_8abf5 cJx4a65c_size_8abf5 1 (some .int), .fieldLink RJx4a65c 48 "java/util/ArrayList" "size" "I"] ++ wsX60 ++ wsJx4a65c0)
def wsX6_change : List Cond := .code yX6_change cX6_change 7 (some .int) :: ([.fieldLink RX6 37 "HoleWhistleLaw$Whistle" "holes" "Ljava/util/ArrayList;", .fieldLink RX6 31 "HoleWhistleLaw$Whistle" "breath" "I", .fieldLink RX6 28 "HoleWhistleLaw$Whistle" "half" "I", .fieldLink RX6 25 "HoleWhistleLaw$Whistle" "move" "I", .methodLink RX6 80 yX6_digits, .instanceMethod yX6_digits, .selects RX6 yX6_digits yX6_digits, .initialized RX6, .code yX6_digits cX6_digits 5 (some (.array .int)), .arrayClass .int, .methodLink RX6 76 yJx4a65c_size_8abf5, .instanceMethod yJx4a65c_size_8abf5, .selects RJx4a65c yJx4a65c_size_8abf5 yJx4a65c_size_8abf5, .initialized RJx4a65c, .code yJx4a65c_size_8abf5 cJx4a65c_size_8abf5 1 (some .int), .fieldLink RJx4a65c 48 "java/util/ArrayList" "size" "I"] ++ wsX60 ++ wsJx4a65c0)
theorem dJx4a65c_size_8abf5_0 : decode cJx4a65c_size_8abf5 0 = .ok (.aload_n 0, 1) := by decide +kernel
theorem dJx4a65c_size_8abf5_1 : decode cJx4a65c_size_8abf5 1 = .ok (.getfield 48, 3) := by decide +kernel
theorem dJx4a65c_size_8abf5_4 : decode cJx4a65c_size_8abf5 4 = .ok (.ireturn, 1) := by decide +kernel
theorem dX6_digits_0 : decode cX6_digits 0 = .ok (.aload_n 0, 1) := by decide +kernel
theorem dX6_digits_1 : decode cX6_digits 1 = .ok (.getfield 37, 3) := by decide +kernel
theorem dX6_digits_4 : decode cX6_digits 4 = .ok (.invokevirtual 76, 3) := by decide +kernel
theorem dX6_digits_7 : decode cX6_digits 7 = .ok (.iconst 1, 1) := by decide +kernel
theorem dX6_digits_8 : decode cX6_digits 8 = .ok (.iadd, 1) := by decide +kernel
theorem dX6_digits_9 : decode cX6_digits 9 = .ok (.newarray .int, 2) := by decide +kernel
theorem dX6_digits_11 : decode cX6_digits 11 = .ok (.astore_n 2, 1) := by decide +kernel
theorem dX6_digits_12 : decode cX6_digits 12 = .ok (.iload_n 1, 1) := by decide +kernel
theorem dX6_digits_13 : decode cX6_digits 13 = .ok (.istore_n 3, 1) := by decide +kernel
theorem dX6_digits_14 : decode cX6_digits 14 = .ok (.iconst 0, 1) := by decide +kernel
theorem dX6_digits_15 : decode cX6_digits 15 = .ok (.istore 4, 2) := by decide +kernel
theorem dX6_digits_17 : decode cX6_digits 17 = .ok (.iload 4, 2) := by decide +kernel
theorem dX6_digits_19 : decode cX6_digits 19 = .ok (.aload_n 0, 1) := by decide +kernel
theorem dX6_digits_20 : decode cX6_digits 20 = .ok (.getfield 37, 3) := by decide +kernel
theorem dX6_digits_23 : decode cX6_digits 23 = .ok (.invokevirtual 76, 3) := by decide +kernel
theorem dX6_digits_26 : decode cX6_digits 26 = .ok (.if_icmp .ge 20, 3) := by decide +kernel
theorem dX6_digits_29 : decode cX6_digits 29 = .ok (.aload_n 2, 1) := by decide +kernel
theorem dX6_digits_30 : decode cX6_digits 30 = .ok (.iload 4, 2) := by decide +kernel
theorem dX6_digits_32 : decode cX6_digits 32 = .ok (.iload_n 3, 1) := by decide +kernel
theorem dX6_digits_33 : decode cX6_digits 33 = .ok (.iconst 3, 1) := by decide +kernel
theorem dX6_digits_34 : decode cX6_digits 34 = .ok (.irem, 1) := by decide +kernel
theorem dX6_digits_35 : decode cX6_digits 35 = .ok (.iastore, 1) := by decide +kernel
theorem dX6_digits_36 : decode cX6_digits 36 = .ok (.iload_n 3, 1) := by decide +kernel
theorem dX6_digits_37 : decode cX6_digits 37 = .ok (.iconst 3, 1) := by decide +kernel
theorem dX6_digits_38 : decode cX6_digits 38 = .ok (.idiv, 1) := by decide +kernel
theorem dX6_digits_39 : decode cX6_digits 39 = .ok (.istore_n 3, 1) := by decide +kernel
theorem dX6_digits_40 : decode cX6_digits 40 = .ok (.iinc 4 1, 3) := by decide +kernel
theorem dX6_digits_43 : decode cX6_digits 43 = .ok (.goto (-26), 3) := by decide +kernel
theorem dX6_digits_46 : decode cX6_digits 46 = .ok (.aload_n 2, 1) := by decide +kernel
theorem dX6_digits_47 : decode cX6_digits 47 = .ok (.aload_n 0, 1) := by decide +kernel
theorem dX6_digits_48 : decode cX6_digits 48 = .ok (.getfield 37, 3) := by decide +kernel
theorem dX6_digits_51 : decode cX6_digits 51 = .ok (.invokevirtual 76, 3) := by decide +kernel
theorem dX6_digits_54 : decode cX6_digits 54 = .ok (.iload_n 3, 1) := by decide +kernel
theorem dX6_digits_55 : decode cX6_digits 55 = .ok (.iastore, 1) := by decide +kernel
theorem dX6_digits_56 : decode cX6_digits 56 = .ok (.aload_n 2, 1) := by decide +kernel
theorem dX6_digits_57 : decode cX6_digits 57 = .ok (.areturn, 1) := by decide +kernel
theorem dX6_change_0 : decode cX6_change 0 = .ok (.aload_n 0, 1) := by decide +kernel
theorem dX6_change_1 : decode cX6_change 1 = .ok (.iload_n 1, 1) := by decide +kernel
theorem dX6_change_2 : decode cX6_change 2 = .ok (.invokevirtual 80, 3) := by decide +kernel
theorem dX6_change_5 : decode cX6_change 5 = .ok (.astore_n 3, 1) := by decide +kernel
theorem dX6_change_6 : decode cX6_change 6 = .ok (.aload_n 0, 1) := by decide +kernel
theorem dX6_change_7 : decode cX6_change 7 = .ok (.iload_n 2, 1) := by decide +kernel
theorem dX6_change_8 : decode cX6_change 8 = .ok (.invokevirtual 80, 3) := by decide +kernel
theorem dX6_change_11 : decode cX6_change 11 = .ok (.astore 4, 2) := by decide +kernel
theorem dX6_change_13 : decode cX6_change 13 = .ok (.aload_n 3, 1) := by decide +kernel
theorem dX6_change_14 : decode cX6_change 14 = .ok (.aload_n 0, 1) := by decide +kernel
theorem dX6_change_15 : decode cX6_change 15 = .ok (.getfield 37, 3) := by decide +kernel
theorem dX6_change_18 : decode cX6_change 18 = .ok (.invokevirtual 76, 3) := by decide +kernel
theorem dX6_change_21 : decode cX6_change 21 = .ok (.iaload, 1) := by decide +kernel
theorem dX6_change_22 : decode cX6_change 22 = .ok (.aload 4, 2) := by decide +kernel
theorem dX6_change_24 : decode cX6_change 24 = .ok (.aload_n 0, 1) := by decide +kernel
theorem dX6_change_25 : decode cX6_change 25 = .ok (.getfield 37, 3) := by decide +kernel
theorem dX6_change_28 : decode cX6_change 28 = .ok (.invokevirtual 76, 3) := by decide +kernel
theorem dX6_change_31 : decode cX6_change 31 = .ok (.iaload, 1) := by decide +kernel
theorem dX6_change_32 : decode cX6_change 32 = .ok (.if_icmp .ne 7, 3) := by decide +kernel
theorem dX6_change_35 : decode cX6_change 35 = .ok (.iconst 0, 1) := by decide +kernel
theorem dX6_change_36 : decode cX6_change 36 = .ok (.goto 7, 3) := by decide +kernel
theorem dX6_change_39 : decode cX6_change 39 = .ok (.aload_n 0, 1) := by decide +kernel
theorem dX6_change_40 : decode cX6_change 40 = .ok (.getfield 31, 3) := by decide +kernel
theorem dX6_change_43 : decode cX6_change 43 = .ok (.istore 5, 2) := by decide +kernel
theorem dX6_change_45 : decode cX6_change 45 = .ok (.iconst 0, 1) := by decide +kernel
theorem dX6_change_46 : decode cX6_change 46 = .ok (.istore 6, 2) := by decide +kernel
theorem dX6_change_48 : decode cX6_change 48 = .ok (.iload 6, 2) := by decide +kernel
theorem dX6_change_50 : decode cX6_change 50 = .ok (.aload_n 0, 1) := by decide +kernel
theorem dX6_change_51 : decode cX6_change 51 = .ok (.getfield 37, 3) := by decide +kernel
theorem dX6_change_54 : decode cX6_change 54 = .ok (.invokevirtual 76, 3) := by decide +kernel
theorem dX6_change_57 : decode cX6_change 57 = .ok (.if_icmp .ge 58, 3) := by decide +kernel
theorem dX6_change_60 : decode cX6_change 60 = .ok (.iload 5, 2) := by decide +kernel
theorem dX6_change_62 : decode cX6_change 62 = .ok (.aload_n 3, 1) := by decide +kernel
theorem dX6_change_63 : decode cX6_change 63 = .ok (.iload 6, 2) := by decide +kernel
theorem dX6_change_65 : decode cX6_change 65 = .ok (.iaload, 1) := by decide +kernel
theorem dX6_change_66 : decode cX6_change 66 = .ok (.aload 4, 2) := by decide +kernel
theorem dX6_change_68 : decode cX6_change 68 = .ok (.iload 6, 2) := by decide +kernel
theorem dX6_change_70 : decode cX6_change 70 = .ok (.iaload, 1) := by decide +kernel
theorem dX6_change_71 : decode cX6_change 71 = .ok (.if_icmp .ne 7, 3) := by decide +kernel
theorem dX6_change_74 : decode cX6_change 74 = .ok (.iconst 0, 1) := by decide +kernel
theorem dX6_change_75 : decode cX6_change 75 = .ok (.goto 31, 3) := by decide +kernel
theorem dX6_change_78 : decode cX6_change 78 = .ok (.aload_n 3, 1) := by decide +kernel
theorem dX6_change_79 : decode cX6_change 79 = .ok (.iload 6, 2) := by decide +kernel
theorem dX6_change_81 : decode cX6_change 81 = .ok (.iaload, 1) := by decide +kernel
theorem dX6_change_82 : decode cX6_change 82 = .ok (.iconst 1, 1) := by decide +kernel
theorem dX6_change_83 : decode cX6_change 83 = .ok (.if_icmp .eq 12, 3) := by decide +kernel
theorem dX6_change_86 : decode cX6_change 86 = .ok (.aload 4, 2) := by decide +kernel
theorem dX6_change_88 : decode cX6_change 88 = .ok (.iload 6, 2) := by decide +kernel
theorem dX6_change_90 : decode cX6_change 90 = .ok (.iaload, 1) := by decide +kernel
theorem dX6_change_91 : decode cX6_change 91 = .ok (.iconst 1, 1) := by decide +kernel
theorem dX6_change_92 : decode cX6_change 92 = .ok (.if_icmp .ne 10, 3) := by decide +kernel
theorem dX6_change_95 : decode cX6_change 95 = .ok (.aload_n 0, 1) := by decide +kernel
theorem dX6_change_96 : decode cX6_change 96 = .ok (.getfield 28, 3) := by decide +kernel
theorem dX6_change_99 : decode cX6_change 99 = .ok (.goto 7, 3) := by decide +kernel
theorem dX6_change_102 : decode cX6_change 102 = .ok (.aload_n 0, 1) := by decide +kernel
theorem dX6_change_103 : decode cX6_change 103 = .ok (.getfield 25, 3) := by decide +kernel
theorem dX6_change_106 : decode cX6_change 106 = .ok (.iadd, 1) := by decide +kernel
theorem dX6_change_107 : decode cX6_change 107 = .ok (.istore 5, 2) := by decide +kernel
theorem dX6_change_109 : decode cX6_change 109 = .ok (.iinc 6 1, 3) := by decide +kernel
theorem dX6_change_112 : decode cX6_change 112 = .ok (.goto (-64), 3) := by decide +kernel
theorem dX6_change_115 : decode cX6_change 115 = .ok (.iload 5, 2) := by decide +kernel
theorem dX6_change_117 : decode cX6_change 117 = .ok (.ireturn, 1) := by decide +kernel
set_option maxRecDepth 20000 in
theorem ggX6_digits_Jx4a65c_size_8abf5 : GoodIn wsX6_digits wsJx4a65c_size_8abf5 := goodIn_r _ [7, 8, 22, 23, 24] (by decide +kernel) (by decide +kernel)
set_option maxRecDepth 20000 in
theorem gX6_digits_Jx4a65c_size_8abf5 : GoodIn wsX6_digits (wsV RX6 76 RJx4a65c yJx4a65c_size_8abf5 wsJx4a65c_size_8abf5) := goodIn_app (goodIn_of _ (by decide +kernel)) ggX6_digits_Jx4a65c_size_8abf5
set_option maxRecDepth 20000 in
theorem ggX6_change_X6_digits : GoodIn wsX6_change wsX6_digits := goodIn_r _ [9, 1, 10, 11, 12, 13, 14, 15, 16, 17, 18, 19, 20, 21, 22, 23, 24, 25, 26, 27, 28, 29, 30, 31, 32] (by decide +kernel) (by decide +kernel)
set_option maxRecDepth 20000 in
theorem gX6_change_X6_digits : GoodIn wsX6_change (wsV RX6 80 RX6 yX6_digits wsX6_digits) := goodIn_app (goodIn_of _ (by decide +kernel)) ggX6_change_X6_digits
set_option maxRecDepth 20000 in
theorem ggX6_change_Jx4a65c_size_8abf5 : GoodIn wsX6_change wsJx4a65c_size_8abf5 := goodIn_r _ [15, 16, 30, 31, 32] (by decide +kernel) (by decide +kernel)
set_option maxRecDepth 20000 in
theorem gX6_change_Jx4a65c_size_8abf5 : GoodIn wsX6_change (wsV RX6 76 RJx4a65c yJx4a65c_size_8abf5 wsJx4a65c_size_8abf5) := goodIn_app (goodIn_of _ (by decide +kernel)) ggX6_change_Jx4a65c_size_8abf5
