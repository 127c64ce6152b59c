section
/-! ===== BEGIN words of one list among another's, by their places ===== -/
theorem goodIn_r {big : List Cond} (ws : List Cond) (ps : List Nat) (hp : ws = ps.filterMap (fun i => big[i]?)) (h : ws.all goodWord = true) : GoodIn big ws := by
  intro w hw
  have h1 := List.all_eq_true.mp h w hw
  rw [hp] at hw
  obtain ⟨i, -, hi⟩ := List.mem_filterMap.mp hw
  have hm : w ∈ big := by first | exact List.mem_of_getElem? hi | exact List.getElem?_mem hi
  exact ⟨hm, good_of_word h1⟩
theorem goodIn_app {big a b : List Cond} (ha : GoodIn big a) (hb : GoodIn big b) : GoodIn big (a ++ b) := fun w h => (List.mem_append.mp h).elim (ha w) (hb w)
theorem goodIn_ca {big a b : List Cond} {c : Cond} (ha : GoodIn big (c :: a)) (hb : GoodIn big b) : GoodIn big (c :: (a ++ b)) := fun w h => (List.mem_cons.mp h).elim (fun e => ha w (List.mem_cons.mpr (Or.inl e))) (fun h => (List.mem_append.mp h).elim (fun h => ha w (List.mem_cons.mpr (Or.inr h))) (hb w))
theorem goodIn_sub {big ws : List Cond} (hm : ∀ w ∈ ws, w ∈ big) (h : ws.all goodWord = true) : GoodIn big ws := fun w hw => ⟨hm w hw, good_of_word (List.all_eq_true.mp h w hw)⟩
/-! ===== END ===== -/
def RX6 : String := "HoleWhistleLaw$Whistle"
def TX6 : u_T := fun k => match k with
  | 0 => ("HoleWhistleLaw$Whistle", "length", "I", false)
  | 1 => ("HoleWhistleLaw$Whistle", "bore", "I", false)
  | 2 => ("HoleWhistleLaw$Whistle", "tolerance", "I", false)
  | 3 => ("HoleWhistleLaw$Whistle", "halves", "I", false)
  | 4 => ("HoleWhistleLaw$Whistle", "crosses", "I", false)
  | 5 => ("HoleWhistleLaw$Whistle", "move", "I", false)
  | 6 => ("HoleWhistleLaw$Whistle", "half", "I", false)
  | 7 => ("HoleWhistleLaw$Whistle", "breath", "I", false)
  | 8 => ("HoleWhistleLaw$Whistle", "play", "I", false)
  | 9 => ("HoleWhistleLaw$Whistle", "spent", "I", false)
  | 10 => ("HoleWhistleLaw$Whistle", "place", "I", false)
  | 11 => ("HoleWhistleLaw$Whistle", "holes", "Ljava/util/ArrayList;", true)
  | _ => ("HoleWhistleLaw$Whistle", "notes", "Ljava/util/ArrayList;", true)
def tyX6 : Nat → FieldType := fun k => match k with
  | 0 => .int
  | 1 => .int
  | 2 => .int
  | 3 => .int
  | 4 => .int
  | 5 => .int
  | 6 => .int
  | 7 => .int
  | 8 => .int
  | 9 => .int
  | 10 => .int
  | 11 => .object "java/util/ArrayList"
  | _ => .object "java/util/ArrayList"
abbrev wsX60 : List Cond := u_ws RX6 TX6 13
theorem nmX6 : ∀ a, a < 13 → ∀ b, b < 13 → a ≠ b → (TX6 a).2.1 ≠ (TX6 b).2.1 := by decide +kernel
theorem tyX6_ok : ∀ k, k < 13 → parseFieldDescriptor (TX6 k).2.2.1 = some (tyX6 k) := by decide +kernel
abbrev cX6_init : ByteArray := prog_8_method_1_code
def yX6_init : MethodName := ⟨RX6, "<init>", "()V"⟩
abbrev cX6_copy : ByteArray := prog_8_method_2_code
def yX6_copy : MethodName := ⟨RX6, "copy", "()LHoleWhistleLaw$Whistle;"⟩
abbrev cX6_soft : ByteArray := prog_8_method_3_code
def yX6_soft : MethodName := ⟨RX6, "soft", "()I"⟩
abbrev cX6_digits : ByteArray := prog_8_method_4_code
def yX6_digits : MethodName := ⟨RX6, "digits", "(I)[I"⟩
abbrev cX6_sounding : ByteArray := prog_8_method_5_code
def yX6_sounding : MethodName := ⟨RX6, "sounding", "(I)I"⟩
abbrev cX6_cents : ByteArray := prog_8_method_6_code
def yX6_cents : MethodName := ⟨RX6, "cents", "(I)I"⟩
abbrev cX6_tone : ByteArray := prog_8_method_7_code
def yX6_tone : MethodName := ⟨RX6, "tone", "(I)I"⟩
abbrev cX6_many : ByteArray := prog_8_method_8_code
def yX6_many : MethodName := ⟨RX6, "many", "(II)I"⟩
abbrev cX6_crosses : ByteArray := prog_8_method_9_code
def yX6_crosses : MethodName := ⟨RX6, "crosses", "(I)I"⟩
abbrev cX6_change : ByteArray := prog_8_method_10_code
def yX6_change : MethodName := ⟨RX6, "change", "(II)I"⟩
abbrev cX6_easy : ByteArray := prog_8_method_11_code
def yX6_easy : MethodName := ⟨RX6, "easy", "(III)Ljava/util/ArrayList;"⟩
abbrev cX6_isNoted : ByteArray := prog_8_method_12_code
def yX6_isNoted : MethodName := ⟨RX6, "isNoted", "(I)Z"⟩
abbrev cX6_rests : ByteArray := prog_8_method_13_code
def yX6_rests : MethodName := ⟨RX6, "rests", "()I"⟩
abbrev cX6_lacking : ByteArray := prog_8_method_14_code
def yX6_lacking : MethodName := ⟨RX6, "lacking", "(IIII)I"⟩
abbrev cX6_way : ByteArray := prog_8_method_15_code
def yX6_way : MethodName := ⟨RX6, "way", "(IIIII)[I"⟩
abbrev cX6_costOf : ByteArray := prog_8_method_16_code
def yX6_costOf : MethodName := ⟨RX6, "costOf", "([I)I"⟩
abbrev cX6_costBy : ByteArray := prog_8_method_17_code
def yX6_costBy : MethodName := ⟨RX6, "costBy", "(I)I"⟩
def RJx4a65c : String := "java/util/ArrayList"
def TJx4a65c : u_T := fun k => match k with
  | 0 => ("java/util/AbstractList", "modCount", "I", false)
  | 1 => ("java/util/ArrayList", "elementData", "[Ljava/lang/Object;", false)
  | _ => ("java/util/ArrayList", "size", "I", false)
def tyJx4a65c : Nat → FieldType := fun k => match k with
  | 0 => .int
  | 1 => .array (.object "java/lang/Object")
  | _ => .int
abbrev wsJx4a65c0 : List Cond := u_ws RJx4a65c TJx4a65c 3
theorem nmJx4a65c : ∀ a, a < 3 → ∀ b, b < 3 → a ≠ b → (TJx4a65c a).2.1 ≠ (TJx4a65c b).2.1 := by decide +kernel
theorem tyJx4a65c_ok : ∀ k, k < 3 → parseFieldDescriptor (TJx4a65c k).2.2.1 = some (tyJx4a65c k) := by decide +kernel
abbrev cJx4a65c_size_8abf5 : ByteArray := prog_35_method_8_code
def yJx4a65c_size_8abf5 : MethodName := ⟨RJx4a65c, "size", "()I"⟩
def wsJx4a65c_size_8abf5 : List Cond := .code yJx4a65c_size_8abf5 cJx4a65c_size_8abf5 1 (some .int) :: ([.fieldLink RJx4a65c 48 "java/util/ArrayList" "size" "I"] ++ wsJx4a65c0)
def wsX6_digits : List Cond := .code yX6_digits cX6_digits 5 (some (.array .int)) :: ([.fieldLink RX6 37 "HoleWhistleLaw$Whistle" "holes" "Ljava/util/ArrayList;", .arrayClass .int, .methodLink RX6 76 yJx4a65c_size_8abf5, .instanceMethod yJx4a65c_size_8abf5, .selects RJx4a65c yJx4a65c_size_8abf5 yJx4a65c_size_8abf5, .initialized RJx4a65c, .code yJx4a65c_size_8abf5 cJx4a65c_size_8abf5 1 (some .int), .fieldLink RJx4a65c 48 "java/util/ArrayList" "size" "I"] ++ wsX60 ++ wsJx4a65c0)
def wsX6_change : List Cond := .code yX6_change cX6_change 7 (some .int) :: ([.fieldLink RX6 37 "HoleWhistleLaw$Whistle" "holes" "Ljava/util/ArrayList;", .fieldLink RX6 31 "HoleWhistleLaw$Whistle" "breath" "I", .fieldLink RX6 28 "HoleWhistleLaw$Whistle" "half" "I", .fieldLink RX6 25 "HoleWhistleLaw$Whistle" "move" "I", .methodLink RX6 80 yX6_digits, .instanceMethod yX6_digits, .selects RX6 yX6_digits yX6_digits, .initialized RX6, .code yX6_digits cX6_digits 5 (some (.array .int)), .arrayClass .int, .methodLink RX6 76 yJx4a65c_size_8abf5, .instanceMethod yJx4a65c_size_8abf5, .selects RJx4a65c yJx4a65c_size_8abf5 yJx4a65c_size_8abf5, .initialized RJx4a65c, .code yJx4a65c_size_8abf5 cJx4a65c_size_8abf5 1 (some .int), .fieldLink RJx4a65c 48 "java/util/ArrayList" "size" "I"] ++ wsX60 ++ wsJx4a65c0)
theorem dJx4a65c_size_8abf5_0 : decode cJx4a65c_size_8abf5 0 = .ok (.aload_n 0, 1) := by decide +kernel
theorem dJx4a65c_size_8abf5_1 : decode cJx4a65c_size_8abf5 1 = .ok (.getfield 48, 3) := by decide +kernel
theorem dJx4a65c_size_8abf5_4 : decode cJx4a65c_size_8abf5 4 = .ok (.ireturn, 1) := by decide +kernel
theorem dX6_digits_0 : decode cX6_digits 0 = .ok (.aload_n 0, 1) := by decide +kernel
theorem dX6_digits_1 : decode cX6_digits 1 = .ok (.getfield 37, 3) := by decide +kernel
theorem dX6_digits_4 : decode cX6_digits 4 = .ok (.invokevirtual 76, 3) := by decide +kernel
theorem dX6_digits_7 : decode cX6_digits 7 = .ok (.iconst 1, 1) := by decide +kernel
theorem dX6_digits_8 : decode cX6_digits 8 = .ok (.iadd, 1) := by decide +kernel
theorem dX6_digits_9 : decode cX6_digits 9 = .ok (.newarray .int, 2) := by decide +kernel
theorem dX6_digits_11 : decode cX6_digits 11 = .ok (.astore_n 2, 1) := by decide +kernel
theorem dX6_digits_12 : decode cX6_digits 12 = .ok (.iload_n 1, 1) := by decide +kernel
theorem dX6_digits_13 : decode cX6_digits 13 = .ok (.istore_n 3, 1) := by decide +kernel
theorem dX6_digits_14 : decode cX6_digits 14 = .ok (.iconst 0, 1) := by decide +kernel
theorem dX6_digits_15 : decode cX6_digits 15 = .ok (.istore 4, 2) := by decide +kernel
theorem dX6_digits_17 : decode cX6_digits 17 = .ok (.iload 4, 2) := by decide +kernel
theorem dX6_digits_19 : decode cX6_digits 19 = .ok (.aload_n 0, 1) := by decide +kernel
theorem dX6_digits_20 : decode cX6_digits 20 = .ok (.getfield 37, 3) := by decide +kernel
theorem dX6_digits_23 : decode cX6_digits 23 = .ok (.invokevirtual 76, 3) := by decide +kernel
theorem dX6_digits_26 : decode cX6_digits 26 = .ok (.if_icmp .ge 20, 3) := by decide +kernel
theorem dX6_digits_29 : decode cX6_digits 29 = .ok (.aload_n 2, 1) := by decide +kernel
theorem dX6_digits_30 : decode cX6_digits 30 = .ok (.iload 4, 2) := by decide +kernel
theorem dX6_digits_32 : decode cX6_digits 32 = .ok (.iload_n 3, 1) := by decide +kernel
theorem dX6_digits_33 : decode cX6_digits 33 = .ok (.iconst 3, 1) := by decide +kernel
theorem dX6_digits_34 : decode cX6_digits 34 = .ok (.irem, 1) := by decide +kernel
theorem dX6_digits_35 : decode cX6_digits 35 = .ok (.iastore, 1) := by decide +kernel
theorem dX6_digits_36 : decode cX6_digits 36 = .ok (.iload_n 3, 1) := by decide +kernel
theorem dX6_digits_37 : decode cX6_digits 37 = .ok (.iconst 3, 1) := by decide +kernel
theorem dX6_digits_38 : decode cX6_digits 38 = .ok (.idiv, 1) := by decide +kernel
theorem dX6_digits_39 : decode cX6_digits 39 = .ok (.istore_n 3, 1) := by decide +kernel
theorem dX6_digits_40 : decode cX6_digits 40 = .ok (.iinc 4 1, 3) := by decide +kernel
theorem dX6_digits_43 : decode cX6_digits 43 = .ok (.goto (-26), 3) := by decide +kernel
theorem dX6_digits_46 : decode cX6_digits 46 = .ok (.aload_n 2, 1) := by decide +kernel
theorem dX6_digits_47 : decode cX6_digits 47 = .ok (.aload_n 0, 1) := by decide +kernel
theorem dX6_digits_48 : decode cX6_digits 48 = .ok (.getfield 37, 3) := by decide +kernel
theorem dX6_digits_51 : decode cX6_digits 51 = .ok (.invokevirtual 76, 3) := by decide +kernel
theorem dX6_digits_54 : decode cX6_digits 54 = .ok (.iload_n 3, 1) := by decide +kernel
theorem dX6_digits_55 : decode cX6_digits 55 = .ok (.iastore, 1) := by decide +kernel
theorem dX6_digits_56 : decode cX6_digits 56 = .ok (.aload_n 2, 1) := by decide +kernel
theorem dX6_digits_57 : decode cX6_digits 57 = .ok (.areturn, 1) := by decide +kernel
theorem dX6_change_0 : decode cX6_change 0 = .ok (.aload_n 0, 1) := by decide +kernel
theorem dX6_change_1 : decode cX6_change 1 = .ok (.iload_n 1, 1) := by decide +kernel
theorem dX6_change_2 : decode cX6_change 2 = .ok (.invokevirtual 80, 3) := by decide +kernel
theorem dX6_change_5 : decode cX6_change 5 = .ok (.astore_n 3, 1) := by decide +kernel
theorem dX6_change_6 : decode cX6_change 6 = .ok (.aload_n 0, 1) := by decide +kernel
theorem dX6_change_7 : decode cX6_change 7 = .ok (.iload_n 2, 1) := by decide +kernel
theorem dX6_change_8 : decode cX6_change 8 = .ok (.invokevirtual 80, 3) := by decide +kernel
theorem dX6_change_11 : decode cX6_change 11 = .ok (.astore 4, 2) := by decide +kernel
theorem dX6_change_13 : decode cX6_change 13 = .ok (.aload_n 3, 1) := by decide +kernel
theorem dX6_change_14 : decode cX6_change 14 = .ok (.aload_n 0, 1) := by decide +kernel
theorem dX6_change_15 : decode cX6_change 15 = .ok (.getfield 37, 3) := by decide +kernel
theorem dX6_change_18 : decode cX6_change 18 = .ok (.invokevirtual 76, 3) := by decide +kernel
theorem dX6_change_21 : decode cX6_change 21 = .ok (.iaload, 1) := by decide +kernel
theorem dX6_change_22 : decode cX6_change 22 = .ok (.aload 4, 2) := by decide +kernel
theorem dX6_change_24 : decode cX6_change 24 = .ok (.aload_n 0, 1) := by decide +kernel
theorem dX6_change_25 : decode cX6_change 25 = .ok (.getfield 37, 3) := by decide +kernel
theorem dX6_change_28 : decode cX6_change 28 = .ok (.invokevirtual 76, 3) := by decide +kernel
theorem dX6_change_31 : decode cX6_change 31 = .ok (.iaload, 1) := by decide +kernel
theorem dX6_change_32 : decode cX6_change 32 = .ok (.if_icmp .ne 7, 3) := by decide +kernel
theorem dX6_change_35 : decode cX6_change 35 = .ok (.iconst 0, 1) := by decide +kernel
theorem dX6_change_36 : decode cX6_change 36 = .ok (.goto 7, 3) := by decide +kernel
theorem dX6_change_39 : decode cX6_change 39 = .ok (.aload_n 0, 1) := by decide +kernel
theorem dX6_change_40 : decode cX6_change 40 = .ok (.getfield 31, 3) := by decide +kernel
theorem dX6_change_43 : decode cX6_change 43 = .ok (.istore 5, 2) := by decide +kernel
theorem dX6_change_45 : decode cX6_change 45 = .ok (.iconst 0, 1) := by decide +kernel
theorem dX6_change_46 : decode cX6_change 46 = .ok (.istore 6, 2) := by decide +kernel
theorem dX6_change_48 : decode cX6_change 48 = .ok (.iload 6, 2) := by decide +kernel
theorem dX6_change_50 : decode cX6_change 50 = .ok (.aload_n 0, 1) := by decide +kernel
theorem dX6_change_51 : decode cX6_change 51 = .ok (.getfield 37, 3) := by decide +kernel
theorem dX6_change_54 : decode cX6_change 54 = .ok (.invokevirtual 76, 3) := by decide +kernel
theorem dX6_change_57 : decode cX6_change 57 = .ok (.if_icmp .ge 58, 3) := by decide +kernel
theorem dX6_change_60 : decode cX6_change 60 = .ok (.iload 5, 2) := by decide +kernel
theorem dX6_change_62 : decode cX6_change 62 = .ok (.aload_n 3, 1) := by decide +kernel
theorem dX6_change_63 : decode cX6_change 63 = .ok (.iload 6, 2) := by decide +kernel
theorem dX6_change_65 : decode cX6_change 65 = .ok (.iaload, 1) := by decide +kernel
theorem dX6_change_66 : decode cX6_change 66 = .ok (.aload 4, 2) := by decide +kernel
theorem dX6_change_68 : decode cX6_change 68 = .ok (.iload 6, 2) := by decide +kernel
theorem dX6_change_70 : decode cX6_change 70 = .ok (.iaload, 1) := by decide +kernel
theorem dX6_change_71 : decode cX6_change 71 = .ok (.if_icmp .ne 7, 3) := by decide +kernel
theorem dX6_change_74 : decode cX6_change 74 = .ok (.iconst 0, 1) := by decide +kernel
theorem dX6_change_75 : decode cX6_change 75 = .ok (.goto 31, 3) := by decide +kernel
theorem dX6_change_78 : decode cX6_change 78 = .ok (.aload_n 3, 1) := by decide +kernel
theorem dX6_change_79 : decode cX6_change 79 = .ok (.iload 6, 2) := by decide +kernel
theorem dX6_change_81 : decode cX6_change 81 = .ok (.iaload, 1) := by decide +kernel
theorem dX6_change_82 : decode cX6_change 82 = .ok (.iconst 1, 1) := by decide +kernel
theorem dX6_change_83 : decode cX6_change 83 = .ok (.if_icmp .eq 12, 3) := by decide +kernel
theorem dX6_change_86 : decode cX6_change 86 = .ok (.aload 4, 2) := by decide +kernel
theorem dX6_change_88 : decode cX6_change 88 = .ok (.iload 6, 2) := by decide +kernel
theorem dX6_change_90 : decode cX6_change 90 = .ok (.iaload, 1) := by decide +kernel
theorem dX6_change_91 : decode cX6_change 91 = .ok (.iconst 1, 1) := by decide +kernel
theorem dX6_change_92 : decode cX6_change 92 = .ok (.if_icmp .ne 10, 3) := by decide +kernel
theorem dX6_change_95 : decode cX6_change 95 = .ok (.aload_n 0, 1) := by decide +kernel
theorem dX6_change_96 : decode cX6_change 96 = .ok (.getfield 28, 3) := by decide +kernel
theorem dX6_change_99 : decode cX6_change 99 = .ok (.goto 7, 3) := by decide +kernel
theorem dX6_change_102 : decode cX6_change 102 = .ok (.aload_n 0, 1) := by decide +kernel
theorem dX6_change_103 : decode cX6_change 103 = .ok (.getfield 25, 3) := by decide +kernel
theorem dX6_change_106 : decode cX6_change 106 = .ok (.iadd, 1) := by decide +kernel
theorem dX6_change_107 : decode cX6_change 107 = .ok (.istore 5, 2) := by decide +kernel
theorem dX6_change_109 : decode cX6_change 109 = .ok (.iinc 6 1, 3) := by decide +kernel
theorem dX6_change_112 : decode cX6_change 112 = .ok (.goto (-64), 3) := by decide +kernel
theorem dX6_change_115 : decode cX6_change 115 = .ok (.iload 5, 2) := by decide +kernel
theorem dX6_change_117 : decode cX6_change 117 = .ok (.ireturn, 1) := by decide +kernel
set_option maxRecDepth 20000 in
theorem ggX6_digits_Jx4a65c_size_8abf5 : GoodIn wsX6_digits wsJx4a65c_size_8abf5 := goodIn_r _ [7, 8, 22, 23, 24] (by decide +kernel) (by decide +kernel)
set_option maxRecDepth 20000 in
theorem gX6_digits_Jx4a65c_size_8abf5 : GoodIn wsX6_digits (wsV RX6 76 RJx4a65c yJx4a65c_size_8abf5 wsJx4a65c_size_8abf5) := goodIn_app (goodIn_of _ (by decide +kernel)) ggX6_digits_Jx4a65c_size_8abf5
set_option maxRecDepth 20000 in
theorem ggX6_change_X6_digits : GoodIn wsX6_change wsX6_digits := goodIn_r _ [9, 1, 10, 11, 12, 13, 14, 15, 16, 17, 18, 19, 20, 21, 22, 23, 24, 25, 26, 27, 28, 29, 30, 31, 32] (by decide +kernel) (by decide +kernel)
set_option maxRecDepth 20000 in
theorem gX6_change_X6_digits : GoodIn wsX6_change (wsV RX6 80 RX6 yX6_digits wsX6_digits) := goodIn_app (goodIn_of _ (by decide +kernel)) ggX6_change_X6_digits
set_option maxRecDepth 20000 in
theorem ggX6_change_Jx4a65c_size_8abf5 : GoodIn wsX6_change wsJx4a65c_size_8abf5 := goodIn_r _ [15, 16, 30, 31, 32] (by decide +kernel) (by decide +kernel)
set_option maxRecDepth 20000 in
theorem gX6_change_Jx4a65c_size_8abf5 : GoodIn wsX6_change (wsV RX6 76 RJx4a65c yJx4a65c_size_8abf5 wsJx4a65c_size_8abf5) := goodIn_app (goodIn_of _ (by decide +kernel)) ggX6_change_Jx4a65c_size_8abf5
end
section
/-! p58: what ArrayList.size, Whistle.digits and Whistle.change of the law's whistle do, and how many cells they make. -/
abbrev k8C : List vw_C := [(RX6, TX6, 13), (RJx4a65c, TJx4a65c, 3)]
abbrev whV (f : Nat → Int32) (hL hN : Nat) : List Value := [.int (f 0), .int (f 1), .int (f 2), .int (f 3), .int (f 4), .int (f 5), .int (f 6), .int (f 7), .int (f 8), .int (f 9), .int (f 10), .ref hL, .ref hN]
abbrev whC (h0 : Nat) (f : Nat → Int32) (hL hN : Nat) : Nat × va_E := (h0, .inr (0, whV f hL hN))
abbrev alC (hL : Nat) (mc : Int32) (hE : Nat) (n : Int32) : Nat × va_E := (hL, .inr (1, [.int mc, .ref hE, .int n]))
abbrev rwC (a : Nat) (cA : ClassId) (N : Nat) (r : Nat → Int32) : Nat × va_E := (a, .inl (cA, N, .inl r))
/-- a cell of a world that is apart from the others stands behind all that was there -/
theorem k8_new {D : va_G} {ws wn : va_W} {a sz : Nat} {e : va_E} {H : Heap} (hD : va_D (va_A ws sz) (ws ++ (a, e) :: wn)) (hP : va_P D k8C (ws ++ (a, e) :: wn) H) : sz ≤ a ∧ sz + 1 ≤ H.size := by
  have h1 : (ws ++ (a, e) :: wn)[ws.length]? = some (a, e) := by rw [List.getElem?_append_right (Nat.le_refl _)]; simp
  have h2 : sz ≤ a := by
    rcases hD.2 _ _ h1 with ⟨k, e2, h⟩ | h
    · have hk : k < ws.length := (List.getElem?_eq_some_iff.mp h).1
      have h3 : (ws ++ (a, e) :: wn)[k]? = some (a, e2) := by rw [List.getElem?_append_left hk]; exact h
      have h4 := hD.1 k ws.length _ _ h3 h1 rfl
      omega
    · exact h
  have h5 := (hP _ _ h1).lt
  exact ⟨h2, by omega⟩

set_option maxHeartbeats 4000000 in
set_option maxRecDepth 100000 in
/-- ArrayList.size -/
theorem c8_size (l : Launch) (dC : Nat → ClassId) (dI : Nat → Nat → Nat) (hL sz : Nat) (mc : Int32) (hE : Nat) (n : Int32) : Met l yJx4a65c_size_8abf5 wsJx4a65c_size_8abf5 ({ frames := 0, cells := 0, slots := 0, locals := 0 }) (va_Pc [.ref hL] (fun U => U.heap.size = sz ∧ va_P (dC, dI) k8C [alC hL mc hE n] U.heap ∧ va_K (dC, dI) k8C [] U ∧ va_D (fun _ => True) [alC hL mc hE n])) (va_Qi (fun (r : Int32) (_ : Unit) => r = n) (fun _ t => va_P (dC, dI) k8C [alC hL mc hE n] t.heap ∧ va_K (dC, dI) k8C [] t ∧ va_D (va_A [alC hL mc hE n] sz) [alC hL mc hE n]) (va_A [alC hL mc hE n] sz)) 0 0 (va_A [alC hL mc hE n] sz) := by
  refine Met.ofW (cc := cJx4a65c_size_8abf5) (maxL := 1) (ret := some .int) (by decide) rfl ?_
  intro p e s m args below meth c s₁ B hml hv
  obtain ⟨rfl, hsz, hP, hK, hD0⟩ := hv
  have hx := B.exec
  have hb := B.bytes
  have hr := B.returns
  have hts := atoms_spec (ws := wsJx4a65c_size_8abf5) B.pre
  have hown : s.vm.findClass RJx4a65c = some m.cls := findClass_of_methodNamed B.named
  have hlocks := B.notSynchronized
  subst hsz
  have hD := hD0.self (sz := s.heap.size)
  generalize hAe : va_A [alC hL mc hE n] s.heap.size = A at hD ⊢
  have hS : va_S A s.heap s.heap [] := va_S.rf
  have hl := lv_entry ([.ref hL]) (n := 1) (Nat.le_of_ble_eq_true rfl)
  rw [lg_entry_eq]
  generalize (lg_sl ([.ref hL]) ++ List.replicate (1 - (lg_sl ([.ref hL])).length) Slot.unset).toArray = ls at hl ⊢
  have hl : lv_has ls 1 [(0, .ref hL)] := hl
  refine lv_aload_n hx hb dJx4a65c_size_8abf5_0 rfl (lv_at hl 0 rfl) ?_
  refine va_get (D := (dC, dI)) (ci := 1) (v := .int n) (C := RJx4a65c) (T := TJx4a65c) (N := 3) hx hb hts (by decide +kernel) hown hK hP 0 rfl rfl 2 (by decide) (hts (.fieldLink RJx4a65c 48 "java/util/ArrayList" "size" "I") (by decide +kernel)) (fun _ h9 => h9) rfl dJx4a65c_size_8abf5_1 ?_
  exact W.iret (v := n) hx hb hr (fun t ht hW => ⟨⟨n, (), rfl, rfl, by rw [ht]; exact hP, va_K.moved hW.alike hK, hD⟩, hS.F ht⟩) hS.2.2 dJx4a65c_size_8abf5_4

set_option maxHeartbeats 4000000 in
set_option maxRecDepth 100000 in
/-- Whistle.digits: one row is new -/
theorem c8_digits (l : Launch) (dC : Nat → ClassId) (dI : Nat → Nat → Nat) (h0 sz : Nat) (f : Nat → Int32) (hL hN : Nat) (mc : Int32) (hE N : Nat) (hN9 : N ≤ 100) (p0 : Int32) : Met l yX6_digits wsX6_digits ({ frames := 1, cells := 1, slots := N + 1, locals := 20 }) (va_Pc [.ref h0, .int p0] (fun U => U.heap.size = sz ∧ va_P (dC, dI) k8C [whC h0 f hL hN, alC hL mc hE (nI N)] U.heap ∧ va_K (dC, dI) k8C [] U ∧ va_D (fun _ => True) [whC h0 f hL hN, alC hL mc hE (nI N)])) (va_Qr (fun (_ : ClassId × (Nat → Int32)) => True) (fun u a t => (sz ≤ a ∧ sz + 1 ≤ t.heap.size) ∧ va_P (dC, dI) k8C [whC h0 f hL hN, alC hL mc hE (nI N), rwC a u.1 (N + 1) u.2] t.heap ∧ va_K (dC, dI) k8C [(u.1, .int)] t ∧ va_D (va_A [whC h0 f hL hN, alC hL mc hE (nI N)] sz) [whC h0 f hL hN, alC hL mc hE (nI N), rwC a u.1 (N + 1) u.2]) (va_A [whC h0 f hL hN, alC hL mc hE (nI N)] sz)) 1 (N + 1) (va_A [whC h0 f hL hN, alC hL mc hE (nI N)] sz) := by
  refine Met.ofW (cc := cX6_digits) (maxL := 5) (ret := some (.array .int)) (by decide) rfl ?_
  intro p e s m args below meth c s₁ B hml hv
  obtain ⟨rfl, hsz, hP, hK, hD0⟩ := hv
  have hx := B.exec
  have hb := B.bytes
  have hr := B.returns
  have hts := atoms_spec (ws := wsX6_digits) B.pre
  have hown : s.vm.findClass RX6 = some m.cls := findClass_of_methodNamed B.named
  have hlocks := B.notSynchronized
  subst hsz
  have hD := hD0.self (sz := s.heap.size)
  have hA : ∀ q : Nat, s.heap.size ≤ q → (va_A [whC h0 f hL hN, alC hL mc hE (nI N)] s.heap.size) q := fun q h => Or.inr h
  have hfin : ∀ (a : Nat) (cA : ClassId) (r : Nat → Int32) (H : Heap), va_P (dC, dI) k8C [whC h0 f hL hN, alC hL mc hE (nI N), rwC a cA (N + 1) r] H → va_D (va_A [whC h0 f hL hN, alC hL mc hE (nI N)] s.heap.size) [whC h0 f hL hN, alC hL mc hE (nI N), rwC a cA (N + 1) r] → s.heap.size ≤ a ∧ s.heap.size + 1 ≤ H.size := fun a cA r H h1 h2 => k8_new (ws := [whC h0 f hL hN, alC hL mc hE (nI N)]) (wn := []) h2 h1
  generalize hAe : va_A [whC h0 f hL hN, alC hL mc hE (nI N)] s.heap.size = A at hD hA hfin ⊢
  have hS : va_S A s.heap s.heap [] := va_S.rf
  have hl := lv_entry ([.ref h0, .int p0]) (n := 5) (Nat.le_of_ble_eq_true rfl)
  rw [lg_entry_eq]
  generalize (lg_sl ([.ref h0, .int p0]) ++ List.replicate (5 - (lg_sl ([.ref h0, .int p0])).length) Slot.unset).toArray = ls at hl ⊢
  have hl : lv_has ls 5 [(0, .ref h0), (1, .int p0)] := hl
  -- the end, from the loop's head on
  have loop : ∀ (n k : Nat), k ≤ N → N + 1 ≤ k + n → ∀ (a : Nat) (cA : ClassId) (r : Nat → Int32) (x3 : Int32) (H : Heap) (locs : List Loc) (ls : Array Slot), va_K (dC, dI) k8C [(cA, .int)] s → va_P (dC, dI) k8C [whC h0 f hL hN, alC hL mc hE (nI N), rwC a cA (N + 1) r] H → va_D A [whC h0 f hL hN, alC hL mc hE (nI N), rwC a cA (N + 1) r] → va_S A s.heap H locs → lv_has ls 5 [(0, .ref h0), (2, .ref a), (3, .int x3), (4, .int (nI k))] → W p l e { frames := 1, cells := 1, slots := N + 1, locals := 20 } s m #[.ref h0, .int p0] below meth c H locs 1 (N + 1) (MQ below (va_Qr (fun (_ : ClassId × (Nat → Int32)) => True) (fun u a t => (s.heap.size ≤ a ∧ s.heap.size + 1 ≤ t.heap.size) ∧ va_P (dC, dI) k8C [whC h0 f hL hN, alC hL mc hE (nI N), rwC a u.1 (N + 1) u.2] t.heap ∧ va_K (dC, dI) k8C [(u.1, .int)] t ∧ va_D A [whC h0 f hL hN, alC hL mc hE (nI N), rwC a u.1 (N + 1) u.2]) A) #[.ref h0, .int p0] s 1 (N + 1) A) (F0 m 17 ls []) := by
    intro n
    induction n with
    | zero => intro k h1 h2; omega
    | succ n ih =>
      intro k hkN hkn a cA r x3 H locs ls hK hP hD hS hl
      refine lv_iload hx hb dX6_digits_17 (lv_at hl 3 rfl) ?_
      refine lv_aload_n hx hb dX6_digits_19 rfl (lv_at hl 0 rfl) ?_
      refine va_get (D := (dC, dI)) (ci := 0) (v := .ref hL) (C := RX6) (T := TX6) (N := 13) hx hb hts (by decide +kernel) hown hK hP 0 rfl rfl 11 (by decide) (hts (.fieldLink RX6 37 "HoleWhistleLaw$Whistle" "holes" "Ljava/util/ArrayList;") (by decide +kernel)) (fun _ h9 => h9) rfl dX6_digits_20 ?_
      have hPc := hP.sub (ws' := [alC hL mc hE (nI N)]) [1] rfl
      have hDc := hD.sub (ws' := [alC hL mc hE (nI N)]) [1] (by decide) rfl
      have hKc := hK.sub (tys' := []) [] rfl
      have hFc := va_free (wc := [alC hL mc hE (nI N)]) hD hS hA [1] rfl
      refine va_calli (va_runV (As := []) (rest := [.int (nI k)]) ⟨hx, hb, hml, hown, hts⟩ (c8_size l dC dI hL H.size mc hE (nI N)) (cwV 0 hts gX6_digits_Jx4a65c_size_8abf5 rfl rfl rfl (by decide +kernel) ⟨Nat.le_of_ble_eq_true rfl, Nat.le_of_ble_eq_true rfl⟩) ⟨fun a U g mk q => by obtain ⟨q0, q1, qP, qK, qD⟩ := q; exact ⟨q0, q1, qP, va_K.moved (u := U) (U := U.calling g mk a) (Vm.Alike.refl U.vm) qK, qD⟩, va_recv hKc hPc (ci := 1) (q0 := 0) rfl rfl, fun U hU hW => ⟨rfl, by rw [hU], by rw [hU]; exact hPc, va_K.moved hW.alike hKc, hDc.weaken (fun _ _ _ _ => trivial)⟩⟩ rfl rfl hl.1 rfl (lv_room (Nat.le_of_ble_eq_true rfl)) dX6_digits_23 ⟨by show 1 + 0 ≤ 1; omega, by show N + 1 + 0 ≤ N + 1; omega⟩) hS (fun q _ h => hFc q h) hFc (fun r1 u t H1 locs ht hvm hw hB hz1 hk1 hS => ?_)
      obtain ⟨hP1, hK1, hD1⟩ := hB
      rw [ht] at hP1
      have hK1 := va_K.moved hvm.symm hK1
      try dsimp only at hw
      subst hw
      obtain ⟨hP, hD⟩ := va_join (wr := [whC h0 f hL hN, rwC a cA (N + 1) r]) (w1 := [alC hL mc hE (nI N)]) hP hD [1] [0, 2] rfl rfl (by decide) (by decide) hk1 hFc hP1 hD1
      have hP := hP.sub (ws' := [whC h0 f hL hN, alC hL mc hE (nI N), rwC a cA (N + 1) r]) [0, 2, 1] rfl
      have hD := hD.sub (ws' := [whC h0 f hL hN, alC hL mc hE (nI N), rwC a cA (N + 1) r]) [0, 2, 1] (by decide) rfl
      clear hP1 hD1 hK1 hPc hDc hKc hFc hk1 ht hvm
      generalize H1 = H at hP hS ⊢
      refine W.widen (k := 1) (n := N + 1) (Nat.le_refl _) (Nat.le_refl _) ?_
      refine lv_icmp_ge (tgt := 46) hx hb dX6_digits_26 (by decide) (fun c1 => ?_) (fun c1 => ?_)
      · refine lv_aload_n hx hb dX6_digits_46 rfl (lv_at hl 1 rfl) ?_
        refine lv_aload_n hx hb dX6_digits_47 rfl (lv_at hl 0 rfl) ?_
        refine va_get (D := (dC, dI)) (ci := 0) (v := .ref hL) (C := RX6) (T := TX6) (N := 13) hx hb hts (by decide +kernel) hown hK hP 0 rfl rfl 11 (by decide) (hts (.fieldLink RX6 37 "HoleWhistleLaw$Whistle" "holes" "Ljava/util/ArrayList;") (by decide +kernel)) (fun _ h9 => h9) rfl dX6_digits_48 ?_
        have hPc := hP.sub (ws' := [alC hL mc hE (nI N)]) [1] rfl
        have hDc := hD.sub (ws' := [alC hL mc hE (nI N)]) [1] (by decide) rfl
        have hKc := hK.sub (tys' := []) [] rfl
        have hFc := va_free (wc := [alC hL mc hE (nI N)]) hD hS hA [1] rfl
        refine va_calli (va_runV (As := []) (rest := [.ref a]) ⟨hx, hb, hml, hown, hts⟩ (c8_size l dC dI hL H.size mc hE (nI N)) (cwV 0 hts gX6_digits_Jx4a65c_size_8abf5 rfl rfl rfl (by decide +kernel) ⟨Nat.le_of_ble_eq_true rfl, Nat.le_of_ble_eq_true rfl⟩) ⟨fun a U g mk q => by obtain ⟨q0, q1, qP, qK, qD⟩ := q; exact ⟨q0, q1, qP, va_K.moved (u := U) (U := U.calling g mk a) (Vm.Alike.refl U.vm) qK, qD⟩, va_recv hKc hPc (ci := 1) (q0 := 0) rfl rfl, fun U hU hW => ⟨rfl, by rw [hU], by rw [hU]; exact hPc, va_K.moved hW.alike hKc, hDc.weaken (fun _ _ _ _ => trivial)⟩⟩ rfl rfl hl.1 rfl (lv_room (Nat.le_of_ble_eq_true rfl)) dX6_digits_51 ⟨by show 1 + 0 ≤ 1; omega, by show N + 1 + 0 ≤ N + 1; omega⟩) hS (fun q _ h => hFc q h) hFc (fun r1 u t H1 locs ht hvm hw hB hz1 hk1 hS => ?_)
        obtain ⟨hP1, hK1, hD1⟩ := hB
        rw [ht] at hP1
        have hK1 := va_K.moved hvm.symm hK1
        try dsimp only at hw
        subst hw
        obtain ⟨hP, hD⟩ := va_join (wr := [whC h0 f hL hN, rwC a cA (N + 1) r]) (w1 := [alC hL mc hE (nI N)]) hP hD [1] [0, 2] rfl rfl (by decide) (by decide) hk1 hFc hP1 hD1
        have hP := hP.sub (ws' := [whC h0 f hL hN, alC hL mc hE (nI N), rwC a cA (N + 1) r]) [0, 2, 1] rfl
        have hD := hD.sub (ws' := [whC h0 f hL hN, alC hL mc hE (nI N), rwC a cA (N + 1) r]) [0, 2, 1] (by decide) rfl
        clear hP1 hD1 hK1 hPc hDc hKc hFc hk1 ht hvm
        generalize H1 = H at hP hS ⊢
        refine W.widen (k := 1) (n := N + 1) (Nat.le_refl _) (Nat.le_refl _) ?_
        refine lv_iload_n hx hb dX6_digits_54 rfl (lv_at hl 2 rfl) ?_
        refine va_iast hx hb hK hP hD hS 2 0 rfl rfl (vp_in_nI (by omega) (by omega)) dX6_digits_55 (fun H2 locs2 hP hD hS => ?_)
        refine lv_aload_n hx hb dX6_digits_56 rfl (lv_at hl 1 rfl) ?_
        exact W.aret (rt := .array .int) hx hb hr (Or.inr ⟨_, rfl⟩) (Or.inr ⟨_, rfl⟩) (fun t ht hW => ⟨⟨(cA, _), a, rfl, trivial, by rw [ht]; exact hfin a cA _ H2 hP hD, by rw [ht]; exact hP, va_K.moved hW.alike hK, hD⟩, hS.F ht⟩) hS.2.2 dX6_digits_57
      · have hlt : k < N := by
          rcases Nat.lt_or_ge k N with q | q
          · exact q
          · exact absurd (nI_le q (by omega)) c1
        refine lv_aload_n hx hb dX6_digits_29 rfl (lv_at hl 1 rfl) ?_
        refine lv_iload hx hb dX6_digits_30 (lv_at hl 3 rfl) ?_
        refine lv_iload_n hx hb dX6_digits_32 rfl (lv_at hl 2 rfl) ?_
        refine lv_iconst (v := 3) hx hb dX6_digits_33 (by decide) ?_
        refine lv_irem hx hb dX6_digits_34 (by decide) ?_
        refine va_iast hx hb hK hP hD hS 2 0 rfl rfl (vp_in_nI (by omega) (by omega)) dX6_digits_35 (fun H2 locs2 hP hD hS => ?_)
        refine lv_iload_n hx hb dX6_digits_36 rfl (lv_at hl 2 rfl) ?_
        refine lv_iconst (v := 3) hx hb dX6_digits_37 (by decide) ?_
        refine lv_idiv hx hb dX6_digits_38 (by decide) ?_
        refine lv_istore_n (lv' := [(3, .int (x3 / 3)), (0, .ref h0), (2, .ref a), (4, .int (nI k))]) hx hb dX6_digits_39 rfl hl (by decide) rfl (fun ls hl => ?_)
        refine lv_iinc (v := nI (k + 1)) (lv' := [(4, .int (nI (k + 1))), (3, .int (x3 / 3)), (0, .ref h0), (2, .ref a)]) hx hb dX6_digits_40 hl (k := 3) rfl (nI_1 k) (by decide) rfl (fun ls hl => ?_)
        refine lv_goto (tgt := 17) hx hb dX6_digits_43 (by decide) ?_
        exact ih (k + 1) hlt (by omega) a cA _ _ H2 locs2 ls hK hP hD hS (lv_sub hl [2, 3, 1, 0] rfl)
  refine lv_aload_n hx hb dX6_digits_0 rfl (lv_at hl 0 rfl) ?_
  refine va_get (D := (dC, dI)) (ci := 0) (v := .ref hL) (C := RX6) (T := TX6) (N := 13) hx hb hts (by decide +kernel) hown hK hP 0 rfl rfl 11 (by decide) (hts (.fieldLink RX6 37 "HoleWhistleLaw$Whistle" "holes" "Ljava/util/ArrayList;") (by decide +kernel)) (fun _ h9 => h9) rfl dX6_digits_1 ?_
  have hPc := hP.sub (ws' := [alC hL mc hE (nI N)]) [1] rfl
  have hDc := hD.sub (ws' := [alC hL mc hE (nI N)]) [1] (by decide) rfl
  have hKc := hK.sub (tys' := []) [] rfl
  have hFc := va_free (wc := [alC hL mc hE (nI N)]) hD hS hA [1] rfl
  refine va_calli (va_runV (As := []) (rest := []) ⟨hx, hb, hml, hown, hts⟩ (c8_size l dC dI hL s.heap.size mc hE (nI N)) (cwV 0 hts gX6_digits_Jx4a65c_size_8abf5 rfl rfl rfl (by decide +kernel) ⟨Nat.le_of_ble_eq_true rfl, Nat.le_of_ble_eq_true rfl⟩) ⟨fun a U g mk q => by obtain ⟨q0, q1, qP, qK, qD⟩ := q; exact ⟨q0, q1, qP, va_K.moved (u := U) (U := U.calling g mk a) (Vm.Alike.refl U.vm) qK, qD⟩, va_recv hKc hPc (ci := 1) (q0 := 0) rfl rfl, fun U hU hW => ⟨rfl, by rw [hU], by rw [hU]; exact hPc, va_K.moved hW.alike hKc, hDc.weaken (fun _ _ _ _ => trivial)⟩⟩ rfl rfl hl.1 rfl (lv_room (Nat.le_of_ble_eq_true rfl)) dX6_digits_4 ⟨by show 0 + 0 ≤ 1; omega, by show 0 + 0 ≤ N + 1; omega⟩) hS (fun q _ h => hFc q h) hFc (fun r1 u t H1 locs ht hvm hw hB hz1 hk1 hS => ?_)
  obtain ⟨hP1, hK1, hD1⟩ := hB
  rw [ht] at hP1
  have hK1 := va_K.moved hvm.symm hK1
  try dsimp only at hw
  subst hw
  obtain ⟨hP, hD⟩ := va_join (wr := [whC h0 f hL hN]) (w1 := [alC hL mc hE (nI N)]) hP hD [1] [0] rfl rfl (by decide) (by decide) hk1 hFc hP1 hD1
  have hP := hP.sub (ws' := [whC h0 f hL hN, alC hL mc hE (nI N)]) [0, 1] rfl
  have hD := hD.sub (ws' := [whC h0 f hL hN, alC hL mc hE (nI N)]) [0, 1] (by decide) rfl
  clear hP1 hD1 hK1 hPc hDc hKc hFc hk1 ht hvm
  generalize H1 = H at hP hS ⊢
  refine lv_iconst (v := 1) hx hb dX6_digits_7 (by decide) ?_
  refine lv_iadd hx hb dX6_digits_8 ?_
  rw [nI_1]
  refine va_newa (D := (dC, dI)) (atype := .int) (ty := .int) (N' := N + 1) (a0 := (N + 1, .inl (fun _ => 0))) hx hb (hts (.arrayClass .int) (by decide +kernel)) rfl hK hP hD hS hA (fun cA => rfl) (nI_pos (by omega)) (nI_clamp (by omega)) (by show (N + 1) * 4 ≤ 536870912; omega) (by show 0 + 0 + 1 ≤ 1; omega) (by show 0 + 0 + (N + 1) ≤ N + 1; omega) dX6_digits_9 (fun a cA H2 hK hP hD hS => ?_)
  refine W.widen (k := 1) (n := N + 1) (by omega) (by omega) ?_
  refine lv_astore_n (lv' := [(2, .ref a), (0, .ref h0), (1, .int p0)]) hx hb dX6_digits_11 rfl hl (by decide) rfl (fun ls hl => ?_)
  refine lv_iload_n hx hb dX6_digits_12 rfl (lv_at hl 2 rfl) ?_
  refine lv_istore_n (lv' := [(3, .int p0), (2, .ref a), (0, .ref h0), (1, .int p0)]) hx hb dX6_digits_13 rfl hl (by decide) rfl (fun ls hl => ?_)
  refine lv_iconst (v := nI 0) hx hb dX6_digits_14 (by decide) ?_
  refine lv_istore (lv' := [(4, .int (nI 0)), (3, .int p0), (2, .ref a), (0, .ref h0), (1, .int p0)]) hx hb dX6_digits_15 hl (by decide) rfl (fun ls hl => ?_)
  exact loop (N + 1) 0 (Nat.zero_le _) (by omega) a cA _ p0 H2 _ ls hK hP hD hS (lv_sub hl [3, 2, 1, 0] rfl)
end
section
set_option maxHeartbeats 4000000 in
set_option maxRecDepth 100000 in
/-- Whistle.change: two rows are new, whatever the two plays -/
theorem c8_change (l : Launch) (dC : Nat → ClassId) (dI : Nat → Nat → Nat) (h0 sz : Nat) (f : Nat → Int32) (hL hN : Nat) (mc : Int32) (hE N : Nat) (hN9 : N ≤ 100) (p1 p2 : Int32) : Met l yX6_change wsX6_change ({ frames := 2, cells := 2, slots := 2 * (N + 1), locals := 44 } : Room) (va_Pc [.ref h0, .int p1, .int p2] (fun U => U.heap.size = sz ∧ va_P (dC, dI) k8C [whC h0 f hL hN, alC hL mc hE (nI N)] U.heap ∧ va_K (dC, dI) k8C [] U ∧ va_D (fun _ => True) [whC h0 f hL hN, alC hL mc hE (nI N)])) (va_Qi (fun (_ : Int32) (_ : Unit) => True) (fun _ t => sz + 2 ≤ t.heap.size ∧ va_P (dC, dI) k8C [whC h0 f hL hN, alC hL mc hE (nI N)] t.heap ∧ va_K (dC, dI) k8C [] t ∧ va_D (va_A [whC h0 f hL hN, alC hL mc hE (nI N)] sz) [whC h0 f hL hN, alC hL mc hE (nI N)]) (va_A [whC h0 f hL hN, alC hL mc hE (nI N)] sz)) 2 (2 * (N + 1)) (va_A [whC h0 f hL hN, alC hL mc hE (nI N)] sz) := by
  refine Met.ofW (cc := cX6_change) (maxL := 7) (ret := some .int) (by decide) rfl ?_
  intro p e s m args below meth c s₁ B hml hv
  obtain ⟨rfl, hsz, hP, hK, hD0⟩ := hv
  have hx := B.exec
  have hb := B.bytes
  have hr := B.returns
  have hts := atoms_spec (ws := wsX6_change) B.pre
  have hown : s.vm.findClass RX6 = some m.cls := findClass_of_methodNamed B.named
  have hlocks := B.notSynchronized
  subst hsz
  have hD := hD0.self (sz := s.heap.size)
  have hA : ∀ q : Nat, s.heap.size ≤ q → (va_A [whC h0 f hL hN, alC hL mc hE (nI N)] s.heap.size) q := fun q h => Or.inr h
  generalize hAe : va_A [whC h0 f hL hN, alC hL mc hE (nI N)] s.heap.size = A at hD hA ⊢
  have hS : va_S A s.heap s.heap [] := va_S.rf
  have hl := lv_entry ([.ref h0, .int p1, .int p2]) (n := 7) (Nat.le_of_ble_eq_true rfl)
  rw [lg_entry_eq]
  generalize (lg_sl ([.ref h0, .int p1, .int p2]) ++ List.replicate (7 - (lg_sl ([.ref h0, .int p1, .int p2])).length) Slot.unset).toArray = ls at hl ⊢
  have hl : lv_has ls 7 [(0, .ref h0), (1, .int p1), (2, .int p2)] := hl
  have loop : ∀ (n k : Nat), k ≤ N → N + 1 ≤ k + n → ∀ (a b : Nat) (cA cB : ClassId) (ra rb : Nat → Int32) (x5 : Int32) (H : Heap) (locs : List Loc) (ls : Array Slot), va_K (dC, dI) k8C [(cA, .int), (cB, .int)] s → va_P (dC, dI) k8C [whC h0 f hL hN, alC hL mc hE (nI N), rwC a cA (N + 1) ra, rwC b cB (N + 1) rb] H → va_D A [whC h0 f hL hN, alC hL mc hE (nI N), rwC a cA (N + 1) ra, rwC b cB (N + 1) rb] → va_S A s.heap H locs → s.heap.size + 2 ≤ H.size → lv_has ls 7 [(0, .ref h0), (3, .ref a), (4, .ref b), (5, .int x5), (6, .int (nI k))] → W p l e ({ frames := 2, cells := 2, slots := 2 * (N + 1), locals := 44 } : Room) s m #[.ref h0, .int p1, .int p2] below meth c H locs 2 (2 * (N + 1)) (MQ below (va_Qi (fun (_ : Int32) (_ : Unit) => True) (fun _ t => s.heap.size + 2 ≤ t.heap.size ∧ va_P (dC, dI) k8C [whC h0 f hL hN, alC hL mc hE (nI N)] t.heap ∧ va_K (dC, dI) k8C [] t ∧ va_D (A) [whC h0 f hL hN, alC hL mc hE (nI N)]) A) #[.ref h0, .int p1, .int p2] s 2 (2 * (N + 1)) A) (F0 m 48 ls []) := by
    intro n
    induction n with
    | zero => intro k h1 h2; omega
    | succ n ih =>
      intro k hkN hkn a b cA cB ra rb x5 H locs ls hK hP hD hS hz hl
      refine lv_iload hx hb dX6_change_48 (lv_at hl 4 rfl) ?_
      refine lv_aload_n hx hb dX6_change_50 rfl (lv_at hl 0 rfl) ?_
      refine va_get (D := (dC, dI)) (ci := 0) (v := .ref hL) (C := RX6) (T := TX6) (N := 13) hx hb hts (by decide +kernel) hown hK hP 0 rfl rfl 11 (by decide) (hts (.fieldLink RX6 37 "HoleWhistleLaw$Whistle" "holes" "Ljava/util/ArrayList;") (by decide +kernel)) (fun _ h9 => h9) rfl dX6_change_51 ?_
      have hPc := hP.sub (ws' := [alC hL mc hE (nI N)]) [1] rfl
      have hDc := hD.sub (ws' := [alC hL mc hE (nI N)]) [1] (by decide) rfl
      have hKc := hK.sub (tys' := []) [] rfl
      have hFc := va_free (wc := [alC hL mc hE (nI N)]) hD hS hA [1] rfl
      refine va_calli (va_runV (As := []) (rest := [.int (nI k)]) ⟨hx, hb, hml, hown, hts⟩ (c8_size l dC dI hL H.size mc hE (nI N)) (cwV 0 hts gX6_change_Jx4a65c_size_8abf5 rfl rfl rfl (by decide +kernel) ⟨Nat.le_of_ble_eq_true rfl, Nat.le_of_ble_eq_true rfl⟩) ⟨fun a U g mk q => by obtain ⟨q0, q1, qP, qK, qD⟩ := q; exact ⟨q0, q1, qP, va_K.moved (u := U) (U := U.calling g mk a) (Vm.Alike.refl U.vm) qK, qD⟩, va_recv hKc hPc (ci := 1) (q0 := 0) rfl rfl, fun U hU hW => ⟨rfl, by rw [hU], by rw [hU]; exact hPc, va_K.moved hW.alike hKc, hDc.weaken (fun _ _ _ _ => trivial)⟩⟩ rfl rfl hl.1 rfl (lv_room (Nat.le_of_ble_eq_true rfl)) dX6_change_54 ⟨by show 2 + 0 ≤ 2; omega, by show 2 * (N + 1) + 0 ≤ 2 * (N + 1); omega⟩) hS (fun q _ h => hFc q h) hFc (fun r1 u t H1 locs ht hvm hw hB hz1 hk1 hS => ?_)
      obtain ⟨hP1, hK1, hD1⟩ := hB
      rw [ht] at hP1
      have hK1 := va_K.moved hvm.symm hK1
      try dsimp only at hw
      subst hw
      obtain ⟨hP, hD⟩ := va_join (wr := [whC h0 f hL hN, rwC a cA (N + 1) ra, rwC b cB (N + 1) rb]) (w1 := [alC hL mc hE (nI N)]) hP hD [1] [0, 2, 3] rfl rfl (by decide) (by decide) hk1 hFc hP1 hD1
      have hP := hP.sub (ws' := [whC h0 f hL hN, alC hL mc hE (nI N), rwC a cA (N + 1) ra, rwC b cB (N + 1) rb]) [0, 3, 1, 2] rfl
      have hD := hD.sub (ws' := [whC h0 f hL hN, alC hL mc hE (nI N), rwC a cA (N + 1) ra, rwC b cB (N + 1) rb]) [0, 3, 1, 2] (by decide) rfl
      clear hP1 hD1 hK1 hPc hDc hKc hFc hk1 ht hvm
      have hz := Nat.le_trans hz hz1
      clear hz1
      generalize H1 = H at hP hS hz ⊢
      refine W.widen (k := 2) (n := 2 * (N + 1)) (Nat.le_refl _) (Nat.le_refl _) ?_
      refine lv_icmp_ge (tgt := 115) hx hb dX6_change_57 (by decide) (fun c1 => ?_) (fun c1 => ?_)
      · refine lv_iload hx hb dX6_change_115 (lv_at hl 3 rfl) ?_
        have hP9 := hP.sub (ws' := [whC h0 f hL hN, alC hL mc hE (nI N)]) [0, 1] rfl
        have hD9 := hD.sub (ws' := [whC h0 f hL hN, alC hL mc hE (nI N)]) [0, 1] (by decide) rfl
        have hK9 := hK.sub (tys' := []) [] rfl
        exact W.iret (v := x5) hx hb hr (fun t ht hW => ⟨⟨x5, (), rfl, trivial, by rw [ht]; exact hz, by rw [ht]; exact hP9, va_K.moved hW.alike hK9, hD9⟩, hS.F ht⟩) hS.2.2 dX6_change_117
      · have hlt : k < N := by
          rcases Nat.lt_or_ge k N with q | q
          · exact q
          · exact absurd (nI_le q (by omega)) c1
        have hin : vp_in (nI k) (N + 1) := vp_in_nI (by omega) (by omega)
        have tail : ∀ v : Int32, W p l e ({ frames := 2, cells := 2, slots := 2 * (N + 1), locals := 44 } : Room) s m #[.ref h0, .int p1, .int p2] below meth c H locs 2 (2 * (N + 1)) (MQ below (va_Qi (fun (_ : Int32) (_ : Unit) => True) (fun _ t => s.heap.size + 2 ≤ t.heap.size ∧ va_P (dC, dI) k8C [whC h0 f hL hN, alC hL mc hE (nI N)] t.heap ∧ va_K (dC, dI) k8C [] t ∧ va_D (A) [whC h0 f hL hN, alC hL mc hE (nI N)]) A) #[.ref h0, .int p1, .int p2] s 2 (2 * (N + 1)) A) (F0 m 106 ls [.int v, .int x5]) := by
          intro v
          refine lv_iadd hx hb dX6_change_106 ?_
          refine lv_istore (lv' := [(5, .int (x5 + v)), (0, .ref h0), (3, .ref a), (4, .ref b), (6, .int (nI k))]) hx hb dX6_change_107 hl (by decide) rfl (fun ls hl => ?_)
          refine lv_iinc (v := nI (k + 1)) (lv' := [(6, .int (nI (k + 1))), (5, .int (x5 + v)), (0, .ref h0), (3, .ref a), (4, .ref b)]) hx hb dX6_change_109 hl (k := 4) rfl (nI_1 k) (by decide) rfl (fun ls hl => ?_)
          refine lv_goto (tgt := 48) hx hb dX6_change_112 (by decide) ?_
          exact ih (k + 1) hlt (by omega) a b cA cB ra rb _ H _ ls hK hP hD hS hz (lv_sub hl [2, 3, 4, 1, 0] rfl)
        have half : W p l e ({ frames := 2, cells := 2, slots := 2 * (N + 1), locals := 44 } : Room) s m #[.ref h0, .int p1, .int p2] below meth c H locs 2 (2 * (N + 1)) (MQ below (va_Qi (fun (_ : Int32) (_ : Unit) => True) (fun _ t => s.heap.size + 2 ≤ t.heap.size ∧ va_P (dC, dI) k8C [whC h0 f hL hN, alC hL mc hE (nI N)] t.heap ∧ va_K (dC, dI) k8C [] t ∧ va_D (A) [whC h0 f hL hN, alC hL mc hE (nI N)]) A) #[.ref h0, .int p1, .int p2] s 2 (2 * (N + 1)) A) (F0 m 95 ls [.int x5]) := by
          refine lv_aload_n hx hb dX6_change_95 rfl (lv_at hl 0 rfl) ?_
          refine va_get (D := (dC, dI)) (ci := 0) (v := .int (f 6)) (C := RX6) (T := TX6) (N := 13) hx hb hts (by decide +kernel) hown hK hP 0 rfl rfl 6 (by decide) (hts (.fieldLink RX6 28 "HoleWhistleLaw$Whistle" "half" "I") (by decide +kernel)) (fun _ h9 => h9) rfl dX6_change_96 ?_
          exact lv_goto (tgt := 106) hx hb dX6_change_99 (by decide) (tail _)
        refine lv_iload hx hb dX6_change_60 (lv_at hl 3 rfl) ?_
        refine lv_aload_n hx hb dX6_change_62 rfl (lv_at hl 1 rfl) ?_
        refine lv_iload hx hb dX6_change_63 (lv_at hl 4 rfl) ?_
        refine va_iald hx hb hK hP 2 0 rfl rfl hin dX6_change_65 ?_
        refine lv_aload hx hb dX6_change_66 (lv_at hl 2 rfl) ?_
        refine lv_iload hx hb dX6_change_68 (lv_at hl 4 rfl) ?_
        refine va_iald hx hb hK hP 3 1 rfl rfl hin dX6_change_70 ?_
        refine lv_icmp_ne (tgt := 78) hx hb dX6_change_71 (by decide) (fun _ => ?_) (fun _ => ?_)
        · refine lv_aload_n hx hb dX6_change_78 rfl (lv_at hl 1 rfl) ?_
          refine lv_iload hx hb dX6_change_79 (lv_at hl 4 rfl) ?_
          refine va_iald hx hb hK hP 2 0 rfl rfl hin dX6_change_81 ?_
          refine lv_iconst (v := 1) hx hb dX6_change_82 (by decide) ?_
          refine lv_icmp_eq (tgt := 95) hx hb dX6_change_83 (by decide) (fun _ => half) (fun _ => ?_)
          refine lv_aload hx hb dX6_change_86 (lv_at hl 2 rfl) ?_
          refine lv_iload hx hb dX6_change_88 (lv_at hl 4 rfl) ?_
          refine va_iald hx hb hK hP 3 1 rfl rfl hin dX6_change_90 ?_
          refine lv_iconst (v := 1) hx hb dX6_change_91 (by decide) ?_
          refine lv_icmp_ne (tgt := 102) hx hb dX6_change_92 (by decide) (fun _ => ?_) (fun _ => half)
          refine lv_aload_n hx hb dX6_change_102 rfl (lv_at hl 0 rfl) ?_
          refine va_get (D := (dC, dI)) (ci := 0) (v := .int (f 5)) (C := RX6) (T := TX6) (N := 13) hx hb hts (by decide +kernel) hown hK hP 0 rfl rfl 5 (by decide) (hts (.fieldLink RX6 25 "HoleWhistleLaw$Whistle" "move" "I") (by decide +kernel)) (fun _ h9 => h9) rfl dX6_change_103 ?_
          exact tail _
        · refine lv_iconst (v := 0) hx hb dX6_change_74 (by decide) ?_
          exact lv_goto (tgt := 106) hx hb dX6_change_75 (by decide) (tail _)
  refine lv_aload_n hx hb dX6_change_0 rfl (lv_at hl 0 rfl) ?_
  refine lv_iload_n hx hb dX6_change_1 rfl (lv_at hl 1 rfl) ?_
  have hPc := hP.sub (ws' := [whC h0 f hL hN, alC hL mc hE (nI N)]) [0, 1] rfl
  have hDc := hD.sub (ws' := [whC h0 f hL hN, alC hL mc hE (nI N)]) [0, 1] (by decide) rfl
  have hKc := hK.sub (tys' := []) [] rfl
  have hFc := va_free (wc := [whC h0 f hL hN, alC hL mc hE (nI N)]) hD hS hA [0, 1] rfl
  refine va_callr (va_runV (As := [.int p1]) (rest := []) ⟨hx, hb, hml, hown, hts⟩ (c8_digits l dC dI h0 s.heap.size f hL hN mc hE N hN9 p1) (cwV 1 hts gX6_change_X6_digits rfl rfl rfl (by decide +kernel) ⟨Nat.le_of_ble_eq_true rfl, Nat.le_of_ble_eq_true rfl⟩) ⟨fun a U g mk q => by obtain ⟨q0, q1, qP, qK, qD⟩ := q; exact ⟨q0, q1, qP, va_K.moved (u := U) (U := U.calling g mk a) (Vm.Alike.refl U.vm) qK, qD⟩, va_recv hKc hPc (ci := 0) (q0 := 0) rfl rfl, fun U hU hW => ⟨rfl, by rw [hU], by rw [hU]; exact hPc, va_K.moved hW.alike hKc, hDc.weaken (fun _ _ _ _ => trivial)⟩⟩ rfl rfl hl.1 rfl (lv_room (Nat.le_of_ble_eq_true rfl)) dX6_change_2 ⟨by show 0 + 1 ≤ 2; omega, by show 0 + (N + 1) ≤ 2 * (N + 1); omega⟩) hS (fun q _ h => hFc q h) hFc (fun u a t H1 locs ht hvm hw hB hz1 hk1 hS => ?_)
  obtain ⟨cA, ra⟩ := u
  obtain ⟨hsz, hP1, hK1, hD1⟩ := hB
  rw [ht] at hP1 hsz
  have hK1 := va_K.moved hvm.symm hK1
  try dsimp only at hsz hP1 hK1 hD1
  obtain ⟨hP, hD⟩ := va_join (wr := []) (w1 := [whC h0 f hL hN, alC hL mc hE (nI N), rwC a cA (N + 1) ra]) hP hD [0, 1] [] rfl rfl (by decide) (by decide) hk1 hFc hP1 hD1
  have hP := hP.sub (ws' := [whC h0 f hL hN, alC hL mc hE (nI N), rwC a cA (N + 1) ra]) [0, 1, 2] rfl
  have hD := hD.sub (ws' := [whC h0 f hL hN, alC hL mc hE (nI N), rwC a cA (N + 1) ra]) [0, 1, 2] (by decide) rfl
  have hK := (hK.sub (tys' := []) [] rfl).app hK1
  have hz := hsz.2
  clear hP1 hD1 hK1 hPc hDc hKc hFc hk1 ht hvm hsz hz1
  generalize H1 = H at hP hS hz ⊢
  refine lv_astore_n (lv' := [(3, .ref a), (0, .ref h0), (1, .int p1), (2, .int p2)]) hx hb dX6_change_5 rfl hl (by decide) rfl (fun ls hl => ?_)
  refine lv_aload_n hx hb dX6_change_6 rfl (lv_at hl 1 rfl) ?_
  refine lv_iload_n hx hb dX6_change_7 rfl (lv_at hl 3 rfl) ?_
  have hPc := hP.sub (ws' := [whC h0 f hL hN, alC hL mc hE (nI N)]) [0, 1] rfl
  have hDc := hD.sub (ws' := [whC h0 f hL hN, alC hL mc hE (nI N)]) [0, 1] (by decide) rfl
  have hKc := hK.sub (tys' := []) [] rfl
  have hFc := va_free (wc := [whC h0 f hL hN, alC hL mc hE (nI N)]) hD hS hA [0, 1] rfl
  refine va_callr (va_runV (As := [.int p2]) (rest := []) ⟨hx, hb, hml, hown, hts⟩ (c8_digits l dC dI h0 H.size f hL hN mc hE N hN9 p2) (cwV 1 hts gX6_change_X6_digits rfl rfl rfl (by decide +kernel) ⟨Nat.le_of_ble_eq_true rfl, Nat.le_of_ble_eq_true rfl⟩) ⟨fun a U g mk q => by obtain ⟨q0, q1, qP, qK, qD⟩ := q; exact ⟨q0, q1, qP, va_K.moved (u := U) (U := U.calling g mk a) (Vm.Alike.refl U.vm) qK, qD⟩, va_recv hKc hPc (ci := 0) (q0 := 0) rfl rfl, fun U hU hW => ⟨rfl, by rw [hU], by rw [hU]; exact hPc, va_K.moved hW.alike hKc, hDc.weaken (fun _ _ _ _ => trivial)⟩⟩ rfl rfl hl.1 rfl (lv_room (Nat.le_of_ble_eq_true rfl)) dX6_change_8 ⟨by show 0 + 1 + 1 ≤ 2; omega, by show 0 + (N + 1) + (N + 1) ≤ 2 * (N + 1); omega⟩) hS (fun q _ h => hFc q h) hFc (fun u b t H1 locs ht hvm hw hB hz1 hk1 hS => ?_)
  obtain ⟨cB, rb⟩ := u
  obtain ⟨hsz, hP1, hK1, hD1⟩ := hB
  rw [ht] at hP1 hsz
  have hK1 := va_K.moved hvm.symm hK1
  try dsimp only at hsz hP1 hK1 hD1
  obtain ⟨hP, hD⟩ := va_join (wr := [rwC a cA (N + 1) ra]) (w1 := [whC h0 f hL hN, alC hL mc hE (nI N), rwC b cB (N + 1) rb]) hP hD [0, 1] [2] rfl rfl (by decide) (by decide) hk1 hFc hP1 hD1
  have hP := hP.sub (ws' := [whC h0 f hL hN, alC hL mc hE (nI N), rwC a cA (N + 1) ra, rwC b cB (N + 1) rb]) [1, 2, 0, 3] rfl
  have hD := hD.sub (ws' := [whC h0 f hL hN, alC hL mc hE (nI N), rwC a cA (N + 1) ra, rwC b cB (N + 1) rb]) [1, 2, 0, 3] (by decide) rfl
  have hK := (hK.sub (tys' := [(cA, .int)]) [0] rfl).app hK1
  have hz : s.heap.size + 2 ≤ H1.size := by have := hsz.2; omega
  clear hP1 hD1 hK1 hPc hDc hKc hFc hk1 ht hvm hsz hz1
  generalize H1 = H at hP hS hz ⊢
  refine W.widen (k := 2) (n := 2 * (N + 1)) (by omega) (by omega) ?_
  refine lv_astore (lv' := [(4, .ref b), (3, .ref a), (0, .ref h0), (1, .int p1), (2, .int p2)]) hx hb dX6_change_11 hl (by decide) rfl (fun ls hl => ?_)
  have hin : vp_in (nI N) (N + 1) := vp_in_nI (by omega) (by omega)
  have join : ∀ (v : Int32) (H : Heap) (locs : List Loc), va_P (dC, dI) k8C [whC h0 f hL hN, alC hL mc hE (nI N), rwC a cA (N + 1) ra, rwC b cB (N + 1) rb] H → va_D A [whC h0 f hL hN, alC hL mc hE (nI N), rwC a cA (N + 1) ra, rwC b cB (N + 1) rb] → va_S A s.heap H locs → s.heap.size + 2 ≤ H.size → W p l e ({ frames := 2, cells := 2, slots := 2 * (N + 1), locals := 44 } : Room) s m #[.ref h0, .int p1, .int p2] below meth c H locs 2 (2 * (N + 1)) (MQ below (va_Qi (fun (_ : Int32) (_ : Unit) => True) (fun _ t => s.heap.size + 2 ≤ t.heap.size ∧ va_P (dC, dI) k8C [whC h0 f hL hN, alC hL mc hE (nI N)] t.heap ∧ va_K (dC, dI) k8C [] t ∧ va_D (A) [whC h0 f hL hN, alC hL mc hE (nI N)]) A) #[.ref h0, .int p1, .int p2] s 2 (2 * (N + 1)) A) (F0 m 43 ls [.int v]) := by
    intro v H locs hP hD hS hz
    refine lv_istore (lv' := [(5, .int v), (4, .ref b), (3, .ref a), (0, .ref h0), (1, .int p1), (2, .int p2)]) hx hb dX6_change_43 hl (by decide) rfl (fun ls hl => ?_)
    refine lv_iconst (v := nI 0) hx hb dX6_change_45 (by decide) ?_
    refine lv_istore (lv' := [(6, .int (nI 0)), (5, .int v), (4, .ref b), (3, .ref a), (0, .ref h0), (1, .int p1), (2, .int p2)]) hx hb dX6_change_46 hl (by decide) rfl (fun ls hl => ?_)
    exact loop (N + 1) 0 (Nat.zero_le _) (by omega) a b cA cB ra rb v H locs ls hK hP hD hS hz (lv_sub hl [4, 3, 2, 1, 0] rfl)
  refine lv_aload_n hx hb dX6_change_13 rfl (lv_at hl 1 rfl) ?_
  refine lv_aload_n hx hb dX6_change_14 rfl (lv_at hl 2 rfl) ?_
  refine va_get (D := (dC, dI)) (ci := 0) (v := .ref hL) (C := RX6) (T := TX6) (N := 13) hx hb hts (by decide +kernel) hown hK hP 0 rfl rfl 11 (by decide) (hts (.fieldLink RX6 37 "HoleWhistleLaw$Whistle" "holes" "Ljava/util/ArrayList;") (by decide +kernel)) (fun _ h9 => h9) rfl dX6_change_15 ?_
  have hPc := hP.sub (ws' := [alC hL mc hE (nI N)]) [1] rfl
  have hDc := hD.sub (ws' := [alC hL mc hE (nI N)]) [1] (by decide) rfl
  have hKc := hK.sub (tys' := []) [] rfl
  have hFc := va_free (wc := [alC hL mc hE (nI N)]) hD hS hA [1] rfl
  refine va_calli (va_runV (As := []) (rest := [.ref a]) ⟨hx, hb, hml, hown, hts⟩ (c8_size l dC dI hL H.size mc hE (nI N)) (cwV 0 hts gX6_change_Jx4a65c_size_8abf5 rfl rfl rfl (by decide +kernel) ⟨Nat.le_of_ble_eq_true rfl, Nat.le_of_ble_eq_true rfl⟩) ⟨fun a U g mk q => by obtain ⟨q0, q1, qP, qK, qD⟩ := q; exact ⟨q0, q1, qP, va_K.moved (u := U) (U := U.calling g mk a) (Vm.Alike.refl U.vm) qK, qD⟩, va_recv hKc hPc (ci := 1) (q0 := 0) rfl rfl, fun U hU hW => ⟨rfl, by rw [hU], by rw [hU]; exact hPc, va_K.moved hW.alike hKc, hDc.weaken (fun _ _ _ _ => trivial)⟩⟩ rfl rfl hl.1 rfl (lv_room (Nat.le_of_ble_eq_true rfl)) dX6_change_18 ⟨by show 2 + 0 ≤ 2; omega, by show 2 * (N + 1) + 0 ≤ 2 * (N + 1); omega⟩) hS (fun q _ h => hFc q h) hFc (fun r1 u t H1 locs ht hvm hw hB hz1 hk1 hS => ?_)
  obtain ⟨hP1, hK1, hD1⟩ := hB
  rw [ht] at hP1
  have hK1 := va_K.moved hvm.symm hK1
  try dsimp only at hw
  subst hw
  obtain ⟨hP, hD⟩ := va_join (wr := [whC h0 f hL hN, rwC a cA (N + 1) ra, rwC b cB (N + 1) rb]) (w1 := [alC hL mc hE (nI N)]) hP hD [1] [0, 2, 3] rfl rfl (by decide) (by decide) hk1 hFc hP1 hD1
  have hP := hP.sub (ws' := [whC h0 f hL hN, alC hL mc hE (nI N), rwC a cA (N + 1) ra, rwC b cB (N + 1) rb]) [0, 3, 1, 2] rfl
  have hD := hD.sub (ws' := [whC h0 f hL hN, alC hL mc hE (nI N), rwC a cA (N + 1) ra, rwC b cB (N + 1) rb]) [0, 3, 1, 2] (by decide) rfl
  clear hP1 hD1 hK1 hPc hDc hKc hFc hk1 ht hvm
  have hz := Nat.le_trans hz hz1
  clear hz1
  generalize H1 = H at hP hS hz ⊢
  refine W.widen (k := 2) (n := 2 * (N + 1)) (Nat.le_refl _) (Nat.le_refl _) ?_
  refine va_iald hx hb hK hP 2 0 rfl rfl hin dX6_change_21 ?_
  refine lv_aload hx hb dX6_change_22 (lv_at hl 0 rfl) ?_
  refine lv_aload_n hx hb dX6_change_24 rfl (lv_at hl 2 rfl) ?_
  refine va_get (D := (dC, dI)) (ci := 0) (v := .ref hL) (C := RX6) (T := TX6) (N := 13) hx hb hts (by decide +kernel) hown hK hP 0 rfl rfl 11 (by decide) (hts (.fieldLink RX6 37 "HoleWhistleLaw$Whistle" "holes" "Ljava/util/ArrayList;") (by decide +kernel)) (fun _ h9 => h9) rfl dX6_change_25 ?_
  have hPc := hP.sub (ws' := [alC hL mc hE (nI N)]) [1] rfl
  have hDc := hD.sub (ws' := [alC hL mc hE (nI N)]) [1] (by decide) rfl
  have hKc := hK.sub (tys' := []) [] rfl
  have hFc := va_free (wc := [alC hL mc hE (nI N)]) hD hS hA [1] rfl
  refine va_calli (va_runV (As := []) (rest := [.ref b, .int (ra (nI N).toNatClampNeg)]) ⟨hx, hb, hml, hown, hts⟩ (c8_size l dC dI hL H.size mc hE (nI N)) (cwV 0 hts gX6_change_Jx4a65c_size_8abf5 rfl rfl rfl (by decide +kernel) ⟨Nat.le_of_ble_eq_true rfl, Nat.le_of_ble_eq_true rfl⟩) ⟨fun a U g mk q => by obtain ⟨q0, q1, qP, qK, qD⟩ := q; exact ⟨q0, q1, qP, va_K.moved (u := U) (U := U.calling g mk a) (Vm.Alike.refl U.vm) qK, qD⟩, va_recv hKc hPc (ci := 1) (q0 := 0) rfl rfl, fun U hU hW => ⟨rfl, by rw [hU], by rw [hU]; exact hPc, va_K.moved hW.alike hKc, hDc.weaken (fun _ _ _ _ => trivial)⟩⟩ rfl rfl hl.1 rfl (lv_room (Nat.le_of_ble_eq_true rfl)) dX6_change_28 ⟨by show 2 + 0 ≤ 2; omega, by show 2 * (N + 1) + 0 ≤ 2 * (N + 1); omega⟩) hS (fun q _ h => hFc q h) hFc (fun r1 u t H1 locs ht hvm hw hB hz1 hk1 hS => ?_)
  obtain ⟨hP1, hK1, hD1⟩ := hB
  rw [ht] at hP1
  have hK1 := va_K.moved hvm.symm hK1
  try dsimp only at hw
  subst hw
  obtain ⟨hP, hD⟩ := va_join (wr := [whC h0 f hL hN, rwC a cA (N + 1) ra, rwC b cB (N + 1) rb]) (w1 := [alC hL mc hE (nI N)]) hP hD [1] [0, 2, 3] rfl rfl (by decide) (by decide) hk1 hFc hP1 hD1
  have hP := hP.sub (ws' := [whC h0 f hL hN, alC hL mc hE (nI N), rwC a cA (N + 1) ra, rwC b cB (N + 1) rb]) [0, 3, 1, 2] rfl
  have hD := hD.sub (ws' := [whC h0 f hL hN, alC hL mc hE (nI N), rwC a cA (N + 1) ra, rwC b cB (N + 1) rb]) [0, 3, 1, 2] (by decide) rfl
  clear hP1 hD1 hK1 hPc hDc hKc hFc hk1 ht hvm
  have hz := Nat.le_trans hz hz1
  clear hz1
  generalize H1 = H at hP hS hz ⊢
  refine W.widen (k := 2) (n := 2 * (N + 1)) (Nat.le_refl _) (Nat.le_refl _) ?_
  refine va_iald hx hb hK hP 3 1 rfl rfl hin dX6_change_31 ?_
  refine lv_icmp_ne (tgt := 39) hx hb dX6_change_32 (by decide) (fun _ => ?_) (fun _ => ?_)
  · refine lv_aload_n hx hb dX6_change_39 rfl (lv_at hl 2 rfl) ?_
    refine va_get (D := (dC, dI)) (ci := 0) (v := .int (f 7)) (C := RX6) (T := TX6) (N := 13) hx hb hts (by decide +kernel) hown hK hP 0 rfl rfl 7 (by decide) (hts (.fieldLink RX6 31 "HoleWhistleLaw$Whistle" "breath" "I") (by decide +kernel)) (fun _ h9 => h9) rfl dX6_change_40 ?_
    exact join _ H _ hP hD hS hz
  · refine lv_iconst (v := 0) hx hb dX6_change_35 (by decide) ?_
    exact lv_goto (tgt := 43) hx hb dX6_change_36 (by decide) (join _ H _ hP hD hS hz)
end
