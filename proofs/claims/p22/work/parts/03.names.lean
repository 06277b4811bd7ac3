/-! ===== BEGIN printed: names, fields, word lists, decode rows ===== -/
def RX0 : String := "Transitry$Folding"
def TX0 : u_T := fun k => match k with
  | 0 => ("Transitry$Folding", "sums", "[D", true)
  | 1 => ("Transitry$Folding", "counts", "[I", true)
  | 2 => ("Transitry$Folding", "folds", "I", false)
  | _ => ("Transitry$Folding", "mean", "D", false)
def tyX0 : Nat → FieldType := fun k => match k with
  | 0 => .array .double
  | 1 => .array .int
  | 2 => .int
  | _ => .double
theorem nmX0 : ∀ a, a < 4 → ∀ b, b < 4 → a ≠ b → (TX0 a).2.1 ≠ (TX0 b).2.1 := by decide +kernel
theorem tyX0_ok : ∀ k, k < 4 → parseFieldDescriptor (TX0 k).2.2.1 = some (tyX0 k) := by decide +kernel
abbrev cX0_init : ByteArray := prog_2_method_1_code
def yX0_init : MethodName := ⟨RX0, "<init>", "()V"⟩
abbrev cX0_foldBy : ByteArray := prog_2_method_2_code
def yX0_foldBy : MethodName := ⟨RX0, "foldBy", "(ILTransitry$Nights;)V"⟩
abbrev cX0_hasHours : ByteArray := prog_2_method_3_code
def yX0_hasHours : MethodName := ⟨RX0, "hasHours", "(I)Z"⟩
abbrev cX0_meanOf : ByteArray := prog_2_method_4_code
def yX0_meanOf : MethodName := ⟨RX0, "meanOf", "(I)D"⟩
abbrev cX0_scoreOf : ByteArray := prog_2_method_5_code
def yX0_scoreOf : MethodName := ⟨RX0, "scoreOf", "(I)D"⟩
abbrev cX0_bestFold : ByteArray := prog_2_method_6_code
def yX0_bestFold : MethodName := ⟨RX0, "bestFold", "()I"⟩
def RX1 : String := "Transitry$Nights"
def TX1 : u_T := fun k => match k with
  | 0 => ("Transitry$Nights", "light", "[D", true)
  | _ => ("Transitry$Nights", "keptCount", "I", false)
def tyX1 : Nat → FieldType := fun k => match k with
  | 0 => .array .double
  | _ => .int
theorem nmX1 : ∀ a, a < 2 → ∀ b, b < 2 → a ≠ b → (TX1 a).2.1 ≠ (TX1 b).2.1 := by decide +kernel
theorem tyX1_ok : ∀ k, k < 2 → parseFieldDescriptor (TX1 k).2.2.1 = some (tyX1 k) := by decide +kernel
abbrev cX1_init : ByteArray := prog_3_method_1_code
def yX1_init : MethodName := ⟨RX1, "<init>", "()V"⟩
abbrev cX1_init_ : ByteArray := prog_3_method_2_code
def yX1_init_ : MethodName := ⟨RX1, "<init>", "(LTransitry$Nights;)V"⟩
abbrev cX1_hasLight : ByteArray := prog_3_method_3_code
def yX1_hasLight : MethodName := ⟨RX1, "hasLight", "(I)Z"⟩
abbrev cX1_lightOf : ByteArray := prog_3_method_4_code
def yX1_lightOf : MethodName := ⟨RX1, "lightOf", "(I)D"⟩
abbrev cX1_keep : ByteArray := prog_3_method_5_code
def yX1_keep : MethodName := ⟨RX1, "keep", "(ID)V"⟩
def RX2 : String := "Transitry$Paper"
def TX2 : u_T := fun k => match k with
  | 0 => ("Transitry$Paper", "subject", "LTransitry$World;", true)
  | 1 => ("Transitry$Paper", "cited", "LTransitry$Paper;", true)
  | _ => ("Transitry$Paper", "isFallen", "Z", false)
def tyX2 : Nat → FieldType := fun k => match k with
  | 0 => .object "Transitry$World"
  | 1 => .object "Transitry$Paper"
  | _ => .boolean
theorem nmX2 : ∀ a, a < 3 → ∀ b, b < 3 → a ≠ b → (TX2 a).2.1 ≠ (TX2 b).2.1 := by decide +kernel
theorem tyX2_ok : ∀ k, k < 3 → parseFieldDescriptor (TX2 k).2.2.1 = some (tyX2 k) := by decide +kernel
abbrev cX2_init : ByteArray := prog_4_method_1_code
def yX2_init : MethodName := ⟨RX2, "<init>", "(LTransitry$World;LTransitry$Paper;)V"⟩
abbrev cX2_mustFall : ByteArray := prog_4_method_2_code
def yX2_mustFall : MethodName := ⟨RX2, "mustFall", "()Z"⟩
def RX3 : String := "Transitry$Planet"
def TX3 : u_T := fun k => match k with
  | 0 => ("Transitry$Planet", "period", "I", true)
  | 1 => ("Transitry$Planet", "phase", "I", true)
  | 2 => ("Transitry$Planet", "length", "I", true)
  | _ => ("Transitry$Planet", "quotient", "D", true)
def tyX3 : Nat → FieldType := fun k => match k with
  | 0 => .int
  | 1 => .int
  | 2 => .int
  | _ => .double
theorem nmX3 : ∀ a, a < 4 → ∀ b, b < 4 → a ≠ b → (TX3 a).2.1 ≠ (TX3 b).2.1 := by decide +kernel
theorem tyX3_ok : ∀ k, k < 4 → parseFieldDescriptor (TX3 k).2.2.1 = some (tyX3 k) := by decide +kernel
abbrev cX3_init : ByteArray := prog_5_method_1_code
def yX3_init : MethodName := ⟨RX3, "<init>", "(IIII)V"⟩
abbrev cX3_dipsIn : ByteArray := prog_5_method_2_code
def yX3_dipsIn : MethodName := ⟨RX3, "dipsIn", "(I)Z"⟩
def RX4 : String := "Transitry$Star"
def TX4 : u_T := fun k => match k with
  | 0 => ("Transitry$Star", "ownLight", "I", true)
  | 1 => ("Transitry$Star", "planets", "Ljava/util/ArrayList;", true)
  | 2 => ("Transitry$Star", "spin", "I", false)
  | 3 => ("Transitry$Star", "spotDepth", "I", false)
  | 4 => ("Transitry$Star", "blend", "I", false)
  | _ => ("Transitry$Star", "nights", "LTransitry$Nights;", true)
def tyX4 : Nat → FieldType := fun k => match k with
  | 0 => .int
  | 1 => .object "java/util/ArrayList"
  | 2 => .int
  | 3 => .int
  | 4 => .int
  | _ => .object "Transitry$Nights"
theorem nmX4 : ∀ a, a < 6 → ∀ b, b < 6 → a ≠ b → (TX4 a).2.1 ≠ (TX4 b).2.1 := by decide +kernel
theorem tyX4_ok : ∀ k, k < 6 → parseFieldDescriptor (TX4 k).2.2.1 = some (tyX4 k) := by decide +kernel
abbrev cX4_init : ByteArray := prog_6_method_1_code
def yX4_init : MethodName := ⟨RX4, "<init>", "(I)V"⟩
abbrev cX4_lightIn : ByteArray := prog_6_method_2_code
def yX4_lightIn : MethodName := ⟨RX4, "lightIn", "(I)D"⟩
abbrev cX4_showsSpots : ByteArray := prog_6_method_3_code
def yX4_showsSpots : MethodName := ⟨RX4, "showsSpots", "(I)Z"⟩
def RX5 : String := "Transitry$World"
def TX5 : u_T := fun k => match k with
  | 0 => ("Transitry$World", "star", "I", true)
  | 1 => ("Transitry$World", "threshold", "I", true)
  | 2 => ("Transitry$World", "period", "I", true)
  | 3 => ("Transitry$World", "phase", "I", true)
  | 4 => ("Transitry$World", "nights", "LTransitry$Nights;", true)
  | _ => ("Transitry$World", "isWithdrawn", "Z", false)
def tyX5 : Nat → FieldType := fun k => match k with
  | 0 => .int
  | 1 => .int
  | 2 => .int
  | 3 => .int
  | 4 => .object "Transitry$Nights"
  | _ => .boolean
theorem nmX5 : ∀ a, a < 6 → ∀ b, b < 6 → a ≠ b → (TX5 a).2.1 ≠ (TX5 b).2.1 := by decide +kernel
theorem tyX5_ok : ∀ k, k < 6 → parseFieldDescriptor (TX5 k).2.2.1 = some (tyX5 k) := by decide +kernel
abbrev cX5_init : ByteArray := prog_7_method_1_code
def yX5_init : MethodName := ⟨RX5, "<init>", "(IIIILTransitry$Nights;)V"⟩
def RX6 : String := "Transitry"
def TX6 : u_T := fun k => match k with
  | 0 => ("Transitry", "stars", "Ljava/util/ArrayList;", true)
  | 1 => ("Transitry", "worlds", "Ljava/util/ArrayList;", true)
  | 2 => ("Transitry", "papers", "Ljava/util/ArrayList;", true)
  | 3 => ("Transitry", "hidden", "[Z", true)
  | 4 => ("Transitry", "hiddenCount", "I", false)
  | _ => ("Transitry", "folding", "LTransitry$Folding;", true)
def tyX6 : Nat → FieldType := fun k => match k with
  | 0 => .object "java/util/ArrayList"
  | 1 => .object "java/util/ArrayList"
  | 2 => .object "java/util/ArrayList"
  | 3 => .array .boolean
  | 4 => .int
  | _ => .object "Transitry$Folding"
theorem nmX6 : ∀ a, a < 6 → ∀ b, b < 6 → a ≠ b → (TX6 a).2.1 ≠ (TX6 b).2.1 := by decide +kernel
theorem tyX6_ok : ∀ k, k < 6 → parseFieldDescriptor (TX6 k).2.2.1 = some (tyX6 k) := by decide +kernel
abbrev cX6_init : ByteArray := prog_1_method_1_code
def yX6_init : MethodName := ⟨RX6, "<init>", "()V"⟩
abbrev cX6_star : ByteArray := prog_1_method_2_code
def yX6_star : MethodName := ⟨RX6, "star", "(I)I"⟩
abbrev cX6_planet : ByteArray := prog_1_method_3_code
def yX6_planet : MethodName := ⟨RX6, "planet", "(IIIII)I"⟩
abbrev cX6_spots : ByteArray := prog_1_method_4_code
def yX6_spots : MethodName := ⟨RX6, "spots", "(III)I"⟩
abbrev cX6_blend : ByteArray := prog_1_method_5_code
def yX6_blend : MethodName := ⟨RX6, "blend", "(II)I"⟩
abbrev cX6_light : ByteArray := prog_1_method_6_code
def yX6_light : MethodName := ⟨RX6, "light", "(II)J"⟩
abbrev cX6_cloud : ByteArray := prog_1_method_7_code
def yX6_cloud : MethodName := ⟨RX6, "cloud", "(II)I"⟩
abbrev cX6_observe : ByteArray := prog_1_method_8_code
def yX6_observe : MethodName := ⟨RX6, "observe", "(III)I"⟩
abbrev cX6_kept : ByteArray := prog_1_method_9_code
def yX6_kept : MethodName := ⟨RX6, "kept", "(II)J"⟩
abbrev cX6_score : ByteArray := prog_1_method_10_code
def yX6_score : MethodName := ⟨RX6, "score", "(II)J"⟩
abbrev cX6_phase : ByteArray := prog_1_method_11_code
def yX6_phase : MethodName := ⟨RX6, "phase", "(II)I"⟩
abbrev cX6_period : ByteArray := prog_1_method_12_code
def yX6_period : MethodName := ⟨RX6, "period", "(II)I"⟩
abbrev cX6_whyNot : ByteArray := prog_1_method_13_code
def yX6_whyNot : MethodName := ⟨RX6, "whyNot", "(II)I"⟩
abbrev cX6_oddEven : ByteArray := prog_1_method_14_code
def yX6_oddEven : MethodName := ⟨RX6, "oddEven", "(II)J"⟩
abbrev cX6_world : ByteArray := prog_1_method_15_code
def yX6_world : MethodName := ⟨RX6, "world", "(II)I"⟩
abbrev cX6_about : ByteArray := prog_1_method_16_code
def yX6_about : MethodName := ⟨RX6, "about", "(II)I"⟩
abbrev cX6_periodAnew : ByteArray := prog_1_method_17_code
def yX6_periodAnew : MethodName := ⟨RX6, "periodAnew", "(I)I"⟩
abbrev cX6_paper : ByteArray := prog_1_method_18_code
def yX6_paper : MethodName := ⟨RX6, "paper", "(II)I"⟩
abbrev cX6_withdraw : ByteArray := prog_1_method_19_code
def yX6_withdraw : MethodName := ⟨RX6, "withdraw", "(I)I"⟩
abbrev cX6_hasFallen : ByteArray := prog_1_method_20_code
def yX6_hasFallen : MethodName := ⟨RX6, "hasFallen", "(I)Z"⟩
abbrev cX6_starAt : ByteArray := prog_1_method_21_code
def yX6_starAt : MethodName := ⟨RX6, "starAt", "(I)LTransitry$Star;"⟩
abbrev cX6_worldAt : ByteArray := prog_1_method_22_code
def yX6_worldAt : MethodName := ⟨RX6, "worldAt", "(I)LTransitry$World;"⟩
abbrev cX6_paperAt : ByteArray := prog_1_method_23_code
def yX6_paperAt : MethodName := ⟨RX6, "paperAt", "(I)LTransitry$Paper;"⟩
abbrev cX6_requireHour : ByteArray := prog_1_method_24_code
def yX6_requireHour : MethodName := ⟨RX6, "requireHour", "(I)V"⟩
abbrev cX6_requireHours : ByteArray := prog_1_method_25_code
def yX6_requireHours : MethodName := ⟨RX6, "requireHours", "(II)V"⟩
abbrev cX6_requireRange : ByteArray := prog_1_method_26_code
def yX6_requireRange : MethodName := ⟨RX6, "requireRange", "(III)V"⟩
abbrev cX6_nightsToFold : ByteArray := prog_1_method_27_code
def yX6_nightsToFold : MethodName := ⟨RX6, "nightsToFold", "(II)LTransitry$Nights;"⟩
abbrev cX6_nightsToSearch : ByteArray := prog_1_method_28_code
def yX6_nightsToSearch : MethodName := ⟨RX6, "nightsToSearch", "(II)LTransitry$Nights;"⟩
abbrev cX6_isHidden : ByteArray := prog_1_method_29_code
def yX6_isHidden : MethodName := ⟨RX6, "isHidden", "(I)Z"⟩
abbrev cX6_hide : ByteArray := prog_1_method_30_code
def yX6_hide : MethodName := ⟨RX6, "hide", "(I)V"⟩
abbrev cX6_periodToTell : ByteArray := prog_1_method_31_code
def yX6_periodToTell : MethodName := ⟨RX6, "periodToTell", "(LTransitry$Nights;I)I"⟩
abbrev cX6_bestPeriod : ByteArray := prog_1_method_32_code
def yX6_bestPeriod : MethodName := ⟨RX6, "bestPeriod", "(LTransitry$Nights;I)I"⟩
abbrev cX6_letPapersFall : ByteArray := prog_1_method_33_code
def yX6_letPapersFall : MethodName := ⟨RX6, "letPapersFall", "()I"⟩
abbrev cX6_bitsOf : ByteArray := prog_1_method_34_code
def yX6_bitsOf : MethodName := ⟨RX6, "bitsOf", "(D)J"⟩
def RX7 : String := "TransitryModel"
def TX7 : u_T := fun k => match k with
  | _ => ("", "", "", false)
def tyX7 : Nat → FieldType := fun k => match k with
  | _ => .int
theorem nmX7 : ∀ a, a < 0 → ∀ b, b < 0 → a ≠ b → (TX7 a).2.1 ≠ (TX7 b).2.1 := by decide +kernel
theorem tyX7_ok : ∀ k, k < 0 → parseFieldDescriptor (TX7 k).2.2.1 = some (tyX7 k) := by decide +kernel
def RJx145de : String := "java/io/Serializable"
def TJx145de : u_T := fun k => match k with
  | _ => ("", "", "", false)
def tyJx145de : Nat → FieldType := fun k => match k with
  | _ => .int
theorem nmJx145de : ∀ a, a < 0 → ∀ b, b < 0 → a ≠ b → (TJx145de a).2.1 ≠ (TJx145de b).2.1 := by decide +kernel
theorem tyJx145de_ok : ∀ k, k < 0 → parseFieldDescriptor (TJx145de k).2.2.1 = some (tyJx145de k) := by decide +kernel
def RJx8e188 : String := "java/lang/Cloneable"
def TJx8e188 : u_T := fun k => match k with
  | _ => ("", "", "", false)
def tyJx8e188 : Nat → FieldType := fun k => match k with
  | _ => .int
theorem nmJx8e188 : ∀ a, a < 0 → ∀ b, b < 0 → a ≠ b → (TJx8e188 a).2.1 ≠ (TJx8e188 b).2.1 := by decide +kernel
theorem tyJx8e188_ok : ∀ k, k < 0 → parseFieldDescriptor (TJx8e188 k).2.2.1 = some (tyJx8e188 k) := by decide +kernel
def RJxab1ab : String := "java/lang/Iterable"
def TJxab1ab : u_T := fun k => match k with
  | _ => ("", "", "", false)
def tyJxab1ab : Nat → FieldType := fun k => match k with
  | _ => .int
theorem nmJxab1ab : ∀ a, a < 0 → ∀ b, b < 0 → a ≠ b → (TJxab1ab a).2.1 ≠ (TJxab1ab b).2.1 := by decide +kernel
theorem tyJxab1ab_ok : ∀ k, k < 0 → parseFieldDescriptor (TJxab1ab k).2.2.1 = some (tyJxab1ab k) := by decide +kernel
def RJ9 : String := "java/lang/Math"
def TJ9 : u_T := fun k => match k with
  | _ => ("", "", "", false)
def tyJ9 : Nat → FieldType := fun k => match k with
  | _ => .int
theorem nmJ9 : ∀ a, a < 0 → ∀ b, b < 0 → a ≠ b → (TJ9 a).2.1 ≠ (TJ9 b).2.1 := by decide +kernel
theorem tyJ9_ok : ∀ k, k < 0 → parseFieldDescriptor (TJ9 k).2.2.1 = some (tyJ9 k) := by decide +kernel
abbrev cJ9_floorMod_7cf53 : ByteArray := prog_17_method_50_code
def yJ9_floorMod_7cf53 : MethodName := ⟨RJ9, "floorMod", "(II)I"⟩
abbrev cJ9_max_7cf53 : ByteArray := prog_17_method_65_code
def yJ9_max_7cf53 : MethodName := ⟨RJ9, "max", "(II)I"⟩
abbrev cJ9_min_7cf53 : ByteArray := prog_17_method_69_code
def yJ9_min_7cf53 : MethodName := ⟨RJ9, "min", "(II)I"⟩
def RJ0 : String := "java/lang/String"
def TJ0 : u_T := fun k => match k with
  | _ => ("", "", "", false)
def tyJ0 : Nat → FieldType := fun k => match k with
  | _ => .int
theorem nmJ0 : ∀ a, a < 0 → ∀ b, b < 0 → a ≠ b → (TJ0 a).2.1 ≠ (TJ0 b).2.1 := by decide +kernel
theorem tyJ0_ok : ∀ k, k < 0 → parseFieldDescriptor (TJ0 k).2.2.1 = some (tyJ0 k) := by decide +kernel
def RJ10 : String := "java/lang/System"
def TJ10 : u_T := fun k => match k with
  | _ => ("", "", "", false)
def tyJ10 : Nat → FieldType := fun k => match k with
  | _ => .int
theorem nmJ10 : ∀ a, a < 0 → ∀ b, b < 0 → a ≠ b → (TJ10 a).2.1 ≠ (TJ10 b).2.1 := by decide +kernel
theorem tyJ10_ok : ∀ k, k < 0 → parseFieldDescriptor (TJ10 k).2.2.1 = some (tyJ10 k) := by decide +kernel
def RJxa1e45 : String := "java/util/AbstractCollection"
def TJxa1e45 : u_T := fun k => match k with
  | _ => ("", "", "", false)
def tyJxa1e45 : Nat → FieldType := fun k => match k with
  | _ => .int
theorem nmJxa1e45 : ∀ a, a < 0 → ∀ b, b < 0 → a ≠ b → (TJxa1e45 a).2.1 ≠ (TJxa1e45 b).2.1 := by decide +kernel
theorem tyJxa1e45_ok : ∀ k, k < 0 → parseFieldDescriptor (TJxa1e45 k).2.2.1 = some (tyJxa1e45 k) := by decide +kernel
abbrev cJxa1e45_init_da8c8 : ByteArray := prog_22_method_1_code
def yJxa1e45_init_da8c8 : MethodName := ⟨RJxa1e45, "<init>", "()V"⟩
def RJxc12de : String := "java/util/AbstractList"
def TJxc12de : u_T := fun k => match k with
  | _ => ("", "", "", false)
def tyJxc12de : Nat → FieldType := fun k => match k with
  | _ => .int
theorem nmJxc12de : ∀ a, a < 0 → ∀ b, b < 0 → a ≠ b → (TJxc12de a).2.1 ≠ (TJxc12de b).2.1 := by decide +kernel
theorem tyJxc12de_ok : ∀ k, k < 0 → parseFieldDescriptor (TJxc12de k).2.2.1 = some (tyJxc12de k) := by decide +kernel
abbrev cJxc12de_init_da8c8 : ByteArray := prog_23_method_1_code
def yJxc12de_init_da8c8 : MethodName := ⟨RJxc12de, "<init>", "()V"⟩
def RJx4a65c : String := "java/util/ArrayList"
def TJx4a65c : u_T := fun k => match k with
  | 0 => ("java/util/AbstractList", "modCount", "I", false)
  | 1 => ("java/util/ArrayList", "elementData", "[Ljava/lang/Object;", false)
  | _ => ("java/util/ArrayList", "size", "I", false)
def tyJx4a65c : Nat → FieldType := fun k => match k with
  | 0 => .int
  | 1 => .array (.object "java/lang/Object")
  | _ => .int
theorem nmJx4a65c : ∀ a, a < 3 → ∀ b, b < 3 → a ≠ b → (TJx4a65c a).2.1 ≠ (TJx4a65c b).2.1 := by decide +kernel
theorem tyJx4a65c_ok : ∀ k, k < 3 → parseFieldDescriptor (TJx4a65c k).2.2.1 = some (tyJx4a65c k) := by decide +kernel
abbrev cJx4a65c_init_da8c8 : ByteArray := prog_24_method_2_code
def yJx4a65c_init_da8c8 : MethodName := ⟨RJx4a65c, "<init>", "()V"⟩
abbrev cJx4a65c_grow_92f84 : ByteArray := prog_24_method_6_code
def yJx4a65c_grow_92f84 : MethodName := ⟨RJx4a65c, "grow", "(I)[Ljava/lang/Object;"⟩
abbrev cJx4a65c_grow_d5877 : ByteArray := prog_24_method_7_code
def yJx4a65c_grow_d5877 : MethodName := ⟨RJx4a65c, "grow", "()[Ljava/lang/Object;"⟩
abbrev cJx4a65c_size_8abf5 : ByteArray := prog_24_method_8_code
def yJx4a65c_size_8abf5 : MethodName := ⟨RJx4a65c, "size", "()I"⟩
abbrev cJx4a65c_elementData_915e3 : ByteArray := prog_24_method_18_code
def yJx4a65c_elementData_915e3 : MethodName := ⟨RJx4a65c, "elementData", "(I)Ljava/lang/Object;"⟩
abbrev cJx4a65c_get_915e3 : ByteArray := prog_24_method_20_code
def yJx4a65c_get_915e3 : MethodName := ⟨RJx4a65c, "get", "(I)Ljava/lang/Object;"⟩
abbrev cJx4a65c_add_72be8 : ByteArray := prog_24_method_24_code
def yJx4a65c_add_72be8 : MethodName := ⟨RJx4a65c, "add", "(Ljava/lang/Object;[Ljava/lang/Object;I)V"⟩
abbrev cJx4a65c_add_9ea2d : ByteArray := prog_24_method_25_code
def yJx4a65c_add_9ea2d : MethodName := ⟨RJx4a65c, "add", "(Ljava/lang/Object;)Z"⟩
def RJ7 : String := "java/util/Arrays"
def TJ7 : u_T := fun k => match k with
  | _ => ("", "", "", false)
def tyJ7 : Nat → FieldType := fun k => match k with
  | _ => .int
theorem nmJ7 : ∀ a, a < 0 → ∀ b, b < 0 → a ≠ b → (TJ7 a).2.1 ≠ (TJ7 b).2.1 := by decide +kernel
theorem tyJ7_ok : ∀ k, k < 0 → parseFieldDescriptor (TJ7 k).2.2.1 = some (tyJ7 k) := by decide +kernel
abbrev cJ7_fill_53178 : ByteArray := prog_25_method_103_code
def yJ7_fill_53178 : MethodName := ⟨RJ7, "fill", "([II)V"⟩
abbrev cJ7_fill_7f8df : ByteArray := prog_25_method_113_code
def yJ7_fill_7f8df : MethodName := ⟨RJ7, "fill", "([DD)V"⟩
abbrev cJ7_copyOf_1904c : ByteArray := prog_25_method_119_code
def yJ7_copyOf_1904c : MethodName := ⟨RJ7, "copyOf", "([Ljava/lang/Object;I)[Ljava/lang/Object;"⟩
abbrev cJ7_copyOf_6403c : ByteArray := prog_25_method_120_code
def yJ7_copyOf_6403c : MethodName := ⟨RJ7, "copyOf", "([Ljava/lang/Object;ILjava/lang/Class;)[Ljava/lang/Object;"⟩
def RJx5ef63 : String := "java/util/Collection"
def TJx5ef63 : u_T := fun k => match k with
  | _ => ("", "", "", false)
def tyJx5ef63 : Nat → FieldType := fun k => match k with
  | _ => .int
theorem nmJx5ef63 : ∀ a, a < 0 → ∀ b, b < 0 → a ≠ b → (TJx5ef63 a).2.1 ≠ (TJx5ef63 b).2.1 := by decide +kernel
theorem tyJx5ef63_ok : ∀ k, k < 0 → parseFieldDescriptor (TJx5ef63 k).2.2.1 = some (tyJx5ef63 k) := by decide +kernel
def RJxbd725 : String := "java/util/List"
def TJxbd725 : u_T := fun k => match k with
  | _ => ("", "", "", false)
def tyJxbd725 : Nat → FieldType := fun k => match k with
  | _ => .int
theorem nmJxbd725 : ∀ a, a < 0 → ∀ b, b < 0 → a ≠ b → (TJxbd725 a).2.1 ≠ (TJxbd725 b).2.1 := by decide +kernel
theorem tyJxbd725_ok : ∀ k, k < 0 → parseFieldDescriptor (TJxbd725 k).2.2.1 = some (tyJxbd725 k) := by decide +kernel
def RJ15 : String := "java/util/Objects"
def TJ15 : u_T := fun k => match k with
  | _ => ("", "", "", false)
def tyJ15 : Nat → FieldType := fun k => match k with
  | _ => .int
theorem nmJ15 : ∀ a, a < 0 → ∀ b, b < 0 → a ≠ b → (TJ15 a).2.1 ≠ (TJ15 b).2.1 := by decide +kernel
theorem tyJ15_ok : ∀ k, k < 0 → parseFieldDescriptor (TJ15 k).2.2.1 = some (tyJ15 k) := by decide +kernel
abbrev cJ15_checkIndex_7cf53 : ByteArray := prog_28_method_17_code
def yJ15_checkIndex_7cf53 : MethodName := ⟨RJ15, "checkIndex", "(II)I"⟩
def RJxf0a74 : String := "java/util/RandomAccess"
def TJxf0a74 : u_T := fun k => match k with
  | _ => ("", "", "", false)
def tyJxf0a74 : Nat → FieldType := fun k => match k with
  | _ => .int
theorem nmJxf0a74 : ∀ a, a < 0 → ∀ b, b < 0 → a ≠ b → (TJxf0a74 a).2.1 ≠ (TJxf0a74 b).2.1 := by decide +kernel
theorem tyJxf0a74_ok : ∀ k, k < 0 → parseFieldDescriptor (TJxf0a74 k).2.2.1 = some (tyJxf0a74 k) := by decide +kernel
def RJxa66e6 : String := "java/util/SequencedCollection"
def TJxa66e6 : u_T := fun k => match k with
  | _ => ("", "", "", false)
def tyJxa66e6 : Nat → FieldType := fun k => match k with
  | _ => .int
theorem nmJxa66e6 : ∀ a, a < 0 → ∀ b, b < 0 → a ≠ b → (TJxa66e6 a).2.1 ≠ (TJxa66e6 b).2.1 := by decide +kernel
theorem tyJxa66e6_ok : ∀ k, k < 0 → parseFieldDescriptor (TJxa66e6 k).2.2.1 = some (tyJxa66e6 k) := by decide +kernel
def RJ8 : String := "jdk/internal/util/ArraysSupport"
def TJ8 : u_T := fun k => match k with
  | _ => ("", "", "", false)
def tyJ8 : Nat → FieldType := fun k => match k with
  | _ => .int
theorem nmJ8 : ∀ a, a < 0 → ∀ b, b < 0 → a ≠ b → (TJ8 a).2.1 ≠ (TJ8 b).2.1 := by decide +kernel
theorem tyJ8_ok : ∀ k, k < 0 → parseFieldDescriptor (TJ8 k).2.2.1 = some (tyJ8 k) := by decide +kernel
abbrev cJ8_newLength_cabcc : ByteArray := prog_31_method_27_code
def yJ8_newLength_cabcc : MethodName := ⟨RJ8, "newLength", "(III)I"⟩
abbrev cJ8_hugeLength_7cf53 : ByteArray := prog_31_method_28_code
def yJ8_hugeLength_7cf53 : MethodName := ⟨RJ8, "hugeLength", "(II)I"⟩
def RJ3 : String := "jdk/internal/util/Preconditions"
def TJ3 : u_T := fun k => match k with
  | _ => ("", "", "", false)
def tyJ3 : Nat → FieldType := fun k => match k with
  | _ => .int
theorem nmJ3 : ∀ a, a < 0 → ∀ b, b < 0 → a ≠ b → (TJ3 a).2.1 ≠ (TJ3 b).2.1 := by decide +kernel
theorem tyJ3_ok : ∀ k, k < 0 → parseFieldDescriptor (TJ3 k).2.2.1 = some (tyJ3 k) := by decide +kernel
abbrev cJ3_checkIndex_8e157 : ByteArray := prog_32_method_11_code
def yJ3_checkIndex_8e157 : MethodName := ⟨RJ3, "checkIndex", "(IILjava/util/function/BiFunction;)I"⟩
def RL : String := "TransitryLaw"
abbrev cL_cell : ByteArray := method_2_code
def yL_cell : MethodName := ⟨RL, "cell", "([II)I"⟩
abbrev cL_low : ByteArray := method_3_code
def yL_low : MethodName := ⟨RL, "low", "(II)I"⟩
abbrev cL_found : ByteArray := method_4_code
def yL_found : MethodName := ⟨RL, "found", "(LTransitry;I)I"⟩
abbrev cL_listed : ByteArray := method_5_code
def yL_listed : MethodName := ⟨RL, "listed", "(LTransitry;I)I"⟩
abbrev cL_written : ByteArray := method_6_code
def yL_written : MethodName := ⟨RL, "written", "(LTransitry;II)I"⟩
abbrev cL_whole : ByteArray := method_7_code
def yL_whole : MethodName := ⟨RL, "whole", "(J)J"⟩
abbrev cL_isWhole : ByteArray := method_8_code
def yL_isWhole : MethodName := ⟨RL, "isWhole", "(JJ)Z"⟩
abbrev cL_light : ByteArray := method_9_code
def yL_light : MethodName := ⟨RL, "light", "([III)J"⟩
abbrev cL_when : ByteArray := method_10_code
def yL_when : MethodName := ⟨RL, "when", "([JI)I"⟩
abbrev cL_many : ByteArray := method_11_code
def yL_many : MethodName := ⟨RL, "many", "([JII)I"⟩
abbrev cL_sum : ByteArray := method_12_code
def yL_sum : MethodName := ⟨RL, "sum", "([I[I[JII)J"⟩
abbrev cL_score : ByteArray := method_13_code
def yL_score : MethodName := ⟨RL, "score", "([I[I[JIIJI)J"⟩
abbrev cL_most : ByteArray := method_14_code
def yL_most : MethodName := ⟨RL, "most", "([I[I[JIJI)J"⟩
abbrev cL_isNear : ByteArray := method_15_code
def yL_isNear : MethodName := ⟨RL, "isNear", "(JJJ)Z"⟩
abbrev cL_asked : ByteArray := method_16_code
def yL_asked : MethodName := ⟨RL, "asked", "(LTransitry;[I[I[JI)Z"⟩
abbrev cL_law : ByteArray := code
def yL_law : MethodName := ⟨RL, "law", "([I)Z"⟩
abbrev vwCl : List vw_C := [(RJx4a65c, TJx4a65c, 3), (RX0, TX0, 4), (RX1, TX1, 2), (RX2, TX2, 3), (RX3, TX3, 4), (RX4, TX4, 6), (RX5, TX5, 6), (RX6, TX6, 6)]
