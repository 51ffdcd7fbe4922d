/-! ===== BEGIN words of one list among another's, by their places ===== -/
theorem goodIn_r {big : List Cond} (ws : List Cond) (ps : List Nat) (hp : ws = ps.filterMap (fun i => big[i]?)) (h : ws.all goodWord = true) : GoodIn big ws := by
  intro w hw
  have h1 := List.all_eq_true.mp h w hw
  rw [hp] at hw
  obtain ⟨i, -, hi⟩ := List.mem_filterMap.mp hw
  have hm : w ∈ big := by first | exact List.mem_of_getElem? hi | exact List.getElem?_mem hi
  exact ⟨hm, good_of_word h1⟩
theorem goodIn_app {big a b : List Cond} (ha : GoodIn big a) (hb : GoodIn big b) : GoodIn big (a ++ b) := fun w h => (List.mem_append.mp h).elim (ha w) (hb w)
theorem goodIn_ca {big a b : List Cond} {c : Cond} (ha : GoodIn big (c :: a)) (hb : GoodIn big b) : GoodIn big (c :: (a ++ b)) := fun w h => (List.mem_cons.mp h).elim (fun e => ha w (List.mem_cons.mpr (Or.inl e))) (fun h => (List.mem_append.mp h).elim (fun h => ha w (List.mem_cons.mpr (Or.inr h))) (hb w))
theorem goodIn_sub {big ws : List Cond} (hm : ∀ w ∈ ws, w ∈ big) (h : ws.all goodWord = true) : GoodIn big ws := fun w hw => ⟨hm w hw, good_of_word (List.all_eq_true.mp h w hw)⟩
/-! ===== END ===== -/

/-! ===== BEGIN printed: names, fields, word lists, decode rows ===== -/
def RX0 : String := "ParticleLines$Choice"
def TX0 : u_T := fun k => match k with
  | 0 => ("ParticleLines$Choice", "ancestors", "[I", true)
  | 1 => ("ParticleLines$Choice", "rests", "[J", true)
  | _ => ("ParticleLines$Choice", "noise", "I", false)
def tyX0 : Nat → FieldType := fun k => match k with
  | 0 => .array .int
  | 1 => .array .long
  | _ => .int
abbrev wsX00 : List Cond := u_ws RX0 TX0 3
theorem nmX0 : ∀ a, a < 3 → ∀ b, b < 3 → a ≠ b → (TX0 a).2.1 ≠ (TX0 b).2.1 := by decide +kernel
theorem tyX0_ok : ∀ k, k < 3 → parseFieldDescriptor (TX0 k).2.2.1 = some (tyX0 k) := by decide +kernel
abbrev cX0_init : ByteArray := prog_2_method_1_code
def yX0_init : MethodName := ⟨RX0, "<init>", "()V"⟩
abbrev cX0_chosenFor : ByteArray := prog_2_method_2_code
def yX0_chosenFor : MethodName := ⟨RX0, "chosenFor", "(I)I"⟩
abbrev cX0_noise : ByteArray := prog_2_method_3_code
def yX0_noise : MethodName := ⟨RX0, "noise", "()I"⟩
abbrev cX0_choose : ByteArray := prog_2_method_4_code
def yX0_choose : MethodName := ⟨RX0, "choose", "(ILParticleLines$Weights;II)V"⟩
abbrev cX0_chooseByOffset : ByteArray := prog_2_method_5_code
def yX0_chooseByOffset : MethodName := ⟨RX0, "chooseByOffset", "(LParticleLines$Weights;I)V"⟩
abbrev cX0_chooseByNoises : ByteArray := prog_2_method_6_code
def yX0_chooseByNoises : MethodName := ⟨RX0, "chooseByNoises", "(LParticleLines$Weights;)V"⟩
abbrev cX0_chooseByShares : ByteArray := prog_2_method_7_code
def yX0_chooseByShares : MethodName := ⟨RX0, "chooseByShares", "(LParticleLines$Weights;)V"⟩
abbrev cX0_restsAheadOf : ByteArray := prog_2_method_8_code
def yX0_restsAheadOf : MethodName := ⟨RX0, "restsAheadOf", "(IJ)I"⟩
def RX1 : String := "ParticleLines$Lineage"
def TX1 : u_T := fun k => match k with
  | 0 => ("ParticleLines$Lineage", "places", "LParticleLines$Row;", true)
  | 1 => ("ParticleLines$Lineage", "parents", "LParticleLines$Row;", true)
  | 2 => ("ParticleLines$Lineage", "origins", "LParticleLines$Row;", true)
  | 3 => ("ParticleLines$Lineage", "drifts", "LParticleLines$Row;", true)
  | 4 => ("ParticleLines$Lineage", "spreads", "LParticleLines$Row;", true)
  | 5 => ("ParticleLines$Lineage", "schemes", "LParticleLines$Row;", true)
  | 6 => ("ParticleLines$Lineage", "many", "I", false)
  | _ => ("ParticleLines$Lineage", "generations", "I", false)
def tyX1 : Nat → FieldType := fun k => match k with
  | 0 => .object "ParticleLines$Row"
  | 1 => .object "ParticleLines$Row"
  | 2 => .object "ParticleLines$Row"
  | 3 => .object "ParticleLines$Row"
  | 4 => .object "ParticleLines$Row"
  | 5 => .object "ParticleLines$Row"
  | 6 => .int
  | _ => .int
abbrev wsX10 : List Cond := u_ws RX1 TX1 8
theorem nmX1 : ∀ a, a < 8 → ∀ b, b < 8 → a ≠ b → (TX1 a).2.1 ≠ (TX1 b).2.1 := by decide +kernel
theorem tyX1_ok : ∀ k, k < 8 → parseFieldDescriptor (TX1 k).2.2.1 = some (tyX1 k) := by decide +kernel
abbrev cX1_init : ByteArray := prog_3_method_1_code
def yX1_init : MethodName := ⟨RX1, "<init>", "()V"⟩
abbrev cX1_copyLineage : ByteArray := prog_3_method_2_code
def yX1_copyLineage : MethodName := ⟨RX1, "copyLineage", "(LParticleLines$Lineage;)V"⟩
abbrev cX1_startWith : ByteArray := prog_3_method_3_code
def yX1_startWith : MethodName := ⟨RX1, "startWith", "(III)V"⟩
abbrev cX1_addMoved : ByteArray := prog_3_method_4_code
def yX1_addMoved : MethodName := ⟨RX1, "addMoved", "(II)V"⟩
abbrev cX1_addResampled : ByteArray := prog_3_method_5_code
def yX1_addResampled : MethodName := ⟨RX1, "addResampled", "(I)V"⟩
abbrev cX1_putParticle : ByteArray := prog_3_method_6_code
def yX1_putParticle : MethodName := ⟨RX1, "putParticle", "(III)V"⟩
abbrev cX1_many : ByteArray := prog_3_method_7_code
def yX1_many : MethodName := ⟨RX1, "many", "()I"⟩
abbrev cX1_generations : ByteArray := prog_3_method_8_code
def yX1_generations : MethodName := ⟨RX1, "generations", "()I"⟩
abbrev cX1_latest : ByteArray := prog_3_method_9_code
def yX1_latest : MethodName := ⟨RX1, "latest", "()I"⟩
abbrev cX1_placeIn : ByteArray := prog_3_method_10_code
def yX1_placeIn : MethodName := ⟨RX1, "placeIn", "(II)I"⟩
abbrev cX1_parentIn : ByteArray := prog_3_method_11_code
def yX1_parentIn : MethodName := ⟨RX1, "parentIn", "(II)I"⟩
abbrev cX1_originOf : ByteArray := prog_3_method_12_code
def yX1_originOf : MethodName := ⟨RX1, "originOf", "(I)I"⟩
abbrev cX1_driftOf : ByteArray := prog_3_method_13_code
def yX1_driftOf : MethodName := ⟨RX1, "driftOf", "(I)I"⟩
abbrev cX1_spreadOf : ByteArray := prog_3_method_14_code
def yX1_spreadOf : MethodName := ⟨RX1, "spreadOf", "(I)I"⟩
abbrev cX1_schemeOf : ByteArray := prog_3_method_15_code
def yX1_schemeOf : MethodName := ⟨RX1, "schemeOf", "(I)I"⟩
abbrev cX1_ancestorIn : ByteArray := prog_3_method_16_code
def yX1_ancestorIn : MethodName := ⟨RX1, "ancestorIn", "(II)I"⟩
abbrev cX1_howManyAreAncestors : ByteArray := prog_3_method_17_code
def yX1_howManyAreAncestors : MethodName := ⟨RX1, "howManyAreAncestors", "(I)I"⟩
abbrev cX1_howManyAt : ByteArray := prog_3_method_18_code
def yX1_howManyAt : MethodName := ⟨RX1, "howManyAt", "(II)I"⟩
abbrev cX1_howManyUnlikePlaces : ByteArray := prog_3_method_19_code
def yX1_howManyUnlikePlaces : MethodName := ⟨RX1, "howManyUnlikePlaces", "(I)I"⟩
abbrev cX1_isFirstAtItsPlace : ByteArray := prog_3_method_20_code
def yX1_isFirstAtItsPlace : MethodName := ⟨RX1, "isFirstAtItsPlace", "(II)Z"⟩
def RX2 : String := "ParticleLines$Row"
def TX2 : u_T := fun k => match k with
  | _ => ("ParticleLines$Row", "numbers", "[I", true)
def tyX2 : Nat → FieldType := fun k => match k with
  | _ => .array .int
abbrev wsX20 : List Cond := u_ws RX2 TX2 1
theorem nmX2 : ∀ a, a < 1 → ∀ b, b < 1 → a ≠ b → (TX2 a).2.1 ≠ (TX2 b).2.1 := by decide +kernel
theorem tyX2_ok : ∀ k, k < 1 → parseFieldDescriptor (TX2 k).2.2.1 = some (tyX2 k) := by decide +kernel
abbrev cX2_init : ByteArray := prog_4_method_1_code
def yX2_init : MethodName := ⟨RX2, "<init>", "(I)V"⟩
abbrev cX2_at : ByteArray := prog_4_method_2_code
def yX2_at : MethodName := ⟨RX2, "at", "(I)I"⟩
abbrev cX2_put : ByteArray := prog_4_method_3_code
def yX2_put : MethodName := ⟨RX2, "put", "(II)V"⟩
abbrev cX2_copyRow : ByteArray := prog_4_method_4_code
def yX2_copyRow : MethodName := ⟨RX2, "copyRow", "(LParticleLines$Row;)V"⟩
def RX3 : String := "ParticleLines$Script"
def TX3 : u_T := fun k => match k with
  | 0 => ("ParticleLines$Script", "characters", "[I", true)
  | 1 => ("ParticleLines$Script", "length", "I", false)
  | 2 => ("ParticleLines$Script", "start", "I", false)
  | 3 => ("ParticleLines$Script", "position", "I", false)
  | 4 => ("ParticleLines$Script", "kind", "I", false)
  | 5 => ("ParticleLines$Script", "first", "I", false)
  | 6 => ("ParticleLines$Script", "second", "I", false)
  | 7 => ("ParticleLines$Script", "ordersDone", "I", false)
  | 8 => ("ParticleLines$Script", "reason", "I", false)
  | _ => ("ParticleLines$Script", "cause", "I", false)
def tyX3 : Nat → FieldType := fun k => match k with
  | 0 => .array .int
  | 1 => .int
  | 2 => .int
  | 3 => .int
  | 4 => .int
  | 5 => .int
  | 6 => .int
  | 7 => .int
  | 8 => .int
  | _ => .int
abbrev wsX30 : List Cond := u_ws RX3 TX3 10
theorem nmX3 : ∀ a, a < 10 → ∀ b, b < 10 → a ≠ b → (TX3 a).2.1 ≠ (TX3 b).2.1 := by decide +kernel
theorem tyX3_ok : ∀ k, k < 10 → parseFieldDescriptor (TX3 k).2.2.1 = some (tyX3 k) := by decide +kernel
abbrev cX3_init : ByteArray := prog_5_method_1_code
def yX3_init : MethodName := ⟨RX3, "<init>", "()V"⟩
abbrev cX3_length : ByteArray := prog_5_method_2_code
def yX3_length : MethodName := ⟨RX3, "length", "()I"⟩
def RX4 : String := "ParticleLines$State"
def TX4 : u_T := fun k => match k with
  | 0 => ("ParticleLines$State", "lineage", "LParticleLines$Lineage;", true)
  | 1 => ("ParticleLines$State", "weights", "LParticleLines$Weights;", true)
  | 2 => ("ParticleLines$State", "settings", "LParticleLines$Row;", true)
  | 3 => ("ParticleLines$State", "choice", "LParticleLines$Choice;", true)
  | 4 => ("ParticleLines$State", "noise", "I", false)
  | 5 => ("ParticleLines$State", "observations", "I", false)
  | _ => ("ParticleLines$State", "resamplings", "I", false)
def tyX4 : Nat → FieldType := fun k => match k with
  | 0 => .object "ParticleLines$Lineage"
  | 1 => .object "ParticleLines$Weights"
  | 2 => .object "ParticleLines$Row"
  | 3 => .object "ParticleLines$Choice"
  | 4 => .int
  | 5 => .int
  | _ => .int
abbrev wsX40 : List Cond := u_ws RX4 TX4 7
theorem nmX4 : ∀ a, a < 7 → ∀ b, b < 7 → a ≠ b → (TX4 a).2.1 ≠ (TX4 b).2.1 := by decide +kernel
theorem tyX4_ok : ∀ k, k < 7 → parseFieldDescriptor (TX4 k).2.2.1 = some (tyX4 k) := by decide +kernel
abbrev cX4_init : ByteArray := prog_6_method_1_code
def yX4_init : MethodName := ⟨RX4, "<init>", "(LParticleLines$Choice;)V"⟩
abbrev cX4_copyState : ByteArray := prog_6_method_2_code
def yX4_copyState : MethodName := ⟨RX4, "copyState", "(LParticleLines$State;)V"⟩
abbrev cX4_startAnew : ByteArray := prog_6_method_3_code
def yX4_startAnew : MethodName := ⟨RX4, "startAnew", "(III)V"⟩
abbrev cX4_beginAnew : ByteArray := prog_6_method_4_code
def yX4_beginAnew : MethodName := ⟨RX4, "beginAnew", "(III)I"⟩
abbrev cX4_changeWeight : ByteArray := prog_6_method_5_code
def yX4_changeWeight : MethodName := ⟨RX4, "changeWeight", "(II)I"⟩
abbrev cX4_shift : ByteArray := prog_6_method_6_code
def yX4_shift : MethodName := ⟨RX4, "shift", "(II)I"⟩
abbrev cX4_look : ByteArray := prog_6_method_7_code
def yX4_look : MethodName := ⟨RX4, "look", "(II)I"⟩
abbrev cX4_renew : ByteArray := prog_6_method_8_code
def yX4_renew : MethodName := ⟨RX4, "renew", "()I"⟩
abbrev cX4_putSetting : ByteArray := prog_6_method_9_code
def yX4_putSetting : MethodName := ⟨RX4, "putSetting", "(II)I"⟩
abbrev cX4_greatestSetting : ByteArray := prog_6_method_10_code
def yX4_greatestSetting : MethodName := ⟨RX4, "greatestSetting", "(I)I"⟩
abbrev cX4_hasParticle : ByteArray := prog_6_method_11_code
def yX4_hasParticle : MethodName := ⟨RX4, "hasParticle", "(I)Z"⟩
abbrev cX4_hasGeneration : ByteArray := prog_6_method_12_code
def yX4_hasGeneration : MethodName := ⟨RX4, "hasGeneration", "(I)Z"⟩
abbrev cX4_tellOfParticle : ByteArray := prog_6_method_13_code
def yX4_tellOfParticle : MethodName := ⟨RX4, "tellOfParticle", "(II)I"⟩
abbrev cX4_tellOfGeneration : ByteArray := prog_6_method_14_code
def yX4_tellOfGeneration : MethodName := ⟨RX4, "tellOfGeneration", "(II)I"⟩
abbrev cX4_number : ByteArray := prog_6_method_21_code
def yX4_number : MethodName := ⟨RX4, "number", "(I)I"⟩
def RX5 : String := "ParticleLines$Weights"
def TX5 : u_T := fun k => match k with
  | 0 => ("ParticleLines$Weights", "weights", "[I", true)
  | _ => ("ParticleLines$Weights", "many", "I", false)
def tyX5 : Nat → FieldType := fun k => match k with
  | 0 => .array .int
  | _ => .int
abbrev wsX50 : List Cond := u_ws RX5 TX5 2
theorem nmX5 : ∀ a, a < 2 → ∀ b, b < 2 → a ≠ b → (TX5 a).2.1 ≠ (TX5 b).2.1 := by decide +kernel
theorem tyX5_ok : ∀ k, k < 2 → parseFieldDescriptor (TX5 k).2.2.1 = some (tyX5 k) := by decide +kernel
abbrev cX5_init : ByteArray := prog_7_method_1_code
def yX5_init : MethodName := ⟨RX5, "<init>", "()V"⟩
abbrev cX5_copyWeights : ByteArray := prog_7_method_2_code
def yX5_copyWeights : MethodName := ⟨RX5, "copyWeights", "(LParticleLines$Weights;)V"⟩
abbrev cX5_makeEqual : ByteArray := prog_7_method_3_code
def yX5_makeEqual : MethodName := ⟨RX5, "makeEqual", "(I)V"⟩
abbrev cX5_weightOf : ByteArray := prog_7_method_4_code
def yX5_weightOf : MethodName := ⟨RX5, "weightOf", "(I)I"⟩
abbrev cX5_putWeight : ByteArray := prog_7_method_5_code
def yX5_putWeight : MethodName := ⟨RX5, "putWeight", "(II)V"⟩
abbrev cX5_reduce : ByteArray := prog_7_method_6_code
def yX5_reduce : MethodName := ⟨RX5, "reduce", "()Z"⟩
abbrev cX5_greatest : ByteArray := prog_7_method_7_code
def yX5_greatest : MethodName := ⟨RX5, "greatest", "()I"⟩
abbrev cX5_sum : ByteArray := prog_7_method_8_code
def yX5_sum : MethodName := ⟨RX5, "sum", "()J"⟩
abbrev cX5_effectiveCount : ByteArray := prog_7_method_9_code
def yX5_effectiveCount : MethodName := ⟨RX5, "effectiveCount", "()I"⟩
abbrev cX5_howManyAreZero : ByteArray := prog_7_method_10_code
def yX5_howManyAreZero : MethodName := ⟨RX5, "howManyAreZero", "()I"⟩
abbrev cX5_howManyAheadOf : ByteArray := prog_7_method_11_code
def yX5_howManyAheadOf : MethodName := ⟨RX5, "howManyAheadOf", "(I)I"⟩
abbrev cX5_firstAbove : ByteArray := prog_7_method_12_code
def yX5_firstAbove : MethodName := ⟨RX5, "firstAbove", "(J)I"⟩
def RX6 : String := "ParticleLines"
def TX6 : u_T := fun k => match k with
  | 0 => ("ParticleLines", "present", "LParticleLines$State;", false)
  | 1 => ("ParticleLines", "draft", "LParticleLines$State;", false)
  | 2 => ("ParticleLines", "latestPast", "LParticleLines$State;", false)
  | 3 => ("ParticleLines", "secondPast", "LParticleLines$State;", false)
  | 4 => ("ParticleLines", "thirdPast", "LParticleLines$State;", false)
  | 5 => ("ParticleLines", "oldestPast", "LParticleLines$State;", false)
  | 6 => ("ParticleLines", "recorded", "I", false)
  | _ => ("ParticleLines", "script", "LParticleLines$Script;", true)
def tyX6 : Nat → FieldType := fun k => match k with
  | 0 => .object "ParticleLines$State"
  | 1 => .object "ParticleLines$State"
  | 2 => .object "ParticleLines$State"
  | 3 => .object "ParticleLines$State"
  | 4 => .object "ParticleLines$State"
  | 5 => .object "ParticleLines$State"
  | 6 => .int
  | _ => .object "ParticleLines$Script"
abbrev wsX60 : List Cond := u_ws RX6 TX6 8
theorem nmX6 : ∀ a, a < 8 → ∀ b, b < 8 → a ≠ b → (TX6 a).2.1 ≠ (TX6 b).2.1 := by decide +kernel
theorem tyX6_ok : ∀ k, k < 8 → parseFieldDescriptor (TX6 k).2.2.1 = some (tyX6 k) := by decide +kernel
abbrev cX6_init : ByteArray := prog_1_method_1_code
def yX6_init : MethodName := ⟨RX6, "<init>", "()V"⟩
abbrev cX6_begin : ByteArray := prog_1_method_2_code
def yX6_begin : MethodName := ⟨RX6, "begin", "(III)I"⟩
abbrev cX6_weigh : ByteArray := prog_1_method_3_code
def yX6_weigh : MethodName := ⟨RX6, "weigh", "(II)I"⟩
abbrev cX6_move : ByteArray := prog_1_method_4_code
def yX6_move : MethodName := ⟨RX6, "move", "(II)I"⟩
abbrev cX6_observe : ByteArray := prog_1_method_5_code
def yX6_observe : MethodName := ⟨RX6, "observe", "(II)I"⟩
abbrev cX6_resample : ByteArray := prog_1_method_6_code
def yX6_resample : MethodName := ⟨RX6, "resample", "()I"⟩
abbrev cX6_set : ByteArray := prog_1_method_7_code
def yX6_set : MethodName := ⟨RX6, "set", "(II)I"⟩
abbrev cX6_particleOf : ByteArray := prog_1_method_8_code
def yX6_particleOf : MethodName := ⟨RX6, "particleOf", "(II)I"⟩
abbrev cX6_generationOf : ByteArray := prog_1_method_9_code
def yX6_generationOf : MethodName := ⟨RX6, "generationOf", "(II)I"⟩
abbrev cX6_count : ByteArray := prog_1_method_16_code
def yX6_count : MethodName := ⟨RX6, "count", "(I)I"⟩
abbrev cX6_keepDraftUnlessError : ByteArray := prog_1_method_22_code
def yX6_keepDraftUnlessError : MethodName := ⟨RX6, "keepDraftUnlessError", "(I)I"⟩
abbrev cX6_isWithin : ByteArray := prog_1_method_23_code
def yX6_isWithin : MethodName := ⟨RX6, "isWithin", "(III)Z"⟩
abbrev cX6_nearestPlace : ByteArray := prog_1_method_24_code
def yX6_nearestPlace : MethodName := ⟨RX6, "nearestPlace", "(I)I"⟩
abbrev cX6_noiseBehind : ByteArray := prog_1_method_25_code
def yX6_noiseBehind : MethodName := ⟨RX6, "noiseBehind", "(I)I"⟩
abbrev cX6_commonDivisor : ByteArray := prog_1_method_26_code
def yX6_commonDivisor : MethodName := ⟨RX6, "commonDivisor", "(JJ)J"⟩
abbrev cX6_partInLowestTerms : ByteArray := prog_1_method_27_code
def yX6_partInLowestTerms : MethodName := ⟨RX6, "partInLowestTerms", "(JJI)I"⟩
def RX7 : String := "ParticleLinesModel"
def TX7 : u_T := fun k => match k with
  | _ => ("", "", "", false)
def tyX7 : Nat → FieldType := fun k => match k with
  | _ => .int
abbrev wsX70 : List Cond := u_ws RX7 TX7 0
theorem nmX7 : ∀ a, a < 0 → ∀ b, b < 0 → a ≠ b → (TX7 a).2.1 ≠ (TX7 b).2.1 := by decide +kernel
theorem tyX7_ok : ∀ k, k < 0 → parseFieldDescriptor (TX7 k).2.2.1 = some (tyX7 k) := by decide +kernel
def RJ6 : String := "java/lang/Integer"
def TJ6 : u_T := fun k => match k with
  | _ => ("", "", "", false)
def tyJ6 : Nat → FieldType := fun k => match k with
  | _ => .int
abbrev wsJ60 : List Cond := u_ws RJ6 TJ6 0
theorem nmJ6 : ∀ a, a < 0 → ∀ b, b < 0 → a ≠ b → (TJ6 a).2.1 ≠ (TJ6 b).2.1 := by decide +kernel
theorem tyJ6_ok : ∀ k, k < 0 → parseFieldDescriptor (TJ6 k).2.2.1 = some (tyJ6 k) := by decide +kernel
abbrev cJ6_bitCount_0f7a4 : ByteArray := prog_10_method_49_code
def yJ6_bitCount_0f7a4 : MethodName := ⟨RJ6, "bitCount", "(I)I"⟩
def RJ9 : String := "java/lang/Math"
def TJ9 : u_T := fun k => match k with
  | _ => ("", "", "", false)
def tyJ9 : Nat → FieldType := fun k => match k with
  | _ => .int
abbrev wsJ90 : List Cond := u_ws RJ9 TJ9 0
theorem nmJ9 : ∀ a, a < 0 → ∀ b, b < 0 → a ≠ b → (TJ9 a).2.1 ≠ (TJ9 b).2.1 := by decide +kernel
theorem tyJ9_ok : ∀ k, k < 0 → parseFieldDescriptor (TJ9 k).2.2.1 = some (tyJ9 k) := by decide +kernel
abbrev cJ9_abs_0f7a4 : ByteArray := prog_11_method_59_code
def yJ9_abs_0f7a4 : MethodName := ⟨RJ9, "abs", "(I)I"⟩
abbrev cJ9_max_7cf53 : ByteArray := prog_11_method_65_code
def yJ9_max_7cf53 : MethodName := ⟨RJ9, "max", "(II)I"⟩
abbrev cJ9_min_7cf53 : ByteArray := prog_11_method_69_code
def yJ9_min_7cf53 : MethodName := ⟨RJ9, "min", "(II)I"⟩
def RL : String := "ParticleLinesLaw"
abbrev cL_cell : ByteArray := method_2_code
def yL_cell : MethodName := ⟨RL, "cell", "([II)I"⟩
abbrev cL_low : ByteArray := method_3_code
def yL_low : MethodName := ⟨RL, "low", "(II)I"⟩
abbrev cL_of : ByteArray := method_4_code
def yL_of : MethodName := ⟨RL, "of", "([JII)I"⟩
abbrev cL_put : ByteArray := method_5_code
def yL_put : MethodName := ⟨RL, "put", "([JIIII)V"⟩
abbrev cL_place : ByteArray := method_6_code
def yL_place : MethodName := ⟨RL, "place", "([I[JI)I"⟩
abbrev cL_begins : ByteArray := method_7_code
def yL_begins : MethodName := ⟨RL, "begins", "([I[I[I[JIII)V"⟩
abbrev cL_noise : ByteArray := method_8_code
def yL_noise : MethodName := ⟨RL, "noise", "([I)I"⟩
abbrev cL_all : ByteArray := method_9_code
def yL_all : MethodName := ⟨RL, "all", "([I[I)I"⟩
abbrev cL_counts : ByteArray := method_10_code
def yL_counts : MethodName := ⟨RL, "counts", "([I[I)I"⟩
abbrev cL_thins : ByteArray := method_11_code
def yL_thins : MethodName := ⟨RL, "thins", "([I[I)I"⟩
abbrev cL_choose : ByteArray := method_12_code
def yL_choose : MethodName := ⟨RL, "choose", "([I[II[I)V"⟩
abbrev cL_unlike : ByteArray := method_13_code
def yL_unlike : MethodName := ⟨RL, "unlike", "([II)I"⟩
abbrev cL_again : ByteArray := method_14_code
def yL_again : MethodName := ⟨RL, "again", "([I[I[I[J)I"⟩
abbrev cL_acts : ByteArray := method_15_code
def yL_acts : MethodName := ⟨RL, "acts", "(LParticleLines;[I[I[I[JI)Z"⟩
abbrev cL_isSo : ByteArray := method_16_code
def yL_isSo : MethodName := ⟨RL, "isSo", "(LParticleLines;[I[I[I[J)Z"⟩
abbrev cL_law : ByteArray := code
def yL_law : MethodName := ⟨RL, "law", "([I)Z"⟩
def wsL_law_r1 : List Cond := [Cond.classLink RL 52 RX6, Cond.instantiable RX6 8, Cond.initialized RX6, Cond.arrayClass .int, Cond.arrayClass .long, Cond.constant RL 8 (2147483647), Cond.constant RL 95 (-1000001), Cond.methodLink RL 103 yX6_init, Cond.instanceMethod yX6_init, Cond.code yX6_init cX6_init 2 none, Cond.methodLink RX6 1 objectInit, Cond.instanceMethod objectInit, Cond.code objectInit ⟨#[0xb1]⟩ 1 none, Cond.classLink RX6 7 RX0, Cond.instantiable RX0 3, Cond.initialized RX0, Cond.classLink RX6 10 RX4, Cond.instantiable RX4 7, Cond.initialized RX4, Cond.fieldLink RX6 15 "ParticleLines" "present" "LParticleLines$State;", Cond.fieldLink RX6 21 "ParticleLines" "draft" "LParticleLines$State;", Cond.fieldLink RX6 24 "ParticleLines" "latestPast" "LParticleLines$State;", Cond.fieldLink RX6 27 "ParticleLines" "secondPast" "LParticleLines$State;", Cond.fieldLink RX6 30 "ParticleLines" "thirdPast" "LParticleLines$State;"]
def wsL_law_r2 : List Cond := [Cond.fieldLink RX6 33 "ParticleLines" "oldestPast" "LParticleLines$State;", Cond.fieldLink RX6 36 "ParticleLines" "recorded" "I", Cond.classLink RX6 40 RX3, Cond.instantiable RX3 10, Cond.initialized RX3, Cond.fieldLink RX6 43 "ParticleLines" "script" "LParticleLines$Script;", Cond.methodLink RX6 9 yX0_init, Cond.instanceMethod yX0_init, Cond.code yX0_init cX0_init 1 none, Cond.methodLink RX0 3 objectInit, Cond.fieldLink RX0 9 "ParticleLines$Choice" "ancestors" "[I", Cond.fieldLink RX0 15 "ParticleLines$Choice" "rests" "[J", Cond.fieldLink RX0 19 "ParticleLines$Choice" "noise" "I", Cond.methodLink RX6 12 yX4_init, Cond.instanceMethod yX4_init, Cond.code yX4_init cX4_init 2 none, Cond.methodLink RX4 3 objectInit, Cond.classLink RX4 9 RX1, Cond.instantiable RX1 8, Cond.initialized RX1, Cond.fieldLink RX4 12 "ParticleLines$State" "lineage" "LParticleLines$Lineage;", Cond.classLink RX4 18 RX5, Cond.instantiable RX5 2, Cond.initialized RX5]
def wsL_law_r3 : List Cond := [Cond.fieldLink RX4 21 "ParticleLines$State" "weights" "LParticleLines$Weights;", Cond.classLink RX4 25 RX2, Cond.instantiable RX2 1, Cond.initialized RX2, Cond.fieldLink RX4 30 "ParticleLines$State" "settings" "LParticleLines$Row;", Cond.fieldLink RX4 34 "ParticleLines$State" "choice" "LParticleLines$Choice;", Cond.methodLink RX4 11 yX1_init, Cond.instanceMethod yX1_init, Cond.code yX1_init cX1_init 1 none, Cond.methodLink RX1 3 objectInit, Cond.classLink RX1 9 RX2, Cond.fieldLink RX1 14 "ParticleLines$Lineage" "places" "LParticleLines$Row;", Cond.fieldLink RX1 20 "ParticleLines$Lineage" "parents" "LParticleLines$Row;", Cond.fieldLink RX1 23 "ParticleLines$Lineage" "origins" "LParticleLines$Row;", Cond.fieldLink RX1 26 "ParticleLines$Lineage" "drifts" "LParticleLines$Row;", Cond.fieldLink RX1 29 "ParticleLines$Lineage" "spreads" "LParticleLines$Row;", Cond.fieldLink RX1 32 "ParticleLines$Lineage" "schemes" "LParticleLines$Row;", Cond.fieldLink RX1 35 "ParticleLines$Lineage" "many" "I", Cond.fieldLink RX1 39 "ParticleLines$Lineage" "generations" "I", Cond.methodLink RX1 11 yX2_init, Cond.instanceMethod yX2_init, Cond.code yX2_init cX2_init 2 none, Cond.methodLink RX2 1 objectInit, Cond.methodLink RX2 7 Lib.Math.max.name]
def wsL_law_r4 : List Cond := [Cond.static Lib.Math.max.name, Cond.initialized "java/lang/Math", Cond.code Lib.Math.max.name Lib.Math.max.code 2 (some .int), Cond.fieldLink RX2 13 "ParticleLines$Row" "numbers" "[I", Cond.methodLink RX4 20 yX5_init, Cond.instanceMethod yX5_init, Cond.code yX5_init cX5_init 1 none, Cond.methodLink RX5 3 objectInit, Cond.fieldLink RX5 9 "ParticleLines$Weights" "weights" "[I", Cond.fieldLink RX5 15 "ParticleLines$Weights" "many" "I", Cond.methodLink RX4 27 yX2_init, Cond.methodLink RX4 38 yX2_put, Cond.instanceMethod yX2_put, Cond.selects RX2 yX2_put yX2_put, Cond.code yX2_put cX2_put 3 none, Cond.methodLink RX4 42 yX4_startAnew, Cond.instanceMethod yX4_startAnew, Cond.selects RX4 yX4_startAnew yX4_startAnew, Cond.code yX4_startAnew cX4_startAnew 4 none, Cond.fieldLink RX4 58 "ParticleLines$State" "noise" "I", Cond.fieldLink RX4 62 "ParticleLines$State" "observations" "I", Cond.fieldLink RX4 65 "ParticleLines$State" "resamplings" "I", Cond.methodLink RX4 68 yX1_startWith, Cond.instanceMethod yX1_startWith]
def wsL_law_r5 : List Cond := [Cond.selects RX1 yX1_startWith yX1_startWith, Cond.code yX1_startWith cX1_startWith 5 none, Cond.methodLink RX1 46 yX2_put, Cond.static yX6_nearestPlace, Cond.code yX6_nearestPlace cX6_nearestPlace 1 (some .int), Cond.methodLink RX6 137 Lib.Math.min.name, Cond.static Lib.Math.min.name, Cond.code Lib.Math.min.name Lib.Math.min.code 2 (some .int), Cond.methodLink RX6 142 Lib.Math.max.name, Cond.methodLink RX4 71 yX5_makeEqual, Cond.instanceMethod yX5_makeEqual, Cond.selects RX5 yX5_makeEqual yX5_makeEqual, Cond.code yX5_makeEqual cX5_makeEqual 3 none, Cond.methodLink RX5 19 Lib.Math.min.name, Cond.methodLink RX5 25 Lib.Math.max.name, Cond.methodLink RX6 42 yX3_init, Cond.instanceMethod yX3_init, Cond.code yX3_init cX3_init 1 none, Cond.methodLink RX3 3 objectInit, Cond.fieldLink RX3 9 "ParticleLines$Script" "characters" "[I", Cond.methodLink RL 47 yL_begins, Cond.static yL_begins, Cond.initialized RL, Cond.code yL_begins cL_begins 8 none]
def wsL_law_r6 : List Cond := [Cond.methodLink RL 19 yL_put, Cond.static yL_put, Cond.code yL_put cL_put 6 none, Cond.constantLong RL 9 (65535), Cond.constantLong RL 11 (-1), Cond.methodLink RL 104 yL_isSo, Cond.static yL_isSo, Cond.code yL_isSo cL_isSo 21 (some .boolean), Cond.constant RL 94 (-1000004), Cond.methodLink RL 24 yL_all, Cond.static yL_all, Cond.code yL_all cL_all 4 (some .int), Cond.methodLink RL 69 yL_place, Cond.static yL_place, Cond.code yL_place cL_place 3 (some .int), Cond.methodLink RL 13 yL_of, Cond.static yL_of, Cond.code yL_of cL_of 3 (some .int), Cond.methodLink RL 91 yX6_particleOf, Cond.instanceMethod yX6_particleOf, Cond.selects RX6 yX6_particleOf yX6_particleOf, Cond.code yX6_particleOf cX6_particleOf 3 (some .int), Cond.constant RX6 84 (-1000001), Cond.methodLink RX6 76 yX4_hasParticle]
def wsL_law_r7 : List Cond := [Cond.instanceMethod yX4_hasParticle, Cond.selects RX4 yX4_hasParticle yX4_hasParticle, Cond.code yX4_hasParticle cX4_hasParticle 2 (some .boolean), Cond.methodLink RX4 107 yX1_many, Cond.instanceMethod yX1_many, Cond.selects RX1 yX1_many yX1_many, Cond.code yX1_many cX1_many 1 (some .int), Cond.static yX6_isWithin, Cond.code yX6_isWithin cX6_isWithin 3 (some .boolean), Cond.methodLink RX6 80 yX6_isWithin, Cond.methodLink RX6 85 yX4_tellOfParticle, Cond.instanceMethod yX4_tellOfParticle, Cond.selects RX4 yX4_tellOfParticle yX4_tellOfParticle, Cond.code yX4_tellOfParticle cX4_tellOfParticle 6 (some .int), Cond.constant RX4 163 (-1000004), Cond.methodLink RX4 101 yX1_latest, Cond.instanceMethod yX1_latest, Cond.selects RX1 yX1_latest yX1_latest, Cond.code yX1_latest cX1_latest 1 (some .int), Cond.methodLink RX4 113 yX1_placeIn, Cond.instanceMethod yX1_placeIn, Cond.selects RX1 yX1_placeIn yX1_placeIn, Cond.code yX1_placeIn cX1_placeIn 3 (some .int), Cond.methodLink RX1 58 yX2_at]
def wsL_law_r8 : List Cond := [Cond.instanceMethod yX2_at, Cond.selects RX2 yX2_at yX2_at, Cond.code yX2_at cX2_at 2 (some .int), Cond.methodLink RX4 96 yX5_weightOf, Cond.instanceMethod yX5_weightOf, Cond.selects RX5 yX5_weightOf yX5_weightOf, Cond.code yX5_weightOf cX5_weightOf 2 (some .int), Cond.methodLink RX4 164 yX1_parentIn, Cond.instanceMethod yX1_parentIn, Cond.selects RX1 yX1_parentIn yX1_parentIn, Cond.code yX1_parentIn cX1_parentIn 3 (some .int), Cond.methodLink RX4 167 yX1_howManyAt, Cond.instanceMethod yX1_howManyAt, Cond.selects RX1 yX1_howManyAt yX1_howManyAt, Cond.code yX1_howManyAt cX1_howManyAt 5 (some .int), Cond.methodLink RX1 70 yX1_placeIn, Cond.methodLink RX4 170 yX5_sum, Cond.instanceMethod yX5_sum, Cond.selects RX5 yX5_sum yX5_sum, Cond.code yX5_sum cX5_sum 4 (some .long), Cond.static yX6_partInLowestTerms, Cond.code yX6_partInLowestTerms cX6_partInLowestTerms 7 (some .int), Cond.methodLink RX6 146 yX6_commonDivisor, Cond.static yX6_commonDivisor]
def wsL_law_r9 : List Cond := [Cond.code yX6_commonDivisor cX6_commonDivisor 11 (some .long), Cond.methodLink RX4 178 yX5_howManyAheadOf, Cond.instanceMethod yX5_howManyAheadOf, Cond.selects RX5 yX5_howManyAheadOf yX5_howManyAheadOf, Cond.code yX5_howManyAheadOf cX5_howManyAheadOf 5 (some .int), Cond.methodLink RX5 32 yX5_weightOf, Cond.methodLink RL 96 yX6_count, Cond.instanceMethod yX6_count, Cond.selects RX6 yX6_count yX6_count, Cond.code yX6_count cX6_count 2 (some .int), Cond.methodLink RX6 113 yX3_length, Cond.instanceMethod yX3_length, Cond.selects RX3 yX3_length yX3_length, Cond.code yX3_length cX3_length 1 (some .int), Cond.fieldLink RX3 15 "ParticleLines$Script" "length" "I", Cond.methodLink RX6 116 yX4_number, Cond.instanceMethod yX4_number, Cond.selects RX4 yX4_number yX4_number, Cond.code yX4_number cX4_number 2 (some .int), Cond.constant RX4 78 (-1000001), Cond.methodLink RX4 79 yX1_generations, Cond.instanceMethod yX1_generations, Cond.selects RX1 yX1_generations yX1_generations, Cond.code yX1_generations cX1_generations 1 (some .int)]
def wsL_law_r10 : List Cond := [Cond.methodLink RX4 134 yX5_effectiveCount, Cond.instanceMethod yX5_effectiveCount, Cond.selects RX5 yX5_effectiveCount yX5_effectiveCount, Cond.code yX5_effectiveCount cX5_effectiveCount 8 (some .int), Cond.methodLink RX4 205 yX5_howManyAreZero, Cond.instanceMethod yX5_howManyAreZero, Cond.selects RX5 yX5_howManyAreZero yX5_howManyAreZero, Cond.code yX5_howManyAreZero cX5_howManyAreZero 3 (some .int), Cond.methodLink RX4 193 yX1_howManyUnlikePlaces, Cond.instanceMethod yX1_howManyUnlikePlaces, Cond.selects RX1 yX1_howManyUnlikePlaces yX1_howManyUnlikePlaces, Cond.code yX1_howManyUnlikePlaces cX1_howManyUnlikePlaces 4 (some .int), Cond.methodLink RX1 73 yX1_isFirstAtItsPlace, Cond.instanceMethod yX1_isFirstAtItsPlace, Cond.selects RX1 yX1_isFirstAtItsPlace yX1_isFirstAtItsPlace, Cond.code yX1_isFirstAtItsPlace cX1_isFirstAtItsPlace 5 (some .boolean), Cond.methodLink RX4 137 yX2_at, Cond.methodLink RL 77 yL_counts, Cond.static yL_counts, Cond.code yL_counts cL_counts 5 (some .int), Cond.methodLink RL 100 yX6_generationOf, Cond.instanceMethod yX6_generationOf, Cond.selects RX6 yX6_generationOf yX6_generationOf, Cond.code yX6_generationOf cX6_generationOf 3 (some .int)]
def wsL_law_r11 : List Cond := [Cond.methodLink RX6 88 yX4_hasGeneration, Cond.instanceMethod yX4_hasGeneration, Cond.selects RX4 yX4_hasGeneration yX4_hasGeneration, Cond.code yX4_hasGeneration cX4_hasGeneration 2 (some .boolean), Cond.methodLink RX6 91 yX4_tellOfGeneration, Cond.instanceMethod yX4_tellOfGeneration, Cond.selects RX4 yX4_tellOfGeneration yX4_tellOfGeneration, Cond.code yX4_tellOfGeneration cX4_tellOfGeneration 4 (some .int), Cond.methodLink RX4 181 yX1_originOf, Cond.instanceMethod yX1_originOf, Cond.selects RX1 yX1_originOf yX1_originOf, Cond.code yX1_originOf cX1_originOf 2 (some .int), Cond.methodLink RX4 184 yX1_driftOf, Cond.instanceMethod yX1_driftOf, Cond.selects RX1 yX1_driftOf yX1_driftOf, Cond.code yX1_driftOf cX1_driftOf 2 (some .int), Cond.methodLink RX4 187 yX1_spreadOf, Cond.instanceMethod yX1_spreadOf, Cond.selects RX1 yX1_spreadOf yX1_spreadOf, Cond.code yX1_spreadOf cX1_spreadOf 2 (some .int), Cond.methodLink RX4 190 yX1_schemeOf, Cond.instanceMethod yX1_schemeOf, Cond.selects RX1 yX1_schemeOf yX1_schemeOf, Cond.code yX1_schemeOf cX1_schemeOf 2 (some .int)]
def wsL_law_r12 : List Cond := [Cond.methodLink RX4 157 yX1_howManyAreAncestors, Cond.instanceMethod yX1_howManyAreAncestors, Cond.selects RX1 yX1_howManyAreAncestors yX1_howManyAreAncestors, Cond.code yX1_howManyAreAncestors cX1_howManyAreAncestors 4 (some .int), Cond.methodLink RX1 61 yX1_ancestorIn, Cond.instanceMethod yX1_ancestorIn, Cond.selects RX1 yX1_ancestorIn yX1_ancestorIn, Cond.code yX1_ancestorIn cX1_ancestorIn 5 (some .int), Cond.methodLink RX1 54 yX1_latest, Cond.methodLink RX1 65 yJ6_bitCount_0f7a4, Cond.static yJ6_bitCount_0f7a4, Cond.initialized RJ6, Cond.code yJ6_bitCount_0f7a4 cJ6_bitCount_0f7a4 1 (some .int), Cond.constant RJ6 265 (1431655765), Cond.constant RJ6 266 (858993459), Cond.constant RJ6 267 (252645135), Cond.methodLink RL 108 yL_cell, Cond.static yL_cell, Cond.code yL_cell cL_cell 2 (some .int), Cond.constant RL 7 (40503), Cond.methodLink RL 111 yL_acts, Cond.static yL_acts, Cond.code yL_acts cL_acts 14 (some .boolean), Cond.constant RL 42 (10000000)]
def wsL_law_r13 : List Cond := [Cond.constant RL 57 (1000001), Cond.constant RL 61 (-1000002), Cond.constant RL 68 (-1000003), Cond.constant RL 76 (1000000), Cond.methodLink RL 43 yL_low, Cond.static yL_low, Cond.code yL_low cL_low 2 (some .int), Cond.methodLink RL 51 yX6_begin, Cond.instanceMethod yX6_begin, Cond.selects RX6 yX6_begin yX6_begin, Cond.code yX6_begin cX6_begin 4 (some .int), Cond.methodLink RX6 47 yX4_copyState, Cond.instanceMethod yX4_copyState, Cond.selects RX4 yX4_copyState yX4_copyState, Cond.code yX4_copyState cX4_copyState 2 none, Cond.methodLink RX4 46 yX1_copyLineage, Cond.instanceMethod yX1_copyLineage, Cond.selects RX1 yX1_copyLineage yX1_copyLineage, Cond.code yX1_copyLineage cX1_copyLineage 2 none, Cond.methodLink RX1 42 yX2_copyRow, Cond.instanceMethod yX2_copyRow, Cond.selects RX2 yX2_copyRow yX2_copyRow, Cond.code yX2_copyRow cX2_copyRow 3 none, Cond.methodLink RX4 50 yX5_copyWeights]
def wsL_law_r14 : List Cond := [Cond.instanceMethod yX5_copyWeights, Cond.selects RX5 yX5_copyWeights yX5_copyWeights, Cond.code yX5_copyWeights cX5_copyWeights 3 none, Cond.methodLink RX4 54 yX2_copyRow, Cond.methodLink RX6 51 yX4_beginAnew, Cond.instanceMethod yX4_beginAnew, Cond.selects RX4 yX4_beginAnew yX4_beginAnew, Cond.code yX4_beginAnew cX4_beginAnew 5 (some .int), Cond.methodLink RX6 55 yX6_keepDraftUnlessError, Cond.instanceMethod yX6_keepDraftUnlessError, Cond.selects RX6 yX6_keepDraftUnlessError yX6_keepDraftUnlessError, Cond.code yX6_keepDraftUnlessError cX6_keepDraftUnlessError 3 (some .int), Cond.methodLink RL 58 yX6_weigh, Cond.instanceMethod yX6_weigh, Cond.selects RX6 yX6_weigh yX6_weigh, Cond.code yX6_weigh cX6_weigh 3 (some .int), Cond.methodLink RX6 59 yX4_changeWeight, Cond.instanceMethod yX4_changeWeight, Cond.selects RX4 yX4_changeWeight yX4_changeWeight, Cond.code yX4_changeWeight cX4_changeWeight 3 (some .int), Cond.constant RX4 87 (1000000), Cond.constant RX4 95 (-1000002), Cond.methodLink RX4 83 yX4_hasParticle, Cond.methodLink RX4 88 yX5_putWeight]
def wsL_law_r15 : List Cond := [Cond.instanceMethod yX5_putWeight, Cond.selects RX5 yX5_putWeight yX5_putWeight, Cond.code yX5_putWeight cX5_putWeight 3 none, Cond.methodLink RX4 91 yX5_reduce, Cond.instanceMethod yX5_reduce, Cond.selects RX5 yX5_reduce yX5_reduce, Cond.code yX5_reduce cX5_reduce 4 (some .boolean), Cond.methodLink RL 62 yL_thins, Cond.static yL_thins, Cond.code yL_thins cL_thins 7 (some .int), Cond.methodLink RL 65 yX6_move, Cond.instanceMethod yX6_move, Cond.selects RX6 yX6_move yX6_move, Cond.code yX6_move cX6_move 3 (some .int), Cond.methodLink RX6 63 yX4_shift, Cond.instanceMethod yX4_shift, Cond.selects RX4 yX4_shift yX4_shift, Cond.code yX4_shift cX4_shift 6 (some .int), Cond.constant RX4 100 (-1000003), Cond.methodLink RX4 104 yX1_addMoved, Cond.instanceMethod yX1_addMoved, Cond.selects RX1 yX1_addMoved yX1_addMoved, Cond.code yX1_addMoved cX1_addMoved 3 none, Cond.static yX6_noiseBehind]
def wsL_law_r16 : List Cond := [Cond.code yX6_noiseBehind cX6_noiseBehind 1 (some .int), Cond.constant RX6 145 (65537), Cond.methodLink RX4 120 yX1_putParticle, Cond.instanceMethod yX1_putParticle, Cond.selects RX1 yX1_putParticle yX1_putParticle, Cond.code yX1_putParticle cX1_putParticle 5 none, Cond.methodLink RL 30 yL_noise, Cond.static yL_noise, Cond.code yL_noise cL_noise 1 (some .int), Cond.constant RL 23 (65537), Cond.methodLink RL 73 yX6_observe, Cond.instanceMethod yX6_observe, Cond.selects RX6 yX6_observe yX6_observe, Cond.code yX6_observe cX6_observe 3 (some .int), Cond.methodLink RX6 66 yX4_look, Cond.instanceMethod yX4_look, Cond.selects RX4 yX4_look yX4_look, Cond.code yX4_look cX4_look 5 (some .int), Cond.methodLink RX4 123 Lib.Math.abs.name, Cond.static Lib.Math.abs.name, Cond.code Lib.Math.abs.name Lib.Math.abs.code 1 (some .int), Cond.methodLink RX4 128 Lib.Math.max.name, Cond.methodLink RX4 131 yX5_greatest, Cond.instanceMethod yX5_greatest]
def wsL_law_r17 : List Cond := [Cond.selects RX5 yX5_greatest yX5_greatest, Cond.code yX5_greatest cX5_greatest 3 (some .int), Cond.methodLink RX4 140 yX4_renew, Cond.instanceMethod yX4_renew, Cond.selects RX4 yX4_renew yX4_renew, Cond.code yX4_renew cX4_renew 5 (some .int), Cond.methodLink RX4 143 yX0_choose, Cond.instanceMethod yX0_choose, Cond.selects RX0 yX0_choose yX0_choose, Cond.code yX0_choose cX0_choose 5 none, Cond.methodLink RX0 23 yX0_chooseByOffset, Cond.instanceMethod yX0_chooseByOffset, Cond.selects RX0 yX0_chooseByOffset yX0_chooseByOffset, Cond.code yX0_chooseByOffset cX0_chooseByOffset 8 none, Cond.constantLong RX0 40 (100), Cond.methodLink RX0 34 yX5_sum, Cond.methodLink RX0 45 yX5_firstAbove, Cond.instanceMethod yX5_firstAbove, Cond.selects RX5 yX5_firstAbove yX5_firstAbove, Cond.code yX5_firstAbove cX5_firstAbove 6 (some .int), Cond.methodLink RX0 27 yX0_chooseByNoises, Cond.instanceMethod yX0_chooseByNoises, Cond.selects RX0 yX0_chooseByNoises yX0_chooseByNoises, Cond.code yX0_chooseByNoises cX0_chooseByNoises 5 none]
def wsL_law_r18 : List Cond := [Cond.methodLink RX0 31 yX0_chooseByShares, Cond.instanceMethod yX0_chooseByShares, Cond.selects RX0 yX0_chooseByShares yX0_chooseByShares, Cond.code yX0_chooseByShares cX0_chooseByShares 13 none, Cond.methodLink RX0 53 yX5_weightOf, Cond.methodLink RX0 56 yX0_restsAheadOf, Cond.instanceMethod yX0_restsAheadOf, Cond.selects RX0 yX0_restsAheadOf yX0_restsAheadOf, Cond.code yX0_restsAheadOf cX0_restsAheadOf 8 (some .int), Cond.methodLink RX4 149 yX1_addResampled, Cond.instanceMethod yX1_addResampled, Cond.selects RX1 yX1_addResampled yX1_addResampled, Cond.code yX1_addResampled cX1_addResampled 2 none, Cond.methodLink RX4 152 yX0_chosenFor, Cond.instanceMethod yX0_chosenFor, Cond.selects RX0 yX0_chosenFor yX0_chosenFor, Cond.code yX0_chosenFor cX0_chosenFor 2 (some .int), Cond.methodLink RX4 155 yX0_noise, Cond.instanceMethod yX0_noise, Cond.selects RX0 yX0_noise yX0_noise, Cond.code yX0_noise cX0_noise 1 (some .int), Cond.methodLink RL 80 yL_again, Cond.static yL_again, Cond.code yL_again cL_again 7 (some .int)]
def wsL_law_r19 : List Cond := [Cond.methodLink RL 34 yL_choose, Cond.static yL_choose, Cond.code yL_choose cL_choose 17 none, Cond.constantLong RL 28 (100), Cond.methodLink RL 38 yL_unlike, Cond.static yL_unlike, Cond.code yL_unlike cL_unlike 6 (some .int), Cond.methodLink RL 84 yX6_resample, Cond.instanceMethod yX6_resample, Cond.selects RX6 yX6_resample yX6_resample, Cond.code yX6_resample cX6_resample 1 (some .int), Cond.methodLink RX6 69 yX4_renew, Cond.methodLink RL 88 yX6_set, Cond.instanceMethod yX6_set, Cond.selects RX6 yX6_set yX6_set, Cond.code yX6_set cX6_set 3 (some .int), Cond.methodLink RX6 73 yX4_putSetting, Cond.instanceMethod yX4_putSetting, Cond.selects RX4 yX4_putSetting yX4_putSetting, Cond.code yX4_putSetting cX4_putSetting 4 (some .int), Cond.methodLink RX4 160 yX4_greatestSetting, Cond.static yX4_greatestSetting, Cond.code yX4_greatestSetting cX4_greatestSetting 1 (some .int)]
def wsL_law : List Cond := (wsL_law_r1 ++ (wsL_law_r2 ++ (wsL_law_r3 ++ (wsL_law_r4 ++ (wsL_law_r5 ++ (wsL_law_r6 ++ (wsL_law_r7 ++ (wsL_law_r8 ++ (wsL_law_r9 ++ (wsL_law_r10 ++ (wsL_law_r11 ++ (wsL_law_r12 ++ (wsL_law_r13 ++ (wsL_law_r14 ++ (wsL_law_r15 ++ (wsL_law_r16 ++ (wsL_law_r17 ++ (wsL_law_r18 ++ wsL_law_r19)))))))))))))))))) ++ wsX60 ++ wsX00 ++ wsX40 ++ wsX30 ++ wsX10 ++ wsX50 ++ wsX20 ++ ([] : List Cond)
theorem inlX0 : ∀ w ∈ wsX00, w ∈ wsL_law := fun _ h => List.mem_append_left _ (List.mem_append_left _ (List.mem_append_left _ (List.mem_append_left _ (List.mem_append_left _ (List.mem_append_left _ (List.mem_append_right _ h))))))
theorem inlX1 : ∀ w ∈ wsX10, w ∈ wsL_law := fun _ h => List.mem_append_left _ (List.mem_append_left _ (List.mem_append_left _ (List.mem_append_right _ h)))
theorem inlX2 : ∀ w ∈ wsX20, w ∈ wsL_law := fun _ h => List.mem_append_left _ (List.mem_append_right _ h)
theorem inlX3 : ∀ w ∈ wsX30, w ∈ wsL_law := fun _ h => List.mem_append_left _ (List.mem_append_left _ (List.mem_append_left _ (List.mem_append_left _ (List.mem_append_right _ h))))
theorem inlX4 : ∀ w ∈ wsX40, w ∈ wsL_law := fun _ h => List.mem_append_left _ (List.mem_append_left _ (List.mem_append_left _ (List.mem_append_left _ (List.mem_append_left _ (List.mem_append_right _ h)))))
theorem inlX5 : ∀ w ∈ wsX50, w ∈ wsL_law := fun _ h => List.mem_append_left _ (List.mem_append_left _ (List.mem_append_right _ h))
theorem inlX6 : ∀ w ∈ wsX60, w ∈ wsL_law := fun _ h => List.mem_append_left _ (List.mem_append_left _ (List.mem_append_left _ (List.mem_append_left _ (List.mem_append_left _ (List.mem_append_left _ (List.mem_append_left _ (List.mem_append_right _ h)))))))
theorem inJ6 : ∀ w ∈ wsJ60, w ∈ lw_tbl := by decide +kernel
theorem inJ9 : ∀ w ∈ wsJ90, w ∈ lw_tbl := by decide +kernel
abbrev vwCl : List vw_C := [(RX0, TX0, 3), (RX1, TX1, 8), (RX2, TX2, 1), (RX3, TX3, 10), (RX4, TX4, 7), (RX5, TX5, 2), (RX6, TX6, 8)]
/-! ===== END printed: names ===== -/

