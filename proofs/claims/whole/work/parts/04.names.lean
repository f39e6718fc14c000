/-! names: the words that all methods use (the tables' good ones), classes, methods -/
def gT : List Cond := lw_tbl.filter goodWord
theorem gT_good : ∀ w ∈ gT, (w.onTables && w.keeps) = true ∨ ∃ ty, w = .arrayClass ty := fun w h => good_of_word (List.mem_filter.mp h).2
theorem gT_tbl : ∀ w ∈ gT, w ∈ lw_tbl := fun w h => (List.mem_filter.mp h).1
def RP : String := "StairPlans"
def RT : String := "StairPlans$RuleText"
def RS : String := "StairPlans$RuleSet"
def RF : String := "StairPlans$FloorSet"
def RA : String := "StairPlans$Stair"
def RQ : String := "StairPlans$Fraction"
def RM : String := "StairPlansModel"
def RL : String := "StairPlansLaw"
def TP : u_T := fun k => match k with
  | 0 => ("StairPlans", "text", "LStairPlans$RuleText;", true)
  | 1 => ("StairPlans", "ruleSet", "LStairPlans$RuleSet;", false)
  | 2 => ("StairPlans", "spareRuleSet", "LStairPlans$RuleSet;", false)
  | 3 => ("StairPlans", "floorSet", "LStairPlans$FloorSet;", true)
  | 4 => ("StairPlans", "stair", "LStairPlans$Stair;", true)
  | 5 => ("StairPlans", "riseFraction", "LStairPlans$Fraction;", true)
  | 6 => ("StairPlans", "gapFraction", "LStairPlans$Fraction;", true)
  | 7 => ("StairPlans", "total", "J", false)
  | 8 => ("StairPlans", "planned", "Z", false)
  | _ => ("StairPlans", "gapFound", "Z", false)
def yP : Nat → FieldType := fun k => match k with
  | 0 => .object "StairPlans$RuleText"
  | 1 => .object "StairPlans$RuleSet"
  | 2 => .object "StairPlans$RuleSet"
  | 3 => .object "StairPlans$FloorSet"
  | 4 => .object "StairPlans$Stair"
  | 5 => .object "StairPlans$Fraction"
  | 6 => .object "StairPlans$Fraction"
  | 7 => .long
  | 8 => .boolean
  | _ => .boolean
theorem noP : ∀ a, a < 10 → ∀ b, b < 10 → a ≠ b → (TP a).2.1 ≠ (TP b).2.1 := by decide +kernel
theorem yoP : ∀ k, k < 10 → parseFieldDescriptor (TP k).2.2.1 = some (yP k) := by decide +kernel
def TT : u_T := fun k => match k with
  | 0 => ("StairPlans$RuleText", "characters", "[C", true)
  | 1 => ("StairPlans$RuleText", "length", "I", false)
  | _ => ("StairPlans$RuleText", "place", "I", false)
def yT : Nat → FieldType := fun k => match k with
  | 0 => .array .char
  | 1 => .int
  | _ => .int
theorem noT : ∀ a, a < 3 → ∀ b, b < 3 → a ≠ b → (TT a).2.1 ≠ (TT b).2.1 := by decide +kernel
theorem yoT : ∀ k, k < 3 → parseFieldDescriptor (TT k).2.2.1 = some (yT k) := by decide +kernel
def TS : u_T := fun k => match k with
  | 0 => ("StairPlans$RuleSet", "weights", "[I", true)
  | 1 => ("StairPlans$RuleSet", "relations", "[C", true)
  | 2 => ("StairPlans$RuleSet", "bounds", "[I", true)
  | _ => ("StairPlans$RuleSet", "count", "I", false)
def yS : Nat → FieldType := fun k => match k with
  | 0 => .array .int
  | 1 => .array .char
  | 2 => .array .int
  | _ => .int
theorem noS : ∀ a, a < 4 → ∀ b, b < 4 → a ≠ b → (TS a).2.1 ≠ (TS b).2.1 := by decide +kernel
theorem yoS : ∀ k, k < 4 → parseFieldDescriptor (TS k).2.2.1 = some (yS k) := by decide +kernel
def TF : u_T := fun k => match k with
  | 0 => ("StairPlans$FloorSet", "x0", "[J", true)
  | 1 => ("StairPlans$FloorSet", "y0", "[J", true)
  | 2 => ("StairPlans$FloorSet", "x1", "[J", true)
  | 3 => ("StairPlans$FloorSet", "y1", "[J", true)
  | 4 => ("StairPlans$FloorSet", "height", "[J", true)
  | _ => ("StairPlans$FloorSet", "count", "I", false)
def yF : Nat → FieldType := fun k => match k with
  | 0 => .array .long
  | 1 => .array .long
  | 2 => .array .long
  | 3 => .array .long
  | 4 => .array .long
  | _ => .int
theorem noF : ∀ a, a < 6 → ∀ b, b < 6 → a ≠ b → (TF a).2.1 ≠ (TF b).2.1 := by decide +kernel
theorem yoF : ∀ k, k < 6 → parseFieldDescriptor (TF k).2.2.1 = some (yF k) := by decide +kernel
def TA : u_T := fun k => match k with
  | 0 => ("StairPlans$Stair", "kind", "I", false)
  | 1 => ("StairPlans$Stair", "rises", "I", false)
  | 2 => ("StairPlans$Stair", "total", "J", false)
  | 3 => ("StairPlans$Stair", "going", "J", false)
  | 4 => ("StairPlans$Stair", "width", "J", false)
  | 5 => ("StairPlans$Stair", "cornerFrom", "I", false)
  | _ => ("StairPlans$Stair", "cornerTo", "I", false)
def yA : Nat → FieldType := fun k => match k with
  | 0 => .int
  | 1 => .int
  | 2 => .long
  | 3 => .long
  | 4 => .long
  | 5 => .int
  | _ => .int
theorem noA : ∀ a, a < 7 → ∀ b, b < 7 → a ≠ b → (TA a).2.1 ≠ (TA b).2.1 := by decide +kernel
theorem yoA : ∀ k, k < 7 → parseFieldDescriptor (TA k).2.2.1 = some (yA k) := by decide +kernel
def TQ : u_T := fun k => match k with
  | 0 => ("StairPlans$Fraction", "numerator", "J", false)
  | _ => ("StairPlans$Fraction", "denominator", "J", false)
def yQ : Nat → FieldType := fun k => match k with
  | 0 => .long
  | _ => .long
theorem noQ : ∀ a, a < 2 → ∀ b, b < 2 → a ≠ b → (TQ a).2.1 ≠ (TQ b).2.1 := by decide +kernel
theorem yoQ : ∀ k, k < 2 → parseFieldDescriptor (TQ k).2.2.1 = some (yQ k) := by decide +kernel
def TM : u_T := fun k => match k with
  | 0 => ("StairPlansModel", "code", "I", false)
  | 1 => ("StairPlansModel", "total", "J", false)
  | 2 => ("StairPlansModel", "typed", "[I", true)
  | 3 => ("StairPlansModel", "size", "I", false)
  | 4 => ("StairPlansModel", "at", "I", false)
  | 5 => ("StairPlansModel", "failed", "I", false)
  | 6 => ("StairPlansModel", "rules", "I", false)
  | 7 => ("StairPlansModel", "told", "[I", true)
  | 8 => ("StairPlansModel", "draft", "[I", true)
  | 9 => ("StairPlansModel", "planned", "Z", false)
  | 10 => ("StairPlansModel", "kind", "I", false)
  | 11 => ("StairPlansModel", "going", "J", false)
  | 12 => ("StairPlansModel", "width", "J", false)
  | 13 => ("StairPlansModel", "n", "I", false)
  | 14 => ("StairPlansModel", "gapped", "Z", false)
  | 15 => ("StairPlansModel", "gapAbove", "J", false)
  | 16 => ("StairPlansModel", "gapBelow", "J", false)
  | 17 => ("StairPlansModel", "floors", "I", false)
  | _ => ("StairPlansModel", "boxes", "[J", true)
def yM : Nat → FieldType := fun k => match k with
  | 0 => .int
  | 1 => .long
  | 2 => .array .int
  | 3 => .int
  | 4 => .int
  | 5 => .int
  | 6 => .int
  | 7 => .array .int
  | 8 => .array .int
  | 9 => .boolean
  | 10 => .int
  | 11 => .long
  | 12 => .long
  | 13 => .int
  | 14 => .boolean
  | 15 => .long
  | 16 => .long
  | 17 => .int
  | _ => .array .long
theorem noM : ∀ a, a < 19 → ∀ b, b < 19 → a ≠ b → (TM a).2.1 ≠ (TM b).2.1 := by decide +kernel
theorem yoM : ∀ k, k < 19 → parseFieldDescriptor (TM k).2.2.1 = some (yM k) := by decide +kernel
abbrev vCl : List vw_C := [(RP, TP, 10), (RT, TT, 3), (RS, TS, 4), (RF, TF, 6), (RA, TA, 7), (RQ, TQ, 2), (RM, TM, 19)]
abbrev bP_init : ByteArray := prog_1_method_1_code
def mP_init : MethodName := ⟨RP, "<init>", "()V"⟩
abbrev wP_init : List Cond := .code mP_init bP_init 1 none :: gT
abbrev bP_heights : ByteArray := prog_1_method_2_code
def mP_heights : MethodName := ⟨RP, "heights", "(J)Z"⟩
abbrev wP_heights : List Cond := .code mP_heights bP_heights 3 (some .boolean) :: gT
abbrev bP_unit : ByteArray := prog_1_method_3_code
def mP_unit : MethodName := ⟨RP, "unit", "(I)Z"⟩
abbrev wP_unit : List Cond := .code mP_unit bP_unit 2 (some .boolean) :: gT
abbrev bP_rules : ByteArray := prog_1_method_4_code
def mP_rules : MethodName := ⟨RP, "rules", "()I"⟩
abbrev wP_rules : List Cond := .code mP_rules bP_rules 4 (some .int) :: gT
abbrev bP_run : ByteArray := prog_1_method_5_code
def mP_run : MethodName := ⟨RP, "run", "(IJJ)I"⟩
abbrev wP_run : List Cond := .code mP_run bP_run 9 (some .int) :: gT
abbrev bP_rise : ByteArray := prog_1_method_6_code
def mP_rise : MethodName := ⟨RP, "rise", "(I)J"⟩
abbrev wP_rise : List Cond := .code mP_rise bP_rise 2 (some .long) :: gT
abbrev bP_step : ByteArray := prog_1_method_7_code
def mP_step : MethodName := ⟨RP, "step", "(II)J"⟩
abbrev wP_step : List Cond := .code mP_step bP_step 3 (some .long) :: gT
abbrev bP_winder : ByteArray := prog_1_method_8_code
def mP_winder : MethodName := ⟨RP, "winder", "(II)J"⟩
abbrev wP_winder : List Cond := .code mP_winder bP_winder 3 (some .long) :: gT
abbrev bP_area : ByteArray := prog_1_method_9_code
def mP_area : MethodName := ⟨RP, "area", "(I)J"⟩
abbrev wP_area : List Cond := .code mP_area bP_area 2 (some .long) :: gT
abbrev bP_meets : ByteArray := prog_1_method_10_code
def mP_meets : MethodName := ⟨RP, "meets", "(I)Z"⟩
abbrev wP_meets : List Cond := .code mP_meets bP_meets 2 (some .boolean) :: gT
abbrev bP_floor : ByteArray := prog_1_method_11_code
def mP_floor : MethodName := ⟨RP, "floor", "(JJJJJ)Z"⟩
abbrev wP_floor : List Cond := .code mP_floor bP_floor 11 (some .boolean) :: gT
abbrev bP_headRoom : ByteArray := prog_1_method_12_code
def mP_headRoom : MethodName := ⟨RP, "headRoom", "()J"⟩
abbrev wP_headRoom : List Cond := .code mP_headRoom bP_headRoom 1 (some .long) :: gT
abbrev bP_string : ByteArray := prog_1_method_13_code
def mP_string : MethodName := ⟨RP, "string", "(I)J"⟩
abbrev wP_string : List Cond := .code mP_string bP_string 4 (some .long) :: gT
abbrev bP_balusters : ByteArray := prog_1_method_14_code
def mP_balusters : MethodName := ⟨RP, "balusters", "(JJ)I"⟩
abbrev wP_balusters : List Cond := .code mP_balusters bP_balusters 8 (some .int) :: gT
abbrev bP_gap : ByteArray := prog_1_method_15_code
def mP_gap : MethodName := ⟨RP, "gap", "(I)J"⟩
abbrev wP_gap : List Cond := .code mP_gap bP_gap 2 (some .long) :: gT
abbrev bP_list : ByteArray := prog_1_method_16_code
def mP_list : MethodName := ⟨RP, "list", "(I)I"⟩
abbrev wP_list : List Cond := .code mP_list bP_list 2 (some .int) :: gT
abbrev bP_forgetPlan : ByteArray := prog_1_method_17_code
def mP_forgetPlan : MethodName := ⟨RP, "forgetPlan", "()V"⟩
abbrev wP_forgetPlan : List Cond := .code mP_forgetPlan bP_forgetPlan 1 none :: gT
abbrev bP_requirePlan : ByteArray := prog_1_method_18_code
def mP_requirePlan : MethodName := ⟨RP, "requirePlan", "()V"⟩
abbrev wP_requirePlan : List Cond := .code mP_requirePlan bP_requirePlan 1 none :: gT
abbrev bP_requireWinders : ByteArray := prog_1_method_19_code
def mP_requireWinders : MethodName := ⟨RP, "requireWinders", "()V"⟩
abbrev wP_requireWinders : List Cond := .code mP_requireWinders bP_requireWinders 1 none :: gT
abbrev bP_requireIndex : ByteArray := prog_1_method_20_code
def mP_requireIndex : MethodName := ⟨RP, "requireIndex", "(II)V"⟩
abbrev wP_requireIndex : List Cond := .code mP_requireIndex bP_requireIndex 2 none :: gT
abbrev bP_fewestBalusters : ByteArray := prog_1_method_21_code
def mP_fewestBalusters : MethodName := ⟨RP, "fewestBalusters", "(JJJ)I"⟩
abbrev wP_fewestBalusters : List Cond := .code mP_fewestBalusters bP_fewestBalusters 11 (some .int) :: gT
abbrev bM_init : ByteArray := prog_8_method_1_code
def mM_init : MethodName := ⟨RM, "<init>", "()V"⟩
abbrev wM_init : List Cond := .code mM_init bM_init 1 none :: gT
abbrev bM_thrown : ByteArray := prog_8_method_2_code
def mM_thrown : MethodName := ⟨RM, "thrown", "()I"⟩
abbrev wM_thrown : List Cond := .code mM_thrown bM_thrown 1 (some .int) :: gT
abbrev bM_isIn : ByteArray := prog_8_method_3_code
def mM_isIn : MethodName := ⟨RM, "isIn", "(JJJ)Z"⟩
abbrev wM_isIn : List Cond := .code mM_isIn bM_isIn 6 (some .boolean) :: gT
abbrev bM_heights : ByteArray := prog_8_method_4_code
def mM_heights : MethodName := ⟨RM, "heights", "(J)Z"⟩
abbrev wM_heights : List Cond := .code mM_heights bM_heights 3 (some .boolean) :: gT
abbrev bM_unit : ByteArray := prog_8_method_5_code
def mM_unit : MethodName := ⟨RM, "unit", "(I)Z"⟩
abbrev wM_unit : List Cond := .code mM_unit bM_unit 3 (some .boolean) :: gT
abbrev bM_here : ByteArray := prog_8_method_6_code
def mM_here : MethodName := ⟨RM, "here", "()I"⟩
abbrev wM_here : List Cond := .code mM_here bM_here 1 (some .int) :: gT
abbrev bM_fail : ByteArray := prog_8_method_7_code
def mM_fail : MethodName := ⟨RM, "fail", "()V"⟩
abbrev wM_fail : List Cond := .code mM_fail bM_fail 1 none :: gT
abbrev bM_isDigit : ByteArray := prog_8_method_8_code
def mM_isDigit : MethodName := ⟨RM, "isDigit", "()Z"⟩
abbrev wM_isDigit : List Cond := .code mM_isDigit bM_isDigit 1 (some .boolean) :: gT
abbrev bM_readDigits : ByteArray := prog_8_method_9_code
def mM_readDigits : MethodName := ⟨RM, "readDigits", "(I)I"⟩
abbrev wM_readDigits : List Cond := .code mM_readDigits bM_readDigits 4 (some .int) :: gT
abbrev bM_letterOf : ByteArray := prog_8_method_10_code
def mM_letterOf : MethodName := ⟨RM, "letterOf", "(I)I"⟩
abbrev wM_letterOf : List Cond := .code mM_letterOf bM_letterOf 1 (some .int) :: gT
abbrev bM_readTerm : ByteArray := prog_8_method_11_code
def mM_readTerm : MethodName := ⟨RM, "readTerm", "(I)V"⟩
abbrev wM_readTerm : List Cond := .code mM_readTerm bM_readTerm 4 none :: gT
abbrev bM_readRule : ByteArray := prog_8_method_12_code
def mM_readRule : MethodName := ⟨RM, "readRule", "(I)V"⟩
abbrev wM_readRule : List Cond := .code mM_readRule bM_readRule 4 none :: gT
abbrev bM_rules : ByteArray := prog_8_method_13_code
def mM_rules : MethodName := ⟨RM, "rules", "()I"⟩
abbrev wM_rules : List Cond := .code mM_rules bM_rules 3 (some .int) :: gT
abbrev bM_holds : ByteArray := prog_8_method_14_code
def mM_holds : MethodName := ⟨RM, "holds", "(IJJI)Z"⟩
abbrev wM_holds : List Cond := .code mM_holds bM_holds 12 (some .boolean) :: gT
abbrev bM_holding : ByteArray := prog_8_method_15_code
def mM_holding : MethodName := ⟨RM, "holding", "(JJI)I"⟩
abbrev wM_holding : List Cond := .code mM_holding bM_holding 7 (some .int) :: gT
abbrev bM_run : ByteArray := prog_8_method_16_code
def mM_run : MethodName := ⟨RM, "run", "(IJJ)I"⟩
abbrev wM_run : List Cond := .code mM_run bM_run 10 (some .int) :: gT
abbrev bM_none : ByteArray := prog_8_method_17_code
def mM_none : MethodName := ⟨RM, "none", "()Z"⟩
abbrev wM_none : List Cond := .code mM_none bM_none 1 (some .boolean) :: gT
abbrev bM_common : ByteArray := prog_8_method_18_code
def mM_common : MethodName := ⟨RM, "common", "(JJ)J"⟩
abbrev wM_common : List Cond := .code mM_common bM_common 10 (some .long) :: gT
abbrev bM_rise : ByteArray := prog_8_method_19_code
def mM_rise : MethodName := ⟨RM, "rise", "(I)J"⟩
abbrev wM_rise : List Cond := .code mM_rise bM_rise 2 (some .long) :: gT
abbrev bM_before : ByteArray := prog_8_method_20_code
def mM_before : MethodName := ⟨RM, "before", "()I"⟩
abbrev wM_before : List Cond := .code mM_before bM_before 1 (some .int) :: gT
abbrev bM_inSquare : ByteArray := prog_8_method_21_code
def mM_inSquare : MethodName := ⟨RM, "inSquare", "()I"⟩
abbrev wM_inSquare : List Cond := .code mM_inSquare bM_inSquare 1 (some .int) :: gT
abbrev bM_sort : ByteArray := prog_8_method_22_code
def mM_sort : MethodName := ⟨RM, "sort", "(I)I"⟩
abbrev wM_sort : List Cond := .code mM_sort bM_sort 3 (some .int) :: gT
abbrev bM_side : ByteArray := prog_8_method_23_code
def mM_side : MethodName := ⟨RM, "side", "(II)J"⟩
abbrev wM_side : List Cond := .code mM_side bM_side 8 (some .long) :: gT
abbrev bM_step : ByteArray := prog_8_method_24_code
def mM_step : MethodName := ⟨RM, "step", "(II)J"⟩
abbrev wM_step : List Cond := .code mM_step bM_step 3 (some .long) :: gT
abbrev bM_noWinders : ByteArray := prog_8_method_25_code
def mM_noWinders : MethodName := ⟨RM, "noWinders", "()Z"⟩
abbrev wM_noWinders : List Cond := .code mM_noWinders bM_noWinders 1 (some .boolean) :: gT
abbrev bM_winder : ByteArray := prog_8_method_26_code
def mM_winder : MethodName := ⟨RM, "winder", "(II)J"⟩
abbrev wM_winder : List Cond := .code mM_winder bM_winder 7 (some .long) :: gT
abbrev bM_area : ByteArray := prog_8_method_27_code
def mM_area : MethodName := ⟨RM, "area", "(I)J"⟩
abbrev wM_area : List Cond := .code mM_area bM_area 2 (some .long) :: gT
abbrev bM_meets : ByteArray := prog_8_method_28_code
def mM_meets : MethodName := ⟨RM, "meets", "(I)Z"⟩
abbrev wM_meets : List Cond := .code mM_meets bM_meets 2 (some .boolean) :: gT
abbrev bM_isPlace : ByteArray := prog_8_method_29_code
def mM_isPlace : MethodName := ⟨RM, "isPlace", "(J)Z"⟩
abbrev wM_isPlace : List Cond := .code mM_isPlace bM_isPlace 2 (some .boolean) :: gT
abbrev bM_floor : ByteArray := prog_8_method_30_code
def mM_floor : MethodName := ⟨RM, "floor", "(JJJJJ)Z"⟩
abbrev wM_floor : List Cond := .code mM_floor bM_floor 12 (some .boolean) :: gT
abbrev bM_headRoom : ByteArray := prog_8_method_31_code
def mM_headRoom : MethodName := ⟨RM, "headRoom", "()J"⟩
abbrev wM_headRoom : List Cond := .code mM_headRoom bM_headRoom 8 (some .long) :: gT
abbrev bM_string : ByteArray := prog_8_method_32_code
def mM_string : MethodName := ⟨RM, "string", "(I)J"⟩
abbrev wM_string : List Cond := .code mM_string bM_string 13 (some .long) :: gT
abbrev bM_balusters : ByteArray := prog_8_method_33_code
def mM_balusters : MethodName := ⟨RM, "balusters", "(JJ)I"⟩
abbrev wM_balusters : List Cond := .code mM_balusters bM_balusters 13 (some .int) :: gT
abbrev bM_gap : ByteArray := prog_8_method_34_code
def mM_gap : MethodName := ⟨RM, "gap", "(I)J"⟩
abbrev wM_gap : List Cond := .code mM_gap bM_gap 2 (some .long) :: gT
abbrev bM_list : ByteArray := prog_8_method_35_code
def mM_list : MethodName := ⟨RM, "list", "(I)I"⟩
abbrev wM_list : List Cond := .code mM_list bM_list 2 (some .int) :: gT
abbrev bF_init : ByteArray := prog_2_method_1_code
def mF_init : MethodName := ⟨RF, "<init>", "()V"⟩
abbrev wF_init : List Cond := .code mF_init bF_init 1 none :: gT
abbrev bF_isPlace : ByteArray := prog_2_method_2_code
def mF_isPlace : MethodName := ⟨RF, "isPlace", "(J)Z"⟩
abbrev wF_isPlace : List Cond := .code mF_isPlace bF_isPlace 2 (some .boolean) :: gT
abbrev bF_isHeight : ByteArray := prog_2_method_3_code
def mF_isHeight : MethodName := ⟨RF, "isHeight", "(J)Z"⟩
abbrev wF_isHeight : List Cond := .code mF_isHeight bF_isHeight 2 (some .boolean) :: gT
abbrev bF_append : ByteArray := prog_2_method_4_code
def mF_append : MethodName := ⟨RF, "append", "(JJJJJ)Z"⟩
abbrev wF_append : List Cond := .code mF_append bF_append 11 (some .boolean) :: gT
abbrev bF_leastRoomTimesRises : ByteArray := prog_2_method_5_code
def mF_leastRoomTimesRises : MethodName := ⟨RF, "leastRoomTimesRises", "(LStairPlans$Stair;)J"⟩
abbrev wF_leastRoomTimesRises : List Cond := .code mF_leastRoomTimesRises bF_leastRoomTimesRises 6 (some .long) :: gT
abbrev bF_isOver : ByteArray := prog_2_method_6_code
def mF_isOver : MethodName := ⟨RF, "isOver", "(ILStairPlans$Stair;I)Z"⟩
abbrev wF_isOver : List Cond := .code mF_isOver bF_isOver 4 (some .boolean) :: gT
abbrev bQ_init : ByteArray := prog_3_method_1_code
def mQ_init : MethodName := ⟨RQ, "<init>", "()V"⟩
abbrev wQ_init : List Cond := .code mQ_init bQ_init 1 none :: gT
abbrev bQ_take : ByteArray := prog_3_method_2_code
def mQ_take : MethodName := ⟨RQ, "take", "(JJ)V"⟩
abbrev wQ_take : List Cond := .code mQ_take bQ_take 7 none :: gT
abbrev bQ_commonDivisor : ByteArray := prog_3_method_3_code
def mQ_commonDivisor : MethodName := ⟨RQ, "commonDivisor", "(JJ)J"⟩
abbrev wQ_commonDivisor : List Cond := .code mQ_commonDivisor bQ_commonDivisor 11 (some .long) :: gT
abbrev bS_init : ByteArray := prog_4_method_1_code
def mS_init : MethodName := ⟨RS, "<init>", "()V"⟩
abbrev wS_init : List Cond := .code mS_init bS_init 1 none :: gT
abbrev bS_clear : ByteArray := prog_4_method_2_code
def mS_clear : MethodName := ⟨RS, "clear", "()V"⟩
abbrev wS_clear : List Cond := .code mS_clear bS_clear 2 none :: gT
abbrev bS_addTerm : ByteArray := prog_4_method_3_code
def mS_addTerm : MethodName := ⟨RS, "addTerm", "(II)V"⟩
abbrev wS_addTerm : List Cond := .code mS_addTerm bS_addTerm 3 none :: gT
abbrev bS_close : ByteArray := prog_4_method_4_code
def mS_close : MethodName := ⟨RS, "close", "(CI)V"⟩
abbrev wS_close : List Cond := .code mS_close bS_close 3 none :: gT
abbrev bS_heldFromFirst : ByteArray := prog_4_method_5_code
def mS_heldFromFirst : MethodName := ⟨RS, "heldFromFirst", "(LStairPlans$Stair;)I"⟩
abbrev wS_heldFromFirst : List Cond := .code mS_heldFromFirst bS_heldFromFirst 3 (some .int) :: gT
abbrev bS_holds : ByteArray := prog_4_method_6_code
def mS_holds : MethodName := ⟨RS, "holds", "(ILStairPlans$Stair;)Z"⟩
abbrev wS_holds : List Cond := .code mS_holds bS_holds 7 (some .boolean) :: gT
abbrev bS_sumTimesRises : ByteArray := prog_4_method_7_code
def mS_sumTimesRises : MethodName := ⟨RS, "sumTimesRises", "(ILStairPlans$Stair;)J"⟩
abbrev wS_sumTimesRises : List Cond := .code mS_sumTimesRises bS_sumTimesRises 5 (some .long) :: gT
abbrev bT_init : ByteArray := prog_5_method_1_code
def mT_init : MethodName := ⟨RT, "<init>", "()V"⟩
abbrev wT_init : List Cond := .code mT_init bT_init 1 none :: gT
abbrev bT_append : ByteArray := prog_5_method_2_code
def mT_append : MethodName := ⟨RT, "append", "(I)Z"⟩
abbrev wT_append : List Cond := .code mT_append bT_append 2 (some .boolean) :: gT
abbrev bT_clear : ByteArray := prog_5_method_3_code
def mT_clear : MethodName := ⟨RT, "clear", "()V"⟩
abbrev wT_clear : List Cond := .code mT_clear bT_clear 1 none :: gT
abbrev bT_readInto : ByteArray := prog_5_method_4_code
def mT_readInto : MethodName := ⟨RT, "readInto", "(LStairPlans$RuleSet;)Z"⟩
abbrev wT_readInto : List Cond := .code mT_readInto bT_readInto 3 (some .boolean) :: gT
abbrev bT_readRule : ByteArray := prog_5_method_5_code
def mT_readRule : MethodName := ⟨RT, "readRule", "(LStairPlans$RuleSet;)Z"⟩
abbrev wT_readRule : List Cond := .code mT_readRule bT_readRule 4 (some .boolean) :: gT
abbrev bT_readSum : ByteArray := prog_5_method_6_code
def mT_readSum : MethodName := ⟨RT, "readSum", "(LStairPlans$RuleSet;)Z"⟩
abbrev wT_readSum : List Cond := .code mT_readSum bT_readSum 3 (some .boolean) :: gT
abbrev bT_readTerm : ByteArray := prog_5_method_7_code
def mT_readTerm : MethodName := ⟨RT, "readTerm", "(LStairPlans$RuleSet;)Z"⟩
abbrev wT_readTerm : List Cond := .code mT_readTerm bT_readTerm 4 (some .boolean) :: gT
abbrev bT_readNumber : ByteArray := prog_5_method_8_code
def mT_readNumber : MethodName := ⟨RT, "readNumber", "(I)I"⟩
abbrev wT_readNumber : List Cond := .code mT_readNumber bT_readNumber 5 (some .int) :: gT
abbrev bT_next : ByteArray := prog_5_method_9_code
def mT_next : MethodName := ⟨RT, "next", "()C"⟩
abbrev wT_next : List Cond := .code mT_next bT_next 1 (some .char) :: gT
abbrev bA_init : ByteArray := prog_6_method_1_code
def mA_init : MethodName := ⟨RA, "<init>", "()V"⟩
abbrev wA_init : List Cond := .code mA_init bA_init 1 none :: gT
abbrev bA_measure : ByteArray := prog_6_method_2_code
def mA_measure : MethodName := ⟨RA, "measure", "(IJJJ)V"⟩
abbrev wA_measure : List Cond := .code mA_measure bA_measure 8 none :: gT
abbrev bA_divide : ByteArray := prog_6_method_3_code
def mA_divide : MethodName := ⟨RA, "divide", "(I)V"⟩
abbrev wA_divide : List Cond := .code mA_divide bA_divide 2 none :: gT
abbrev bA_fewestRises : ByteArray := prog_6_method_4_code
def mA_fewestRises : MethodName := ⟨RA, "fewestRises", "()I"⟩
abbrev wA_fewestRises : List Cond := .code mA_fewestRises bA_fewestRises 1 (some .int) :: gT
abbrev bA_treads : ByteArray := prog_6_method_5_code
def mA_treads : MethodName := ⟨RA, "treads", "()I"⟩
abbrev wA_treads : List Cond := .code mA_treads bA_treads 1 (some .int) :: gT
abbrev bA_landings : ByteArray := prog_6_method_6_code
def mA_landings : MethodName := ⟨RA, "landings", "()I"⟩
abbrev wA_landings : List Cond := .code mA_landings bA_landings 1 (some .int) :: gT
abbrev bA_winders : ByteArray := prog_6_method_7_code
def mA_winders : MethodName := ⟨RA, "winders", "()I"⟩
abbrev wA_winders : List Cond := .code mA_winders bA_winders 1 (some .int) :: gT
abbrev bA_cornerX : ByteArray := prog_6_method_8_code
def mA_cornerX : MethodName := ⟨RA, "cornerX", "()J"⟩
abbrev wA_cornerX : List Cond := .code mA_cornerX bA_cornerX 1 (some .long) :: gT
abbrev bA_shape : ByteArray := prog_6_method_9_code
def mA_shape : MethodName := ⟨RA, "shape", "(I)I"⟩
abbrev wA_shape : List Cond := .code mA_shape bA_shape 2 (some .int) :: gT
abbrev bA_leastX : ByteArray := prog_6_method_10_code
def mA_leastX : MethodName := ⟨RA, "leastX", "(I)J"⟩
abbrev wA_leastX : List Cond := .code mA_leastX bA_leastX 2 (some .long) :: gT
abbrev bA_greatestX : ByteArray := prog_6_method_11_code
def mA_greatestX : MethodName := ⟨RA, "greatestX", "(I)J"⟩
abbrev wA_greatestX : List Cond := .code mA_greatestX bA_greatestX 2 (some .long) :: gT
abbrev bA_leastY : ByteArray := prog_6_method_12_code
def mA_leastY : MethodName := ⟨RA, "leastY", "(I)J"⟩
abbrev wA_leastY : List Cond := .code mA_leastY bA_leastY 2 (some .long) :: gT
abbrev bA_greatestY : ByteArray := prog_6_method_13_code
def mA_greatestY : MethodName := ⟨RA, "greatestY", "(I)J"⟩
abbrev wA_greatestY : List Cond := .code mA_greatestY bA_greatestY 2 (some .long) :: gT
abbrev bA_heightTimesRises : ByteArray := prog_6_method_14_code
def mA_heightTimesRises : MethodName := ⟨RA, "heightTimesRises", "(I)J"⟩
abbrev wA_heightTimesRises : List Cond := .code mA_heightTimesRises bA_heightTimesRises 2 (some .long) :: gT
abbrev bA_edgeXTimesThree : ByteArray := prog_6_method_15_code
def mA_edgeXTimesThree : MethodName := ⟨RA, "edgeXTimesThree", "(I)J"⟩
abbrev wA_edgeXTimesThree : List Cond := .code mA_edgeXTimesThree bA_edgeXTimesThree 2 (some .long) :: gT
abbrev bA_edgeYTimesThree : ByteArray := prog_6_method_16_code
def mA_edgeYTimesThree : MethodName := ⟨RA, "edgeYTimesThree", "(I)J"⟩
abbrev wA_edgeYTimesThree : List Cond := .code mA_edgeYTimesThree bA_edgeYTimesThree 2 (some .long) :: gT
abbrev bA_sixTimesWinderArea : ByteArray := prog_6_method_17_code
def mA_sixTimesWinderArea : MethodName := ⟨RA, "sixTimesWinderArea", "()J"⟩
abbrev wA_sixTimesWinderArea : List Cond := .code mA_sixTimesWinderArea bA_sixTimesWinderArea 1 (some .long) :: gT
abbrev bA_along : ByteArray := prog_6_method_18_code
def mA_along : MethodName := ⟨RA, "along", "()J"⟩
abbrev wA_along : List Cond := .code mA_along bA_along 1 (some .long) :: gT
abbrev bA_scaledStringSquare : ByteArray := prog_6_method_19_code
def mA_scaledStringSquare : MethodName := ⟨RA, "scaledStringSquare", "()J"⟩
abbrev wA_scaledStringSquare : List Cond := .code mA_scaledStringSquare bA_scaledStringSquare 5 (some .long) :: gT
abbrev bA_scaledSquare : ByteArray := prog_6_method_20_code
def mA_scaledSquare : MethodName := ⟨RA, "scaledSquare", "(J)J"⟩
abbrev wA_scaledSquare : List Cond := .code mA_scaledSquare bA_scaledSquare 3 (some .long) :: gT
abbrev bA_stringCutOff : ByteArray := prog_6_method_21_code
def mA_stringCutOff : MethodName := ⟨RA, "stringCutOff", "()J"⟩
abbrev wA_stringCutOff : List Cond := .code mA_stringCutOff bA_stringCutOff 8 (some .long) :: gT
abbrev bA_isStringWhole : ByteArray := prog_6_method_22_code
def mA_isStringWhole : MethodName := ⟨RA, "isStringWhole", "(J)Z"⟩
abbrev wA_isStringWhole : List Cond := .code mA_isStringWhole bA_isStringWhole 3 (some .boolean) :: gT
abbrev bL_heights : ByteArray := method_3_code
def mL_heights : MethodName := ⟨RL, "heights", "(LStairPlans;J[J)I"⟩
abbrev wL_heights : List Cond := .codeWith mL_heights bL_heights 5 (some .int) [(0, 16, 19, 13)] :: gT
abbrev bL_run : ByteArray := method_4_code
def mL_run : MethodName := ⟨RL, "run", "(LStairPlans;IJJ[J)I"⟩
abbrev wL_run : List Cond := .codeWith mL_run bL_run 8 (some .int) [(0, 13, 16, 19), (0, 13, 20, 13)] :: gT
abbrev bL_rise : ByteArray := method_5_code
def mL_rise : MethodName := ⟨RL, "rise", "(LStairPlans;I[J)I"⟩
abbrev wL_rise : List Cond := .codeWith mL_rise bL_rise 4 (some .int) [(0, 8, 11, 19), (0, 8, 14, 25)] :: gT
abbrev bL_step : ByteArray := method_6_code
def mL_step : MethodName := ⟨RL, "step", "(LStairPlans;II[J)I"⟩
abbrev wL_step : List Cond := .codeWith mL_step bL_step 5 (some .int) [(0, 9, 12, 19), (0, 9, 16, 25), (0, 9, 20, 13)] :: gT
abbrev bL_winder : ByteArray := method_7_code
def mL_winder : MethodName := ⟨RL, "winder", "(LStairPlans;II[J)I"⟩
abbrev wL_winder : List Cond := .codeWith mL_winder bL_winder 5 (some .int) [(0, 9, 12, 19), (0, 9, 16, 25)] :: gT
abbrev bL_area : ByteArray := method_8_code
def mL_area : MethodName := ⟨RL, "area", "(LStairPlans;I[J)I"⟩
abbrev wL_area : List Cond := .codeWith mL_area bL_area 4 (some .int) [(0, 8, 11, 19), (0, 8, 14, 25)] :: gT
abbrev bL_meets : ByteArray := method_9_code
def mL_meets : MethodName := ⟨RL, "meets", "(LStairPlans;I[J)I"⟩
abbrev wL_meets : List Cond := .codeWith mL_meets bL_meets 4 (some .int) [(0, 16, 19, 19), (0, 16, 22, 25)] :: gT
abbrev bL_floor : ByteArray := method_10_code
def mL_floor : MethodName := ⟨RL, "floor", "(LStairPlans;JJJJJ[J)I"⟩
abbrev wL_floor : List Cond := .codeWith mL_floor bL_floor 13 (some .int) [(0, 24, 27, 13)] :: gT
abbrev bL_headRoom : ByteArray := method_11_code
def mL_headRoom : MethodName := ⟨RL, "headRoom", "(LStairPlans;[J)I"⟩
abbrev wL_headRoom : List Cond := .codeWith mL_headRoom bL_headRoom 3 (some .int) [(0, 7, 10, 19)] :: gT
abbrev bL_string : ByteArray := method_12_code
def mL_string : MethodName := ⟨RL, "string", "(LStairPlans;I[J)I"⟩
abbrev wL_string : List Cond := .codeWith mL_string bL_string 4 (some .int) [(0, 8, 11, 19), (0, 8, 14, 25)] :: gT
abbrev bL_balusters : ByteArray := method_13_code
def mL_balusters : MethodName := ⟨RL, "balusters", "(LStairPlans;JJ[J)I"⟩
abbrev wL_balusters : List Cond := .codeWith mL_balusters bL_balusters 7 (some .int) [(0, 11, 14, 19), (0, 11, 18, 13)] :: gT
abbrev bL_gap : ByteArray := method_14_code
def mL_gap : MethodName := ⟨RL, "gap", "(LStairPlans;I[J)I"⟩
abbrev wL_gap : List Cond := .codeWith mL_gap bL_gap 4 (some .int) [(0, 8, 11, 19), (0, 8, 14, 25)] :: gT
abbrev bL_list : ByteArray := method_15_code
def mL_list : MethodName := ⟨RL, "list", "(LStairPlans;I[J)I"⟩
abbrev wL_list : List Cond := .codeWith mL_list bL_list 4 (some .int) [(0, 9, 12, 19), (0, 9, 15, 25)] :: gT
theorem ndP_init : mP_init.cls ≠ "java/lang/invoke/MethodHandle" ∧ mP_init.cls ≠ "java/lang/invoke/VarHandle" ∧ (parseMethodDescriptor mP_init.desc).map (fun d => d.parameters.length) = some 0 := by decide +kernel
theorem ndP_heights : mP_heights.cls ≠ "java/lang/invoke/MethodHandle" ∧ mP_heights.cls ≠ "java/lang/invoke/VarHandle" ∧ (parseMethodDescriptor mP_heights.desc).map (fun d => d.parameters.length) = some 1 := by decide +kernel
theorem ndP_unit : mP_unit.cls ≠ "java/lang/invoke/MethodHandle" ∧ mP_unit.cls ≠ "java/lang/invoke/VarHandle" ∧ (parseMethodDescriptor mP_unit.desc).map (fun d => d.parameters.length) = some 1 := by decide +kernel
theorem ndP_rules : mP_rules.cls ≠ "java/lang/invoke/MethodHandle" ∧ mP_rules.cls ≠ "java/lang/invoke/VarHandle" ∧ (parseMethodDescriptor mP_rules.desc).map (fun d => d.parameters.length) = some 0 := by decide +kernel
theorem ndP_run : mP_run.cls ≠ "java/lang/invoke/MethodHandle" ∧ mP_run.cls ≠ "java/lang/invoke/VarHandle" ∧ (parseMethodDescriptor mP_run.desc).map (fun d => d.parameters.length) = some 3 := by decide +kernel
theorem ndP_rise : mP_rise.cls ≠ "java/lang/invoke/MethodHandle" ∧ mP_rise.cls ≠ "java/lang/invoke/VarHandle" ∧ (parseMethodDescriptor mP_rise.desc).map (fun d => d.parameters.length) = some 1 := by decide +kernel
theorem ndP_step : mP_step.cls ≠ "java/lang/invoke/MethodHandle" ∧ mP_step.cls ≠ "java/lang/invoke/VarHandle" ∧ (parseMethodDescriptor mP_step.desc).map (fun d => d.parameters.length) = some 2 := by decide +kernel
theorem ndP_winder : mP_winder.cls ≠ "java/lang/invoke/MethodHandle" ∧ mP_winder.cls ≠ "java/lang/invoke/VarHandle" ∧ (parseMethodDescriptor mP_winder.desc).map (fun d => d.parameters.length) = some 2 := by decide +kernel
theorem ndP_area : mP_area.cls ≠ "java/lang/invoke/MethodHandle" ∧ mP_area.cls ≠ "java/lang/invoke/VarHandle" ∧ (parseMethodDescriptor mP_area.desc).map (fun d => d.parameters.length) = some 1 := by decide +kernel
theorem ndP_meets : mP_meets.cls ≠ "java/lang/invoke/MethodHandle" ∧ mP_meets.cls ≠ "java/lang/invoke/VarHandle" ∧ (parseMethodDescriptor mP_meets.desc).map (fun d => d.parameters.length) = some 1 := by decide +kernel
theorem ndP_floor : mP_floor.cls ≠ "java/lang/invoke/MethodHandle" ∧ mP_floor.cls ≠ "java/lang/invoke/VarHandle" ∧ (parseMethodDescriptor mP_floor.desc).map (fun d => d.parameters.length) = some 5 := by decide +kernel
theorem ndP_headRoom : mP_headRoom.cls ≠ "java/lang/invoke/MethodHandle" ∧ mP_headRoom.cls ≠ "java/lang/invoke/VarHandle" ∧ (parseMethodDescriptor mP_headRoom.desc).map (fun d => d.parameters.length) = some 0 := by decide +kernel
theorem ndP_string : mP_string.cls ≠ "java/lang/invoke/MethodHandle" ∧ mP_string.cls ≠ "java/lang/invoke/VarHandle" ∧ (parseMethodDescriptor mP_string.desc).map (fun d => d.parameters.length) = some 1 := by decide +kernel
theorem ndP_balusters : mP_balusters.cls ≠ "java/lang/invoke/MethodHandle" ∧ mP_balusters.cls ≠ "java/lang/invoke/VarHandle" ∧ (parseMethodDescriptor mP_balusters.desc).map (fun d => d.parameters.length) = some 2 := by decide +kernel
theorem ndP_gap : mP_gap.cls ≠ "java/lang/invoke/MethodHandle" ∧ mP_gap.cls ≠ "java/lang/invoke/VarHandle" ∧ (parseMethodDescriptor mP_gap.desc).map (fun d => d.parameters.length) = some 1 := by decide +kernel
theorem ndP_list : mP_list.cls ≠ "java/lang/invoke/MethodHandle" ∧ mP_list.cls ≠ "java/lang/invoke/VarHandle" ∧ (parseMethodDescriptor mP_list.desc).map (fun d => d.parameters.length) = some 1 := by decide +kernel
theorem ndP_forgetPlan : mP_forgetPlan.cls ≠ "java/lang/invoke/MethodHandle" ∧ mP_forgetPlan.cls ≠ "java/lang/invoke/VarHandle" ∧ (parseMethodDescriptor mP_forgetPlan.desc).map (fun d => d.parameters.length) = some 0 := by decide +kernel
theorem ndP_requirePlan : mP_requirePlan.cls ≠ "java/lang/invoke/MethodHandle" ∧ mP_requirePlan.cls ≠ "java/lang/invoke/VarHandle" ∧ (parseMethodDescriptor mP_requirePlan.desc).map (fun d => d.parameters.length) = some 0 := by decide +kernel
theorem ndP_requireWinders : mP_requireWinders.cls ≠ "java/lang/invoke/MethodHandle" ∧ mP_requireWinders.cls ≠ "java/lang/invoke/VarHandle" ∧ (parseMethodDescriptor mP_requireWinders.desc).map (fun d => d.parameters.length) = some 0 := by decide +kernel
theorem ndP_requireIndex : mP_requireIndex.cls ≠ "java/lang/invoke/MethodHandle" ∧ mP_requireIndex.cls ≠ "java/lang/invoke/VarHandle" ∧ (parseMethodDescriptor mP_requireIndex.desc).map (fun d => d.parameters.length) = some 2 := by decide +kernel
theorem ndP_fewestBalusters : mP_fewestBalusters.cls ≠ "java/lang/invoke/MethodHandle" ∧ mP_fewestBalusters.cls ≠ "java/lang/invoke/VarHandle" ∧ (parseMethodDescriptor mP_fewestBalusters.desc).map (fun d => d.parameters.length) = some 3 := by decide +kernel
theorem ndM_init : mM_init.cls ≠ "java/lang/invoke/MethodHandle" ∧ mM_init.cls ≠ "java/lang/invoke/VarHandle" ∧ (parseMethodDescriptor mM_init.desc).map (fun d => d.parameters.length) = some 0 := by decide +kernel
theorem ndM_thrown : mM_thrown.cls ≠ "java/lang/invoke/MethodHandle" ∧ mM_thrown.cls ≠ "java/lang/invoke/VarHandle" ∧ (parseMethodDescriptor mM_thrown.desc).map (fun d => d.parameters.length) = some 0 := by decide +kernel
theorem ndM_isIn : mM_isIn.cls ≠ "java/lang/invoke/MethodHandle" ∧ mM_isIn.cls ≠ "java/lang/invoke/VarHandle" ∧ (parseMethodDescriptor mM_isIn.desc).map (fun d => d.parameters.length) = some 3 := by decide +kernel
theorem ndM_heights : mM_heights.cls ≠ "java/lang/invoke/MethodHandle" ∧ mM_heights.cls ≠ "java/lang/invoke/VarHandle" ∧ (parseMethodDescriptor mM_heights.desc).map (fun d => d.parameters.length) = some 1 := by decide +kernel
theorem ndM_unit : mM_unit.cls ≠ "java/lang/invoke/MethodHandle" ∧ mM_unit.cls ≠ "java/lang/invoke/VarHandle" ∧ (parseMethodDescriptor mM_unit.desc).map (fun d => d.parameters.length) = some 1 := by decide +kernel
theorem ndM_here : mM_here.cls ≠ "java/lang/invoke/MethodHandle" ∧ mM_here.cls ≠ "java/lang/invoke/VarHandle" ∧ (parseMethodDescriptor mM_here.desc).map (fun d => d.parameters.length) = some 0 := by decide +kernel
theorem ndM_fail : mM_fail.cls ≠ "java/lang/invoke/MethodHandle" ∧ mM_fail.cls ≠ "java/lang/invoke/VarHandle" ∧ (parseMethodDescriptor mM_fail.desc).map (fun d => d.parameters.length) = some 0 := by decide +kernel
theorem ndM_isDigit : mM_isDigit.cls ≠ "java/lang/invoke/MethodHandle" ∧ mM_isDigit.cls ≠ "java/lang/invoke/VarHandle" ∧ (parseMethodDescriptor mM_isDigit.desc).map (fun d => d.parameters.length) = some 0 := by decide +kernel
theorem ndM_readDigits : mM_readDigits.cls ≠ "java/lang/invoke/MethodHandle" ∧ mM_readDigits.cls ≠ "java/lang/invoke/VarHandle" ∧ (parseMethodDescriptor mM_readDigits.desc).map (fun d => d.parameters.length) = some 1 := by decide +kernel
theorem ndM_letterOf : mM_letterOf.cls ≠ "java/lang/invoke/MethodHandle" ∧ mM_letterOf.cls ≠ "java/lang/invoke/VarHandle" ∧ (parseMethodDescriptor mM_letterOf.desc).map (fun d => d.parameters.length) = some 1 := by decide +kernel
theorem ndM_readTerm : mM_readTerm.cls ≠ "java/lang/invoke/MethodHandle" ∧ mM_readTerm.cls ≠ "java/lang/invoke/VarHandle" ∧ (parseMethodDescriptor mM_readTerm.desc).map (fun d => d.parameters.length) = some 1 := by decide +kernel
theorem ndM_readRule : mM_readRule.cls ≠ "java/lang/invoke/MethodHandle" ∧ mM_readRule.cls ≠ "java/lang/invoke/VarHandle" ∧ (parseMethodDescriptor mM_readRule.desc).map (fun d => d.parameters.length) = some 1 := by decide +kernel
theorem ndM_rules : mM_rules.cls ≠ "java/lang/invoke/MethodHandle" ∧ mM_rules.cls ≠ "java/lang/invoke/VarHandle" ∧ (parseMethodDescriptor mM_rules.desc).map (fun d => d.parameters.length) = some 0 := by decide +kernel
theorem ndM_holds : mM_holds.cls ≠ "java/lang/invoke/MethodHandle" ∧ mM_holds.cls ≠ "java/lang/invoke/VarHandle" ∧ (parseMethodDescriptor mM_holds.desc).map (fun d => d.parameters.length) = some 4 := by decide +kernel
theorem ndM_holding : mM_holding.cls ≠ "java/lang/invoke/MethodHandle" ∧ mM_holding.cls ≠ "java/lang/invoke/VarHandle" ∧ (parseMethodDescriptor mM_holding.desc).map (fun d => d.parameters.length) = some 3 := by decide +kernel
theorem ndM_run : mM_run.cls ≠ "java/lang/invoke/MethodHandle" ∧ mM_run.cls ≠ "java/lang/invoke/VarHandle" ∧ (parseMethodDescriptor mM_run.desc).map (fun d => d.parameters.length) = some 3 := by decide +kernel
theorem ndM_none : mM_none.cls ≠ "java/lang/invoke/MethodHandle" ∧ mM_none.cls ≠ "java/lang/invoke/VarHandle" ∧ (parseMethodDescriptor mM_none.desc).map (fun d => d.parameters.length) = some 0 := by decide +kernel
theorem ndM_common : mM_common.cls ≠ "java/lang/invoke/MethodHandle" ∧ mM_common.cls ≠ "java/lang/invoke/VarHandle" ∧ (parseMethodDescriptor mM_common.desc).map (fun d => d.parameters.length) = some 2 := by decide +kernel
theorem ndM_rise : mM_rise.cls ≠ "java/lang/invoke/MethodHandle" ∧ mM_rise.cls ≠ "java/lang/invoke/VarHandle" ∧ (parseMethodDescriptor mM_rise.desc).map (fun d => d.parameters.length) = some 1 := by decide +kernel
theorem ndM_before : mM_before.cls ≠ "java/lang/invoke/MethodHandle" ∧ mM_before.cls ≠ "java/lang/invoke/VarHandle" ∧ (parseMethodDescriptor mM_before.desc).map (fun d => d.parameters.length) = some 0 := by decide +kernel
theorem ndM_inSquare : mM_inSquare.cls ≠ "java/lang/invoke/MethodHandle" ∧ mM_inSquare.cls ≠ "java/lang/invoke/VarHandle" ∧ (parseMethodDescriptor mM_inSquare.desc).map (fun d => d.parameters.length) = some 0 := by decide +kernel
theorem ndM_sort : mM_sort.cls ≠ "java/lang/invoke/MethodHandle" ∧ mM_sort.cls ≠ "java/lang/invoke/VarHandle" ∧ (parseMethodDescriptor mM_sort.desc).map (fun d => d.parameters.length) = some 1 := by decide +kernel
theorem ndM_side : mM_side.cls ≠ "java/lang/invoke/MethodHandle" ∧ mM_side.cls ≠ "java/lang/invoke/VarHandle" ∧ (parseMethodDescriptor mM_side.desc).map (fun d => d.parameters.length) = some 2 := by decide +kernel
theorem ndM_step : mM_step.cls ≠ "java/lang/invoke/MethodHandle" ∧ mM_step.cls ≠ "java/lang/invoke/VarHandle" ∧ (parseMethodDescriptor mM_step.desc).map (fun d => d.parameters.length) = some 2 := by decide +kernel
theorem ndM_noWinders : mM_noWinders.cls ≠ "java/lang/invoke/MethodHandle" ∧ mM_noWinders.cls ≠ "java/lang/invoke/VarHandle" ∧ (parseMethodDescriptor mM_noWinders.desc).map (fun d => d.parameters.length) = some 0 := by decide +kernel
theorem ndM_winder : mM_winder.cls ≠ "java/lang/invoke/MethodHandle" ∧ mM_winder.cls ≠ "java/lang/invoke/VarHandle" ∧ (parseMethodDescriptor mM_winder.desc).map (fun d => d.parameters.length) = some 2 := by decide +kernel
theorem ndM_area : mM_area.cls ≠ "java/lang/invoke/MethodHandle" ∧ mM_area.cls ≠ "java/lang/invoke/VarHandle" ∧ (parseMethodDescriptor mM_area.desc).map (fun d => d.parameters.length) = some 1 := by decide +kernel
theorem ndM_meets : mM_meets.cls ≠ "java/lang/invoke/MethodHandle" ∧ mM_meets.cls ≠ "java/lang/invoke/VarHandle" ∧ (parseMethodDescriptor mM_meets.desc).map (fun d => d.parameters.length) = some 1 := by decide +kernel
theorem ndM_isPlace : mM_isPlace.cls ≠ "java/lang/invoke/MethodHandle" ∧ mM_isPlace.cls ≠ "java/lang/invoke/VarHandle" ∧ (parseMethodDescriptor mM_isPlace.desc).map (fun d => d.parameters.length) = some 1 := by decide +kernel
theorem ndM_floor : mM_floor.cls ≠ "java/lang/invoke/MethodHandle" ∧ mM_floor.cls ≠ "java/lang/invoke/VarHandle" ∧ (parseMethodDescriptor mM_floor.desc).map (fun d => d.parameters.length) = some 5 := by decide +kernel
theorem ndM_headRoom : mM_headRoom.cls ≠ "java/lang/invoke/MethodHandle" ∧ mM_headRoom.cls ≠ "java/lang/invoke/VarHandle" ∧ (parseMethodDescriptor mM_headRoom.desc).map (fun d => d.parameters.length) = some 0 := by decide +kernel
theorem ndM_string : mM_string.cls ≠ "java/lang/invoke/MethodHandle" ∧ mM_string.cls ≠ "java/lang/invoke/VarHandle" ∧ (parseMethodDescriptor mM_string.desc).map (fun d => d.parameters.length) = some 1 := by decide +kernel
theorem ndM_balusters : mM_balusters.cls ≠ "java/lang/invoke/MethodHandle" ∧ mM_balusters.cls ≠ "java/lang/invoke/VarHandle" ∧ (parseMethodDescriptor mM_balusters.desc).map (fun d => d.parameters.length) = some 2 := by decide +kernel
theorem ndM_gap : mM_gap.cls ≠ "java/lang/invoke/MethodHandle" ∧ mM_gap.cls ≠ "java/lang/invoke/VarHandle" ∧ (parseMethodDescriptor mM_gap.desc).map (fun d => d.parameters.length) = some 1 := by decide +kernel
theorem ndM_list : mM_list.cls ≠ "java/lang/invoke/MethodHandle" ∧ mM_list.cls ≠ "java/lang/invoke/VarHandle" ∧ (parseMethodDescriptor mM_list.desc).map (fun d => d.parameters.length) = some 1 := by decide +kernel
theorem ndF_init : mF_init.cls ≠ "java/lang/invoke/MethodHandle" ∧ mF_init.cls ≠ "java/lang/invoke/VarHandle" ∧ (parseMethodDescriptor mF_init.desc).map (fun d => d.parameters.length) = some 0 := by decide +kernel
theorem ndF_isPlace : mF_isPlace.cls ≠ "java/lang/invoke/MethodHandle" ∧ mF_isPlace.cls ≠ "java/lang/invoke/VarHandle" ∧ (parseMethodDescriptor mF_isPlace.desc).map (fun d => d.parameters.length) = some 1 := by decide +kernel
theorem ndF_isHeight : mF_isHeight.cls ≠ "java/lang/invoke/MethodHandle" ∧ mF_isHeight.cls ≠ "java/lang/invoke/VarHandle" ∧ (parseMethodDescriptor mF_isHeight.desc).map (fun d => d.parameters.length) = some 1 := by decide +kernel
theorem ndF_append : mF_append.cls ≠ "java/lang/invoke/MethodHandle" ∧ mF_append.cls ≠ "java/lang/invoke/VarHandle" ∧ (parseMethodDescriptor mF_append.desc).map (fun d => d.parameters.length) = some 5 := by decide +kernel
theorem ndF_leastRoomTimesRises : mF_leastRoomTimesRises.cls ≠ "java/lang/invoke/MethodHandle" ∧ mF_leastRoomTimesRises.cls ≠ "java/lang/invoke/VarHandle" ∧ (parseMethodDescriptor mF_leastRoomTimesRises.desc).map (fun d => d.parameters.length) = some 1 := by decide +kernel
theorem ndF_isOver : mF_isOver.cls ≠ "java/lang/invoke/MethodHandle" ∧ mF_isOver.cls ≠ "java/lang/invoke/VarHandle" ∧ (parseMethodDescriptor mF_isOver.desc).map (fun d => d.parameters.length) = some 3 := by decide +kernel
theorem ndQ_init : mQ_init.cls ≠ "java/lang/invoke/MethodHandle" ∧ mQ_init.cls ≠ "java/lang/invoke/VarHandle" ∧ (parseMethodDescriptor mQ_init.desc).map (fun d => d.parameters.length) = some 0 := by decide +kernel
theorem ndQ_take : mQ_take.cls ≠ "java/lang/invoke/MethodHandle" ∧ mQ_take.cls ≠ "java/lang/invoke/VarHandle" ∧ (parseMethodDescriptor mQ_take.desc).map (fun d => d.parameters.length) = some 2 := by decide +kernel
theorem ndQ_commonDivisor : mQ_commonDivisor.cls ≠ "java/lang/invoke/MethodHandle" ∧ mQ_commonDivisor.cls ≠ "java/lang/invoke/VarHandle" ∧ (parseMethodDescriptor mQ_commonDivisor.desc).map (fun d => d.parameters.length) = some 2 := by decide +kernel
theorem ndS_init : mS_init.cls ≠ "java/lang/invoke/MethodHandle" ∧ mS_init.cls ≠ "java/lang/invoke/VarHandle" ∧ (parseMethodDescriptor mS_init.desc).map (fun d => d.parameters.length) = some 0 := by decide +kernel
theorem ndS_clear : mS_clear.cls ≠ "java/lang/invoke/MethodHandle" ∧ mS_clear.cls ≠ "java/lang/invoke/VarHandle" ∧ (parseMethodDescriptor mS_clear.desc).map (fun d => d.parameters.length) = some 0 := by decide +kernel
theorem ndS_addTerm : mS_addTerm.cls ≠ "java/lang/invoke/MethodHandle" ∧ mS_addTerm.cls ≠ "java/lang/invoke/VarHandle" ∧ (parseMethodDescriptor mS_addTerm.desc).map (fun d => d.parameters.length) = some 2 := by decide +kernel
theorem ndS_close : mS_close.cls ≠ "java/lang/invoke/MethodHandle" ∧ mS_close.cls ≠ "java/lang/invoke/VarHandle" ∧ (parseMethodDescriptor mS_close.desc).map (fun d => d.parameters.length) = some 2 := by decide +kernel
theorem ndS_heldFromFirst : mS_heldFromFirst.cls ≠ "java/lang/invoke/MethodHandle" ∧ mS_heldFromFirst.cls ≠ "java/lang/invoke/VarHandle" ∧ (parseMethodDescriptor mS_heldFromFirst.desc).map (fun d => d.parameters.length) = some 1 := by decide +kernel
theorem ndS_holds : mS_holds.cls ≠ "java/lang/invoke/MethodHandle" ∧ mS_holds.cls ≠ "java/lang/invoke/VarHandle" ∧ (parseMethodDescriptor mS_holds.desc).map (fun d => d.parameters.length) = some 2 := by decide +kernel
theorem ndS_sumTimesRises : mS_sumTimesRises.cls ≠ "java/lang/invoke/MethodHandle" ∧ mS_sumTimesRises.cls ≠ "java/lang/invoke/VarHandle" ∧ (parseMethodDescriptor mS_sumTimesRises.desc).map (fun d => d.parameters.length) = some 2 := by decide +kernel
theorem ndT_init : mT_init.cls ≠ "java/lang/invoke/MethodHandle" ∧ mT_init.cls ≠ "java/lang/invoke/VarHandle" ∧ (parseMethodDescriptor mT_init.desc).map (fun d => d.parameters.length) = some 0 := by decide +kernel
theorem ndT_append : mT_append.cls ≠ "java/lang/invoke/MethodHandle" ∧ mT_append.cls ≠ "java/lang/invoke/VarHandle" ∧ (parseMethodDescriptor mT_append.desc).map (fun d => d.parameters.length) = some 1 := by decide +kernel
theorem ndT_clear : mT_clear.cls ≠ "java/lang/invoke/MethodHandle" ∧ mT_clear.cls ≠ "java/lang/invoke/VarHandle" ∧ (parseMethodDescriptor mT_clear.desc).map (fun d => d.parameters.length) = some 0 := by decide +kernel
theorem ndT_readInto : mT_readInto.cls ≠ "java/lang/invoke/MethodHandle" ∧ mT_readInto.cls ≠ "java/lang/invoke/VarHandle" ∧ (parseMethodDescriptor mT_readInto.desc).map (fun d => d.parameters.length) = some 1 := by decide +kernel
theorem ndT_readRule : mT_readRule.cls ≠ "java/lang/invoke/MethodHandle" ∧ mT_readRule.cls ≠ "java/lang/invoke/VarHandle" ∧ (parseMethodDescriptor mT_readRule.desc).map (fun d => d.parameters.length) = some 1 := by decide +kernel
theorem ndT_readSum : mT_readSum.cls ≠ "java/lang/invoke/MethodHandle" ∧ mT_readSum.cls ≠ "java/lang/invoke/VarHandle" ∧ (parseMethodDescriptor mT_readSum.desc).map (fun d => d.parameters.length) = some 1 := by decide +kernel
theorem ndT_readTerm : mT_readTerm.cls ≠ "java/lang/invoke/MethodHandle" ∧ mT_readTerm.cls ≠ "java/lang/invoke/VarHandle" ∧ (parseMethodDescriptor mT_readTerm.desc).map (fun d => d.parameters.length) = some 1 := by decide +kernel
theorem ndT_readNumber : mT_readNumber.cls ≠ "java/lang/invoke/MethodHandle" ∧ mT_readNumber.cls ≠ "java/lang/invoke/VarHandle" ∧ (parseMethodDescriptor mT_readNumber.desc).map (fun d => d.parameters.length) = some 1 := by decide +kernel
theorem ndT_next : mT_next.cls ≠ "java/lang/invoke/MethodHandle" ∧ mT_next.cls ≠ "java/lang/invoke/VarHandle" ∧ (parseMethodDescriptor mT_next.desc).map (fun d => d.parameters.length) = some 0 := by decide +kernel
theorem ndA_init : mA_init.cls ≠ "java/lang/invoke/MethodHandle" ∧ mA_init.cls ≠ "java/lang/invoke/VarHandle" ∧ (parseMethodDescriptor mA_init.desc).map (fun d => d.parameters.length) = some 0 := by decide +kernel
theorem ndA_measure : mA_measure.cls ≠ "java/lang/invoke/MethodHandle" ∧ mA_measure.cls ≠ "java/lang/invoke/VarHandle" ∧ (parseMethodDescriptor mA_measure.desc).map (fun d => d.parameters.length) = some 4 := by decide +kernel
theorem ndA_divide : mA_divide.cls ≠ "java/lang/invoke/MethodHandle" ∧ mA_divide.cls ≠ "java/lang/invoke/VarHandle" ∧ (parseMethodDescriptor mA_divide.desc).map (fun d => d.parameters.length) = some 1 := by decide +kernel
theorem ndA_fewestRises : mA_fewestRises.cls ≠ "java/lang/invoke/MethodHandle" ∧ mA_fewestRises.cls ≠ "java/lang/invoke/VarHandle" ∧ (parseMethodDescriptor mA_fewestRises.desc).map (fun d => d.parameters.length) = some 0 := by decide +kernel
theorem ndA_treads : mA_treads.cls ≠ "java/lang/invoke/MethodHandle" ∧ mA_treads.cls ≠ "java/lang/invoke/VarHandle" ∧ (parseMethodDescriptor mA_treads.desc).map (fun d => d.parameters.length) = some 0 := by decide +kernel
theorem ndA_landings : mA_landings.cls ≠ "java/lang/invoke/MethodHandle" ∧ mA_landings.cls ≠ "java/lang/invoke/VarHandle" ∧ (parseMethodDescriptor mA_landings.desc).map (fun d => d.parameters.length) = some 0 := by decide +kernel
theorem ndA_winders : mA_winders.cls ≠ "java/lang/invoke/MethodHandle" ∧ mA_winders.cls ≠ "java/lang/invoke/VarHandle" ∧ (parseMethodDescriptor mA_winders.desc).map (fun d => d.parameters.length) = some 0 := by decide +kernel
theorem ndA_cornerX : mA_cornerX.cls ≠ "java/lang/invoke/MethodHandle" ∧ mA_cornerX.cls ≠ "java/lang/invoke/VarHandle" ∧ (parseMethodDescriptor mA_cornerX.desc).map (fun d => d.parameters.length) = some 0 := by decide +kernel
theorem ndA_shape : mA_shape.cls ≠ "java/lang/invoke/MethodHandle" ∧ mA_shape.cls ≠ "java/lang/invoke/VarHandle" ∧ (parseMethodDescriptor mA_shape.desc).map (fun d => d.parameters.length) = some 1 := by decide +kernel
theorem ndA_leastX : mA_leastX.cls ≠ "java/lang/invoke/MethodHandle" ∧ mA_leastX.cls ≠ "java/lang/invoke/VarHandle" ∧ (parseMethodDescriptor mA_leastX.desc).map (fun d => d.parameters.length) = some 1 := by decide +kernel
theorem ndA_greatestX : mA_greatestX.cls ≠ "java/lang/invoke/MethodHandle" ∧ mA_greatestX.cls ≠ "java/lang/invoke/VarHandle" ∧ (parseMethodDescriptor mA_greatestX.desc).map (fun d => d.parameters.length) = some 1 := by decide +kernel
theorem ndA_leastY : mA_leastY.cls ≠ "java/lang/invoke/MethodHandle" ∧ mA_leastY.cls ≠ "java/lang/invoke/VarHandle" ∧ (parseMethodDescriptor mA_leastY.desc).map (fun d => d.parameters.length) = some 1 := by decide +kernel
theorem ndA_greatestY : mA_greatestY.cls ≠ "java/lang/invoke/MethodHandle" ∧ mA_greatestY.cls ≠ "java/lang/invoke/VarHandle" ∧ (parseMethodDescriptor mA_greatestY.desc).map (fun d => d.parameters.length) = some 1 := by decide +kernel
theorem ndA_heightTimesRises : mA_heightTimesRises.cls ≠ "java/lang/invoke/MethodHandle" ∧ mA_heightTimesRises.cls ≠ "java/lang/invoke/VarHandle" ∧ (parseMethodDescriptor mA_heightTimesRises.desc).map (fun d => d.parameters.length) = some 1 := by decide +kernel
theorem ndA_edgeXTimesThree : mA_edgeXTimesThree.cls ≠ "java/lang/invoke/MethodHandle" ∧ mA_edgeXTimesThree.cls ≠ "java/lang/invoke/VarHandle" ∧ (parseMethodDescriptor mA_edgeXTimesThree.desc).map (fun d => d.parameters.length) = some 1 := by decide +kernel
theorem ndA_edgeYTimesThree : mA_edgeYTimesThree.cls ≠ "java/lang/invoke/MethodHandle" ∧ mA_edgeYTimesThree.cls ≠ "java/lang/invoke/VarHandle" ∧ (parseMethodDescriptor mA_edgeYTimesThree.desc).map (fun d => d.parameters.length) = some 1 := by decide +kernel
theorem ndA_sixTimesWinderArea : mA_sixTimesWinderArea.cls ≠ "java/lang/invoke/MethodHandle" ∧ mA_sixTimesWinderArea.cls ≠ "java/lang/invoke/VarHandle" ∧ (parseMethodDescriptor mA_sixTimesWinderArea.desc).map (fun d => d.parameters.length) = some 0 := by decide +kernel
theorem ndA_along : mA_along.cls ≠ "java/lang/invoke/MethodHandle" ∧ mA_along.cls ≠ "java/lang/invoke/VarHandle" ∧ (parseMethodDescriptor mA_along.desc).map (fun d => d.parameters.length) = some 0 := by decide +kernel
theorem ndA_scaledStringSquare : mA_scaledStringSquare.cls ≠ "java/lang/invoke/MethodHandle" ∧ mA_scaledStringSquare.cls ≠ "java/lang/invoke/VarHandle" ∧ (parseMethodDescriptor mA_scaledStringSquare.desc).map (fun d => d.parameters.length) = some 0 := by decide +kernel
theorem ndA_scaledSquare : mA_scaledSquare.cls ≠ "java/lang/invoke/MethodHandle" ∧ mA_scaledSquare.cls ≠ "java/lang/invoke/VarHandle" ∧ (parseMethodDescriptor mA_scaledSquare.desc).map (fun d => d.parameters.length) = some 1 := by decide +kernel
theorem ndA_stringCutOff : mA_stringCutOff.cls ≠ "java/lang/invoke/MethodHandle" ∧ mA_stringCutOff.cls ≠ "java/lang/invoke/VarHandle" ∧ (parseMethodDescriptor mA_stringCutOff.desc).map (fun d => d.parameters.length) = some 0 := by decide +kernel
theorem ndA_isStringWhole : mA_isStringWhole.cls ≠ "java/lang/invoke/MethodHandle" ∧ mA_isStringWhole.cls ≠ "java/lang/invoke/VarHandle" ∧ (parseMethodDescriptor mA_isStringWhole.desc).map (fun d => d.parameters.length) = some 1 := by decide +kernel
theorem ndL_heights : mL_heights.cls ≠ "java/lang/invoke/MethodHandle" ∧ mL_heights.cls ≠ "java/lang/invoke/VarHandle" ∧ (parseMethodDescriptor mL_heights.desc).map (fun d => d.parameters.length) = some 3 := by decide +kernel
theorem ndL_run : mL_run.cls ≠ "java/lang/invoke/MethodHandle" ∧ mL_run.cls ≠ "java/lang/invoke/VarHandle" ∧ (parseMethodDescriptor mL_run.desc).map (fun d => d.parameters.length) = some 5 := by decide +kernel
theorem ndL_rise : mL_rise.cls ≠ "java/lang/invoke/MethodHandle" ∧ mL_rise.cls ≠ "java/lang/invoke/VarHandle" ∧ (parseMethodDescriptor mL_rise.desc).map (fun d => d.parameters.length) = some 3 := by decide +kernel
theorem ndL_step : mL_step.cls ≠ "java/lang/invoke/MethodHandle" ∧ mL_step.cls ≠ "java/lang/invoke/VarHandle" ∧ (parseMethodDescriptor mL_step.desc).map (fun d => d.parameters.length) = some 4 := by decide +kernel
theorem ndL_winder : mL_winder.cls ≠ "java/lang/invoke/MethodHandle" ∧ mL_winder.cls ≠ "java/lang/invoke/VarHandle" ∧ (parseMethodDescriptor mL_winder.desc).map (fun d => d.parameters.length) = some 4 := by decide +kernel
theorem ndL_area : mL_area.cls ≠ "java/lang/invoke/MethodHandle" ∧ mL_area.cls ≠ "java/lang/invoke/VarHandle" ∧ (parseMethodDescriptor mL_area.desc).map (fun d => d.parameters.length) = some 3 := by decide +kernel
theorem ndL_meets : mL_meets.cls ≠ "java/lang/invoke/MethodHandle" ∧ mL_meets.cls ≠ "java/lang/invoke/VarHandle" ∧ (parseMethodDescriptor mL_meets.desc).map (fun d => d.parameters.length) = some 3 := by decide +kernel
theorem ndL_floor : mL_floor.cls ≠ "java/lang/invoke/MethodHandle" ∧ mL_floor.cls ≠ "java/lang/invoke/VarHandle" ∧ (parseMethodDescriptor mL_floor.desc).map (fun d => d.parameters.length) = some 7 := by decide +kernel
theorem ndL_headRoom : mL_headRoom.cls ≠ "java/lang/invoke/MethodHandle" ∧ mL_headRoom.cls ≠ "java/lang/invoke/VarHandle" ∧ (parseMethodDescriptor mL_headRoom.desc).map (fun d => d.parameters.length) = some 2 := by decide +kernel
theorem ndL_string : mL_string.cls ≠ "java/lang/invoke/MethodHandle" ∧ mL_string.cls ≠ "java/lang/invoke/VarHandle" ∧ (parseMethodDescriptor mL_string.desc).map (fun d => d.parameters.length) = some 3 := by decide +kernel
theorem ndL_balusters : mL_balusters.cls ≠ "java/lang/invoke/MethodHandle" ∧ mL_balusters.cls ≠ "java/lang/invoke/VarHandle" ∧ (parseMethodDescriptor mL_balusters.desc).map (fun d => d.parameters.length) = some 4 := by decide +kernel
theorem ndL_gap : mL_gap.cls ≠ "java/lang/invoke/MethodHandle" ∧ mL_gap.cls ≠ "java/lang/invoke/VarHandle" ∧ (parseMethodDescriptor mL_gap.desc).map (fun d => d.parameters.length) = some 3 := by decide +kernel
theorem ndL_list : mL_list.cls ≠ "java/lang/invoke/MethodHandle" ∧ mL_list.cls ≠ "java/lang/invoke/VarHandle" ∧ (parseMethodDescriptor mL_list.desc).map (fun d => d.parameters.length) = some 3 := by decide +kernel
theorem cB {own : String} {index : Nat} {y : MethodName} {bytes : ByteArray} {maxL mc ms : Nat} {ret : Option FieldType} {rm R : Room} {args : Array Value} {s : State} (n : Nat) (hts : ∀ w ∈ gT, w.before args s = true) (hc : Cond.code y bytes maxL ret ∈ gT) (hi : Cond.initialized y.cls ∈ gT) (hl : Cond.methodLink own index y ∈ gT)
    (hd : y.cls ≠ "java/lang/invoke/MethodHandle" ∧ y.cls ≠ "java/lang/invoke/VarHandle" ∧ (parseMethodDescriptor y.desc).map (fun d => d.parameters.length) = some n) (hrc : rm.cells = mc) (hrs : rm.slots = ms) (hR : rm.frames + 1 ≤ R.frames ∧ 8 + (maxL + 11) + rm.locals ≤ R.locals) :
    CallB R s args own index y bytes maxL ret (Cond.code y bytes maxL ret :: gT) rm mc ms n :=
  callB_of n hts (fun w h => by
    rcases List.mem_cons.mp h with rfl | h
    · exact ⟨hc, gT_good _ hc⟩
    · exact ⟨h, gT_good _ h⟩) rfl hrc hrs (hts _ hi) (hts _ hl) hd hR
