def tt_G : u_T := fun k => match k with
  | 0 => ("StoneRings$Pairing", "costs", "[I", true)
  | 1 => ("StoneRings$Pairing", "partners", "[I", true)
  | 2 => ("StoneRings$Pairing", "size", "I", false)
  | _ => ("StoneRings$Pairing", "made", "Z", false)
def ty_G : Nat → FieldType := fun k => match k with
  | 0 => .array .int
  | 1 => .array .int
  | 2 => .int
  | _ => .boolean
theorem nm_G : ∀ a, a < 4 → ∀ b, b < 4 → a ≠ b → (tt_G a).2.1 ≠ (tt_G b).2.1 := by decide +kernel
theorem tyk_G : ∀ k, k < 4 → parseFieldDescriptor (tt_G k).2.2.1 = some (ty_G k) := by decide +kernel
def tt_P : u_T := fun k => match k with
  | 0 => ("StoneRings$Picture", "width", "I", true)
  | 1 => ("StoneRings$Picture", "height", "I", true)
  | 2 => ("StoneRings$Picture", "pixels", "[I", true)
  | 3 => ("StoneRings$Picture", "sum", "I", false)
  | 4 => ("StoneRings$Picture", "sumX", "I", false)
  | _ => ("StoneRings$Picture", "sumY", "I", false)
def ty_P : Nat → FieldType := fun k => match k with
  | 0 => .int
  | 1 => .int
  | 2 => .array .int
  | 3 => .int
  | 4 => .int
  | _ => .int
theorem nm_P : ∀ a, a < 6 → ∀ b, b < 6 → a ≠ b → (tt_P a).2.1 ≠ (tt_P b).2.1 := by decide +kernel
theorem tyk_P : ∀ k, k < 6 → parseFieldDescriptor (tt_P k).2.2.1 = some (ty_P k) := by decide +kernel
def tt_D : u_T := fun k => match k with
  | 0 => ("StoneRings$Readings", "counts", "[I", true)
  | 1 => ("StoneRings$Readings", "ranks", "[I", true)
  | _ => ("StoneRings$Readings", "size", "I", false)
def ty_D : Nat → FieldType := fun k => match k with
  | 0 => .array .int
  | 1 => .array .int
  | _ => .int
theorem nm_D : ∀ a, a < 3 → ∀ b, b < 3 → a ≠ b → (tt_D a).2.1 ≠ (tt_D b).2.1 := by decide +kernel
theorem tyk_D : ∀ k, k < 3 → parseFieldDescriptor (tt_D k).2.2.1 = some (ty_D k) := by decide +kernel
def tt_T : u_T := fun k => match k with
  | 0 => ("StoneRings$Trace", "values", "[I", true)
  | 1 => ("StoneRings$Trace", "evens", "[I", true)
  | 2 => ("StoneRings$Trace", "places", "[I", true)
  | 3 => ("StoneRings$Trace", "length", "I", false)
  | _ => ("StoneRings$Trace", "found", "I", false)
def ty_T : Nat → FieldType := fun k => match k with
  | 0 => .array .int
  | 1 => .array .int
  | 2 => .array .int
  | 3 => .int
  | _ => .int
theorem nm_T : ∀ a, a < 5 → ∀ b, b < 5 → a ≠ b → (tt_T a).2.1 ≠ (tt_T b).2.1 := by decide +kernel
theorem tyk_T : ∀ k, k < 5 → parseFieldDescriptor (tt_T k).2.2.1 = some (ty_T k) := by decide +kernel
def tt_S : u_T := fun k => match k with
  | 0 => ("StoneRings", "picture", "LStoneRings$Picture;", true)
  | 1 => ("StoneRings", "across", "[I", true)
  | 2 => ("StoneRings", "down", "[I", true)
  | 3 => ("StoneRings", "first", "LStoneRings$Trace;", true)
  | 4 => ("StoneRings", "second", "LStoneRings$Trace;", true)
  | 5 => ("StoneRings", "pairing", "LStoneRings$Pairing;", true)
  | 6 => ("StoneRings", "readings", "LStoneRings$Readings;", true)
  | 7 => ("StoneRings", "rayCount", "I", false)
  | 8 => ("StoneRings", "apartRule", "I", false)
  | _ => ("StoneRings", "highRule", "I", false)
def ty_S : Nat → FieldType := fun k => match k with
  | 0 => .object "StoneRings$Picture"
  | 1 => .array .int
  | 2 => .array .int
  | 3 => .object "StoneRings$Trace"
  | 4 => .object "StoneRings$Trace"
  | 5 => .object "StoneRings$Pairing"
  | 6 => .object "StoneRings$Readings"
  | 7 => .int
  | 8 => .int
  | _ => .int
theorem nm_S : ∀ a, a < 10 → ∀ b, b < 10 → a ≠ b → (tt_S a).2.1 ≠ (tt_S b).2.1 := by decide +kernel
theorem tyk_S : ∀ k, k < 10 → parseFieldDescriptor (tt_S k).2.2.1 = some (ty_S k) := by decide +kernel
def tt_M : u_T := fun k => match k with
  | 0 => ("StoneRingsModel", "thrown", "I", false)
  | 1 => ("StoneRingsModel", "wide", "I", true)
  | 2 => ("StoneRingsModel", "high", "I", true)
  | 3 => ("StoneRingsModel", "pixels", "[I", true)
  | 4 => ("StoneRingsModel", "rays", "I", false)
  | 5 => ("StoneRingsModel", "dxs", "[I", true)
  | 6 => ("StoneRingsModel", "dys", "[I", true)
  | 7 => ("StoneRingsModel", "apart", "I", false)
  | 8 => ("StoneRingsModel", "more", "I", false)
  | 9 => ("StoneRingsModel", "many", "I", false)
  | 10 => ("StoneRingsModel", "row", "[I", true)
  | 11 => ("StoneRingsModel", "even", "[I", true)
  | 12 => ("StoneRingsModel", "rings", "I", false)
  | 13 => ("StoneRingsModel", "places", "[I", true)
  | 14 => ("StoneRingsModel", "others", "I", false)
  | 15 => ("StoneRingsModel", "otherPlaces", "[I", true)
  | 16 => ("StoneRingsModel", "costs", "[I", true)
  | 17 => ("StoneRingsModel", "hasJoined", "Z", false)
  | 18 => ("StoneRingsModel", "joinedMany", "I", false)
  | 19 => ("StoneRingsModel", "partners", "[I", true)
  | _ => ("StoneRingsModel", "counts", "[I", true)
def ty_M : Nat → FieldType := fun k => match k with
  | 0 => .int
  | 1 => .int
  | 2 => .int
  | 3 => .array .int
  | 4 => .int
  | 5 => .array .int
  | 6 => .array .int
  | 7 => .int
  | 8 => .int
  | 9 => .int
  | 10 => .array .int
  | 11 => .array .int
  | 12 => .int
  | 13 => .array .int
  | 14 => .int
  | 15 => .array .int
  | 16 => .array .int
  | 17 => .boolean
  | 18 => .int
  | 19 => .array .int
  | _ => .array .int
theorem nm_M : ∀ a, a < 21 → ∀ b, b < 21 → a ≠ b → (tt_M a).2.1 ≠ (tt_M b).2.1 := by decide +kernel
theorem tyk_M : ∀ k, k < 21 → parseFieldDescriptor (tt_M k).2.2.1 = some (ty_M k) := by decide +kernel
abbrev sr_cl : List vw_C := [("StoneRings$Pairing", tt_G, 4), ("StoneRings$Picture", tt_P, 6), ("StoneRings$Readings", tt_D, 3), ("StoneRings$Trace", tt_T, 5), ("StoneRings", tt_S, 10), ("StoneRingsModel", tt_M, 21)]
def yy_S_init : MethodName := ⟨"StoneRings", "<init>", "(II)V"⟩
def yy_T_init : MethodName := ⟨"StoneRings$Trace", "<init>", "()V"⟩
def yy_G_init : MethodName := ⟨"StoneRings$Pairing", "<init>", "()V"⟩
def yy_D_init : MethodName := ⟨"StoneRings$Readings", "<init>", "()V"⟩
def yy_A_fill : MethodName := ⟨"java/util/Arrays", "fill", "([II)V"⟩
def yy_S_nearestSide : MethodName := ⟨"StoneRings", "nearestSide", "(I)I"⟩
def yy_H_min : MethodName := ⟨"java/lang/Math", "min", "(II)I"⟩
def yy_H_max : MethodName := ⟨"java/lang/Math", "max", "(II)I"⟩
def yy_P_init : MethodName := ⟨"StoneRings$Picture", "<init>", "(II)V"⟩
def yy_S_count : MethodName := ⟨"StoneRings", "count", "(I)I"⟩
def yy_D_stonesWithCounts : MethodName := ⟨"StoneRings$Readings", "stonesWithCounts", "()I"⟩
def yy_D_mostTold : MethodName := ⟨"StoneRings$Readings", "mostTold", "(I)I"⟩
def yy_D_of : MethodName := ⟨"StoneRings$Readings", "of", "(II)I"⟩
def yy_D_votesFor : MethodName := ⟨"StoneRings$Readings", "votesFor", "(II)I"⟩
def yy_L_cell : MethodName := ⟨"StoneRingsLaw", "cell", "([II)I"⟩
def yy_L_pixel : MethodName := ⟨"StoneRingsLaw", "pixel", "(LStoneRings;III[J)I"⟩
def yy_S_pixel : MethodName := ⟨"StoneRings", "pixel", "(III)Z"⟩
def yy_P_holds : MethodName := ⟨"StoneRings$Picture", "holds", "(II)Z"⟩
def yy_S_needNumber : MethodName := ⟨"StoneRings", "needNumber", "(III)V"⟩
def yy_P_put : MethodName := ⟨"StoneRings$Picture", "put", "(III)Z"⟩
def yy_P_at : MethodName := ⟨"StoneRings$Picture", "at", "(II)I"⟩
def yy_L_middle : MethodName := ⟨"StoneRingsLaw", "middle", "(LStoneRings;I[J)I"⟩
def yy_S_middle : MethodName := ⟨"StoneRings", "middle", "(I)I"⟩
def yy_S_needPlace : MethodName := ⟨"StoneRings", "needPlace", "(II)V"⟩
def yy_P_centreX : MethodName := ⟨"StoneRings$Picture", "centreX", "()I"⟩
def yy_S_floorOf : MethodName := ⟨"StoneRings", "floorOf", "(II)I"⟩
def yy_H_floorDiv : MethodName := ⟨"java/lang/Math", "floorDiv", "(II)I"⟩
def yy_P_centreY : MethodName := ⟨"StoneRings$Picture", "centreY", "()I"⟩
def yy_L_ray : MethodName := ⟨"StoneRingsLaw", "ray", "(LStoneRings;II[J)I"⟩
def yy_S_ray : MethodName := ⟨"StoneRings", "ray", "(II)I"⟩
def yy_L_samples : MethodName := ⟨"StoneRingsLaw", "samples", "(LStoneRings;I[J)I"⟩
def yy_S_samples : MethodName := ⟨"StoneRings", "samples", "(I)I"⟩
def yy_S_follow : MethodName := ⟨"StoneRings", "follow", "(ILStoneRings$Trace;)V"⟩
def yy_T_walk : MethodName := ⟨"StoneRings$Trace", "walk", "(LStoneRings$Picture;II)V"⟩
def yy_H_abs : MethodName := ⟨"java/lang/Math", "abs", "(I)I"⟩
def yy_T_evenOut : MethodName := ⟨"StoneRings$Trace", "evenOut", "()V"⟩
def yy_T_findRings : MethodName := ⟨"StoneRings$Trace", "findRings", "(II)V"⟩
def yy_L_sample : MethodName := ⟨"StoneRingsLaw", "sample", "(LStoneRings;IIZ[J)I"⟩
def yy_S_sample : MethodName := ⟨"StoneRings", "sample", "(IIZ)I"⟩
def yy_L_rule : MethodName := ⟨"StoneRingsLaw", "rule", "(LStoneRings;II)I"⟩
def yy_S_rule : MethodName := ⟨"StoneRings", "rule", "(II)V"⟩
def yy_L_rings : MethodName := ⟨"StoneRingsLaw", "rings", "(LStoneRings;I[J)I"⟩
def yy_S_rings : MethodName := ⟨"StoneRings", "rings", "(I)I"⟩
def yy_L_ring : MethodName := ⟨"StoneRingsLaw", "ring", "(LStoneRings;III[J)I"⟩
def yy_S_ring : MethodName := ⟨"StoneRings", "ring", "(III)I"⟩
def yy_T_widthOf : MethodName := ⟨"StoneRings$Trace", "widthOf", "(I)I"⟩
def yy_T_isFalse : MethodName := ⟨"StoneRings$Trace", "isFalse", "(I)Z"⟩
def yy_L_join : MethodName := ⟨"StoneRingsLaw", "join", "(LStoneRings;III[J)I"⟩
def yy_S_join : MethodName := ⟨"StoneRings", "join", "(III)I"⟩
def yy_G_pair : MethodName := ⟨"StoneRings$Pairing", "pair", "(LStoneRings$Trace;LStoneRings$Trace;I)I"⟩
def yy_G_fillCosts : MethodName := ⟨"StoneRings$Pairing", "fillCosts", "(LStoneRings$Trace;LStoneRings$Trace;I)V"⟩
def yy_G_leastFrom : MethodName := ⟨"StoneRings$Pairing", "leastFrom", "(LStoneRings$Trace;LStoneRings$Trace;III)I"⟩
def yy_G_together : MethodName := ⟨"StoneRings$Pairing", "together", "(LStoneRings$Trace;LStoneRings$Trace;II)I"⟩
def yy_G_choosePartners : MethodName := ⟨"StoneRings$Pairing", "choosePartners", "(LStoneRings$Trace;LStoneRings$Trace;I)V"⟩
def yy_L_joined : MethodName := ⟨"StoneRingsLaw", "joined", "(LStoneRings;I[J)I"⟩
def yy_S_joined : MethodName := ⟨"StoneRings", "joined", "(I)I"⟩
def yy_L_back : MethodName := ⟨"StoneRingsLaw", "back", "(LStoneRings;III[J)I"⟩
def yy_S_back : MethodName := ⟨"StoneRings", "back", "(III)I"⟩
def yy_L_tell : MethodName := ⟨"StoneRingsLaw", "tell", "(LStoneRings;III)I"⟩
def yy_S_tell : MethodName := ⟨"StoneRings", "tell", "(III)V"⟩
def yy_D_has : MethodName := ⟨"StoneRings$Readings", "has", "(II)Z"⟩
def yy_D_put : MethodName := ⟨"StoneRings$Readings", "put", "(III)V"⟩
def yy_L_may : MethodName := ⟨"StoneRingsLaw", "may", "(LStoneRings;II[J)I"⟩
def yy_S_may : MethodName := ⟨"StoneRings", "may", "(II)Z"⟩
def yy_L_seen : MethodName := ⟨"StoneRingsLaw", "seen", "(LStoneRings;III[J)I"⟩
def yy_S_seen : MethodName := ⟨"StoneRings", "seen", "(III)I"⟩
def yy_L_agree : MethodName := ⟨"StoneRingsLaw", "agree", "(LStoneRings;III[J)I"⟩
def yy_S_agree : MethodName := ⟨"StoneRings", "agree", "(III)I"⟩
def yy_S_needPair : MethodName := ⟨"StoneRings", "needPair", "(III)V"⟩
def yy_D_alike : MethodName := ⟨"StoneRings$Readings", "alike", "(II)I"⟩
def yy_D_bothTold : MethodName := ⟨"StoneRings$Readings", "bothTold", "(III)Z"⟩
def yy_D_shared : MethodName := ⟨"StoneRings$Readings", "shared", "(II)I"⟩
def yy_S_fractionPart : MethodName := ⟨"StoneRings", "fractionPart", "(III)I"⟩
def yy_S_commonDivisor : MethodName := ⟨"StoneRings", "commonDivisor", "(II)I"⟩
def yy_L_bias : MethodName := ⟨"StoneRingsLaw", "bias", "(LStoneRings;III[J)I"⟩
def yy_S_bias : MethodName := ⟨"StoneRings", "bias", "(III)I"⟩
def yy_D_excess : MethodName := ⟨"StoneRings$Readings", "excess", "(II)I"⟩
def yy_L_told : MethodName := ⟨"StoneRingsLaw", "told", "(LStoneRings;I[J)I"⟩
def yy_S_told : MethodName := ⟨"StoneRings", "told", "(I)I"⟩
def yy_L_right : MethodName := ⟨"StoneRingsLaw", "right", "(LStoneRings;I[J)I"⟩
def yy_S_right : MethodName := ⟨"StoneRings", "right", "(I)I"⟩
def yy_D_hits : MethodName := ⟨"StoneRings$Readings", "hits", "(I)I"⟩
def yy_L_best : MethodName := ⟨"StoneRingsLaw", "best", "(LStoneRings;I[J)I"⟩
def yy_S_best : MethodName := ⟨"StoneRings", "best", "(I)I"⟩
def yy_D_readerAt : MethodName := ⟨"StoneRings$Readings", "readerAt", "(I)I"⟩
def yy_D_readersBefore : MethodName := ⟨"StoneRings$Readings", "readersBefore", "(I)I"⟩
def yy_L_age : MethodName := ⟨"StoneRingsLaw", "age", "(LStoneRings;III[J)I"⟩
def yy_S_age : MethodName := ⟨"StoneRings", "age", "(III)I"⟩
def yy_L_twin : MethodName := ⟨"StoneRingsLaw", "twin", "(LStoneRings;II[J)I"⟩
def yy_S_twin : MethodName := ⟨"StoneRings", "twin", "(II)Z"⟩
def yy_T_sameValues : MethodName := ⟨"StoneRings$Trace", "sameValues", "(LStoneRings$Trace;)Z"⟩
def yy_M_init : MethodName := ⟨"StoneRingsModel", "<init>", "(II)V"⟩
def yy_M_thrown : MethodName := ⟨"StoneRingsModel", "thrown", "()I"⟩
def yy_M_pixel : MethodName := ⟨"StoneRingsModel", "pixel", "(III)Z"⟩
def yy_M_isThere : MethodName := ⟨"StoneRingsModel", "isThere", "(II)Z"⟩
def yy_M_isIn : MethodName := ⟨"StoneRingsModel", "isIn", "(III)Z"⟩
def yy_M_middle : MethodName := ⟨"StoneRingsModel", "middle", "(I)I"⟩
def yy_M_middleOf : MethodName := ⟨"StoneRingsModel", "middleOf", "(I)I"⟩
def yy_M_sumOf : MethodName := ⟨"StoneRingsModel", "sumOf", "(I)I"⟩
def yy_M_ray : MethodName := ⟨"StoneRingsModel", "ray", "(II)I"⟩
def yy_M_samples : MethodName := ⟨"StoneRingsModel", "samples", "(I)I"⟩
def yy_M_noRay : MethodName := ⟨"StoneRingsModel", "noRay", "(I)Z"⟩
def yy_M_lay : MethodName := ⟨"StoneRingsModel", "lay", "(I)V"⟩
def yy_M_size : MethodName := ⟨"StoneRingsModel", "size", "(I)I"⟩
def yy_M_down : MethodName := ⟨"StoneRingsModel", "down", "(II)I"⟩
def yy_M_sample : MethodName := ⟨"StoneRingsModel", "sample", "(IIZ)I"⟩
def yy_M_rule : MethodName := ⟨"StoneRingsModel", "rule", "(II)V"⟩
def yy_M_rings : MethodName := ⟨"StoneRingsModel", "rings", "(I)I"⟩
def yy_M_ring : MethodName := ⟨"StoneRingsModel", "ring", "(III)I"⟩
def yy_M_widthOf : MethodName := ⟨"StoneRingsModel", "widthOf", "(I)I"⟩
def yy_M_join : MethodName := ⟨"StoneRingsModel", "join", "(III)I"⟩
def yy_M_together : MethodName := ⟨"StoneRingsModel", "together", "(II)I"⟩
def yy_M_joined : MethodName := ⟨"StoneRingsModel", "joined", "(I)I"⟩
def yy_M_back : MethodName := ⟨"StoneRingsModel", "back", "(III)I"⟩
def yy_M_tell : MethodName := ⟨"StoneRingsModel", "tell", "(III)V"⟩
def yy_M_noOne : MethodName := ⟨"StoneRingsModel", "noOne", "(II)Z"⟩
def yy_M_may : MethodName := ⟨"StoneRingsModel", "may", "(II)Z"⟩
def yy_M_seen : MethodName := ⟨"StoneRingsModel", "seen", "(III)I"⟩
def yy_M_agree : MethodName := ⟨"StoneRingsModel", "agree", "(III)I"⟩
def yy_M_noTwo : MethodName := ⟨"StoneRingsModel", "noTwo", "(III)Z"⟩
def yy_M_both : MethodName := ⟨"StoneRingsModel", "both", "(III)Z"⟩
def yy_M_part : MethodName := ⟨"StoneRingsModel", "part", "(III)I"⟩
def yy_M_bias : MethodName := ⟨"StoneRingsModel", "bias", "(III)I"⟩
def yy_M_told : MethodName := ⟨"StoneRingsModel", "told", "(I)I"⟩
def yy_M_toldOf : MethodName := ⟨"StoneRingsModel", "toldOf", "(I)I"⟩
def yy_M_right : MethodName := ⟨"StoneRingsModel", "right", "(I)I"⟩
def yy_M_rightOf : MethodName := ⟨"StoneRingsModel", "rightOf", "(I)I"⟩
def yy_M_best : MethodName := ⟨"StoneRingsModel", "best", "(I)I"⟩
def yy_M_age : MethodName := ⟨"StoneRingsModel", "age", "(III)I"⟩
def yy_M_twin : MethodName := ⟨"StoneRingsModel", "twin", "(II)Z"⟩
def yy_M_count : MethodName := ⟨"StoneRingsModel", "count", "(I)I"⟩
def yy_L_law : MethodName := ⟨"StoneRingsLaw", "law", "([I)Z"⟩
def sr_ts : List Cond := lw_tbl.filter goodWord
theorem sr_mem {w : Cond} (i : Nat) (h : lw_tbl[i]? = some w) (hg : goodWord w = true) : w ∈ sr_ts := List.mem_filter.mpr ⟨List.mem_of_getElem? h, hg⟩
theorem sr_goodIn : GoodIn sr_ts sr_ts := fun w h => ⟨h, good_of_word (List.mem_filter.mp h).2⟩
def sr_strs : List (String × Nat × String) := [("StoneRings", 69, "no such pixel"), ("StoneRings", 214, "a number outside its bounds"), ("StoneRings", 212, "no such place"), ("StoneRings", 94, "a ray without a direction"), ("StoneRings", 99, "no room for another ray"), ("StoneRings", 136, "no rays were joined"), ("StoneRings", 152, "the reader told a count of that stone before"), ("StoneRings", 156, "the reader told no count of that stone yet")]
def sr_bad : List Cond := [.methodLinkNest "StoneRings" (18 : Nat) yy_T_init "StoneRings", .methodLinkNest "StoneRings" (28 : Nat) yy_G_init "StoneRings", .castable "java/lang/IndexOutOfBoundsException" "java/lang/IndexOutOfBoundsException", .declares ({ cls := "java/lang/RuntimeException", name := "<init>", desc := "()V" } : Jvm.MethodName), .declares ({ cls := "java/lang/RuntimeException", name := "<init>", desc := "(Ljava/lang/String;)V" } : Jvm.MethodName), .declares ({ cls := "java/lang/Exception", name := "<init>", desc := "()V" } : Jvm.MethodName), .declares ({ cls := "java/lang/Exception", name := "<init>", desc := "(Ljava/lang/String;)V" } : Jvm.MethodName), .declares ({ cls := "java/lang/Throwable", name := "<init>", desc := "()V" } : Jvm.MethodName), .declares ({ cls := "java/lang/Throwable", name := "<init>", desc := "(Ljava/lang/String;)V" } : Jvm.MethodName), .castable "java/lang/IllegalArgumentException" "java/lang/IllegalArgumentException", .methodLinkNest "StoneRings$Picture" (39 : Nat) yy_S_floorOf "StoneRings", .castable "java/lang/IllegalStateException" "java/lang/IllegalStateException", .methodLinkNest "StoneRings$Trace" (50 : Nat) yy_S_floorOf "StoneRings"]
theorem sr_bad_tab : ∀ w ∈ sr_bad, w.onTables = true := by decide +kernel
theorem sr_bad_in : ∀ w ∈ sr_bad, w ∈ lw_tbl := by decide +kernel
theorem sr_bad_warm {s U : State} (hW : s.WarmedH U.vm) (h : ∀ w ∈ sr_bad, va_Nw w s) : ∀ w ∈ sr_bad, va_Nw w U := by
  intro w hw
  have h := h w hw
  simp only [sr_bad, List.mem_cons, List.not_mem_nil, or_false] at hw
  rcases hw with rfl | rfl | rfl | rfl | rfl | rfl | rfl | rfl | rfl | rfl | rfl | rfl | rfl
  · exact va_Nw.warmM hW h
  · exact va_Nw.warmM hW h
  · exact va_Nw.warmC hW h
  · exact va_Nw.warmD hW h
  · exact va_Nw.warmD hW h
  · exact va_Nw.warmD hW h
  · exact va_Nw.warmD hW h
  · exact va_Nw.warmD hW h
  · exact va_Nw.warmD hW h
  · exact va_Nw.warmC hW h
  · exact va_Nw.warmM hW h
  · exact va_Nw.warmC hW h
  · exact va_Nw.warmM hW h
def sr_ncs : List (String × String) := [("java/lang/IndexOutOfBoundsException", "java/lang/IllegalArgumentException"), ("java/lang/IndexOutOfBoundsException", "java/lang/IllegalStateException"), ("java/lang/IllegalArgumentException", "java/lang/IndexOutOfBoundsException"), ("java/lang/IllegalArgumentException", "java/lang/IllegalStateException"), ("java/lang/IllegalStateException", "java/lang/IndexOutOfBoundsException"), ("java/lang/IllegalStateException", "java/lang/IllegalArgumentException")]
theorem in_G : ∀ w ∈ u_ws "StoneRings$Pairing" tt_G 4, w ∈ sr_ts := by decide +kernel
theorem in_P : ∀ w ∈ u_ws "StoneRings$Picture" tt_P 6, w ∈ sr_ts := by decide +kernel
theorem in_D : ∀ w ∈ u_ws "StoneRings$Readings" tt_D 3, w ∈ sr_ts := by decide +kernel
theorem in_T : ∀ w ∈ u_ws "StoneRings$Trace" tt_T 5, w ∈ sr_ts := by decide +kernel
theorem in_S : ∀ w ∈ u_ws "StoneRings" tt_S 10, w ∈ sr_ts := by decide +kernel
theorem in_M : ∀ w ∈ u_ws "StoneRingsModel" tt_M 21, w ∈ sr_ts := by decide +kernel
