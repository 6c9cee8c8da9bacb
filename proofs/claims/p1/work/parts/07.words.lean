/-! the words that contracts name: each a good word of the tables -/
theorem wC_7 : (.selects R_WK y_WK_fail y_WK_fail : Cond) ∈ wC := List.mem_filter.mpr ⟨List.mem_of_getElem? (i := 7) (by decide +kernel), rfl⟩
theorem wC_44 : (.initialized R_NF : Cond) ∈ wC := List.mem_filter.mpr ⟨List.mem_of_getElem? (i := 44) (by decide +kernel), rfl⟩
theorem wC_45 : (.initialized R_PR : Cond) ∈ wC := List.mem_filter.mpr ⟨List.mem_of_getElem? (i := 45) (by decide +kernel), rfl⟩
theorem wC_47 : (.initialized R_ST : Cond) ∈ wC := List.mem_filter.mpr ⟨List.mem_of_getElem? (i := 47) (by decide +kernel), rfl⟩
theorem wC_48 : (.initialized R_WK : Cond) ∈ wC := List.mem_filter.mpr ⟨List.mem_of_getElem? (i := 48) (by decide +kernel), rfl⟩
theorem wC_49 : (.initialized R_EN : Cond) ∈ wC := List.mem_filter.mpr ⟨List.mem_of_getElem? (i := 49) (by decide +kernel), rfl⟩
theorem wC_56 : (.initialized "java/lang/Math" : Cond) ∈ wC := List.mem_filter.mpr ⟨List.mem_of_getElem? (i := 56) (by decide +kernel), rfl⟩
theorem wC_78 : (.fieldLink R_PR 9 "NameForge$Program" "kinds" "[I" : Cond) ∈ wC := List.mem_filter.mpr ⟨List.mem_of_getElem? (i := 78) (by decide +kernel), rfl⟩
theorem wC_81 : (.fieldLink R_PR 15 "NameForge$Program" "as" "[I" : Cond) ∈ wC := List.mem_filter.mpr ⟨List.mem_of_getElem? (i := 81) (by decide +kernel), rfl⟩
theorem wC_84 : (.fieldLink R_PR 18 "NameForge$Program" "bs" "[I" : Cond) ∈ wC := List.mem_filter.mpr ⟨List.mem_of_getElem? (i := 84) (by decide +kernel), rfl⟩
theorem wC_87 : (.fieldLink R_PR 21 "NameForge$Program" "cs" "[I" : Cond) ∈ wC := List.mem_filter.mpr ⟨List.mem_of_getElem? (i := 87) (by decide +kernel), rfl⟩
theorem wC_90 : (.fieldLink R_PR 39 "NameForge$Program" "size" "I" : Cond) ∈ wC := List.mem_filter.mpr ⟨List.mem_of_getElem? (i := 90) (by decide +kernel), rfl⟩
theorem wC_92 : (.fieldLink R_PR 24 "NameForge$Program" "bodies" "[I" : Cond) ∈ wC := List.mem_filter.mpr ⟨List.mem_of_getElem? (i := 92) (by decide +kernel), rfl⟩
theorem wC_94 : (.fieldLink R_PR 27 "NameForge$Program" "parameters" "[I" : Cond) ∈ wC := List.mem_filter.mpr ⟨List.mem_of_getElem? (i := 94) (by decide +kernel), rfl⟩
theorem wC_96 : (.fieldLink R_PR 30 "NameForge$Program" "names" "[I" : Cond) ∈ wC := List.mem_filter.mpr ⟨List.mem_of_getElem? (i := 96) (by decide +kernel), rfl⟩
theorem wC_122 : (.fieldLink R_ST 9 "NameForge$Store" "variables" "[D" : Cond) ∈ wC := List.mem_filter.mpr ⟨List.mem_of_getElem? (i := 122) (by decide +kernel), rfl⟩
theorem wC_127 : (.fieldLink R_WK 149 "NameForge$Store" "elements" "[D" : Cond) ∈ wC := List.mem_filter.mpr ⟨List.mem_of_getElem? (i := 127) (by decide +kernel), rfl⟩
theorem wC_128 : (.fieldLink R_ST 18 "NameForge$Store" "firstRow" "I" : Cond) ∈ wC := List.mem_filter.mpr ⟨List.mem_of_getElem? (i := 128) (by decide +kernel), rfl⟩
theorem wC_129 : (.fieldLink R_ST 22 "NameForge$Store" "lastRow" "I" : Cond) ∈ wC := List.mem_filter.mpr ⟨List.mem_of_getElem? (i := 129) (by decide +kernel), rfl⟩
theorem wC_130 : (.fieldLink R_ST 25 "NameForge$Store" "firstColumn" "I" : Cond) ∈ wC := List.mem_filter.mpr ⟨List.mem_of_getElem? (i := 130) (by decide +kernel), rfl⟩
theorem wC_131 : (.fieldLink R_ST 28 "NameForge$Store" "lastColumn" "I" : Cond) ∈ wC := List.mem_filter.mpr ⟨List.mem_of_getElem? (i := 131) (by decide +kernel), rfl⟩
theorem wC_158 : (.fieldLink R_EN 22 "NameForge$Environment" "caller" "LNameForge$Environment;" : Cond) ∈ wC := List.mem_filter.mpr ⟨List.mem_of_getElem? (i := 158) (by decide +kernel), rfl⟩
theorem wC_160 : (.fieldLink R_EN 9 "NameForge$Environment" "given" "[I" : Cond) ∈ wC := List.mem_filter.mpr ⟨List.mem_of_getElem? (i := 160) (by decide +kernel), rfl⟩
theorem wC_162 : (.fieldLink R_EN 15 "NameForge$Environment" "values" "[D" : Cond) ∈ wC := List.mem_filter.mpr ⟨List.mem_of_getElem? (i := 162) (by decide +kernel), rfl⟩
theorem wC_165 : (.fieldLink R_WK 96 "NameForge$Environment" "locals" "[D" : Cond) ∈ wC := List.mem_filter.mpr ⟨List.mem_of_getElem? (i := 165) (by decide +kernel), rfl⟩
theorem wC_166 : (.fieldLink R_EN 26 "NameForge$Environment" "parameters" "I" : Cond) ∈ wC := List.mem_filter.mpr ⟨List.mem_of_getElem? (i := 166) (by decide +kernel), rfl⟩
theorem wC_167 : (.fieldLink R_EN 30 "NameForge$Environment" "names" "I" : Cond) ∈ wC := List.mem_filter.mpr ⟨List.mem_of_getElem? (i := 167) (by decide +kernel), rfl⟩
theorem wC_182 : (.fieldLink R_WK 38 "NameForge$Worker" "worked" "I" : Cond) ∈ wC := List.mem_filter.mpr ⟨List.mem_of_getElem? (i := 182) (by decide +kernel), rfl⟩
theorem wC_184 : (.fieldLink R_WK 41 "NameForge$Worker" "fault" "I" : Cond) ∈ wC := List.mem_filter.mpr ⟨List.mem_of_getElem? (i := 184) (by decide +kernel), rfl⟩
theorem wC_188 : (.fieldLink R_WK 47 "NameForge$Worker" "mostEnvironments" "I" : Cond) ∈ wC := List.mem_filter.mpr ⟨List.mem_of_getElem? (i := 188) (by decide +kernel), rfl⟩
theorem wC_193 : (.fieldLink R_WK 34 "NameForge$Worker" "store" "LNameForge$Store;" : Cond) ∈ wC := List.mem_filter.mpr ⟨List.mem_of_getElem? (i := 193) (by decide +kernel), rfl⟩
theorem wC_196 : (.fieldLink R_WK 22 "NameForge$Worker" "openLabels" "[I" : Cond) ∈ wC := List.mem_filter.mpr ⟨List.mem_of_getElem? (i := 196) (by decide +kernel), rfl⟩
theorem wC_198 : (.fieldLink R_WK 57 "NameForge$Worker" "openEnvironments" "I" : Cond) ∈ wC := List.mem_filter.mpr ⟨List.mem_of_getElem? (i := 198) (by decide +kernel), rfl⟩
theorem wC_199 : (.fieldLink R_WK 26 "NameForge$Worker" "jumpingTo" "I" : Cond) ∈ wC := List.mem_filter.mpr ⟨List.mem_of_getElem? (i := 199) (by decide +kernel), rfl⟩
theorem wC_259 : (.static y_NF_isBelow : Cond) ∈ wC := List.mem_filter.mpr ⟨List.mem_of_getElem? (i := 259) (by decide +kernel), rfl⟩
set_option maxRecDepth 100000 in
theorem wC_260 : (.code y_NF_isBelow b_NF_isBelow 2 (some .boolean) : Cond) ∈ wC := List.mem_filter.mpr ⟨List.mem_of_getElem? (i := 260) rfl, rfl⟩
theorem wC_267 : (.methodLink R_PR 59 y_PR_has : Cond) ∈ wC := List.mem_filter.mpr ⟨List.mem_of_getElem? (i := 267) (by decide +kernel), rfl⟩
theorem wC_268 : (.instanceMethod y_PR_has : Cond) ∈ wC := List.mem_filter.mpr ⟨List.mem_of_getElem? (i := 268) (by decide +kernel), rfl⟩
theorem wC_269 : (.selects R_PR y_PR_has y_PR_has : Cond) ∈ wC := List.mem_filter.mpr ⟨List.mem_of_getElem? (i := 269) (by decide +kernel), rfl⟩
set_option maxRecDepth 100000 in
theorem wC_270 : (.code y_PR_has b_PR_has 2 (some .boolean) : Cond) ∈ wC := List.mem_filter.mpr ⟨List.mem_of_getElem? (i := 270) rfl, rfl⟩
theorem wC_410 : (.static y_NF_isWithinSize : Cond) ∈ wC := List.mem_filter.mpr ⟨List.mem_of_getElem? (i := 410) (by decide +kernel), rfl⟩
set_option maxRecDepth 100000 in
theorem wC_411 : (.code y_NF_isWithinSize b_NF_isWithinSize 2 (some .boolean) : Cond) ∈ wC := List.mem_filter.mpr ⟨List.mem_of_getElem? (i := 411) rfl, rfl⟩
theorem wC_412 : (.constantDouble R_NF 183 13965043853221167104 : Cond) ∈ wC := List.mem_filter.mpr ⟨List.mem_of_getElem? (i := 412) (by decide +kernel), rfl⟩
theorem wC_413 : (.constantDouble R_NF 185 4741671816366391296 : Cond) ∈ wC := List.mem_filter.mpr ⟨List.mem_of_getElem? (i := 413) (by decide +kernel), rfl⟩
theorem wC_420 : (.static y_NF_rounded : Cond) ∈ wC := List.mem_filter.mpr ⟨List.mem_of_getElem? (i := 420) (by decide +kernel), rfl⟩
set_option maxRecDepth 100000 in
theorem wC_421 : (.code y_NF_rounded b_NF_rounded 6 (some .long) : Cond) ∈ wC := List.mem_filter.mpr ⟨List.mem_of_getElem? (i := 421) rfl, rfl⟩
theorem wC_422 : (.constantDouble R_NF 187 4602678819172646912 : Cond) ∈ wC := List.mem_filter.mpr ⟨List.mem_of_getElem? (i := 422) (by decide +kernel), rfl⟩
theorem wC_464 : (.methodLink R_WK 99 y_WK_fail : Cond) ∈ wC := List.mem_filter.mpr ⟨List.mem_of_getElem? (i := 464) (by decide +kernel), rfl⟩
theorem wC_466 : (.instanceMethod y_WK_fail : Cond) ∈ wC := List.mem_filter.mpr ⟨List.mem_of_getElem? (i := 466) (by decide +kernel), rfl⟩
set_option maxRecDepth 100000 in
theorem wC_467 : (.code y_WK_fail b_WK_fail 2 (some .double) : Cond) ∈ wC := List.mem_filter.mpr ⟨List.mem_of_getElem? (i := 467) rfl, rfl⟩
theorem wC_476 : (.methodLink R_WK 60 Lib.Math.max.name : Cond) ∈ wC := List.mem_filter.mpr ⟨List.mem_of_getElem? (i := 476) (by decide +kernel), rfl⟩
theorem wC_477 : (.static Lib.Math.max.name : Cond) ∈ wC := List.mem_filter.mpr ⟨List.mem_of_getElem? (i := 477) (by decide +kernel), rfl⟩
set_option maxRecDepth 100000 in
theorem wC_478 : (.code Lib.Math.max.name Lib.Math.max.code 2 (some .int) : Cond) ∈ wC := List.mem_filter.mpr ⟨List.mem_of_getElem? (i := 478) rfl, rfl⟩
theorem wC_479 : (.methodLink R_WK 92 y_EN_hasLocals : Cond) ∈ wC := List.mem_filter.mpr ⟨List.mem_of_getElem? (i := 479) (by decide +kernel), rfl⟩
theorem wC_480 : (.instanceMethod y_EN_hasLocals : Cond) ∈ wC := List.mem_filter.mpr ⟨List.mem_of_getElem? (i := 480) (by decide +kernel), rfl⟩
theorem wC_481 : (.selects R_EN y_EN_hasLocals y_EN_hasLocals : Cond) ∈ wC := List.mem_filter.mpr ⟨List.mem_of_getElem? (i := 481) (by decide +kernel), rfl⟩
set_option maxRecDepth 100000 in
theorem wC_482 : (.code y_EN_hasLocals b_EN_hasLocals 1 (some .boolean) : Cond) ∈ wC := List.mem_filter.mpr ⟨List.mem_of_getElem? (i := 482) rfl, rfl⟩
theorem wC_522 : (.methodLink R_WK 145 y_ST_holds : Cond) ∈ wC := List.mem_filter.mpr ⟨List.mem_of_getElem? (i := 522) (by decide +kernel), rfl⟩
theorem wC_523 : (.instanceMethod y_ST_holds : Cond) ∈ wC := List.mem_filter.mpr ⟨List.mem_of_getElem? (i := 523) (by decide +kernel), rfl⟩
theorem wC_524 : (.selects R_ST y_ST_holds y_ST_holds : Cond) ∈ wC := List.mem_filter.mpr ⟨List.mem_of_getElem? (i := 524) (by decide +kernel), rfl⟩
set_option maxRecDepth 100000 in
theorem wC_525 : (.code y_ST_holds b_ST_holds 5 (some .boolean) : Cond) ∈ wC := List.mem_filter.mpr ⟨List.mem_of_getElem? (i := 525) rfl, rfl⟩
theorem wC_526 : (.methodLink R_WK 152 y_ST_place : Cond) ∈ wC := List.mem_filter.mpr ⟨List.mem_of_getElem? (i := 526) (by decide +kernel), rfl⟩
theorem wC_527 : (.instanceMethod y_ST_place : Cond) ∈ wC := List.mem_filter.mpr ⟨List.mem_of_getElem? (i := 527) (by decide +kernel), rfl⟩
theorem wC_528 : (.selects R_ST y_ST_place y_ST_place : Cond) ∈ wC := List.mem_filter.mpr ⟨List.mem_of_getElem? (i := 528) (by decide +kernel), rfl⟩
set_option maxRecDepth 100000 in
theorem wC_529 : (.code y_ST_place b_ST_place 5 (some .int) : Cond) ∈ wC := List.mem_filter.mpr ⟨List.mem_of_getElem? (i := 529) rfl, rfl⟩
def wN : List Cond := [.methodLinkNest R_PR 43 y_NF_isBelow "NameForge", .methodLinkNest R_ST 37 y_NF_rounded "NameForge", .methodLinkNest R_WK 156 y_NF_isWithinSize "NameForge"]
theorem wN_258 : (.methodLinkNest R_PR 43 y_NF_isBelow "NameForge" : Cond) ∈ wN := List.mem_of_getElem? (i := 0) rfl
theorem wN_419 : (.methodLinkNest R_ST 37 y_NF_rounded "NameForge" : Cond) ∈ wN := List.mem_of_getElem? (i := 1) rfl
theorem wN_566 : (.methodLinkNest R_WK 156 y_NF_isWithinSize "NameForge" : Cond) ∈ wN := List.mem_of_getElem? (i := 2) rfl
/-- the nest mates' links -/
def NW (U : State) : Prop := ∀ w ∈ wN, va_Nw w U
theorem wN_form : ∀ w ∈ wN, ∃ (a : String) (i : Nat) (x : MethodName) (h : String), w = .methodLinkNest a i x h := by
  intro w hw
  simp only [wN, List.mem_cons, List.not_mem_nil, or_false] at hw
  rcases hw with rfl | rfl | rfl <;> exact ⟨_, _, _, _, rfl⟩
theorem NW.warm {s U : State} (h : NW s) (hW : s.WarmedH U.vm) : NW U := by
  intro w hw
  obtain ⟨a, i, x, y, rfl⟩ := wN_form w hw
  exact va_Nw.warmM hW (h _ hw)
theorem NW.same {u U : State} (h : NW u) (e : u.vm = U.vm) : NW U := by
  intro w hw
  obtain ⟨a, i, x, y, rfl⟩ := wN_form w hw
  exact va_Nw.same rfl e (h _ hw)
/-- the class's world holds the state σ -/
abbrev cP (D : va_G) (cs : CI) (ad : Nat → Nat) (σ : CS) (U : State) : Prop := va_P D clA (wd ad (cont ad cs σ) 51) U.heap ∧ va_K D clA (tyC cs) U ∧ NW U
theorem cP_blind {D : va_G} {cs : CI} {ad : Nat → Nat} {σ : CS} {av : List Value} : FrameBlind (va_Pc av (cP D cs ad σ)) :=
  fun a U g mk h => ⟨h.1, h.2.1, va_K.moved (u := U) (U := U.calling g mk a) (Vm.Alike.refl U.vm) h.2.2.1, h.2.2.2.same rfl⟩
theorem good_C {c0 c1 : Cond} (h : c1 ∈ wC) : GoodIn (c0 :: wC) (c1 :: wC) := by
  intro w hw
  have hm : w ∈ wC := by
    rcases List.mem_cons.mp hw with rfl | h1
    · exact h
    · exact h1
  exact ⟨List.mem_cons_of_mem _ hm, wC_good hm⟩
theorem good_V {c0 : Cond} {own C : String} {idx : Nat} {y : MethodName} {c1 : Cond} (h1 : .methodLink own idx y ∈ wC) (h2 : .instanceMethod y ∈ wC) (h3 : .selects C y y ∈ wC) (h4 : .initialized C ∈ wC) (h5 : c1 ∈ wC) : GoodIn (c0 :: wC) (wsV own idx C y (c1 :: wC)) := by
  intro w hw
  have hm : w ∈ wC := by
    simp only [wsV, List.cons_append, List.nil_append, List.mem_cons] at hw
    rcases hw with rfl | rfl | rfl | rfl | rfl | h
    · exact h1
    · exact h2
    · exact h3
    · exact h4
    · exact h5
    · exact h
  exact ⟨List.mem_cons_of_mem _ hm, wC_good hm⟩
theorem good_S {c0 : Cond} {own : String} {idx : Nat} {y : MethodName} {c1 : Cond} (h1 : .methodLink own idx y ∈ wC) (h2 : .static y ∈ wC) (h4 : .initialized y.cls ∈ wC) (h5 : c1 ∈ wC) : GoodIn (c0 :: wC) (va_wsS own idx y (c1 :: wC)) := by
  intro w hw
  have hm : w ∈ wC := by
    simp only [va_wsS, List.cons_append, List.nil_append, List.mem_cons] at hw
    rcases hw with rfl | rfl | rfl | rfl | h
    · exact h1
    · exact h2
    · exact h4
    · exact h5
    · exact h
  exact ⟨List.mem_cons_of_mem _ hm, wC_good hm⟩
