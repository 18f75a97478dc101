/-! the tables' words that keep, and which of them are needed (written by gen/words.py) -/
def sysW : List Cond := lw_tbl.filter goodWord
theorem mw_194 : Cond.laysFinal "BeliefForge" "BeliefForge" "texts" "LBeliefForge$Texts;" ∈ sysW := List.mem_filter.mpr ⟨List.mem_of_getElem? (i := 194) (by decide +kernel), by decide +kernel⟩
theorem mw_196 : Cond.laysFinal "BeliefForge" "BeliefForge" "query" "LBeliefForge$Query;" ∈ sysW := List.mem_filter.mpr ⟨List.mem_of_getElem? (i := 196) (by decide +kernel), by decide +kernel⟩
theorem mw_198 : Cond.laysFinal "BeliefForge" "BeliefForge" "network" "LBeliefForge$Network;" ∈ sysW := List.mem_filter.mpr ⟨List.mem_of_getElem? (i := 198) (by decide +kernel), by decide +kernel⟩
theorem mw_200 : Cond.laysFinal "BeliefForge" "BeliefForge" "ranking" "LBeliefForge$Ranking;" ∈ sysW := List.mem_filter.mpr ⟨List.mem_of_getElem? (i := 200) (by decide +kernel), by decide +kernel⟩
theorem mw_202 : Cond.laysFinal "BeliefForge" "BeliefForge" "maker" "LBeliefForge$Maker;" ∈ sysW := List.mem_filter.mpr ⟨List.mem_of_getElem? (i := 202) (by decide +kernel), by decide +kernel⟩
theorem mw_74 : Cond.laysFinal "BeliefForge$Texts" "BeliefForge$Texts" "words" "[[I" ∈ sysW := List.mem_filter.mpr ⟨List.mem_of_getElem? (i := 74) (by decide +kernel), by decide +kernel⟩
theorem mw_76 : Cond.laysFinal "BeliefForge$Texts" "BeliefForge$Texts" "lengths" "[I" ∈ sysW := List.mem_filter.mpr ⟨List.mem_of_getElem? (i := 76) (by decide +kernel), by decide +kernel⟩
theorem mw_78 : Cond.laysFinal "BeliefForge$Texts" "BeliefForge$Texts" "titles" "[I" ∈ sysW := List.mem_filter.mpr ⟨List.mem_of_getElem? (i := 78) (by decide +kernel), by decide +kernel⟩
theorem mw_80 : Cond.lays "BeliefForge$Texts" "BeliefForge$Texts" "size" "I" ∈ sysW := List.mem_filter.mpr ⟨List.mem_of_getElem? (i := 80) (by decide +kernel), by decide +kernel⟩
theorem mw_82 : Cond.lays "BeliefForge$Texts" "BeliefForge$Texts" "all" "I" ∈ sysW := List.mem_filter.mpr ⟨List.mem_of_getElem? (i := 82) (by decide +kernel), by decide +kernel⟩
theorem mw_99 : Cond.laysFinal "BeliefForge$Query" "BeliefForge$Query" "kinds" "[I" ∈ sysW := List.mem_filter.mpr ⟨List.mem_of_getElem? (i := 99) (by decide +kernel), by decide +kernel⟩
theorem mw_101 : Cond.laysFinal "BeliefForge$Query" "BeliefForge$Query" "numbers" "[I" ∈ sysW := List.mem_filter.mpr ⟨List.mem_of_getElem? (i := 101) (by decide +kernel), by decide +kernel⟩
theorem mw_103 : Cond.laysFinal "BeliefForge$Query" "BeliefForge$Query" "weights" "[D" ∈ sysW := List.mem_filter.mpr ⟨List.mem_of_getElem? (i := 103) (by decide +kernel), by decide +kernel⟩
theorem mw_105 : Cond.laysFinal "BeliefForge$Query" "BeliefForge$Query" "ends" "[I" ∈ sysW := List.mem_filter.mpr ⟨List.mem_of_getElem? (i := 105) (by decide +kernel), by decide +kernel⟩
theorem mw_107 : Cond.lays "BeliefForge$Query" "BeliefForge$Query" "size" "I" ∈ sysW := List.mem_filter.mpr ⟨List.mem_of_getElem? (i := 107) (by decide +kernel), by decide +kernel⟩
theorem mw_109 : Cond.lays "BeliefForge$Query" "BeliefForge$Query" "nodesWanted" "I" ∈ sysW := List.mem_filter.mpr ⟨List.mem_of_getElem? (i := 109) (by decide +kernel), by decide +kernel⟩
theorem mw_111 : Cond.lays "BeliefForge$Query" "BeliefForge$Query" "termsWanted" "I" ∈ sysW := List.mem_filter.mpr ⟨List.mem_of_getElem? (i := 111) (by decide +kernel), by decide +kernel⟩
theorem mw_130 : Cond.laysFinal "BeliefForge$Network" "BeliefForge$Network" "texts" "LBeliefForge$Texts;" ∈ sysW := List.mem_filter.mpr ⟨List.mem_of_getElem? (i := 130) (by decide +kernel), by decide +kernel⟩
theorem mw_132 : Cond.laysFinal "BeliefForge$Network" "BeliefForge$Network" "query" "LBeliefForge$Query;" ∈ sysW := List.mem_filter.mpr ⟨List.mem_of_getElem? (i := 132) (by decide +kernel), by decide +kernel⟩
theorem mw_134 : Cond.laysFinal "BeliefForge$Network" "BeliefForge$Network" "tf" "[[I" ∈ sysW := List.mem_filter.mpr ⟨List.mem_of_getElem? (i := 134) (by decide +kernel), by decide +kernel⟩
theorem mw_136 : Cond.laysFinal "BeliefForge$Network" "BeliefForge$Network" "cf" "[I" ∈ sysW := List.mem_filter.mpr ⟨List.mem_of_getElem? (i := 136) (by decide +kernel), by decide +kernel⟩
theorem mw_138 : Cond.laysFinal "BeliefForge$Network" "BeliefForge$Network" "beliefs" "[D" ∈ sysW := List.mem_filter.mpr ⟨List.mem_of_getElem? (i := 138) (by decide +kernel), by decide +kernel⟩
theorem mw_140 : Cond.lays "BeliefForge$Network" "BeliefForge$Network" "smoothing" "I" ∈ sysW := List.mem_filter.mpr ⟨List.mem_of_getElem? (i := 140) (by decide +kernel), by decide +kernel⟩
theorem mw_142 : Cond.lays "BeliefForge$Network" "BeliefForge$Network" "mu" "D" ∈ sysW := List.mem_filter.mpr ⟨List.mem_of_getElem? (i := 142) (by decide +kernel), by decide +kernel⟩
theorem mw_155 : Cond.laysFinal "BeliefForge$Ranking" "BeliefForge$Ranking" "documents" "[I" ∈ sysW := List.mem_filter.mpr ⟨List.mem_of_getElem? (i := 155) (by decide +kernel), by decide +kernel⟩
theorem mw_157 : Cond.laysFinal "BeliefForge$Ranking" "BeliefForge$Ranking" "beliefs" "[D" ∈ sysW := List.mem_filter.mpr ⟨List.mem_of_getElem? (i := 157) (by decide +kernel), by decide +kernel⟩
theorem mw_159 : Cond.lays "BeliefForge$Ranking" "BeliefForge$Ranking" "size" "I" ∈ sysW := List.mem_filter.mpr ⟨List.mem_of_getElem? (i := 159) (by decide +kernel), by decide +kernel⟩
theorem mw_161 : Cond.lays "BeliefForge$Ranking" "BeliefForge$Ranking" "leftOut" "I" ∈ sysW := List.mem_filter.mpr ⟨List.mem_of_getElem? (i := 161) (by decide +kernel), by decide +kernel⟩
theorem mw_176 : Cond.laysFinal "BeliefForge$Maker" "BeliefForge$Maker" "texts" "LBeliefForge$Texts;" ∈ sysW := List.mem_filter.mpr ⟨List.mem_of_getElem? (i := 176) (by decide +kernel), by decide +kernel⟩
theorem mw_178 : Cond.laysFinal "BeliefForge$Maker" "BeliefForge$Maker" "ranking" "LBeliefForge$Ranking;" ∈ sysW := List.mem_filter.mpr ⟨List.mem_of_getElem? (i := 178) (by decide +kernel), by decide +kernel⟩
theorem mw_180 : Cond.laysFinal "BeliefForge$Maker" "BeliefForge$Maker" "sums" "[D" ∈ sysW := List.mem_filter.mpr ⟨List.mem_of_getElem? (i := 180) (by decide +kernel), by decide +kernel⟩
theorem mw_182 : Cond.laysFinal "BeliefForge$Maker" "BeliefForge$Maker" "chosen" "[I" ∈ sysW := List.mem_filter.mpr ⟨List.mem_of_getElem? (i := 182) (by decide +kernel), by decide +kernel⟩
theorem mw_184 : Cond.laysFinal "BeliefForge$Maker" "BeliefForge$Maker" "chosenSums" "[D" ∈ sysW := List.mem_filter.mpr ⟨List.mem_of_getElem? (i := 184) (by decide +kernel), by decide +kernel⟩
theorem mw_186 : Cond.lays "BeliefForge$Maker" "BeliefForge$Maker" "size" "I" ∈ sysW := List.mem_filter.mpr ⟨List.mem_of_getElem? (i := 186) (by decide +kernel), by decide +kernel⟩
theorem mw_795 : Cond.lays "BeliefForgeModel" "BeliefForgeModel" "thrown" "I" ∈ sysW := List.mem_filter.mpr ⟨List.mem_of_getElem? (i := 795) (by decide +kernel), by decide +kernel⟩
theorem mw_797 : Cond.laysFinal "BeliefForgeModel" "BeliefForgeModel" "words" "[I" ∈ sysW := List.mem_filter.mpr ⟨List.mem_of_getElem? (i := 797) (by decide +kernel), by decide +kernel⟩
theorem mw_799 : Cond.laysFinal "BeliefForgeModel" "BeliefForgeModel" "length" "[I" ∈ sysW := List.mem_filter.mpr ⟨List.mem_of_getElem? (i := 799) (by decide +kernel), by decide +kernel⟩
theorem mw_801 : Cond.laysFinal "BeliefForgeModel" "BeliefForgeModel" "title" "[I" ∈ sysW := List.mem_filter.mpr ⟨List.mem_of_getElem? (i := 801) (by decide +kernel), by decide +kernel⟩
theorem mw_803 : Cond.lays "BeliefForgeModel" "BeliefForgeModel" "documents" "I" ∈ sysW := List.mem_filter.mpr ⟨List.mem_of_getElem? (i := 803) (by decide +kernel), by decide +kernel⟩
theorem mw_805 : Cond.laysFinal "BeliefForgeModel" "BeliefForgeModel" "kind" "[I" ∈ sysW := List.mem_filter.mpr ⟨List.mem_of_getElem? (i := 805) (by decide +kernel), by decide +kernel⟩
theorem mw_807 : Cond.laysFinal "BeliefForgeModel" "BeliefForgeModel" "number" "[I" ∈ sysW := List.mem_filter.mpr ⟨List.mem_of_getElem? (i := 807) (by decide +kernel), by decide +kernel⟩
theorem mw_809 : Cond.laysFinal "BeliefForgeModel" "BeliefForgeModel" "weight" "[D" ∈ sysW := List.mem_filter.mpr ⟨List.mem_of_getElem? (i := 809) (by decide +kernel), by decide +kernel⟩
theorem mw_811 : Cond.lays "BeliefForgeModel" "BeliefForgeModel" "tokens" "I" ∈ sysW := List.mem_filter.mpr ⟨List.mem_of_getElem? (i := 811) (by decide +kernel), by decide +kernel⟩
theorem mw_813 : Cond.lays "BeliefForgeModel" "BeliefForgeModel" "smoothing" "I" ∈ sysW := List.mem_filter.mpr ⟨List.mem_of_getElem? (i := 813) (by decide +kernel), by decide +kernel⟩
theorem mw_815 : Cond.lays "BeliefForgeModel" "BeliefForgeModel" "mu" "D" ∈ sysW := List.mem_filter.mpr ⟨List.mem_of_getElem? (i := 815) (by decide +kernel), by decide +kernel⟩
theorem mw_817 : Cond.laysFinal "BeliefForgeModel" "BeliefForgeModel" "beliefs" "[D" ∈ sysW := List.mem_filter.mpr ⟨List.mem_of_getElem? (i := 817) (by decide +kernel), by decide +kernel⟩
theorem mw_819 : Cond.laysFinal "BeliefForgeModel" "BeliefForgeModel" "weights" "[D" ∈ sysW := List.mem_filter.mpr ⟨List.mem_of_getElem? (i := 819) (by decide +kernel), by decide +kernel⟩
theorem mw_821 : Cond.laysFinal "BeliefForgeModel" "BeliefForgeModel" "nodes" "[I" ∈ sysW := List.mem_filter.mpr ⟨List.mem_of_getElem? (i := 821) (by decide +kernel), by decide +kernel⟩
theorem mw_823 : Cond.lays "BeliefForgeModel" "BeliefForgeModel" "height" "I" ∈ sysW := List.mem_filter.mpr ⟨List.mem_of_getElem? (i := 823) (by decide +kernel), by decide +kernel⟩
theorem mw_825 : Cond.lays "BeliefForgeModel" "BeliefForgeModel" "isOut" "Z" ∈ sysW := List.mem_filter.mpr ⟨List.mem_of_getElem? (i := 825) (by decide +kernel), by decide +kernel⟩
theorem mw_827 : Cond.laysFinal "BeliefForgeModel" "BeliefForgeModel" "found" "[I" ∈ sysW := List.mem_filter.mpr ⟨List.mem_of_getElem? (i := 827) (by decide +kernel), by decide +kernel⟩
theorem mw_829 : Cond.laysFinal "BeliefForgeModel" "BeliefForgeModel" "score" "[D" ∈ sysW := List.mem_filter.mpr ⟨List.mem_of_getElem? (i := 829) (by decide +kernel), by decide +kernel⟩
theorem mw_831 : Cond.lays "BeliefForgeModel" "BeliefForgeModel" "foundMany" "I" ∈ sysW := List.mem_filter.mpr ⟨List.mem_of_getElem? (i := 831) (by decide +kernel), by decide +kernel⟩
theorem mw_833 : Cond.lays "BeliefForgeModel" "BeliefForgeModel" "left" "I" ∈ sysW := List.mem_filter.mpr ⟨List.mem_of_getElem? (i := 833) (by decide +kernel), by decide +kernel⟩
theorem mw_189 : Cond.fieldLink "BeliefForge" 10 "BeliefForge" "texts" "LBeliefForge$Texts;" ∈ sysW := List.mem_filter.mpr ⟨List.mem_of_getElem? (i := 189) (by decide +kernel), by decide +kernel⟩
theorem mw_190 : Cond.fieldLink "BeliefForge" 19 "BeliefForge" "query" "LBeliefForge$Query;" ∈ sysW := List.mem_filter.mpr ⟨List.mem_of_getElem? (i := 190) (by decide +kernel), by decide +kernel⟩
theorem mw_191 : Cond.fieldLink "BeliefForge" 28 "BeliefForge" "network" "LBeliefForge$Network;" ∈ sysW := List.mem_filter.mpr ⟨List.mem_of_getElem? (i := 191) (by decide +kernel), by decide +kernel⟩
theorem mw_192 : Cond.fieldLink "BeliefForge" 35 "BeliefForge" "ranking" "LBeliefForge$Ranking;" ∈ sysW := List.mem_filter.mpr ⟨List.mem_of_getElem? (i := 192) (by decide +kernel), by decide +kernel⟩
theorem mw_193 : Cond.fieldLink "BeliefForge" 44 "BeliefForge" "maker" "LBeliefForge$Maker;" ∈ sysW := List.mem_filter.mpr ⟨List.mem_of_getElem? (i := 193) (by decide +kernel), by decide +kernel⟩
theorem mw_304 : Cond.methodLink "BeliefForge" 55 ⟨"BeliefForge$Texts", "isFull", "()Z"⟩ ∈ sysW := List.mem_filter.mpr ⟨List.mem_of_getElem? (i := 304) (by decide +kernel), by decide +kernel⟩
theorem mw_305 : Cond.instanceMethod ⟨"BeliefForge$Texts", "isFull", "()Z"⟩ ∈ sysW := List.mem_filter.mpr ⟨List.mem_of_getElem? (i := 305) (by decide +kernel), by decide +kernel⟩
theorem mw_306 : Cond.selects "BeliefForge$Texts" ⟨"BeliefForge$Texts", "isFull", "()Z"⟩ ⟨"BeliefForge$Texts", "isFull", "()Z"⟩ ∈ sysW := List.mem_filter.mpr ⟨List.mem_of_getElem? (i := 306) (by decide +kernel), by decide +kernel⟩
theorem mw_38 : Cond.initialized "BeliefForge$Texts" ∈ sysW := List.mem_filter.mpr ⟨List.mem_of_getElem? (i := 38) (by decide +kernel), by decide +kernel⟩
theorem mw_307 : Cond.code ⟨"BeliefForge$Texts", "isFull", "()Z"⟩ prog_6_method_4_code 1 (some .boolean) ∈ sysW := List.mem_filter.mpr ⟨List.mem_of_getElem? (i := 307) (by decide +kernel), by decide +kernel⟩
theorem mw_324 : Cond.methodLink "BeliefForge" 64 ⟨"BeliefForge$Texts", "open", "(I)I"⟩ ∈ sysW := List.mem_filter.mpr ⟨List.mem_of_getElem? (i := 324) (by decide +kernel), by decide +kernel⟩
theorem mw_325 : Cond.instanceMethod ⟨"BeliefForge$Texts", "open", "(I)I"⟩ ∈ sysW := List.mem_filter.mpr ⟨List.mem_of_getElem? (i := 325) (by decide +kernel), by decide +kernel⟩
theorem mw_326 : Cond.selects "BeliefForge$Texts" ⟨"BeliefForge$Texts", "open", "(I)I"⟩ ⟨"BeliefForge$Texts", "open", "(I)I"⟩ ∈ sysW := List.mem_filter.mpr ⟨List.mem_of_getElem? (i := 326) (by decide +kernel), by decide +kernel⟩
theorem mw_327 : Cond.code ⟨"BeliefForge$Texts", "open", "(I)I"⟩ prog_6_method_6_code 2 (some .int) ∈ sysW := List.mem_filter.mpr ⟨List.mem_of_getElem? (i := 327) (by decide +kernel), by decide +kernel⟩
theorem mw_335 : Cond.methodLink "BeliefForge" 68 ⟨"BeliefForge", "isWord", "(I)Z"⟩ ∈ sysW := List.mem_filter.mpr ⟨List.mem_of_getElem? (i := 335) (by decide +kernel), by decide +kernel⟩
theorem mw_336 : Cond.static ⟨"BeliefForge", "isWord", "(I)Z"⟩ ∈ sysW := List.mem_filter.mpr ⟨List.mem_of_getElem? (i := 336) (by decide +kernel), by decide +kernel⟩
theorem mw_37 : Cond.initialized "BeliefForge" ∈ sysW := List.mem_filter.mpr ⟨List.mem_of_getElem? (i := 37) (by decide +kernel), by decide +kernel⟩
theorem mw_337 : Cond.code ⟨"BeliefForge", "isWord", "(I)Z"⟩ prog_1_method_17_code 1 (some .boolean) ∈ sysW := List.mem_filter.mpr ⟨List.mem_of_getElem? (i := 337) (by decide +kernel), by decide +kernel⟩
theorem mw_339 : Cond.methodLink "BeliefForge" 74 ⟨"BeliefForge$Texts", "takesWord", "()Z"⟩ ∈ sysW := List.mem_filter.mpr ⟨List.mem_of_getElem? (i := 339) (by decide +kernel), by decide +kernel⟩
theorem mw_340 : Cond.instanceMethod ⟨"BeliefForge$Texts", "takesWord", "()Z"⟩ ∈ sysW := List.mem_filter.mpr ⟨List.mem_of_getElem? (i := 340) (by decide +kernel), by decide +kernel⟩
theorem mw_341 : Cond.selects "BeliefForge$Texts" ⟨"BeliefForge$Texts", "takesWord", "()Z"⟩ ⟨"BeliefForge$Texts", "takesWord", "()Z"⟩ ∈ sysW := List.mem_filter.mpr ⟨List.mem_of_getElem? (i := 341) (by decide +kernel), by decide +kernel⟩
theorem mw_342 : Cond.code ⟨"BeliefForge$Texts", "takesWord", "()Z"⟩ prog_6_method_7_code 1 (some .boolean) ∈ sysW := List.mem_filter.mpr ⟨List.mem_of_getElem? (i := 342) (by decide +kernel), by decide +kernel⟩
theorem mw_344 : Cond.methodLink "BeliefForge" 79 ⟨"BeliefForge$Texts", "append", "(I)I"⟩ ∈ sysW := List.mem_filter.mpr ⟨List.mem_of_getElem? (i := 344) (by decide +kernel), by decide +kernel⟩
theorem mw_345 : Cond.instanceMethod ⟨"BeliefForge$Texts", "append", "(I)I"⟩ ∈ sysW := List.mem_filter.mpr ⟨List.mem_of_getElem? (i := 345) (by decide +kernel), by decide +kernel⟩
theorem mw_346 : Cond.selects "BeliefForge$Texts" ⟨"BeliefForge$Texts", "append", "(I)I"⟩ ⟨"BeliefForge$Texts", "append", "(I)I"⟩ ∈ sysW := List.mem_filter.mpr ⟨List.mem_of_getElem? (i := 346) (by decide +kernel), by decide +kernel⟩
theorem mw_347 : Cond.code ⟨"BeliefForge$Texts", "append", "(I)I"⟩ prog_6_method_8_code 3 (some .int) ∈ sysW := List.mem_filter.mpr ⟨List.mem_of_getElem? (i := 347) (by decide +kernel), by decide +kernel⟩
theorem mw_356 : Cond.constantDouble "BeliefForge" 84 4636737291354636288 ∈ sysW := List.mem_filter.mpr ⟨List.mem_of_getElem? (i := 356) (by decide +kernel), by decide +kernel⟩
theorem mw_357 : Cond.methodLink "BeliefForge" 86 ⟨"BeliefForge", "isWithin", "(DD)Z"⟩ ∈ sysW := List.mem_filter.mpr ⟨List.mem_of_getElem? (i := 357) (by decide +kernel), by decide +kernel⟩
theorem mw_358 : Cond.static ⟨"BeliefForge", "isWithin", "(DD)Z"⟩ ∈ sysW := List.mem_filter.mpr ⟨List.mem_of_getElem? (i := 358) (by decide +kernel), by decide +kernel⟩
theorem mw_359 : Cond.code ⟨"BeliefForge", "isWithin", "(DD)Z"⟩ prog_1_method_18_code 4 (some .boolean) ∈ sysW := List.mem_filter.mpr ⟨List.mem_of_getElem? (i := 359) (by decide +kernel), by decide +kernel⟩
theorem mw_361 : Cond.methodLink "BeliefForge" 92 ⟨"BeliefForge$Network", "change", "(ID)I"⟩ ∈ sysW := List.mem_filter.mpr ⟨List.mem_of_getElem? (i := 361) (by decide +kernel), by decide +kernel⟩
theorem mw_362 : Cond.instanceMethod ⟨"BeliefForge$Network", "change", "(ID)I"⟩ ∈ sysW := List.mem_filter.mpr ⟨List.mem_of_getElem? (i := 362) (by decide +kernel), by decide +kernel⟩
theorem mw_363 : Cond.selects "BeliefForge$Network" ⟨"BeliefForge$Network", "change", "(ID)I"⟩ ⟨"BeliefForge$Network", "change", "(ID)I"⟩ ∈ sysW := List.mem_filter.mpr ⟨List.mem_of_getElem? (i := 363) (by decide +kernel), by decide +kernel⟩
theorem mw_40 : Cond.initialized "BeliefForge$Network" ∈ sysW := List.mem_filter.mpr ⟨List.mem_of_getElem? (i := 40) (by decide +kernel), by decide +kernel⟩
theorem mw_364 : Cond.code ⟨"BeliefForge$Network", "change", "(ID)I"⟩ prog_3_method_2_code 5 (some .int) ∈ sysW := List.mem_filter.mpr ⟨List.mem_of_getElem? (i := 364) (by decide +kernel), by decide +kernel⟩
theorem mw_373 : Cond.methodLink "BeliefForge" 96 ⟨"BeliefForge", "isNumberOf", "(II)Z"⟩ ∈ sysW := List.mem_filter.mpr ⟨List.mem_of_getElem? (i := 373) (by decide +kernel), by decide +kernel⟩
theorem mw_374 : Cond.static ⟨"BeliefForge", "isNumberOf", "(II)Z"⟩ ∈ sysW := List.mem_filter.mpr ⟨List.mem_of_getElem? (i := 374) (by decide +kernel), by decide +kernel⟩
theorem mw_375 : Cond.code ⟨"BeliefForge", "isNumberOf", "(II)Z"⟩ prog_1_method_21_code 2 (some .boolean) ∈ sysW := List.mem_filter.mpr ⟨List.mem_of_getElem? (i := 375) (by decide +kernel), by decide +kernel⟩
theorem mw_377 : Cond.methodLink "BeliefForge" 102 ⟨"BeliefForge", "isWeightOf", "(ID)Z"⟩ ∈ sysW := List.mem_filter.mpr ⟨List.mem_of_getElem? (i := 377) (by decide +kernel), by decide +kernel⟩
theorem mw_378 : Cond.static ⟨"BeliefForge", "isWeightOf", "(ID)Z"⟩ ∈ sysW := List.mem_filter.mpr ⟨List.mem_of_getElem? (i := 378) (by decide +kernel), by decide +kernel⟩
theorem mw_379 : Cond.code ⟨"BeliefForge", "isWeightOf", "(ID)Z"⟩ prog_1_method_22_code 3 (some .boolean) ∈ sysW := List.mem_filter.mpr ⟨List.mem_of_getElem? (i := 379) (by decide +kernel), by decide +kernel⟩
theorem mw_387 : Cond.methodLink "BeliefForge" 108 ⟨"BeliefForge$Query", "isFull", "()Z"⟩ ∈ sysW := List.mem_filter.mpr ⟨List.mem_of_getElem? (i := 387) (by decide +kernel), by decide +kernel⟩
theorem mw_388 : Cond.instanceMethod ⟨"BeliefForge$Query", "isFull", "()Z"⟩ ∈ sysW := List.mem_filter.mpr ⟨List.mem_of_getElem? (i := 388) (by decide +kernel), by decide +kernel⟩
theorem mw_389 : Cond.selects "BeliefForge$Query" ⟨"BeliefForge$Query", "isFull", "()Z"⟩ ⟨"BeliefForge$Query", "isFull", "()Z"⟩ ∈ sysW := List.mem_filter.mpr ⟨List.mem_of_getElem? (i := 389) (by decide +kernel), by decide +kernel⟩
theorem mw_39 : Cond.initialized "BeliefForge$Query" ∈ sysW := List.mem_filter.mpr ⟨List.mem_of_getElem? (i := 39) (by decide +kernel), by decide +kernel⟩
theorem mw_390 : Cond.code ⟨"BeliefForge$Query", "isFull", "()Z"⟩ prog_4_method_4_code 1 (some .boolean) ∈ sysW := List.mem_filter.mpr ⟨List.mem_of_getElem? (i := 390) (by decide +kernel), by decide +kernel⟩
theorem mw_391 : Cond.methodLink "BeliefForge" 109 ⟨"BeliefForge$Query", "isWhole", "()Z"⟩ ∈ sysW := List.mem_filter.mpr ⟨List.mem_of_getElem? (i := 391) (by decide +kernel), by decide +kernel⟩
theorem mw_392 : Cond.instanceMethod ⟨"BeliefForge$Query", "isWhole", "()Z"⟩ ∈ sysW := List.mem_filter.mpr ⟨List.mem_of_getElem? (i := 392) (by decide +kernel), by decide +kernel⟩
theorem mw_393 : Cond.selects "BeliefForge$Query" ⟨"BeliefForge$Query", "isWhole", "()Z"⟩ ⟨"BeliefForge$Query", "isWhole", "()Z"⟩ ∈ sysW := List.mem_filter.mpr ⟨List.mem_of_getElem? (i := 393) (by decide +kernel), by decide +kernel⟩
theorem mw_394 : Cond.code ⟨"BeliefForge$Query", "isWhole", "()Z"⟩ prog_4_method_5_code 1 (some .boolean) ∈ sysW := List.mem_filter.mpr ⟨List.mem_of_getElem? (i := 394) (by decide +kernel), by decide +kernel⟩
theorem mw_396 : Cond.methodLink "BeliefForge" 114 ⟨"BeliefForge$Query", "wantsTerm", "()Z"⟩ ∈ sysW := List.mem_filter.mpr ⟨List.mem_of_getElem? (i := 396) (by decide +kernel), by decide +kernel⟩
theorem mw_397 : Cond.instanceMethod ⟨"BeliefForge$Query", "wantsTerm", "()Z"⟩ ∈ sysW := List.mem_filter.mpr ⟨List.mem_of_getElem? (i := 397) (by decide +kernel), by decide +kernel⟩
theorem mw_398 : Cond.selects "BeliefForge$Query" ⟨"BeliefForge$Query", "wantsTerm", "()Z"⟩ ⟨"BeliefForge$Query", "wantsTerm", "()Z"⟩ ∈ sysW := List.mem_filter.mpr ⟨List.mem_of_getElem? (i := 398) (by decide +kernel), by decide +kernel⟩
theorem mw_399 : Cond.code ⟨"BeliefForge$Query", "wantsTerm", "()Z"⟩ prog_4_method_6_code 1 (some .boolean) ∈ sysW := List.mem_filter.mpr ⟨List.mem_of_getElem? (i := 399) (by decide +kernel), by decide +kernel⟩
theorem mw_416 : Cond.methodLink "BeliefForge" 122 ⟨"BeliefForge$Query", "append", "(IID)I"⟩ ∈ sysW := List.mem_filter.mpr ⟨List.mem_of_getElem? (i := 416) (by decide +kernel), by decide +kernel⟩
theorem mw_417 : Cond.instanceMethod ⟨"BeliefForge$Query", "append", "(IID)I"⟩ ∈ sysW := List.mem_filter.mpr ⟨List.mem_of_getElem? (i := 417) (by decide +kernel), by decide +kernel⟩
theorem mw_418 : Cond.selects "BeliefForge$Query" ⟨"BeliefForge$Query", "append", "(IID)I"⟩ ⟨"BeliefForge$Query", "append", "(IID)I"⟩ ∈ sysW := List.mem_filter.mpr ⟨List.mem_of_getElem? (i := 418) (by decide +kernel), by decide +kernel⟩
theorem mw_419 : Cond.code ⟨"BeliefForge$Query", "append", "(IID)I"⟩ prog_4_method_12_code 6 (some .int) ∈ sysW := List.mem_filter.mpr ⟨List.mem_of_getElem? (i := 419) (by decide +kernel), by decide +kernel⟩
theorem mw_209 : Cond.methodLink "BeliefForge" 125 ⟨"BeliefForge$Query", "size", "()I"⟩ ∈ sysW := List.mem_filter.mpr ⟨List.mem_of_getElem? (i := 209) (by decide +kernel), by decide +kernel⟩
theorem mw_210 : Cond.instanceMethod ⟨"BeliefForge$Query", "size", "()I"⟩ ∈ sysW := List.mem_filter.mpr ⟨List.mem_of_getElem? (i := 210) (by decide +kernel), by decide +kernel⟩
theorem mw_211 : Cond.selects "BeliefForge$Query" ⟨"BeliefForge$Query", "size", "()I"⟩ ⟨"BeliefForge$Query", "size", "()I"⟩ ∈ sysW := List.mem_filter.mpr ⟨List.mem_of_getElem? (i := 211) (by decide +kernel), by decide +kernel⟩
theorem mw_212 : Cond.code ⟨"BeliefForge$Query", "size", "()I"⟩ prog_4_method_2_code 1 (some .int) ∈ sysW := List.mem_filter.mpr ⟨List.mem_of_getElem? (i := 212) (by decide +kernel), by decide +kernel⟩
theorem mw_213 : Cond.methodLink "BeliefForge" 129 ⟨"BeliefForge$Query", "empty", "()V"⟩ ∈ sysW := List.mem_filter.mpr ⟨List.mem_of_getElem? (i := 213) (by decide +kernel), by decide +kernel⟩
theorem mw_214 : Cond.instanceMethod ⟨"BeliefForge$Query", "empty", "()V"⟩ ∈ sysW := List.mem_filter.mpr ⟨List.mem_of_getElem? (i := 214) (by decide +kernel), by decide +kernel⟩
theorem mw_215 : Cond.selects "BeliefForge$Query" ⟨"BeliefForge$Query", "empty", "()V"⟩ ⟨"BeliefForge$Query", "empty", "()V"⟩ ∈ sysW := List.mem_filter.mpr ⟨List.mem_of_getElem? (i := 215) (by decide +kernel), by decide +kernel⟩
theorem mw_216 : Cond.code ⟨"BeliefForge$Query", "empty", "()V"⟩ prog_4_method_11_code 1 none ∈ sysW := List.mem_filter.mpr ⟨List.mem_of_getElem? (i := 216) (by decide +kernel), by decide +kernel⟩
theorem mw_221 : Cond.methodLink "BeliefForge" 132 ⟨"BeliefForge$Query", "nodesWanted", "()I"⟩ ∈ sysW := List.mem_filter.mpr ⟨List.mem_of_getElem? (i := 221) (by decide +kernel), by decide +kernel⟩
theorem mw_222 : Cond.instanceMethod ⟨"BeliefForge$Query", "nodesWanted", "()I"⟩ ∈ sysW := List.mem_filter.mpr ⟨List.mem_of_getElem? (i := 222) (by decide +kernel), by decide +kernel⟩
theorem mw_223 : Cond.selects "BeliefForge$Query" ⟨"BeliefForge$Query", "nodesWanted", "()I"⟩ ⟨"BeliefForge$Query", "nodesWanted", "()I"⟩ ∈ sysW := List.mem_filter.mpr ⟨List.mem_of_getElem? (i := 223) (by decide +kernel), by decide +kernel⟩
theorem mw_224 : Cond.code ⟨"BeliefForge$Query", "nodesWanted", "()I"⟩ prog_4_method_3_code 1 (some .int) ∈ sysW := List.mem_filter.mpr ⟨List.mem_of_getElem? (i := 224) (by decide +kernel), by decide +kernel⟩
theorem mw_443 : Cond.methodLink "BeliefForge" 135 ⟨"BeliefForge$Texts", "has", "(I)Z"⟩ ∈ sysW := List.mem_filter.mpr ⟨List.mem_of_getElem? (i := 443) (by decide +kernel), by decide +kernel⟩
theorem mw_444 : Cond.instanceMethod ⟨"BeliefForge$Texts", "has", "(I)Z"⟩ ∈ sysW := List.mem_filter.mpr ⟨List.mem_of_getElem? (i := 444) (by decide +kernel), by decide +kernel⟩
theorem mw_445 : Cond.selects "BeliefForge$Texts" ⟨"BeliefForge$Texts", "has", "(I)Z"⟩ ⟨"BeliefForge$Texts", "has", "(I)Z"⟩ ∈ sysW := List.mem_filter.mpr ⟨List.mem_of_getElem? (i := 445) (by decide +kernel), by decide +kernel⟩
theorem mw_446 : Cond.code ⟨"BeliefForge$Texts", "has", "(I)Z"⟩ prog_6_method_5_code 2 (some .boolean) ∈ sysW := List.mem_filter.mpr ⟨List.mem_of_getElem? (i := 446) (by decide +kernel), by decide +kernel⟩
theorem mw_447 : Cond.methodLink "BeliefForge" 138 ⟨"BeliefForge$Texts", "lengthOf", "(I)I"⟩ ∈ sysW := List.mem_filter.mpr ⟨List.mem_of_getElem? (i := 447) (by decide +kernel), by decide +kernel⟩
theorem mw_448 : Cond.instanceMethod ⟨"BeliefForge$Texts", "lengthOf", "(I)I"⟩ ∈ sysW := List.mem_filter.mpr ⟨List.mem_of_getElem? (i := 448) (by decide +kernel), by decide +kernel⟩
theorem mw_449 : Cond.selects "BeliefForge$Texts" ⟨"BeliefForge$Texts", "lengthOf", "(I)I"⟩ ⟨"BeliefForge$Texts", "lengthOf", "(I)I"⟩ ∈ sysW := List.mem_filter.mpr ⟨List.mem_of_getElem? (i := 449) (by decide +kernel), by decide +kernel⟩
theorem mw_450 : Cond.code ⟨"BeliefForge$Texts", "lengthOf", "(I)I"⟩ prog_6_method_9_code 2 (some .int) ∈ sysW := List.mem_filter.mpr ⟨List.mem_of_getElem? (i := 450) (by decide +kernel), by decide +kernel⟩
theorem mw_468 : Cond.methodLink "BeliefForge" 148 ⟨"BeliefForge$Network", "countHits", "()V"⟩ ∈ sysW := List.mem_filter.mpr ⟨List.mem_of_getElem? (i := 468) (by decide +kernel), by decide +kernel⟩
theorem mw_469 : Cond.instanceMethod ⟨"BeliefForge$Network", "countHits", "()V"⟩ ∈ sysW := List.mem_filter.mpr ⟨List.mem_of_getElem? (i := 469) (by decide +kernel), by decide +kernel⟩
theorem mw_470 : Cond.selects "BeliefForge$Network" ⟨"BeliefForge$Network", "countHits", "()V"⟩ ⟨"BeliefForge$Network", "countHits", "()V"⟩ ∈ sysW := List.mem_filter.mpr ⟨List.mem_of_getElem? (i := 470) (by decide +kernel), by decide +kernel⟩
theorem mw_471 : Cond.code ⟨"BeliefForge$Network", "countHits", "()V"⟩ prog_3_method_4_code 2 none ∈ sysW := List.mem_filter.mpr ⟨List.mem_of_getElem? (i := 471) (by decide +kernel), by decide +kernel⟩
theorem mw_531 : Cond.methodLink "BeliefForge" 151 ⟨"BeliefForge$Network", "judge", "(I)V"⟩ ∈ sysW := List.mem_filter.mpr ⟨List.mem_of_getElem? (i := 531) (by decide +kernel), by decide +kernel⟩
theorem mw_532 : Cond.instanceMethod ⟨"BeliefForge$Network", "judge", "(I)V"⟩ ∈ sysW := List.mem_filter.mpr ⟨List.mem_of_getElem? (i := 532) (by decide +kernel), by decide +kernel⟩
theorem mw_533 : Cond.selects "BeliefForge$Network" ⟨"BeliefForge$Network", "judge", "(I)V"⟩ ⟨"BeliefForge$Network", "judge", "(I)V"⟩ ∈ sysW := List.mem_filter.mpr ⟨List.mem_of_getElem? (i := 533) (by decide +kernel), by decide +kernel⟩
theorem mw_534 : Cond.code ⟨"BeliefForge$Network", "judge", "(I)V"⟩ prog_3_method_5_code 3 none ∈ sysW := List.mem_filter.mpr ⟨List.mem_of_getElem? (i := 534) (by decide +kernel), by decide +kernel⟩
theorem mw_596 : Cond.methodLink "BeliefForge" 155 ⟨"BeliefForge$Network", "leavesOut", "(I)Z"⟩ ∈ sysW := List.mem_filter.mpr ⟨List.mem_of_getElem? (i := 596) (by decide +kernel), by decide +kernel⟩
theorem mw_597 : Cond.instanceMethod ⟨"BeliefForge$Network", "leavesOut", "(I)Z"⟩ ∈ sysW := List.mem_filter.mpr ⟨List.mem_of_getElem? (i := 597) (by decide +kernel), by decide +kernel⟩
theorem mw_598 : Cond.selects "BeliefForge$Network" ⟨"BeliefForge$Network", "leavesOut", "(I)Z"⟩ ⟨"BeliefForge$Network", "leavesOut", "(I)Z"⟩ ∈ sysW := List.mem_filter.mpr ⟨List.mem_of_getElem? (i := 598) (by decide +kernel), by decide +kernel⟩
theorem mw_599 : Cond.code ⟨"BeliefForge$Network", "leavesOut", "(I)Z"⟩ prog_3_method_7_code 3 (some .boolean) ∈ sysW := List.mem_filter.mpr ⟨List.mem_of_getElem? (i := 599) (by decide +kernel), by decide +kernel⟩
theorem mw_620 : Cond.methodLink "BeliefForge" 163 ⟨"BeliefForge$Network", "judgement", "()D"⟩ ∈ sysW := List.mem_filter.mpr ⟨List.mem_of_getElem? (i := 620) (by decide +kernel), by decide +kernel⟩
theorem mw_621 : Cond.instanceMethod ⟨"BeliefForge$Network", "judgement", "()D"⟩ ∈ sysW := List.mem_filter.mpr ⟨List.mem_of_getElem? (i := 621) (by decide +kernel), by decide +kernel⟩
theorem mw_622 : Cond.selects "BeliefForge$Network" ⟨"BeliefForge$Network", "judgement", "()D"⟩ ⟨"BeliefForge$Network", "judgement", "()D"⟩ ∈ sysW := List.mem_filter.mpr ⟨List.mem_of_getElem? (i := 622) (by decide +kernel), by decide +kernel⟩
theorem mw_623 : Cond.code ⟨"BeliefForge$Network", "judgement", "()D"⟩ prog_3_method_6_code 1 (some .double) ∈ sysW := List.mem_filter.mpr ⟨List.mem_of_getElem? (i := 623) (by decide +kernel), by decide +kernel⟩
theorem mw_631 : Cond.methodLink "BeliefForge" 167 ⟨"BeliefForge$Query", "has", "(I)Z"⟩ ∈ sysW := List.mem_filter.mpr ⟨List.mem_of_getElem? (i := 631) (by decide +kernel), by decide +kernel⟩
theorem mw_632 : Cond.instanceMethod ⟨"BeliefForge$Query", "has", "(I)Z"⟩ ∈ sysW := List.mem_filter.mpr ⟨List.mem_of_getElem? (i := 632) (by decide +kernel), by decide +kernel⟩
theorem mw_633 : Cond.selects "BeliefForge$Query" ⟨"BeliefForge$Query", "has", "(I)Z"⟩ ⟨"BeliefForge$Query", "has", "(I)Z"⟩ ∈ sysW := List.mem_filter.mpr ⟨List.mem_of_getElem? (i := 633) (by decide +kernel), by decide +kernel⟩
theorem mw_634 : Cond.code ⟨"BeliefForge$Query", "has", "(I)Z"⟩ prog_4_method_7_code 2 (some .boolean) ∈ sysW := List.mem_filter.mpr ⟨List.mem_of_getElem? (i := 634) (by decide +kernel), by decide +kernel⟩
theorem mw_636 : Cond.methodLink "BeliefForge" 170 ⟨"BeliefForge$Query", "kindOf", "(I)I"⟩ ∈ sysW := List.mem_filter.mpr ⟨List.mem_of_getElem? (i := 636) (by decide +kernel), by decide +kernel⟩
theorem mw_474 : Cond.instanceMethod ⟨"BeliefForge$Query", "kindOf", "(I)I"⟩ ∈ sysW := List.mem_filter.mpr ⟨List.mem_of_getElem? (i := 474) (by decide +kernel), by decide +kernel⟩
theorem mw_475 : Cond.selects "BeliefForge$Query" ⟨"BeliefForge$Query", "kindOf", "(I)I"⟩ ⟨"BeliefForge$Query", "kindOf", "(I)I"⟩ ∈ sysW := List.mem_filter.mpr ⟨List.mem_of_getElem? (i := 475) (by decide +kernel), by decide +kernel⟩
theorem mw_476 : Cond.code ⟨"BeliefForge$Query", "kindOf", "(I)I"⟩ prog_4_method_8_code 2 (some .int) ∈ sysW := List.mem_filter.mpr ⟨List.mem_of_getElem? (i := 476) (by decide +kernel), by decide +kernel⟩
theorem mw_637 : Cond.methodLink "BeliefForge" 173 ⟨"BeliefForge", "hasHits", "(I)Z"⟩ ∈ sysW := List.mem_filter.mpr ⟨List.mem_of_getElem? (i := 637) (by decide +kernel), by decide +kernel⟩
theorem mw_478 : Cond.static ⟨"BeliefForge", "hasHits", "(I)Z"⟩ ∈ sysW := List.mem_filter.mpr ⟨List.mem_of_getElem? (i := 478) (by decide +kernel), by decide +kernel⟩
theorem mw_479 : Cond.code ⟨"BeliefForge", "hasHits", "(I)Z"⟩ prog_1_method_20_code 1 (some .boolean) ∈ sysW := List.mem_filter.mpr ⟨List.mem_of_getElem? (i := 479) (by decide +kernel), by decide +kernel⟩
theorem mw_639 : Cond.methodLink "BeliefForge" 178 ⟨"BeliefForge$Network", "hitsIn", "(II)I"⟩ ∈ sysW := List.mem_filter.mpr ⟨List.mem_of_getElem? (i := 639) (by decide +kernel), by decide +kernel⟩
theorem mw_489 : Cond.instanceMethod ⟨"BeliefForge$Network", "hitsIn", "(II)I"⟩ ∈ sysW := List.mem_filter.mpr ⟨List.mem_of_getElem? (i := 489) (by decide +kernel), by decide +kernel⟩
theorem mw_490 : Cond.selects "BeliefForge$Network" ⟨"BeliefForge$Network", "hitsIn", "(II)I"⟩ ⟨"BeliefForge$Network", "hitsIn", "(II)I"⟩ ∈ sysW := List.mem_filter.mpr ⟨List.mem_of_getElem? (i := 490) (by decide +kernel), by decide +kernel⟩
theorem mw_491 : Cond.code ⟨"BeliefForge$Network", "hitsIn", "(II)I"⟩ prog_3_method_3_code 5 (some .int) ∈ sysW := List.mem_filter.mpr ⟨List.mem_of_getElem? (i := 491) (by decide +kernel), by decide +kernel⟩
theorem mw_648 : Cond.methodLink "BeliefForge" 184 ⟨"BeliefForge$Ranking", "empty", "()V"⟩ ∈ sysW := List.mem_filter.mpr ⟨List.mem_of_getElem? (i := 648) (by decide +kernel), by decide +kernel⟩
theorem mw_649 : Cond.instanceMethod ⟨"BeliefForge$Ranking", "empty", "()V"⟩ ∈ sysW := List.mem_filter.mpr ⟨List.mem_of_getElem? (i := 649) (by decide +kernel), by decide +kernel⟩
theorem mw_650 : Cond.selects "BeliefForge$Ranking" ⟨"BeliefForge$Ranking", "empty", "()V"⟩ ⟨"BeliefForge$Ranking", "empty", "()V"⟩ ∈ sysW := List.mem_filter.mpr ⟨List.mem_of_getElem? (i := 650) (by decide +kernel), by decide +kernel⟩
theorem mw_41 : Cond.initialized "BeliefForge$Ranking" ∈ sysW := List.mem_filter.mpr ⟨List.mem_of_getElem? (i := 41) (by decide +kernel), by decide +kernel⟩
theorem mw_651 : Cond.code ⟨"BeliefForge$Ranking", "empty", "()V"⟩ prog_5_method_7_code 1 none ∈ sysW := List.mem_filter.mpr ⟨List.mem_of_getElem? (i := 651) (by decide +kernel), by decide +kernel⟩
theorem mw_652 : Cond.methodLink "BeliefForge" 185 ⟨"BeliefForge$Texts", "size", "()I"⟩ ∈ sysW := List.mem_filter.mpr ⟨List.mem_of_getElem? (i := 652) (by decide +kernel), by decide +kernel⟩
theorem mw_485 : Cond.instanceMethod ⟨"BeliefForge$Texts", "size", "()I"⟩ ∈ sysW := List.mem_filter.mpr ⟨List.mem_of_getElem? (i := 485) (by decide +kernel), by decide +kernel⟩
theorem mw_486 : Cond.selects "BeliefForge$Texts" ⟨"BeliefForge$Texts", "size", "()I"⟩ ⟨"BeliefForge$Texts", "size", "()I"⟩ ∈ sysW := List.mem_filter.mpr ⟨List.mem_of_getElem? (i := 486) (by decide +kernel), by decide +kernel⟩
theorem mw_487 : Cond.code ⟨"BeliefForge$Texts", "size", "()I"⟩ prog_6_method_2_code 1 (some .int) ∈ sysW := List.mem_filter.mpr ⟨List.mem_of_getElem? (i := 487) (by decide +kernel), by decide +kernel⟩
theorem mw_653 : Cond.methodLink "BeliefForge" 186 ⟨"BeliefForge", "rank", "(I)V"⟩ ∈ sysW := List.mem_filter.mpr ⟨List.mem_of_getElem? (i := 653) (by decide +kernel), by decide +kernel⟩
theorem mw_655 : Cond.instanceMethod ⟨"BeliefForge", "rank", "(I)V"⟩ ∈ sysW := List.mem_filter.mpr ⟨List.mem_of_getElem? (i := 655) (by decide +kernel), by decide +kernel⟩
theorem mw_18 : Cond.selects "BeliefForge" ⟨"BeliefForge", "rank", "(I)V"⟩ ⟨"BeliefForge", "rank", "(I)V"⟩ ∈ sysW := List.mem_filter.mpr ⟨List.mem_of_getElem? (i := 18) (by decide +kernel), by decide +kernel⟩
theorem mw_656 : Cond.code ⟨"BeliefForge", "rank", "(I)V"⟩ prog_1_method_16_code 2 none ∈ sysW := List.mem_filter.mpr ⟨List.mem_of_getElem? (i := 656) (by decide +kernel), by decide +kernel⟩
theorem mw_665 : Cond.methodLink "BeliefForge" 189 ⟨"BeliefForge$Ranking", "keep", "(I)I"⟩ ∈ sysW := List.mem_filter.mpr ⟨List.mem_of_getElem? (i := 665) (by decide +kernel), by decide +kernel⟩
theorem mw_666 : Cond.instanceMethod ⟨"BeliefForge$Ranking", "keep", "(I)I"⟩ ∈ sysW := List.mem_filter.mpr ⟨List.mem_of_getElem? (i := 666) (by decide +kernel), by decide +kernel⟩
theorem mw_667 : Cond.selects "BeliefForge$Ranking" ⟨"BeliefForge$Ranking", "keep", "(I)I"⟩ ⟨"BeliefForge$Ranking", "keep", "(I)I"⟩ ∈ sysW := List.mem_filter.mpr ⟨List.mem_of_getElem? (i := 667) (by decide +kernel), by decide +kernel⟩
theorem mw_668 : Cond.code ⟨"BeliefForge$Ranking", "keep", "(I)I"⟩ prog_5_method_10_code 2 (some .int) ∈ sysW := List.mem_filter.mpr ⟨List.mem_of_getElem? (i := 668) (by decide +kernel), by decide +kernel⟩
theorem mw_679 : Cond.methodLink "BeliefForge" 192 ⟨"BeliefForge$Ranking", "has", "(I)Z"⟩ ∈ sysW := List.mem_filter.mpr ⟨List.mem_of_getElem? (i := 679) (by decide +kernel), by decide +kernel⟩
theorem mw_680 : Cond.instanceMethod ⟨"BeliefForge$Ranking", "has", "(I)Z"⟩ ∈ sysW := List.mem_filter.mpr ⟨List.mem_of_getElem? (i := 680) (by decide +kernel), by decide +kernel⟩
theorem mw_681 : Cond.selects "BeliefForge$Ranking" ⟨"BeliefForge$Ranking", "has", "(I)Z"⟩ ⟨"BeliefForge$Ranking", "has", "(I)Z"⟩ ∈ sysW := List.mem_filter.mpr ⟨List.mem_of_getElem? (i := 681) (by decide +kernel), by decide +kernel⟩
theorem mw_682 : Cond.code ⟨"BeliefForge$Ranking", "has", "(I)Z"⟩ prog_5_method_4_code 2 (some .boolean) ∈ sysW := List.mem_filter.mpr ⟨List.mem_of_getElem? (i := 682) (by decide +kernel), by decide +kernel⟩
theorem mw_684 : Cond.methodLink "BeliefForge" 195 ⟨"BeliefForge$Ranking", "documentAt", "(I)I"⟩ ∈ sysW := List.mem_filter.mpr ⟨List.mem_of_getElem? (i := 684) (by decide +kernel), by decide +kernel⟩
theorem mw_685 : Cond.instanceMethod ⟨"BeliefForge$Ranking", "documentAt", "(I)I"⟩ ∈ sysW := List.mem_filter.mpr ⟨List.mem_of_getElem? (i := 685) (by decide +kernel), by decide +kernel⟩
theorem mw_686 : Cond.selects "BeliefForge$Ranking" ⟨"BeliefForge$Ranking", "documentAt", "(I)I"⟩ ⟨"BeliefForge$Ranking", "documentAt", "(I)I"⟩ ∈ sysW := List.mem_filter.mpr ⟨List.mem_of_getElem? (i := 686) (by decide +kernel), by decide +kernel⟩
theorem mw_687 : Cond.code ⟨"BeliefForge$Ranking", "documentAt", "(I)I"⟩ prog_5_method_5_code 2 (some .int) ∈ sysW := List.mem_filter.mpr ⟨List.mem_of_getElem? (i := 687) (by decide +kernel), by decide +kernel⟩
theorem mw_695 : Cond.methodLink "BeliefForge" 198 ⟨"BeliefForge$Ranking", "beliefAt", "(I)D"⟩ ∈ sysW := List.mem_filter.mpr ⟨List.mem_of_getElem? (i := 695) (by decide +kernel), by decide +kernel⟩
theorem mw_696 : Cond.instanceMethod ⟨"BeliefForge$Ranking", "beliefAt", "(I)D"⟩ ∈ sysW := List.mem_filter.mpr ⟨List.mem_of_getElem? (i := 696) (by decide +kernel), by decide +kernel⟩
theorem mw_697 : Cond.selects "BeliefForge$Ranking" ⟨"BeliefForge$Ranking", "beliefAt", "(I)D"⟩ ⟨"BeliefForge$Ranking", "beliefAt", "(I)D"⟩ ∈ sysW := List.mem_filter.mpr ⟨List.mem_of_getElem? (i := 697) (by decide +kernel), by decide +kernel⟩
theorem mw_698 : Cond.code ⟨"BeliefForge$Ranking", "beliefAt", "(I)D"⟩ prog_5_method_6_code 2 (some .double) ∈ sysW := List.mem_filter.mpr ⟨List.mem_of_getElem? (i := 698) (by decide +kernel), by decide +kernel⟩
theorem mw_707 : Cond.methodLink "BeliefForge" 204 ⟨"BeliefForge$Ranking", "size", "()I"⟩ ∈ sysW := List.mem_filter.mpr ⟨List.mem_of_getElem? (i := 707) (by decide +kernel), by decide +kernel⟩
theorem mw_708 : Cond.instanceMethod ⟨"BeliefForge$Ranking", "size", "()I"⟩ ∈ sysW := List.mem_filter.mpr ⟨List.mem_of_getElem? (i := 708) (by decide +kernel), by decide +kernel⟩
theorem mw_709 : Cond.selects "BeliefForge$Ranking" ⟨"BeliefForge$Ranking", "size", "()I"⟩ ⟨"BeliefForge$Ranking", "size", "()I"⟩ ∈ sysW := List.mem_filter.mpr ⟨List.mem_of_getElem? (i := 709) (by decide +kernel), by decide +kernel⟩
theorem mw_710 : Cond.code ⟨"BeliefForge$Ranking", "size", "()I"⟩ prog_5_method_2_code 1 (some .int) ∈ sysW := List.mem_filter.mpr ⟨List.mem_of_getElem? (i := 710) (by decide +kernel), by decide +kernel⟩
theorem mw_712 : Cond.methodLink "BeliefForge" 207 ⟨"BeliefForge$Maker", "choose", "(I)V"⟩ ∈ sysW := List.mem_filter.mpr ⟨List.mem_of_getElem? (i := 712) (by decide +kernel), by decide +kernel⟩
theorem mw_713 : Cond.instanceMethod ⟨"BeliefForge$Maker", "choose", "(I)V"⟩ ∈ sysW := List.mem_filter.mpr ⟨List.mem_of_getElem? (i := 713) (by decide +kernel), by decide +kernel⟩
theorem mw_714 : Cond.selects "BeliefForge$Maker" ⟨"BeliefForge$Maker", "choose", "(I)V"⟩ ⟨"BeliefForge$Maker", "choose", "(I)V"⟩ ∈ sysW := List.mem_filter.mpr ⟨List.mem_of_getElem? (i := 714) (by decide +kernel), by decide +kernel⟩
theorem mw_42 : Cond.initialized "BeliefForge$Maker" ∈ sysW := List.mem_filter.mpr ⟨List.mem_of_getElem? (i := 42) (by decide +kernel), by decide +kernel⟩
theorem mw_715 : Cond.code ⟨"BeliefForge$Maker", "choose", "(I)V"⟩ prog_2_method_2_code 3 none ∈ sysW := List.mem_filter.mpr ⟨List.mem_of_getElem? (i := 715) (by decide +kernel), by decide +kernel⟩
theorem mw_733 : Cond.methodLink "BeliefForge" 210 ⟨"BeliefForge$Maker", "write", "(LBeliefForge$Query;)V"⟩ ∈ sysW := List.mem_filter.mpr ⟨List.mem_of_getElem? (i := 733) (by decide +kernel), by decide +kernel⟩
theorem mw_734 : Cond.instanceMethod ⟨"BeliefForge$Maker", "write", "(LBeliefForge$Query;)V"⟩ ∈ sysW := List.mem_filter.mpr ⟨List.mem_of_getElem? (i := 734) (by decide +kernel), by decide +kernel⟩
theorem mw_735 : Cond.selects "BeliefForge$Maker" ⟨"BeliefForge$Maker", "write", "(LBeliefForge$Query;)V"⟩ ⟨"BeliefForge$Maker", "write", "(LBeliefForge$Query;)V"⟩ ∈ sysW := List.mem_filter.mpr ⟨List.mem_of_getElem? (i := 735) (by decide +kernel), by decide +kernel⟩
theorem mw_736 : Cond.code ⟨"BeliefForge$Maker", "write", "(LBeliefForge$Query;)V"⟩ prog_2_method_3_code 3 none ∈ sysW := List.mem_filter.mpr ⟨List.mem_of_getElem? (i := 736) (by decide +kernel), by decide +kernel⟩
theorem mw_747 : Cond.methodLink "BeliefForge" 216 ⟨"BeliefForge$Query", "numberOf", "(I)I"⟩ ∈ sysW := List.mem_filter.mpr ⟨List.mem_of_getElem? (i := 747) (by decide +kernel), by decide +kernel⟩
theorem mw_498 : Cond.instanceMethod ⟨"BeliefForge$Query", "numberOf", "(I)I"⟩ ∈ sysW := List.mem_filter.mpr ⟨List.mem_of_getElem? (i := 498) (by decide +kernel), by decide +kernel⟩
theorem mw_499 : Cond.selects "BeliefForge$Query" ⟨"BeliefForge$Query", "numberOf", "(I)I"⟩ ⟨"BeliefForge$Query", "numberOf", "(I)I"⟩ ∈ sysW := List.mem_filter.mpr ⟨List.mem_of_getElem? (i := 499) (by decide +kernel), by decide +kernel⟩
theorem mw_500 : Cond.code ⟨"BeliefForge$Query", "numberOf", "(I)I"⟩ prog_4_method_9_code 2 (some .int) ∈ sysW := List.mem_filter.mpr ⟨List.mem_of_getElem? (i := 500) (by decide +kernel), by decide +kernel⟩
theorem mw_748 : Cond.methodLink "BeliefForge" 219 ⟨"BeliefForge$Query", "weightOf", "(I)D"⟩ ∈ sysW := List.mem_filter.mpr ⟨List.mem_of_getElem? (i := 748) (by decide +kernel), by decide +kernel⟩
theorem mw_565 : Cond.instanceMethod ⟨"BeliefForge$Query", "weightOf", "(I)D"⟩ ∈ sysW := List.mem_filter.mpr ⟨List.mem_of_getElem? (i := 565) (by decide +kernel), by decide +kernel⟩
theorem mw_566 : Cond.selects "BeliefForge$Query" ⟨"BeliefForge$Query", "weightOf", "(I)D"⟩ ⟨"BeliefForge$Query", "weightOf", "(I)D"⟩ ∈ sysW := List.mem_filter.mpr ⟨List.mem_of_getElem? (i := 566) (by decide +kernel), by decide +kernel⟩
theorem mw_567 : Cond.code ⟨"BeliefForge$Query", "weightOf", "(I)D"⟩ prog_4_method_10_code 2 (some .double) ∈ sysW := List.mem_filter.mpr ⟨List.mem_of_getElem? (i := 567) (by decide +kernel), by decide +kernel⟩
theorem mw_757 : Cond.methodLink "BeliefForge" 224 ⟨"BeliefForge$Texts", "timesInAll", "(I)I"⟩ ∈ sysW := List.mem_filter.mpr ⟨List.mem_of_getElem? (i := 757) (by decide +kernel), by decide +kernel⟩
theorem mw_758 : Cond.instanceMethod ⟨"BeliefForge$Texts", "timesInAll", "(I)I"⟩ ∈ sysW := List.mem_filter.mpr ⟨List.mem_of_getElem? (i := 758) (by decide +kernel), by decide +kernel⟩
theorem mw_759 : Cond.selects "BeliefForge$Texts" ⟨"BeliefForge$Texts", "timesInAll", "(I)I"⟩ ⟨"BeliefForge$Texts", "timesInAll", "(I)I"⟩ ∈ sysW := List.mem_filter.mpr ⟨List.mem_of_getElem? (i := 759) (by decide +kernel), by decide +kernel⟩
theorem mw_760 : Cond.code ⟨"BeliefForge$Texts", "timesInAll", "(I)I"⟩ prog_6_method_14_code 4 (some .int) ∈ sysW := List.mem_filter.mpr ⟨List.mem_of_getElem? (i := 760) (by decide +kernel), by decide +kernel⟩
theorem mw_762 : Cond.methodLink "BeliefForge" 227 ⟨"BeliefForge$Texts", "all", "()I"⟩ ∈ sysW := List.mem_filter.mpr ⟨List.mem_of_getElem? (i := 762) (by decide +kernel), by decide +kernel⟩
theorem mw_593 : Cond.instanceMethod ⟨"BeliefForge$Texts", "all", "()I"⟩ ∈ sysW := List.mem_filter.mpr ⟨List.mem_of_getElem? (i := 593) (by decide +kernel), by decide +kernel⟩
theorem mw_594 : Cond.selects "BeliefForge$Texts" ⟨"BeliefForge$Texts", "all", "()I"⟩ ⟨"BeliefForge$Texts", "all", "()I"⟩ ∈ sysW := List.mem_filter.mpr ⟨List.mem_of_getElem? (i := 594) (by decide +kernel), by decide +kernel⟩
theorem mw_595 : Cond.code ⟨"BeliefForge$Texts", "all", "()I"⟩ prog_6_method_3_code 1 (some .int) ∈ sysW := List.mem_filter.mpr ⟨List.mem_of_getElem? (i := 595) (by decide +kernel), by decide +kernel⟩
theorem mw_763 : Cond.methodLink "BeliefForge" 230 ⟨"BeliefForge$Ranking", "leftOut", "()I"⟩ ∈ sysW := List.mem_filter.mpr ⟨List.mem_of_getElem? (i := 763) (by decide +kernel), by decide +kernel⟩
theorem mw_764 : Cond.instanceMethod ⟨"BeliefForge$Ranking", "leftOut", "()I"⟩ ∈ sysW := List.mem_filter.mpr ⟨List.mem_of_getElem? (i := 764) (by decide +kernel), by decide +kernel⟩
theorem mw_765 : Cond.selects "BeliefForge$Ranking" ⟨"BeliefForge$Ranking", "leftOut", "()I"⟩ ⟨"BeliefForge$Ranking", "leftOut", "()I"⟩ ∈ sysW := List.mem_filter.mpr ⟨List.mem_of_getElem? (i := 765) (by decide +kernel), by decide +kernel⟩
theorem mw_766 : Cond.code ⟨"BeliefForge$Ranking", "leftOut", "()I"⟩ prog_5_method_3_code 1 (some .int) ∈ sysW := List.mem_filter.mpr ⟨List.mem_of_getElem? (i := 766) (by decide +kernel), by decide +kernel⟩
theorem mw_657 : Cond.methodLink "BeliefForge" 235 ⟨"BeliefForge$Ranking", "leaveOut", "()V"⟩ ∈ sysW := List.mem_filter.mpr ⟨List.mem_of_getElem? (i := 657) (by decide +kernel), by decide +kernel⟩
theorem mw_658 : Cond.instanceMethod ⟨"BeliefForge$Ranking", "leaveOut", "()V"⟩ ∈ sysW := List.mem_filter.mpr ⟨List.mem_of_getElem? (i := 658) (by decide +kernel), by decide +kernel⟩
theorem mw_659 : Cond.selects "BeliefForge$Ranking" ⟨"BeliefForge$Ranking", "leaveOut", "()V"⟩ ⟨"BeliefForge$Ranking", "leaveOut", "()V"⟩ ∈ sysW := List.mem_filter.mpr ⟨List.mem_of_getElem? (i := 659) (by decide +kernel), by decide +kernel⟩
theorem mw_660 : Cond.code ⟨"BeliefForge$Ranking", "leaveOut", "()V"⟩ prog_5_method_8_code 1 none ∈ sysW := List.mem_filter.mpr ⟨List.mem_of_getElem? (i := 660) (by decide +kernel), by decide +kernel⟩
theorem mw_661 : Cond.methodLink "BeliefForge" 238 ⟨"BeliefForge$Ranking", "put", "(ID)V"⟩ ∈ sysW := List.mem_filter.mpr ⟨List.mem_of_getElem? (i := 661) (by decide +kernel), by decide +kernel⟩
theorem mw_662 : Cond.instanceMethod ⟨"BeliefForge$Ranking", "put", "(ID)V"⟩ ∈ sysW := List.mem_filter.mpr ⟨List.mem_of_getElem? (i := 662) (by decide +kernel), by decide +kernel⟩
theorem mw_663 : Cond.selects "BeliefForge$Ranking" ⟨"BeliefForge$Ranking", "put", "(ID)V"⟩ ⟨"BeliefForge$Ranking", "put", "(ID)V"⟩ ∈ sysW := List.mem_filter.mpr ⟨List.mem_of_getElem? (i := 663) (by decide +kernel), by decide +kernel⟩
theorem mw_664 : Cond.code ⟨"BeliefForge$Ranking", "put", "(ID)V"⟩ prog_5_method_9_code 5 none ∈ sysW := List.mem_filter.mpr ⟨List.mem_of_getElem? (i := 664) (by decide +kernel), by decide +kernel⟩
theorem mw_380 : Cond.methodLink "BeliefForge" 242 ⟨"BeliefForge", "isWindow", "(I)Z"⟩ ∈ sysW := List.mem_filter.mpr ⟨List.mem_of_getElem? (i := 380) (by decide +kernel), by decide +kernel⟩
theorem mw_381 : Cond.static ⟨"BeliefForge", "isWindow", "(I)Z"⟩ ∈ sysW := List.mem_filter.mpr ⟨List.mem_of_getElem? (i := 381) (by decide +kernel), by decide +kernel⟩
theorem mw_382 : Cond.code ⟨"BeliefForge", "isWindow", "(I)Z"⟩ prog_1_method_19_code 1 (some .boolean) ∈ sysW := List.mem_filter.mpr ⟨List.mem_of_getElem? (i := 382) (by decide +kernel), by decide +kernel⟩
theorem mw_383 : Cond.constantDouble "BeliefForge" 245 4611686018427387904 ∈ sysW := List.mem_filter.mpr ⟨List.mem_of_getElem? (i := 383) (by decide +kernel), by decide +kernel⟩
theorem mw_384 : Cond.constantDouble "BeliefForge" 247 4613937818241073152 ∈ sysW := List.mem_filter.mpr ⟨List.mem_of_getElem? (i := 384) (by decide +kernel), by decide +kernel⟩
theorem mw_385 : Cond.constantDouble "BeliefForge" 249 4616189618054758400 ∈ sysW := List.mem_filter.mpr ⟨List.mem_of_getElem? (i := 385) (by decide +kernel), by decide +kernel⟩
theorem mw_571 : Cond.constantDouble "BeliefForge" 251 4336966441157787648 ∈ sysW := List.mem_filter.mpr ⟨List.mem_of_getElem? (i := 571) (by decide +kernel), by decide +kernel⟩
theorem mw_572 : Cond.constantDouble "BeliefForge" 253 13857013103465594880 ∈ sysW := List.mem_filter.mpr ⟨List.mem_of_getElem? (i := 572) (by decide +kernel), by decide +kernel⟩
theorem mw_69 : Cond.fieldLink "BeliefForge$Texts" 11 "BeliefForge$Texts" "words" "[[I" ∈ sysW := List.mem_filter.mpr ⟨List.mem_of_getElem? (i := 69) (by decide +kernel), by decide +kernel⟩
theorem mw_70 : Cond.fieldLink "BeliefForge$Texts" 16 "BeliefForge$Texts" "lengths" "[I" ∈ sysW := List.mem_filter.mpr ⟨List.mem_of_getElem? (i := 70) (by decide +kernel), by decide +kernel⟩
theorem mw_71 : Cond.fieldLink "BeliefForge$Texts" 20 "BeliefForge$Texts" "titles" "[I" ∈ sysW := List.mem_filter.mpr ⟨List.mem_of_getElem? (i := 71) (by decide +kernel), by decide +kernel⟩
theorem mw_72 : Cond.fieldLink "BeliefForge$Texts" 23 "BeliefForge$Texts" "size" "I" ∈ sysW := List.mem_filter.mpr ⟨List.mem_of_getElem? (i := 72) (by decide +kernel), by decide +kernel⟩
theorem mw_73 : Cond.fieldLink "BeliefForge$Texts" 27 "BeliefForge$Texts" "all" "I" ∈ sysW := List.mem_filter.mpr ⟨List.mem_of_getElem? (i := 73) (by decide +kernel), by decide +kernel⟩
theorem mw_509 : Cond.methodLink "BeliefForge$Texts" 30 ⟨"BeliefForge$Texts", "stands", "(III)Z"⟩ ∈ sysW := List.mem_filter.mpr ⟨List.mem_of_getElem? (i := 509) (by decide +kernel), by decide +kernel⟩
theorem mw_502 : Cond.instanceMethod ⟨"BeliefForge$Texts", "stands", "(III)Z"⟩ ∈ sysW := List.mem_filter.mpr ⟨List.mem_of_getElem? (i := 502) (by decide +kernel), by decide +kernel⟩
theorem mw_503 : Cond.selects "BeliefForge$Texts" ⟨"BeliefForge$Texts", "stands", "(III)Z"⟩ ⟨"BeliefForge$Texts", "stands", "(III)Z"⟩ ∈ sysW := List.mem_filter.mpr ⟨List.mem_of_getElem? (i := 503) (by decide +kernel), by decide +kernel⟩
theorem mw_504 : Cond.code ⟨"BeliefForge$Texts", "stands", "(III)Z"⟩ prog_6_method_10_code 4 (some .boolean) ∈ sysW := List.mem_filter.mpr ⟨List.mem_of_getElem? (i := 504) (by decide +kernel), by decide +kernel⟩
theorem mw_761 : Cond.methodLink "BeliefForge$Texts" 34 ⟨"BeliefForge$Texts", "timesIn", "(II)I"⟩ ∈ sysW := List.mem_filter.mpr ⟨List.mem_of_getElem? (i := 761) (by decide +kernel), by decide +kernel⟩
theorem mw_724 : Cond.instanceMethod ⟨"BeliefForge$Texts", "timesIn", "(II)I"⟩ ∈ sysW := List.mem_filter.mpr ⟨List.mem_of_getElem? (i := 724) (by decide +kernel), by decide +kernel⟩
theorem mw_725 : Cond.selects "BeliefForge$Texts" ⟨"BeliefForge$Texts", "timesIn", "(II)I"⟩ ⟨"BeliefForge$Texts", "timesIn", "(II)I"⟩ ∈ sysW := List.mem_filter.mpr ⟨List.mem_of_getElem? (i := 725) (by decide +kernel), by decide +kernel⟩
theorem mw_726 : Cond.code ⟨"BeliefForge$Texts", "timesIn", "(II)I"⟩ prog_6_method_13_code 5 (some .int) ∈ sysW := List.mem_filter.mpr ⟨List.mem_of_getElem? (i := 726) (by decide +kernel), by decide +kernel⟩
theorem mw_92 : Cond.fieldLink "BeliefForge$Query" 9 "BeliefForge$Query" "kinds" "[I" ∈ sysW := List.mem_filter.mpr ⟨List.mem_of_getElem? (i := 92) (by decide +kernel), by decide +kernel⟩
theorem mw_93 : Cond.fieldLink "BeliefForge$Query" 15 "BeliefForge$Query" "numbers" "[I" ∈ sysW := List.mem_filter.mpr ⟨List.mem_of_getElem? (i := 93) (by decide +kernel), by decide +kernel⟩
theorem mw_94 : Cond.fieldLink "BeliefForge$Query" 18 "BeliefForge$Query" "weights" "[D" ∈ sysW := List.mem_filter.mpr ⟨List.mem_of_getElem? (i := 94) (by decide +kernel), by decide +kernel⟩
theorem mw_95 : Cond.fieldLink "BeliefForge$Query" 22 "BeliefForge$Query" "ends" "[I" ∈ sysW := List.mem_filter.mpr ⟨List.mem_of_getElem? (i := 95) (by decide +kernel), by decide +kernel⟩
theorem mw_96 : Cond.fieldLink "BeliefForge$Query" 25 "BeliefForge$Query" "size" "I" ∈ sysW := List.mem_filter.mpr ⟨List.mem_of_getElem? (i := 96) (by decide +kernel), by decide +kernel⟩
theorem mw_97 : Cond.fieldLink "BeliefForge$Query" 29 "BeliefForge$Query" "nodesWanted" "I" ∈ sysW := List.mem_filter.mpr ⟨List.mem_of_getElem? (i := 97) (by decide +kernel), by decide +kernel⟩
theorem mw_98 : Cond.fieldLink "BeliefForge$Query" 32 "BeliefForge$Query" "termsWanted" "I" ∈ sysW := List.mem_filter.mpr ⟨List.mem_of_getElem? (i := 98) (by decide +kernel), by decide +kernel⟩
theorem mw_420 : Cond.methodLink "BeliefForge$Query" 35 ⟨"BeliefForge$Query", "partsOf", "(I)I"⟩ ∈ sysW := List.mem_filter.mpr ⟨List.mem_of_getElem? (i := 420) (by decide +kernel), by decide +kernel⟩
theorem mw_421 : Cond.instanceMethod ⟨"BeliefForge$Query", "partsOf", "(I)I"⟩ ∈ sysW := List.mem_filter.mpr ⟨List.mem_of_getElem? (i := 421) (by decide +kernel), by decide +kernel⟩
theorem mw_422 : Cond.selects "BeliefForge$Query" ⟨"BeliefForge$Query", "partsOf", "(I)I"⟩ ⟨"BeliefForge$Query", "partsOf", "(I)I"⟩ ∈ sysW := List.mem_filter.mpr ⟨List.mem_of_getElem? (i := 422) (by decide +kernel), by decide +kernel⟩
theorem mw_423 : Cond.code ⟨"BeliefForge$Query", "partsOf", "(I)I"⟩ prog_4_method_13_code 2 (some .int) ∈ sysW := List.mem_filter.mpr ⟨List.mem_of_getElem? (i := 423) (by decide +kernel), by decide +kernel⟩
theorem mw_425 : Cond.methodLink "BeliefForge$Query" 43 ⟨"BeliefForge$Query", "isWhole", "()Z"⟩ ∈ sysW := List.mem_filter.mpr ⟨List.mem_of_getElem? (i := 425) (by decide +kernel), by decide +kernel⟩
theorem mw_426 : Cond.methodLink "BeliefForge$Query" 47 ⟨"BeliefForge$Query", "markEnds", "()V"⟩ ∈ sysW := List.mem_filter.mpr ⟨List.mem_of_getElem? (i := 426) (by decide +kernel), by decide +kernel⟩
theorem mw_428 : Cond.instanceMethod ⟨"BeliefForge$Query", "markEnds", "()V"⟩ ∈ sysW := List.mem_filter.mpr ⟨List.mem_of_getElem? (i := 428) (by decide +kernel), by decide +kernel⟩
theorem mw_1 : Cond.selects "BeliefForge$Query" ⟨"BeliefForge$Query", "markEnds", "()V"⟩ ⟨"BeliefForge$Query", "markEnds", "()V"⟩ ∈ sysW := List.mem_filter.mpr ⟨List.mem_of_getElem? (i := 1) (by decide +kernel), by decide +kernel⟩
theorem mw_429 : Cond.code ⟨"BeliefForge$Query", "markEnds", "()V"⟩ prog_4_method_16_code 2 none ∈ sysW := List.mem_filter.mpr ⟨List.mem_of_getElem? (i := 429) (by decide +kernel), by decide +kernel⟩
theorem mw_430 : Cond.methodLink "BeliefForge$Query" 50 ⟨"BeliefForge$Query", "partAt", "(II)I"⟩ ∈ sysW := List.mem_filter.mpr ⟨List.mem_of_getElem? (i := 430) (by decide +kernel), by decide +kernel⟩
theorem mw_431 : Cond.instanceMethod ⟨"BeliefForge$Query", "partAt", "(II)I"⟩ ∈ sysW := List.mem_filter.mpr ⟨List.mem_of_getElem? (i := 431) (by decide +kernel), by decide +kernel⟩
theorem mw_432 : Cond.selects "BeliefForge$Query" ⟨"BeliefForge$Query", "partAt", "(II)I"⟩ ⟨"BeliefForge$Query", "partAt", "(II)I"⟩ ∈ sysW := List.mem_filter.mpr ⟨List.mem_of_getElem? (i := 432) (by decide +kernel), by decide +kernel⟩
theorem mw_433 : Cond.code ⟨"BeliefForge$Query", "partAt", "(II)I"⟩ prog_4_method_14_code 5 (some .int) ∈ sysW := List.mem_filter.mpr ⟨List.mem_of_getElem? (i := 433) (by decide +kernel), by decide +kernel⟩
theorem mw_125 : Cond.fieldLink "BeliefForge$Network" 11 "BeliefForge$Network" "tf" "[[I" ∈ sysW := List.mem_filter.mpr ⟨List.mem_of_getElem? (i := 125) (by decide +kernel), by decide +kernel⟩
theorem mw_126 : Cond.fieldLink "BeliefForge$Network" 16 "BeliefForge$Network" "cf" "[I" ∈ sysW := List.mem_filter.mpr ⟨List.mem_of_getElem? (i := 126) (by decide +kernel), by decide +kernel⟩
theorem mw_127 : Cond.fieldLink "BeliefForge$Network" 20 "BeliefForge$Network" "beliefs" "[D" ∈ sysW := List.mem_filter.mpr ⟨List.mem_of_getElem? (i := 127) (by decide +kernel), by decide +kernel⟩
theorem mw_128 : Cond.fieldLink "BeliefForge$Network" 24 "BeliefForge$Network" "smoothing" "I" ∈ sysW := List.mem_filter.mpr ⟨List.mem_of_getElem? (i := 128) (by decide +kernel), by decide +kernel⟩
theorem mw_122 : Cond.constantDouble "BeliefForge$Network" 28 4611686018427387904 ∈ sysW := List.mem_filter.mpr ⟨List.mem_of_getElem? (i := 122) (by decide +kernel), by decide +kernel⟩
theorem mw_129 : Cond.fieldLink "BeliefForge$Network" 30 "BeliefForge$Network" "mu" "D" ∈ sysW := List.mem_filter.mpr ⟨List.mem_of_getElem? (i := 129) (by decide +kernel), by decide +kernel⟩
theorem mw_123 : Cond.fieldLink "BeliefForge$Network" 34 "BeliefForge$Network" "texts" "LBeliefForge$Texts;" ∈ sysW := List.mem_filter.mpr ⟨List.mem_of_getElem? (i := 123) (by decide +kernel), by decide +kernel⟩
theorem mw_124 : Cond.fieldLink "BeliefForge$Network" 38 "BeliefForge$Network" "query" "LBeliefForge$Query;" ∈ sysW := List.mem_filter.mpr ⟨List.mem_of_getElem? (i := 124) (by decide +kernel), by decide +kernel⟩
theorem mw_492 : Cond.methodLink "BeliefForge$Network" 42 ⟨"BeliefForge$Texts", "lengthOf", "(I)I"⟩ ∈ sysW := List.mem_filter.mpr ⟨List.mem_of_getElem? (i := 492) (by decide +kernel), by decide +kernel⟩
theorem mw_493 : Cond.methodLink "BeliefForge$Network" 48 ⟨"BeliefForge$Network", "isHit", "(III)Z"⟩ ∈ sysW := List.mem_filter.mpr ⟨List.mem_of_getElem? (i := 493) (by decide +kernel), by decide +kernel⟩
theorem mw_495 : Cond.instanceMethod ⟨"BeliefForge$Network", "isHit", "(III)Z"⟩ ∈ sysW := List.mem_filter.mpr ⟨List.mem_of_getElem? (i := 495) (by decide +kernel), by decide +kernel⟩
theorem mw_3 : Cond.selects "BeliefForge$Network" ⟨"BeliefForge$Network", "isHit", "(III)Z"⟩ ⟨"BeliefForge$Network", "isHit", "(III)Z"⟩ ∈ sysW := List.mem_filter.mpr ⟨List.mem_of_getElem? (i := 3) (by decide +kernel), by decide +kernel⟩
theorem mw_496 : Cond.code ⟨"BeliefForge$Network", "isHit", "(III)Z"⟩ prog_3_method_10_code 4 (some .boolean) ∈ sysW := List.mem_filter.mpr ⟨List.mem_of_getElem? (i := 496) (by decide +kernel), by decide +kernel⟩
theorem mw_472 : Cond.methodLink "BeliefForge$Network" 52 ⟨"BeliefForge$Query", "size", "()I"⟩ ∈ sysW := List.mem_filter.mpr ⟨List.mem_of_getElem? (i := 472) (by decide +kernel), by decide +kernel⟩
theorem mw_473 : Cond.methodLink "BeliefForge$Network" 58 ⟨"BeliefForge$Query", "kindOf", "(I)I"⟩ ∈ sysW := List.mem_filter.mpr ⟨List.mem_of_getElem? (i := 473) (by decide +kernel), by decide +kernel⟩
theorem mw_480 : Cond.methodLink "BeliefForge$Network" 65 ⟨"BeliefForge$Network", "countHitsOf", "(I)V"⟩ ∈ sysW := List.mem_filter.mpr ⟨List.mem_of_getElem? (i := 480) (by decide +kernel), by decide +kernel⟩
theorem mw_482 : Cond.instanceMethod ⟨"BeliefForge$Network", "countHitsOf", "(I)V"⟩ ∈ sysW := List.mem_filter.mpr ⟨List.mem_of_getElem? (i := 482) (by decide +kernel), by decide +kernel⟩
theorem mw_2 : Cond.selects "BeliefForge$Network" ⟨"BeliefForge$Network", "countHitsOf", "(I)V"⟩ ⟨"BeliefForge$Network", "countHitsOf", "(I)V"⟩ ∈ sysW := List.mem_filter.mpr ⟨List.mem_of_getElem? (i := 2) (by decide +kernel), by decide +kernel⟩
theorem mw_483 : Cond.code ⟨"BeliefForge$Network", "countHitsOf", "(I)V"⟩ prog_3_method_9_code 3 none ∈ sysW := List.mem_filter.mpr ⟨List.mem_of_getElem? (i := 483) (by decide +kernel), by decide +kernel⟩
theorem mw_535 : Cond.methodLink "BeliefForge$Network" 69 ⟨"BeliefForge$Network", "beliefIn", "(II)D"⟩ ∈ sysW := List.mem_filter.mpr ⟨List.mem_of_getElem? (i := 535) (by decide +kernel), by decide +kernel⟩
theorem mw_537 : Cond.instanceMethod ⟨"BeliefForge$Network", "beliefIn", "(II)D"⟩ ∈ sysW := List.mem_filter.mpr ⟨List.mem_of_getElem? (i := 537) (by decide +kernel), by decide +kernel⟩
theorem mw_7 : Cond.selects "BeliefForge$Network" ⟨"BeliefForge$Network", "beliefIn", "(II)D"⟩ ⟨"BeliefForge$Network", "beliefIn", "(II)D"⟩ ∈ sysW := List.mem_filter.mpr ⟨List.mem_of_getElem? (i := 7) (by decide +kernel), by decide +kernel⟩
theorem mw_538 : Cond.code ⟨"BeliefForge$Network", "beliefIn", "(II)D"⟩ prog_3_method_14_code 3 (some .double) ∈ sysW := List.mem_filter.mpr ⟨List.mem_of_getElem? (i := 538) (by decide +kernel), by decide +kernel⟩
theorem mw_600 : Cond.methodLink "BeliefForge$Network" 73 ⟨"BeliefForge$Network", "isMet", "(II)Z"⟩ ∈ sysW := List.mem_filter.mpr ⟨List.mem_of_getElem? (i := 600) (by decide +kernel), by decide +kernel⟩
theorem mw_602 : Cond.instanceMethod ⟨"BeliefForge$Network", "isMet", "(II)Z"⟩ ∈ sysW := List.mem_filter.mpr ⟨List.mem_of_getElem? (i := 602) (by decide +kernel), by decide +kernel⟩
theorem mw_17 : Cond.selects "BeliefForge$Network" ⟨"BeliefForge$Network", "isMet", "(II)Z"⟩ ⟨"BeliefForge$Network", "isMet", "(II)Z"⟩ ∈ sysW := List.mem_filter.mpr ⟨List.mem_of_getElem? (i := 17) (by decide +kernel), by decide +kernel⟩
theorem mw_603 : Cond.code ⟨"BeliefForge$Network", "isMet", "(II)Z"⟩ prog_3_method_8_code 3 (some .boolean) ∈ sysW := List.mem_filter.mpr ⟨List.mem_of_getElem? (i := 603) (by decide +kernel), by decide +kernel⟩
theorem mw_591 : Cond.constantDouble "BeliefForge$Network" 77 4602678819172646912 ∈ sysW := List.mem_filter.mpr ⟨List.mem_of_getElem? (i := 591) (by decide +kernel), by decide +kernel⟩
theorem mw_484 : Cond.methodLink "BeliefForge$Network" 79 ⟨"BeliefForge$Texts", "size", "()I"⟩ ∈ sysW := List.mem_filter.mpr ⟨List.mem_of_getElem? (i := 484) (by decide +kernel), by decide +kernel⟩
theorem mw_488 : Cond.methodLink "BeliefForge$Network" 80 ⟨"BeliefForge$Network", "hitsIn", "(II)I"⟩ ∈ sysW := List.mem_filter.mpr ⟨List.mem_of_getElem? (i := 488) (by decide +kernel), by decide +kernel⟩
theorem mw_497 : Cond.methodLink "BeliefForge$Network" 84 ⟨"BeliefForge$Query", "numberOf", "(I)I"⟩ ∈ sysW := List.mem_filter.mpr ⟨List.mem_of_getElem? (i := 497) (by decide +kernel), by decide +kernel⟩
theorem mw_501 : Cond.methodLink "BeliefForge$Network" 87 ⟨"BeliefForge$Texts", "stands", "(III)Z"⟩ ∈ sysW := List.mem_filter.mpr ⟨List.mem_of_getElem? (i := 501) (by decide +kernel), by decide +kernel⟩
theorem mw_505 : Cond.methodLink "BeliefForge$Network" 90 ⟨"BeliefForge$Texts", "standsInTitle", "(III)Z"⟩ ∈ sysW := List.mem_filter.mpr ⟨List.mem_of_getElem? (i := 505) (by decide +kernel), by decide +kernel⟩
theorem mw_506 : Cond.instanceMethod ⟨"BeliefForge$Texts", "standsInTitle", "(III)Z"⟩ ∈ sysW := List.mem_filter.mpr ⟨List.mem_of_getElem? (i := 506) (by decide +kernel), by decide +kernel⟩
theorem mw_507 : Cond.selects "BeliefForge$Texts" ⟨"BeliefForge$Texts", "standsInTitle", "(III)Z"⟩ ⟨"BeliefForge$Texts", "standsInTitle", "(III)Z"⟩ ∈ sysW := List.mem_filter.mpr ⟨List.mem_of_getElem? (i := 507) (by decide +kernel), by decide +kernel⟩
theorem mw_508 : Cond.code ⟨"BeliefForge$Texts", "standsInTitle", "(III)Z"⟩ prog_6_method_11_code 4 (some .boolean) ∈ sysW := List.mem_filter.mpr ⟨List.mem_of_getElem? (i := 508) (by decide +kernel), by decide +kernel⟩
theorem mw_510 : Cond.methodLink "BeliefForge$Network" 93 ⟨"BeliefForge$Network", "startsWay", "(III)Z"⟩ ∈ sysW := List.mem_filter.mpr ⟨List.mem_of_getElem? (i := 510) (by decide +kernel), by decide +kernel⟩
theorem mw_512 : Cond.instanceMethod ⟨"BeliefForge$Network", "startsWay", "(III)Z"⟩ ∈ sysW := List.mem_filter.mpr ⟨List.mem_of_getElem? (i := 512) (by decide +kernel), by decide +kernel⟩
theorem mw_4 : Cond.selects "BeliefForge$Network" ⟨"BeliefForge$Network", "startsWay", "(III)Z"⟩ ⟨"BeliefForge$Network", "startsWay", "(III)Z"⟩ ∈ sysW := List.mem_filter.mpr ⟨List.mem_of_getElem? (i := 4) (by decide +kernel), by decide +kernel⟩
theorem mw_513 : Cond.code ⟨"BeliefForge$Network", "startsWay", "(III)Z"⟩ prog_3_method_11_code 7 (some .boolean) ∈ sysW := List.mem_filter.mpr ⟨List.mem_of_getElem? (i := 513) (by decide +kernel), by decide +kernel⟩
theorem mw_523 : Cond.methodLink "BeliefForge$Network" 96 ⟨"BeliefForge$Network", "standsAny", "(III)Z"⟩ ∈ sysW := List.mem_filter.mpr ⟨List.mem_of_getElem? (i := 523) (by decide +kernel), by decide +kernel⟩
theorem mw_525 : Cond.instanceMethod ⟨"BeliefForge$Network", "standsAny", "(III)Z"⟩ ∈ sysW := List.mem_filter.mpr ⟨List.mem_of_getElem? (i := 525) (by decide +kernel), by decide +kernel⟩
theorem mw_5 : Cond.selects "BeliefForge$Network" ⟨"BeliefForge$Network", "standsAny", "(III)Z"⟩ ⟨"BeliefForge$Network", "standsAny", "(III)Z"⟩ ∈ sysW := List.mem_filter.mpr ⟨List.mem_of_getElem? (i := 5) (by decide +kernel), by decide +kernel⟩
theorem mw_526 : Cond.code ⟨"BeliefForge$Network", "standsAny", "(III)Z"⟩ prog_3_method_12_code 5 (some .boolean) ∈ sysW := List.mem_filter.mpr ⟨List.mem_of_getElem? (i := 526) (by decide +kernel), by decide +kernel⟩
theorem mw_527 : Cond.methodLink "BeliefForge$Network" 99 ⟨"BeliefForge$Network", "standAllWithin", "(III)Z"⟩ ∈ sysW := List.mem_filter.mpr ⟨List.mem_of_getElem? (i := 527) (by decide +kernel), by decide +kernel⟩
theorem mw_529 : Cond.instanceMethod ⟨"BeliefForge$Network", "standAllWithin", "(III)Z"⟩ ∈ sysW := List.mem_filter.mpr ⟨List.mem_of_getElem? (i := 529) (by decide +kernel), by decide +kernel⟩
theorem mw_6 : Cond.selects "BeliefForge$Network" ⟨"BeliefForge$Network", "standAllWithin", "(III)Z"⟩ ⟨"BeliefForge$Network", "standAllWithin", "(III)Z"⟩ ∈ sysW := List.mem_filter.mpr ⟨List.mem_of_getElem? (i := 6) (by decide +kernel), by decide +kernel⟩
theorem mw_530 : Cond.code ⟨"BeliefForge$Network", "standAllWithin", "(III)Z"⟩ prog_3_method_13_code 5 (some .boolean) ∈ sysW := List.mem_filter.mpr ⟨List.mem_of_getElem? (i := 530) (by decide +kernel), by decide +kernel⟩
theorem mw_514 : Cond.methodLink "BeliefForge$Network" 102 ⟨"BeliefForge$Query", "termOf", "(II)I"⟩ ∈ sysW := List.mem_filter.mpr ⟨List.mem_of_getElem? (i := 514) (by decide +kernel), by decide +kernel⟩
theorem mw_515 : Cond.instanceMethod ⟨"BeliefForge$Query", "termOf", "(II)I"⟩ ∈ sysW := List.mem_filter.mpr ⟨List.mem_of_getElem? (i := 515) (by decide +kernel), by decide +kernel⟩
theorem mw_516 : Cond.selects "BeliefForge$Query" ⟨"BeliefForge$Query", "termOf", "(II)I"⟩ ⟨"BeliefForge$Query", "termOf", "(II)I"⟩ ∈ sysW := List.mem_filter.mpr ⟨List.mem_of_getElem? (i := 516) (by decide +kernel), by decide +kernel⟩
theorem mw_517 : Cond.code ⟨"BeliefForge$Query", "termOf", "(II)I"⟩ prog_4_method_15_code 3 (some .int) ∈ sysW := List.mem_filter.mpr ⟨List.mem_of_getElem? (i := 517) (by decide +kernel), by decide +kernel⟩
theorem mw_518 : Cond.methodLink "BeliefForge$Network" 105 ⟨"BeliefForge$Query", "partsOf", "(I)I"⟩ ∈ sysW := List.mem_filter.mpr ⟨List.mem_of_getElem? (i := 518) (by decide +kernel), by decide +kernel⟩
theorem mw_519 : Cond.methodLink "BeliefForge$Network" 108 ⟨"BeliefForge$Texts", "nextPlace", "(III)I"⟩ ∈ sysW := List.mem_filter.mpr ⟨List.mem_of_getElem? (i := 519) (by decide +kernel), by decide +kernel⟩
theorem mw_520 : Cond.instanceMethod ⟨"BeliefForge$Texts", "nextPlace", "(III)I"⟩ ∈ sysW := List.mem_filter.mpr ⟨List.mem_of_getElem? (i := 520) (by decide +kernel), by decide +kernel⟩
theorem mw_521 : Cond.selects "BeliefForge$Texts" ⟨"BeliefForge$Texts", "nextPlace", "(III)I"⟩ ⟨"BeliefForge$Texts", "nextPlace", "(III)I"⟩ ∈ sysW := List.mem_filter.mpr ⟨List.mem_of_getElem? (i := 521) (by decide +kernel), by decide +kernel⟩
theorem mw_522 : Cond.code ⟨"BeliefForge$Texts", "nextPlace", "(III)I"⟩ prog_6_method_12_code 5 (some .int) ∈ sysW := List.mem_filter.mpr ⟨List.mem_of_getElem? (i := 522) (by decide +kernel), by decide +kernel⟩
theorem mw_539 : Cond.methodLink "BeliefForge$Network" 112 ⟨"BeliefForge$Network", "productOf", "(I)D"⟩ ∈ sysW := List.mem_filter.mpr ⟨List.mem_of_getElem? (i := 539) (by decide +kernel), by decide +kernel⟩
theorem mw_541 : Cond.instanceMethod ⟨"BeliefForge$Network", "productOf", "(I)D"⟩ ∈ sysW := List.mem_filter.mpr ⟨List.mem_of_getElem? (i := 541) (by decide +kernel), by decide +kernel⟩
theorem mw_8 : Cond.selects "BeliefForge$Network" ⟨"BeliefForge$Network", "productOf", "(I)D"⟩ ⟨"BeliefForge$Network", "productOf", "(I)D"⟩ ∈ sysW := List.mem_filter.mpr ⟨List.mem_of_getElem? (i := 8) (by decide +kernel), by decide +kernel⟩
theorem mw_542 : Cond.code ⟨"BeliefForge$Network", "productOf", "(I)D"⟩ prog_3_method_18_code 5 (some .double) ∈ sysW := List.mem_filter.mpr ⟨List.mem_of_getElem? (i := 542) (by decide +kernel), by decide +kernel⟩
theorem mw_548 : Cond.methodLink "BeliefForge$Network" 116 ⟨"BeliefForge$Network", "productOfDoubts", "(I)D"⟩ ∈ sysW := List.mem_filter.mpr ⟨List.mem_of_getElem? (i := 548) (by decide +kernel), by decide +kernel⟩
theorem mw_550 : Cond.instanceMethod ⟨"BeliefForge$Network", "productOfDoubts", "(I)D"⟩ ∈ sysW := List.mem_filter.mpr ⟨List.mem_of_getElem? (i := 550) (by decide +kernel), by decide +kernel⟩
theorem mw_10 : Cond.selects "BeliefForge$Network" ⟨"BeliefForge$Network", "productOfDoubts", "(I)D"⟩ ⟨"BeliefForge$Network", "productOfDoubts", "(I)D"⟩ ∈ sysW := List.mem_filter.mpr ⟨List.mem_of_getElem? (i := 10) (by decide +kernel), by decide +kernel⟩
theorem mw_551 : Cond.code ⟨"BeliefForge$Network", "productOfDoubts", "(I)D"⟩ prog_3_method_19_code 5 (some .double) ∈ sysW := List.mem_filter.mpr ⟨List.mem_of_getElem? (i := 551) (by decide +kernel), by decide +kernel⟩
theorem mw_552 : Cond.methodLink "BeliefForge$Network" 119 ⟨"BeliefForge$Network", "greatestOf", "(I)D"⟩ ∈ sysW := List.mem_filter.mpr ⟨List.mem_of_getElem? (i := 552) (by decide +kernel), by decide +kernel⟩
theorem mw_554 : Cond.instanceMethod ⟨"BeliefForge$Network", "greatestOf", "(I)D"⟩ ∈ sysW := List.mem_filter.mpr ⟨List.mem_of_getElem? (i := 554) (by decide +kernel), by decide +kernel⟩
theorem mw_11 : Cond.selects "BeliefForge$Network" ⟨"BeliefForge$Network", "greatestOf", "(I)D"⟩ ⟨"BeliefForge$Network", "greatestOf", "(I)D"⟩ ∈ sysW := List.mem_filter.mpr ⟨List.mem_of_getElem? (i := 11) (by decide +kernel), by decide +kernel⟩
theorem mw_555 : Cond.code ⟨"BeliefForge$Network", "greatestOf", "(I)D"⟩ prog_3_method_20_code 7 (some .double) ∈ sysW := List.mem_filter.mpr ⟨List.mem_of_getElem? (i := 555) (by decide +kernel), by decide +kernel⟩
theorem mw_556 : Cond.methodLink "BeliefForge$Network" 122 ⟨"BeliefForge$Network", "weighedLgs", "(I)D"⟩ ∈ sysW := List.mem_filter.mpr ⟨List.mem_of_getElem? (i := 556) (by decide +kernel), by decide +kernel⟩
theorem mw_558 : Cond.instanceMethod ⟨"BeliefForge$Network", "weighedLgs", "(I)D"⟩ ∈ sysW := List.mem_filter.mpr ⟨List.mem_of_getElem? (i := 558) (by decide +kernel), by decide +kernel⟩
theorem mw_12 : Cond.selects "BeliefForge$Network" ⟨"BeliefForge$Network", "weighedLgs", "(I)D"⟩ ⟨"BeliefForge$Network", "weighedLgs", "(I)D"⟩ ∈ sysW := List.mem_filter.mpr ⟨List.mem_of_getElem? (i := 12) (by decide +kernel), by decide +kernel⟩
theorem mw_559 : Cond.code ⟨"BeliefForge$Network", "weighedLgs", "(I)D"⟩ prog_3_method_21_code 5 (some .double) ∈ sysW := List.mem_filter.mpr ⟨List.mem_of_getElem? (i := 559) (by decide +kernel), by decide +kernel⟩
theorem mw_573 : Cond.methodLink "BeliefForge$Network" 125 ⟨"BeliefForge$Network", "weightsOf", "(I)D"⟩ ∈ sysW := List.mem_filter.mpr ⟨List.mem_of_getElem? (i := 573) (by decide +kernel), by decide +kernel⟩
theorem mw_575 : Cond.instanceMethod ⟨"BeliefForge$Network", "weightsOf", "(I)D"⟩ ∈ sysW := List.mem_filter.mpr ⟨List.mem_of_getElem? (i := 575) (by decide +kernel), by decide +kernel⟩
theorem mw_14 : Cond.selects "BeliefForge$Network" ⟨"BeliefForge$Network", "weightsOf", "(I)D"⟩ ⟨"BeliefForge$Network", "weightsOf", "(I)D"⟩ ∈ sysW := List.mem_filter.mpr ⟨List.mem_of_getElem? (i := 14) (by decide +kernel), by decide +kernel⟩
theorem mw_576 : Cond.code ⟨"BeliefForge$Network", "weightsOf", "(I)D"⟩ prog_3_method_23_code 5 (some .double) ∈ sysW := List.mem_filter.mpr ⟨List.mem_of_getElem? (i := 576) (by decide +kernel), by decide +kernel⟩
theorem mw_578 : Cond.static ⟨"BeliefForge", "ratio", "(DD)D"⟩ ∈ sysW := List.mem_filter.mpr ⟨List.mem_of_getElem? (i := 578) (by decide +kernel), by decide +kernel⟩
theorem mw_579 : Cond.code ⟨"BeliefForge", "ratio", "(DD)D"⟩ prog_1_method_23_code 4 (some .double) ∈ sysW := List.mem_filter.mpr ⟨List.mem_of_getElem? (i := 579) (by decide +kernel), by decide +kernel⟩
theorem mw_581 : Cond.static ⟨"BeliefForge", "ex", "(D)D"⟩ ∈ sysW := List.mem_filter.mpr ⟨List.mem_of_getElem? (i := 581) (by decide +kernel), by decide +kernel⟩
theorem mw_582 : Cond.code ⟨"BeliefForge", "ex", "(D)D"⟩ prog_1_method_25_code 6 (some .double) ∈ sysW := List.mem_filter.mpr ⟨List.mem_of_getElem? (i := 582) (by decide +kernel), by decide +kernel⟩
theorem mw_583 : Cond.methodLink "BeliefForge$Network" 136 ⟨"BeliefForge$Network", "weighedBeliefs", "(I)D"⟩ ∈ sysW := List.mem_filter.mpr ⟨List.mem_of_getElem? (i := 583) (by decide +kernel), by decide +kernel⟩
theorem mw_585 : Cond.instanceMethod ⟨"BeliefForge$Network", "weighedBeliefs", "(I)D"⟩ ∈ sysW := List.mem_filter.mpr ⟨List.mem_of_getElem? (i := 585) (by decide +kernel), by decide +kernel⟩
theorem mw_15 : Cond.selects "BeliefForge$Network" ⟨"BeliefForge$Network", "weighedBeliefs", "(I)D"⟩ ⟨"BeliefForge$Network", "weighedBeliefs", "(I)D"⟩ ∈ sysW := List.mem_filter.mpr ⟨List.mem_of_getElem? (i := 15) (by decide +kernel), by decide +kernel⟩
theorem mw_586 : Cond.code ⟨"BeliefForge$Network", "weighedBeliefs", "(I)D"⟩ prog_3_method_22_code 5 (some .double) ∈ sysW := List.mem_filter.mpr ⟨List.mem_of_getElem? (i := 586) (by decide +kernel), by decide +kernel⟩
theorem mw_543 : Cond.methodLink "BeliefForge$Network" 139 ⟨"BeliefForge$Network", "beliefOf", "(II)D"⟩ ∈ sysW := List.mem_filter.mpr ⟨List.mem_of_getElem? (i := 543) (by decide +kernel), by decide +kernel⟩
theorem mw_545 : Cond.instanceMethod ⟨"BeliefForge$Network", "beliefOf", "(II)D"⟩ ∈ sysW := List.mem_filter.mpr ⟨List.mem_of_getElem? (i := 545) (by decide +kernel), by decide +kernel⟩
theorem mw_9 : Cond.selects "BeliefForge$Network" ⟨"BeliefForge$Network", "beliefOf", "(II)D"⟩ ⟨"BeliefForge$Network", "beliefOf", "(II)D"⟩ ∈ sysW := List.mem_filter.mpr ⟨List.mem_of_getElem? (i := 9) (by decide +kernel), by decide +kernel⟩
theorem mw_546 : Cond.code ⟨"BeliefForge$Network", "beliefOf", "(II)D"⟩ prog_3_method_16_code 3 (some .double) ∈ sysW := List.mem_filter.mpr ⟨List.mem_of_getElem? (i := 546) (by decide +kernel), by decide +kernel⟩
theorem mw_587 : Cond.methodLink "BeliefForge$Network" 142 ⟨"BeliefForge$Network", "smoothed", "(III)D"⟩ ∈ sysW := List.mem_filter.mpr ⟨List.mem_of_getElem? (i := 587) (by decide +kernel), by decide +kernel⟩
theorem mw_589 : Cond.instanceMethod ⟨"BeliefForge$Network", "smoothed", "(III)D"⟩ ∈ sysW := List.mem_filter.mpr ⟨List.mem_of_getElem? (i := 589) (by decide +kernel), by decide +kernel⟩
theorem mw_16 : Cond.selects "BeliefForge$Network" ⟨"BeliefForge$Network", "smoothed", "(III)D"⟩ ⟨"BeliefForge$Network", "smoothed", "(III)D"⟩ ∈ sysW := List.mem_filter.mpr ⟨List.mem_of_getElem? (i := 16) (by decide +kernel), by decide +kernel⟩
theorem mw_590 : Cond.code ⟨"BeliefForge$Network", "smoothed", "(III)D"⟩ prog_3_method_15_code 8 (some .double) ∈ sysW := List.mem_filter.mpr ⟨List.mem_of_getElem? (i := 590) (by decide +kernel), by decide +kernel⟩
theorem mw_592 : Cond.methodLink "BeliefForge$Network" 146 ⟨"BeliefForge$Texts", "all", "()I"⟩ ∈ sysW := List.mem_filter.mpr ⟨List.mem_of_getElem? (i := 592) (by decide +kernel), by decide +kernel⟩
theorem mw_547 : Cond.methodLink "BeliefForge$Network" 149 ⟨"BeliefForge$Query", "partAt", "(II)I"⟩ ∈ sysW := List.mem_filter.mpr ⟨List.mem_of_getElem? (i := 547) (by decide +kernel), by decide +kernel⟩
theorem mw_564 : Cond.methodLink "BeliefForge$Network" 152 ⟨"BeliefForge$Query", "weightOf", "(I)D"⟩ ∈ sysW := List.mem_filter.mpr ⟨List.mem_of_getElem? (i := 564) (by decide +kernel), by decide +kernel⟩
theorem mw_560 : Cond.methodLink "BeliefForge$Network" 155 ⟨"BeliefForge$Network", "weightOf", "(II)D"⟩ ∈ sysW := List.mem_filter.mpr ⟨List.mem_of_getElem? (i := 560) (by decide +kernel), by decide +kernel⟩
theorem mw_562 : Cond.instanceMethod ⟨"BeliefForge$Network", "weightOf", "(II)D"⟩ ∈ sysW := List.mem_filter.mpr ⟨List.mem_of_getElem? (i := 562) (by decide +kernel), by decide +kernel⟩
theorem mw_13 : Cond.selects "BeliefForge$Network" ⟨"BeliefForge$Network", "weightOf", "(II)D"⟩ ⟨"BeliefForge$Network", "weightOf", "(II)D"⟩ ∈ sysW := List.mem_filter.mpr ⟨List.mem_of_getElem? (i := 13) (by decide +kernel), by decide +kernel⟩
theorem mw_563 : Cond.code ⟨"BeliefForge$Network", "weightOf", "(II)D"⟩ prog_3_method_17_code 3 (some .double) ∈ sysW := List.mem_filter.mpr ⟨List.mem_of_getElem? (i := 563) (by decide +kernel), by decide +kernel⟩
theorem mw_569 : Cond.static ⟨"BeliefForge", "lg", "(D)D"⟩ ∈ sysW := List.mem_filter.mpr ⟨List.mem_of_getElem? (i := 569) (by decide +kernel), by decide +kernel⟩
theorem mw_570 : Cond.code ⟨"BeliefForge", "lg", "(D)D"⟩ prog_1_method_24_code 5 (some .double) ∈ sysW := List.mem_filter.mpr ⟨List.mem_of_getElem? (i := 570) (by decide +kernel), by decide +kernel⟩
theorem mw_151 : Cond.fieldLink "BeliefForge$Ranking" 9 "BeliefForge$Ranking" "documents" "[I" ∈ sysW := List.mem_filter.mpr ⟨List.mem_of_getElem? (i := 151) (by decide +kernel), by decide +kernel⟩
theorem mw_152 : Cond.fieldLink "BeliefForge$Ranking" 15 "BeliefForge$Ranking" "beliefs" "[D" ∈ sysW := List.mem_filter.mpr ⟨List.mem_of_getElem? (i := 152) (by decide +kernel), by decide +kernel⟩
theorem mw_153 : Cond.fieldLink "BeliefForge$Ranking" 19 "BeliefForge$Ranking" "size" "I" ∈ sysW := List.mem_filter.mpr ⟨List.mem_of_getElem? (i := 153) (by decide +kernel), by decide +kernel⟩
theorem mw_154 : Cond.fieldLink "BeliefForge$Ranking" 23 "BeliefForge$Ranking" "leftOut" "I" ∈ sysW := List.mem_filter.mpr ⟨List.mem_of_getElem? (i := 154) (by decide +kernel), by decide +kernel⟩
theorem mw_172 : Cond.fieldLink "BeliefForge$Maker" 9 "BeliefForge$Maker" "sums" "[D" ∈ sysW := List.mem_filter.mpr ⟨List.mem_of_getElem? (i := 172) (by decide +kernel), by decide +kernel⟩
theorem mw_173 : Cond.fieldLink "BeliefForge$Maker" 15 "BeliefForge$Maker" "chosen" "[I" ∈ sysW := List.mem_filter.mpr ⟨List.mem_of_getElem? (i := 173) (by decide +kernel), by decide +kernel⟩
theorem mw_174 : Cond.fieldLink "BeliefForge$Maker" 19 "BeliefForge$Maker" "chosenSums" "[D" ∈ sysW := List.mem_filter.mpr ⟨List.mem_of_getElem? (i := 174) (by decide +kernel), by decide +kernel⟩
theorem mw_175 : Cond.fieldLink "BeliefForge$Maker" 22 "BeliefForge$Maker" "size" "I" ∈ sysW := List.mem_filter.mpr ⟨List.mem_of_getElem? (i := 175) (by decide +kernel), by decide +kernel⟩
theorem mw_170 : Cond.fieldLink "BeliefForge$Maker" 26 "BeliefForge$Maker" "texts" "LBeliefForge$Texts;" ∈ sysW := List.mem_filter.mpr ⟨List.mem_of_getElem? (i := 170) (by decide +kernel), by decide +kernel⟩
theorem mw_171 : Cond.fieldLink "BeliefForge$Maker" 30 "BeliefForge$Maker" "ranking" "LBeliefForge$Ranking;" ∈ sysW := List.mem_filter.mpr ⟨List.mem_of_getElem? (i := 171) (by decide +kernel), by decide +kernel⟩
theorem mw_716 : Cond.methodLink "BeliefForge$Maker" 34 ⟨"BeliefForge$Maker", "sumOf", "(I)D"⟩ ∈ sysW := List.mem_filter.mpr ⟨List.mem_of_getElem? (i := 716) (by decide +kernel), by decide +kernel⟩
theorem mw_718 : Cond.instanceMethod ⟨"BeliefForge$Maker", "sumOf", "(I)D"⟩ ∈ sysW := List.mem_filter.mpr ⟨List.mem_of_getElem? (i := 718) (by decide +kernel), by decide +kernel⟩
theorem mw_19 : Cond.selects "BeliefForge$Maker" ⟨"BeliefForge$Maker", "sumOf", "(I)D"⟩ ⟨"BeliefForge$Maker", "sumOf", "(I)D"⟩ ∈ sysW := List.mem_filter.mpr ⟨List.mem_of_getElem? (i := 19) (by decide +kernel), by decide +kernel⟩
theorem mw_719 : Cond.code ⟨"BeliefForge$Maker", "sumOf", "(I)D"⟩ prog_2_method_4_code 6 (some .double) ∈ sysW := List.mem_filter.mpr ⟨List.mem_of_getElem? (i := 719) (by decide +kernel), by decide +kernel⟩
theorem mw_729 : Cond.methodLink "BeliefForge$Maker" 38 ⟨"BeliefForge$Maker", "takeGreatest", "()V"⟩ ∈ sysW := List.mem_filter.mpr ⟨List.mem_of_getElem? (i := 729) (by decide +kernel), by decide +kernel⟩
theorem mw_731 : Cond.instanceMethod ⟨"BeliefForge$Maker", "takeGreatest", "()V"⟩ ∈ sysW := List.mem_filter.mpr ⟨List.mem_of_getElem? (i := 731) (by decide +kernel), by decide +kernel⟩
theorem mw_20 : Cond.selects "BeliefForge$Maker" ⟨"BeliefForge$Maker", "takeGreatest", "()V"⟩ ⟨"BeliefForge$Maker", "takeGreatest", "()V"⟩ ∈ sysW := List.mem_filter.mpr ⟨List.mem_of_getElem? (i := 20) (by decide +kernel), by decide +kernel⟩
theorem mw_732 : Cond.code ⟨"BeliefForge$Maker", "takeGreatest", "()V"⟩ prog_2_method_5_code 3 none ∈ sysW := List.mem_filter.mpr ⟨List.mem_of_getElem? (i := 732) (by decide +kernel), by decide +kernel⟩
theorem mw_737 : Cond.methodLink "BeliefForge$Maker" 41 ⟨"BeliefForge$Query", "empty", "()V"⟩ ∈ sysW := List.mem_filter.mpr ⟨List.mem_of_getElem? (i := 737) (by decide +kernel), by decide +kernel⟩
theorem mw_738 : Cond.methodLink "BeliefForge$Maker" 46 ⟨"BeliefForge$Query", "append", "(IID)I"⟩ ∈ sysW := List.mem_filter.mpr ⟨List.mem_of_getElem? (i := 738) (by decide +kernel), by decide +kernel⟩
theorem mw_720 : Cond.methodLink "BeliefForge$Maker" 50 ⟨"BeliefForge$Ranking", "size", "()I"⟩ ∈ sysW := List.mem_filter.mpr ⟨List.mem_of_getElem? (i := 720) (by decide +kernel), by decide +kernel⟩
theorem mw_721 : Cond.methodLink "BeliefForge$Maker" 55 ⟨"BeliefForge$Ranking", "documentAt", "(I)I"⟩ ∈ sysW := List.mem_filter.mpr ⟨List.mem_of_getElem? (i := 721) (by decide +kernel), by decide +kernel⟩
theorem mw_722 : Cond.methodLink "BeliefForge$Maker" 59 ⟨"BeliefForge$Ranking", "beliefAt", "(I)D"⟩ ∈ sysW := List.mem_filter.mpr ⟨List.mem_of_getElem? (i := 722) (by decide +kernel), by decide +kernel⟩
theorem mw_723 : Cond.methodLink "BeliefForge$Maker" 62 ⟨"BeliefForge$Texts", "timesIn", "(II)I"⟩ ∈ sysW := List.mem_filter.mpr ⟨List.mem_of_getElem? (i := 723) (by decide +kernel), by decide +kernel⟩
theorem mw_727 : Cond.methodLink "BeliefForge$Maker" 68 ⟨"BeliefForge$Texts", "lengthOf", "(I)I"⟩ ∈ sysW := List.mem_filter.mpr ⟨List.mem_of_getElem? (i := 727) (by decide +kernel), by decide +kernel⟩
theorem mw_776 : Cond.fieldLink "BeliefForgeModel" 7 "BeliefForgeModel" "words" "[I" ∈ sysW := List.mem_filter.mpr ⟨List.mem_of_getElem? (i := 776) (by decide +kernel), by decide +kernel⟩
theorem mw_777 : Cond.fieldLink "BeliefForgeModel" 13 "BeliefForgeModel" "length" "[I" ∈ sysW := List.mem_filter.mpr ⟨List.mem_of_getElem? (i := 777) (by decide +kernel), by decide +kernel⟩
theorem mw_778 : Cond.fieldLink "BeliefForgeModel" 16 "BeliefForgeModel" "title" "[I" ∈ sysW := List.mem_filter.mpr ⟨List.mem_of_getElem? (i := 778) (by decide +kernel), by decide +kernel⟩
theorem mw_780 : Cond.fieldLink "BeliefForgeModel" 19 "BeliefForgeModel" "kind" "[I" ∈ sysW := List.mem_filter.mpr ⟨List.mem_of_getElem? (i := 780) (by decide +kernel), by decide +kernel⟩
theorem mw_781 : Cond.fieldLink "BeliefForgeModel" 22 "BeliefForgeModel" "number" "[I" ∈ sysW := List.mem_filter.mpr ⟨List.mem_of_getElem? (i := 781) (by decide +kernel), by decide +kernel⟩
theorem mw_782 : Cond.fieldLink "BeliefForgeModel" 25 "BeliefForgeModel" "weight" "[D" ∈ sysW := List.mem_filter.mpr ⟨List.mem_of_getElem? (i := 782) (by decide +kernel), by decide +kernel⟩
theorem mw_774 : Cond.constantDouble "BeliefForgeModel" 29 4611686018427387904 ∈ sysW := List.mem_filter.mpr ⟨List.mem_of_getElem? (i := 774) (by decide +kernel), by decide +kernel⟩
theorem mw_785 : Cond.fieldLink "BeliefForgeModel" 31 "BeliefForgeModel" "mu" "D" ∈ sysW := List.mem_filter.mpr ⟨List.mem_of_getElem? (i := 785) (by decide +kernel), by decide +kernel⟩
theorem mw_786 : Cond.fieldLink "BeliefForgeModel" 35 "BeliefForgeModel" "beliefs" "[D" ∈ sysW := List.mem_filter.mpr ⟨List.mem_of_getElem? (i := 786) (by decide +kernel), by decide +kernel⟩
theorem mw_787 : Cond.fieldLink "BeliefForgeModel" 38 "BeliefForgeModel" "weights" "[D" ∈ sysW := List.mem_filter.mpr ⟨List.mem_of_getElem? (i := 787) (by decide +kernel), by decide +kernel⟩
theorem mw_788 : Cond.fieldLink "BeliefForgeModel" 41 "BeliefForgeModel" "nodes" "[I" ∈ sysW := List.mem_filter.mpr ⟨List.mem_of_getElem? (i := 788) (by decide +kernel), by decide +kernel⟩
theorem mw_791 : Cond.fieldLink "BeliefForgeModel" 44 "BeliefForgeModel" "found" "[I" ∈ sysW := List.mem_filter.mpr ⟨List.mem_of_getElem? (i := 791) (by decide +kernel), by decide +kernel⟩
theorem mw_792 : Cond.fieldLink "BeliefForgeModel" 47 "BeliefForgeModel" "score" "[D" ∈ sysW := List.mem_filter.mpr ⟨List.mem_of_getElem? (i := 792) (by decide +kernel), by decide +kernel⟩
theorem mw_775 : Cond.fieldLink "BeliefForgeModel" 50 "BeliefForgeModel" "thrown" "I" ∈ sysW := List.mem_filter.mpr ⟨List.mem_of_getElem? (i := 775) (by decide +kernel), by decide +kernel⟩
theorem mw_844 : Cond.methodLink "BeliefForgeModel" 54 ⟨"BeliefForgeModel", "in", "(III)Z"⟩ ∈ sysW := List.mem_filter.mpr ⟨List.mem_of_getElem? (i := 844) (by decide +kernel), by decide +kernel⟩
theorem mw_845 : Cond.static ⟨"BeliefForgeModel", "in", "(III)Z"⟩ ∈ sysW := List.mem_filter.mpr ⟨List.mem_of_getElem? (i := 845) (by decide +kernel), by decide +kernel⟩
theorem mw_43 : Cond.initialized "BeliefForgeModel" ∈ sysW := List.mem_filter.mpr ⟨List.mem_of_getElem? (i := 43) (by decide +kernel), by decide +kernel⟩
theorem mw_846 : Cond.code ⟨"BeliefForgeModel", "in", "(III)Z"⟩ prog_8_method_3_code 3 (some .boolean) ∈ sysW := List.mem_filter.mpr ⟨List.mem_of_getElem? (i := 846) (by decide +kernel), by decide +kernel⟩
theorem mw_847 : Cond.methodLink "BeliefForgeModel" 58 ⟨"BeliefForgeModel", "refuse", "(I)I"⟩ ∈ sysW := List.mem_filter.mpr ⟨List.mem_of_getElem? (i := 847) (by decide +kernel), by decide +kernel⟩
theorem mw_849 : Cond.instanceMethod ⟨"BeliefForgeModel", "refuse", "(I)I"⟩ ∈ sysW := List.mem_filter.mpr ⟨List.mem_of_getElem? (i := 849) (by decide +kernel), by decide +kernel⟩
theorem mw_21 : Cond.selects "BeliefForgeModel" ⟨"BeliefForgeModel", "refuse", "(I)I"⟩ ⟨"BeliefForgeModel", "refuse", "(I)I"⟩ ∈ sysW := List.mem_filter.mpr ⟨List.mem_of_getElem? (i := 21) (by decide +kernel), by decide +kernel⟩
theorem mw_850 : Cond.code ⟨"BeliefForgeModel", "refuse", "(I)I"⟩ prog_8_method_4_code 2 (some .int) ∈ sysW := List.mem_filter.mpr ⟨List.mem_of_getElem? (i := 850) (by decide +kernel), by decide +kernel⟩
theorem mw_779 : Cond.fieldLink "BeliefForgeModel" 62 "BeliefForgeModel" "documents" "I" ∈ sysW := List.mem_filter.mpr ⟨List.mem_of_getElem? (i := 779) (by decide +kernel), by decide +kernel⟩
theorem mw_784 : Cond.fieldLink "BeliefForgeModel" 65 "BeliefForgeModel" "smoothing" "I" ∈ sysW := List.mem_filter.mpr ⟨List.mem_of_getElem? (i := 784) (by decide +kernel), by decide +kernel⟩
theorem mw_783 : Cond.fieldLink "BeliefForgeModel" 68 "BeliefForgeModel" "tokens" "I" ∈ sysW := List.mem_filter.mpr ⟨List.mem_of_getElem? (i := 783) (by decide +kernel), by decide +kernel⟩
theorem mw_873 : Cond.methodLink "BeliefForgeModel" 71 ⟨"BeliefForgeModel", "partsOf", "(I)I"⟩ ∈ sysW := List.mem_filter.mpr ⟨List.mem_of_getElem? (i := 873) (by decide +kernel), by decide +kernel⟩
theorem mw_875 : Cond.instanceMethod ⟨"BeliefForgeModel", "partsOf", "(I)I"⟩ ∈ sysW := List.mem_filter.mpr ⟨List.mem_of_getElem? (i := 875) (by decide +kernel), by decide +kernel⟩
theorem mw_23 : Cond.selects "BeliefForgeModel" ⟨"BeliefForgeModel", "partsOf", "(I)I"⟩ ⟨"BeliefForgeModel", "partsOf", "(I)I"⟩ ∈ sysW := List.mem_filter.mpr ⟨List.mem_of_getElem? (i := 23) (by decide +kernel), by decide +kernel⟩
theorem mw_876 : Cond.code ⟨"BeliefForgeModel", "partsOf", "(I)I"⟩ prog_8_method_8_code 3 (some .int) ∈ sysW := List.mem_filter.mpr ⟨List.mem_of_getElem? (i := 876) (by decide +kernel), by decide +kernel⟩
theorem mw_866 : Cond.constantDouble "BeliefForgeModel" 74 4636737291354636288 ∈ sysW := List.mem_filter.mpr ⟨List.mem_of_getElem? (i := 866) (by decide +kernel), by decide +kernel⟩
theorem mw_867 : Cond.constantDouble "BeliefForgeModel" 76 4613937818241073152 ∈ sysW := List.mem_filter.mpr ⟨List.mem_of_getElem? (i := 867) (by decide +kernel), by decide +kernel⟩
theorem mw_868 : Cond.constantDouble "BeliefForgeModel" 78 4616189618054758400 ∈ sysW := List.mem_filter.mpr ⟨List.mem_of_getElem? (i := 868) (by decide +kernel), by decide +kernel⟩
theorem mw_863 : Cond.methodLink "BeliefForgeModel" 80 ⟨"BeliefForgeModel", "isGood", "(IID)Z"⟩ ∈ sysW := List.mem_filter.mpr ⟨List.mem_of_getElem? (i := 863) (by decide +kernel), by decide +kernel⟩
theorem mw_864 : Cond.static ⟨"BeliefForgeModel", "isGood", "(IID)Z"⟩ ∈ sysW := List.mem_filter.mpr ⟨List.mem_of_getElem? (i := 864) (by decide +kernel), by decide +kernel⟩
theorem mw_865 : Cond.code ⟨"BeliefForgeModel", "isGood", "(IID)Z"⟩ prog_8_method_11_code 4 (some .boolean) ∈ sysW := List.mem_filter.mpr ⟨List.mem_of_getElem? (i := 865) (by decide +kernel), by decide +kernel⟩
theorem mw_869 : Cond.methodLink "BeliefForgeModel" 84 ⟨"BeliefForgeModel", "open", "()I"⟩ ∈ sysW := List.mem_filter.mpr ⟨List.mem_of_getElem? (i := 869) (by decide +kernel), by decide +kernel⟩
theorem mw_871 : Cond.instanceMethod ⟨"BeliefForgeModel", "open", "()I"⟩ ∈ sysW := List.mem_filter.mpr ⟨List.mem_of_getElem? (i := 871) (by decide +kernel), by decide +kernel⟩
theorem mw_22 : Cond.selects "BeliefForgeModel" ⟨"BeliefForgeModel", "open", "()I"⟩ ⟨"BeliefForgeModel", "open", "()I"⟩ ∈ sysW := List.mem_filter.mpr ⟨List.mem_of_getElem? (i := 22) (by decide +kernel), by decide +kernel⟩
theorem mw_872 : Cond.code ⟨"BeliefForgeModel", "open", "()I"⟩ prog_8_method_9_code 3 (some .int) ∈ sysW := List.mem_filter.mpr ⟨List.mem_of_getElem? (i := 872) (by decide +kernel), by decide +kernel⟩
theorem mw_877 : Cond.methodLink "BeliefForgeModel" 88 ⟨"BeliefForgeModel", "wantsTerm", "()Z"⟩ ∈ sysW := List.mem_filter.mpr ⟨List.mem_of_getElem? (i := 877) (by decide +kernel), by decide +kernel⟩
theorem mw_879 : Cond.instanceMethod ⟨"BeliefForgeModel", "wantsTerm", "()Z"⟩ ∈ sysW := List.mem_filter.mpr ⟨List.mem_of_getElem? (i := 879) (by decide +kernel), by decide +kernel⟩
theorem mw_24 : Cond.selects "BeliefForgeModel" ⟨"BeliefForgeModel", "wantsTerm", "()Z"⟩ ⟨"BeliefForgeModel", "wantsTerm", "()Z"⟩ ∈ sysW := List.mem_filter.mpr ⟨List.mem_of_getElem? (i := 24) (by decide +kernel), by decide +kernel⟩
theorem mw_880 : Cond.code ⟨"BeliefForgeModel", "wantsTerm", "()Z"⟩ prog_8_method_10_code 2 (some .boolean) ∈ sysW := List.mem_filter.mpr ⟨List.mem_of_getElem? (i := 880) (by decide +kernel), by decide +kernel⟩
theorem mw_881 : Cond.methodLink "BeliefForgeModel" 92 ⟨"BeliefForgeModel", "add", "(IID)V"⟩ ∈ sysW := List.mem_filter.mpr ⟨List.mem_of_getElem? (i := 881) (by decide +kernel), by decide +kernel⟩
theorem mw_883 : Cond.instanceMethod ⟨"BeliefForgeModel", "add", "(IID)V"⟩ ∈ sysW := List.mem_filter.mpr ⟨List.mem_of_getElem? (i := 883) (by decide +kernel), by decide +kernel⟩
theorem mw_25 : Cond.selects "BeliefForgeModel" ⟨"BeliefForgeModel", "add", "(IID)V"⟩ ⟨"BeliefForgeModel", "add", "(IID)V"⟩ ∈ sysW := List.mem_filter.mpr ⟨List.mem_of_getElem? (i := 25) (by decide +kernel), by decide +kernel⟩
theorem mw_884 : Cond.code ⟨"BeliefForgeModel", "add", "(IID)V"⟩ prog_8_method_13_code 5 none ∈ sysW := List.mem_filter.mpr ⟨List.mem_of_getElem? (i := 884) (by decide +kernel), by decide +kernel⟩
theorem mw_905 : Cond.methodLink "BeliefForgeModel" 96 ⟨"BeliefForgeModel", "places", "(II)I"⟩ ∈ sysW := List.mem_filter.mpr ⟨List.mem_of_getElem? (i := 905) (by decide +kernel), by decide +kernel⟩
theorem mw_907 : Cond.instanceMethod ⟨"BeliefForgeModel", "places", "(II)I"⟩ ∈ sysW := List.mem_filter.mpr ⟨List.mem_of_getElem? (i := 907) (by decide +kernel), by decide +kernel⟩
theorem mw_28 : Cond.selects "BeliefForgeModel" ⟨"BeliefForgeModel", "places", "(II)I"⟩ ⟨"BeliefForgeModel", "places", "(II)I"⟩ ∈ sysW := List.mem_filter.mpr ⟨List.mem_of_getElem? (i := 28) (by decide +kernel), by decide +kernel⟩
theorem mw_908 : Cond.code ⟨"BeliefForgeModel", "places", "(II)I"⟩ prog_8_method_16_code 5 (some .int) ∈ sysW := List.mem_filter.mpr ⟨List.mem_of_getElem? (i := 908) (by decide +kernel), by decide +kernel⟩
theorem mw_909 : Cond.methodLink "BeliefForgeModel" 100 ⟨"BeliefForgeModel", "isNear", "(III)Z"⟩ ∈ sysW := List.mem_filter.mpr ⟨List.mem_of_getElem? (i := 909) (by decide +kernel), by decide +kernel⟩
theorem mw_911 : Cond.instanceMethod ⟨"BeliefForgeModel", "isNear", "(III)Z"⟩ ∈ sysW := List.mem_filter.mpr ⟨List.mem_of_getElem? (i := 911) (by decide +kernel), by decide +kernel⟩
theorem mw_29 : Cond.selects "BeliefForgeModel" ⟨"BeliefForgeModel", "isNear", "(III)Z"⟩ ⟨"BeliefForgeModel", "isNear", "(III)Z"⟩ ∈ sysW := List.mem_filter.mpr ⟨List.mem_of_getElem? (i := 29) (by decide +kernel), by decide +kernel⟩
theorem mw_912 : Cond.code ⟨"BeliefForgeModel", "isNear", "(III)Z"⟩ prog_8_method_18_code 7 (some .boolean) ∈ sysW := List.mem_filter.mpr ⟨List.mem_of_getElem? (i := 912) (by decide +kernel), by decide +kernel⟩
theorem mw_913 : Cond.methodLink "BeliefForgeModel" 103 ⟨"BeliefForgeModel", "isAround", "(III)Z"⟩ ∈ sysW := List.mem_filter.mpr ⟨List.mem_of_getElem? (i := 913) (by decide +kernel), by decide +kernel⟩
theorem mw_915 : Cond.instanceMethod ⟨"BeliefForgeModel", "isAround", "(III)Z"⟩ ∈ sysW := List.mem_filter.mpr ⟨List.mem_of_getElem? (i := 915) (by decide +kernel), by decide +kernel⟩
theorem mw_30 : Cond.selects "BeliefForgeModel" ⟨"BeliefForgeModel", "isAround", "(III)Z"⟩ ⟨"BeliefForgeModel", "isAround", "(III)Z"⟩ ∈ sysW := List.mem_filter.mpr ⟨List.mem_of_getElem? (i := 30) (by decide +kernel), by decide +kernel⟩
theorem mw_916 : Cond.code ⟨"BeliefForgeModel", "isAround", "(III)Z"⟩ prog_8_method_19_code 7 (some .boolean) ∈ sysW := List.mem_filter.mpr ⟨List.mem_of_getElem? (i := 916) (by decide +kernel), by decide +kernel⟩
theorem mw_936 : Cond.constantDouble "BeliefForgeModel" 106 4336966441157787648 ∈ sysW := List.mem_filter.mpr ⟨List.mem_of_getElem? (i := 936) (by decide +kernel), by decide +kernel⟩
theorem mw_937 : Cond.constantDouble "BeliefForgeModel" 108 13857013103465594880 ∈ sysW := List.mem_filter.mpr ⟨List.mem_of_getElem? (i := 937) (by decide +kernel), by decide +kernel⟩
theorem mw_901 : Cond.methodLink "BeliefForgeModel" 110 ⟨"BeliefForgeModel", "hitsOf", "(II)I"⟩ ∈ sysW := List.mem_filter.mpr ⟨List.mem_of_getElem? (i := 901) (by decide +kernel), by decide +kernel⟩
theorem mw_903 : Cond.instanceMethod ⟨"BeliefForgeModel", "hitsOf", "(II)I"⟩ ∈ sysW := List.mem_filter.mpr ⟨List.mem_of_getElem? (i := 903) (by decide +kernel), by decide +kernel⟩
theorem mw_27 : Cond.selects "BeliefForgeModel" ⟨"BeliefForgeModel", "hitsOf", "(II)I"⟩ ⟨"BeliefForgeModel", "hitsOf", "(II)I"⟩ ∈ sysW := List.mem_filter.mpr ⟨List.mem_of_getElem? (i := 27) (by decide +kernel), by decide +kernel⟩
theorem mw_904 : Cond.code ⟨"BeliefForgeModel", "hitsOf", "(II)I"⟩ prog_8_method_17_code 7 (some .int) ∈ sysW := List.mem_filter.mpr ⟨List.mem_of_getElem? (i := 904) (by decide +kernel), by decide +kernel⟩
theorem mw_922 : Cond.methodLink "BeliefForgeModel" 113 ⟨"BeliefForgeModel", "bits", "(I)I"⟩ ∈ sysW := List.mem_filter.mpr ⟨List.mem_of_getElem? (i := 922) (by decide +kernel), by decide +kernel⟩
theorem mw_923 : Cond.static ⟨"BeliefForgeModel", "bits", "(I)I"⟩ ∈ sysW := List.mem_filter.mpr ⟨List.mem_of_getElem? (i := 923) (by decide +kernel), by decide +kernel⟩
theorem mw_924 : Cond.code ⟨"BeliefForgeModel", "bits", "(I)I"⟩ prog_8_method_20_code 3 (some .int) ∈ sysW := List.mem_filter.mpr ⟨List.mem_of_getElem? (i := 924) (by decide +kernel), by decide +kernel⟩
theorem mw_917 : Cond.constantDouble "BeliefForgeModel" 116 4602678819172646912 ∈ sysW := List.mem_filter.mpr ⟨List.mem_of_getElem? (i := 917) (by decide +kernel), by decide +kernel⟩
theorem mw_925 : Cond.methodLink "BeliefForgeModel" 118 ⟨"BeliefForgeModel", "all", "()I"⟩ ∈ sysW := List.mem_filter.mpr ⟨List.mem_of_getElem? (i := 925) (by decide +kernel), by decide +kernel⟩
theorem mw_927 : Cond.instanceMethod ⟨"BeliefForgeModel", "all", "()I"⟩ ∈ sysW := List.mem_filter.mpr ⟨List.mem_of_getElem? (i := 927) (by decide +kernel), by decide +kernel⟩
theorem mw_32 : Cond.selects "BeliefForgeModel" ⟨"BeliefForgeModel", "all", "()I"⟩ ⟨"BeliefForgeModel", "all", "()I"⟩ ∈ sysW := List.mem_filter.mpr ⟨List.mem_of_getElem? (i := 32) (by decide +kernel), by decide +kernel⟩
theorem mw_928 : Cond.code ⟨"BeliefForgeModel", "all", "()I"⟩ prog_8_method_21_code 3 (some .int) ∈ sysW := List.mem_filter.mpr ⟨List.mem_of_getElem? (i := 928) (by decide +kernel), by decide +kernel⟩
theorem mw_789 : Cond.fieldLink "BeliefForgeModel" 121 "BeliefForgeModel" "height" "I" ∈ sysW := List.mem_filter.mpr ⟨List.mem_of_getElem? (i := 789) (by decide +kernel), by decide +kernel⟩
theorem mw_933 : Cond.methodLink "BeliefForgeModel" 124 ⟨"BeliefForgeModel", "lg", "(D)D"⟩ ∈ sysW := List.mem_filter.mpr ⟨List.mem_of_getElem? (i := 933) (by decide +kernel), by decide +kernel⟩
theorem mw_934 : Cond.static ⟨"BeliefForgeModel", "lg", "(D)D"⟩ ∈ sysW := List.mem_filter.mpr ⟨List.mem_of_getElem? (i := 934) (by decide +kernel), by decide +kernel⟩
theorem mw_935 : Cond.code ⟨"BeliefForgeModel", "lg", "(D)D"⟩ prog_8_method_22_code 5 (some .double) ∈ sysW := List.mem_filter.mpr ⟨List.mem_of_getElem? (i := 935) (by decide +kernel), by decide +kernel⟩
theorem mw_938 : Cond.methodLink "BeliefForgeModel" 128 ⟨"BeliefForgeModel", "ex", "(D)D"⟩ ∈ sysW := List.mem_filter.mpr ⟨List.mem_of_getElem? (i := 938) (by decide +kernel), by decide +kernel⟩
theorem mw_939 : Cond.static ⟨"BeliefForgeModel", "ex", "(D)D"⟩ ∈ sysW := List.mem_filter.mpr ⟨List.mem_of_getElem? (i := 939) (by decide +kernel), by decide +kernel⟩
theorem mw_940 : Cond.code ⟨"BeliefForgeModel", "ex", "(D)D"⟩ prog_8_method_23_code 6 (some .double) ∈ sysW := List.mem_filter.mpr ⟨List.mem_of_getElem? (i := 940) (by decide +kernel), by decide +kernel⟩
theorem mw_790 : Cond.fieldLink "BeliefForgeModel" 131 "BeliefForgeModel" "isOut" "Z" ∈ sysW := List.mem_filter.mpr ⟨List.mem_of_getElem? (i := 790) (by decide +kernel), by decide +kernel⟩
theorem mw_918 : Cond.methodLink "BeliefForgeModel" 135 ⟨"BeliefForgeModel", "plain", "(II)D"⟩ ∈ sysW := List.mem_filter.mpr ⟨List.mem_of_getElem? (i := 918) (by decide +kernel), by decide +kernel⟩
theorem mw_920 : Cond.instanceMethod ⟨"BeliefForgeModel", "plain", "(II)D"⟩ ∈ sysW := List.mem_filter.mpr ⟨List.mem_of_getElem? (i := 920) (by decide +kernel), by decide +kernel⟩
theorem mw_31 : Cond.selects "BeliefForgeModel" ⟨"BeliefForgeModel", "plain", "(II)D"⟩ ⟨"BeliefForgeModel", "plain", "(II)D"⟩ ∈ sysW := List.mem_filter.mpr ⟨List.mem_of_getElem? (i := 31) (by decide +kernel), by decide +kernel⟩
theorem mw_921 : Cond.code ⟨"BeliefForgeModel", "plain", "(II)D"⟩ prog_8_method_24_code 9 (some .double) ∈ sysW := List.mem_filter.mpr ⟨List.mem_of_getElem? (i := 921) (by decide +kernel), by decide +kernel⟩
theorem mw_929 : Cond.methodLink "BeliefForgeModel" 139 ⟨"BeliefForgeModel", "joined", "(II)D"⟩ ∈ sysW := List.mem_filter.mpr ⟨List.mem_of_getElem? (i := 929) (by decide +kernel), by decide +kernel⟩
theorem mw_931 : Cond.instanceMethod ⟨"BeliefForgeModel", "joined", "(II)D"⟩ ∈ sysW := List.mem_filter.mpr ⟨List.mem_of_getElem? (i := 931) (by decide +kernel), by decide +kernel⟩
theorem mw_33 : Cond.selects "BeliefForgeModel" ⟨"BeliefForgeModel", "joined", "(II)D"⟩ ⟨"BeliefForgeModel", "joined", "(II)D"⟩ ∈ sysW := List.mem_filter.mpr ⟨List.mem_of_getElem? (i := 33) (by decide +kernel), by decide +kernel⟩
theorem mw_932 : Cond.code ⟨"BeliefForgeModel", "joined", "(II)D"⟩ prog_8_method_25_code 17 (some .double) ∈ sysW := List.mem_filter.mpr ⟨List.mem_of_getElem? (i := 932) (by decide +kernel), by decide +kernel⟩
theorem mw_897 : Cond.methodLink "BeliefForgeModel" 142 ⟨"BeliefForgeModel", "believed", "(I)D"⟩ ∈ sysW := List.mem_filter.mpr ⟨List.mem_of_getElem? (i := 897) (by decide +kernel), by decide +kernel⟩
theorem mw_899 : Cond.instanceMethod ⟨"BeliefForgeModel", "believed", "(I)D"⟩ ∈ sysW := List.mem_filter.mpr ⟨List.mem_of_getElem? (i := 899) (by decide +kernel), by decide +kernel⟩
theorem mw_26 : Cond.selects "BeliefForgeModel" ⟨"BeliefForgeModel", "believed", "(I)D"⟩ ⟨"BeliefForgeModel", "believed", "(I)D"⟩ ∈ sysW := List.mem_filter.mpr ⟨List.mem_of_getElem? (i := 26) (by decide +kernel), by decide +kernel⟩
theorem mw_900 : Cond.code ⟨"BeliefForgeModel", "believed", "(I)D"⟩ prog_8_method_26_code 8 (some .double) ∈ sysW := List.mem_filter.mpr ⟨List.mem_of_getElem? (i := 900) (by decide +kernel), by decide +kernel⟩
theorem mw_793 : Cond.fieldLink "BeliefForgeModel" 146 "BeliefForgeModel" "foundMany" "I" ∈ sysW := List.mem_filter.mpr ⟨List.mem_of_getElem? (i := 793) (by decide +kernel), by decide +kernel⟩
theorem mw_794 : Cond.fieldLink "BeliefForgeModel" 149 "BeliefForgeModel" "left" "I" ∈ sysW := List.mem_filter.mpr ⟨List.mem_of_getElem? (i := 794) (by decide +kernel), by decide +kernel⟩
theorem mw_949 : Cond.methodLink "BeliefForgeModel" 152 ⟨"BeliefForgeModel", "come", "(ID)V"⟩ ∈ sysW := List.mem_filter.mpr ⟨List.mem_of_getElem? (i := 949) (by decide +kernel), by decide +kernel⟩
theorem mw_951 : Cond.instanceMethod ⟨"BeliefForgeModel", "come", "(ID)V"⟩ ∈ sysW := List.mem_filter.mpr ⟨List.mem_of_getElem? (i := 951) (by decide +kernel), by decide +kernel⟩
theorem mw_34 : Cond.selects "BeliefForgeModel" ⟨"BeliefForgeModel", "come", "(ID)V"⟩ ⟨"BeliefForgeModel", "come", "(ID)V"⟩ ∈ sysW := List.mem_filter.mpr ⟨List.mem_of_getElem? (i := 34) (by decide +kernel), by decide +kernel⟩
theorem mw_952 : Cond.code ⟨"BeliefForgeModel", "come", "(ID)V"⟩ prog_8_method_30_code 5 none ∈ sysW := List.mem_filter.mpr ⟨List.mem_of_getElem? (i := 952) (by decide +kernel), by decide +kernel⟩
theorem mw_965 : Cond.methodLink "BeliefForgeModel" 156 ⟨"BeliefForgeModel", "worth", "(I)D"⟩ ∈ sysW := List.mem_filter.mpr ⟨List.mem_of_getElem? (i := 965) (by decide +kernel), by decide +kernel⟩
theorem mw_967 : Cond.instanceMethod ⟨"BeliefForgeModel", "worth", "(I)D"⟩ ∈ sysW := List.mem_filter.mpr ⟨List.mem_of_getElem? (i := 967) (by decide +kernel), by decide +kernel⟩
theorem mw_35 : Cond.selects "BeliefForgeModel" ⟨"BeliefForgeModel", "worth", "(I)D"⟩ ⟨"BeliefForgeModel", "worth", "(I)D"⟩ ∈ sysW := List.mem_filter.mpr ⟨List.mem_of_getElem? (i := 35) (by decide +kernel), by decide +kernel⟩
theorem mw_968 : Cond.code ⟨"BeliefForgeModel", "worth", "(I)D"⟩ prog_8_method_33_code 5 (some .double) ∈ sysW := List.mem_filter.mpr ⟨List.mem_of_getElem? (i := 968) (by decide +kernel), by decide +kernel⟩
theorem mw_230 : Cond.methodLink "BeliefForgeLaw" 7 ⟨"BeliefForge", "document", "(I)I"⟩ ∈ sysW := List.mem_filter.mpr ⟨List.mem_of_getElem? (i := 230) (by decide +kernel), by decide +kernel⟩
theorem mw_231 : Cond.instanceMethod ⟨"BeliefForge", "document", "(I)I"⟩ ∈ sysW := List.mem_filter.mpr ⟨List.mem_of_getElem? (i := 231) (by decide +kernel), by decide +kernel⟩
theorem mw_232 : Cond.selects "BeliefForge" ⟨"BeliefForge", "document", "(I)I"⟩ ⟨"BeliefForge", "document", "(I)I"⟩ ∈ sysW := List.mem_filter.mpr ⟨List.mem_of_getElem? (i := 232) (by decide +kernel), by decide +kernel⟩
theorem mw_233 : Cond.code ⟨"BeliefForge", "document", "(I)I"⟩ prog_1_method_2_code 2 (some .int) ∈ sysW := List.mem_filter.mpr ⟨List.mem_of_getElem? (i := 233) (by decide +kernel), by decide +kernel⟩
theorem mw_331 : Cond.methodLink "BeliefForgeLaw" 17 ⟨"BeliefForge", "word", "(I)I"⟩ ∈ sysW := List.mem_filter.mpr ⟨List.mem_of_getElem? (i := 331) (by decide +kernel), by decide +kernel⟩
theorem mw_332 : Cond.instanceMethod ⟨"BeliefForge", "word", "(I)I"⟩ ∈ sysW := List.mem_filter.mpr ⟨List.mem_of_getElem? (i := 332) (by decide +kernel), by decide +kernel⟩
theorem mw_333 : Cond.selects "BeliefForge" ⟨"BeliefForge", "word", "(I)I"⟩ ⟨"BeliefForge", "word", "(I)I"⟩ ∈ sysW := List.mem_filter.mpr ⟨List.mem_of_getElem? (i := 333) (by decide +kernel), by decide +kernel⟩
theorem mw_334 : Cond.code ⟨"BeliefForge", "word", "(I)I"⟩ prog_1_method_3_code 2 (some .int) ∈ sysW := List.mem_filter.mpr ⟨List.mem_of_getElem? (i := 334) (by decide +kernel), by decide +kernel⟩
theorem mw_351 : Cond.methodLink "BeliefForgeLaw" 20 ⟨"BeliefForge", "smooth", "(ID)I"⟩ ∈ sysW := List.mem_filter.mpr ⟨List.mem_of_getElem? (i := 351) (by decide +kernel), by decide +kernel⟩
theorem mw_352 : Cond.instanceMethod ⟨"BeliefForge", "smooth", "(ID)I"⟩ ∈ sysW := List.mem_filter.mpr ⟨List.mem_of_getElem? (i := 352) (by decide +kernel), by decide +kernel⟩
theorem mw_353 : Cond.selects "BeliefForge" ⟨"BeliefForge", "smooth", "(ID)I"⟩ ⟨"BeliefForge", "smooth", "(ID)I"⟩ ∈ sysW := List.mem_filter.mpr ⟨List.mem_of_getElem? (i := 353) (by decide +kernel), by decide +kernel⟩
theorem mw_354 : Cond.code ⟨"BeliefForge", "smooth", "(ID)I"⟩ prog_1_method_4_code 4 (some .int) ∈ sysW := List.mem_filter.mpr ⟨List.mem_of_getElem? (i := 354) (by decide +kernel), by decide +kernel⟩
theorem mw_369 : Cond.methodLink "BeliefForgeLaw" 24 ⟨"BeliefForge", "token", "(IID)I"⟩ ∈ sysW := List.mem_filter.mpr ⟨List.mem_of_getElem? (i := 369) (by decide +kernel), by decide +kernel⟩
theorem mw_370 : Cond.instanceMethod ⟨"BeliefForge", "token", "(IID)I"⟩ ∈ sysW := List.mem_filter.mpr ⟨List.mem_of_getElem? (i := 370) (by decide +kernel), by decide +kernel⟩
theorem mw_371 : Cond.selects "BeliefForge" ⟨"BeliefForge", "token", "(IID)I"⟩ ⟨"BeliefForge", "token", "(IID)I"⟩ ∈ sysW := List.mem_filter.mpr ⟨List.mem_of_getElem? (i := 371) (by decide +kernel), by decide +kernel⟩
theorem mw_372 : Cond.code ⟨"BeliefForge", "token", "(IID)I"⟩ prog_1_method_5_code 5 (some .int) ∈ sysW := List.mem_filter.mpr ⟨List.mem_of_getElem? (i := 372) (by decide +kernel), by decide +kernel⟩
theorem mw_439 : Cond.methodLink "BeliefForgeLaw" 30 ⟨"BeliefForge", "belief", "(I)D"⟩ ∈ sysW := List.mem_filter.mpr ⟨List.mem_of_getElem? (i := 439) (by decide +kernel), by decide +kernel⟩
theorem mw_440 : Cond.instanceMethod ⟨"BeliefForge", "belief", "(I)D"⟩ ∈ sysW := List.mem_filter.mpr ⟨List.mem_of_getElem? (i := 440) (by decide +kernel), by decide +kernel⟩
theorem mw_441 : Cond.selects "BeliefForge" ⟨"BeliefForge", "belief", "(I)D"⟩ ⟨"BeliefForge", "belief", "(I)D"⟩ ∈ sysW := List.mem_filter.mpr ⟨List.mem_of_getElem? (i := 441) (by decide +kernel), by decide +kernel⟩
theorem mw_442 : Cond.code ⟨"BeliefForge", "belief", "(I)D"⟩ prog_1_method_8_code 2 (some .double) ∈ sysW := List.mem_filter.mpr ⟨List.mem_of_getElem? (i := 442) (by decide +kernel), by decide +kernel⟩
theorem mw_627 : Cond.methodLink "BeliefForgeLaw" 38 ⟨"BeliefForge", "hits", "(II)I"⟩ ∈ sysW := List.mem_filter.mpr ⟨List.mem_of_getElem? (i := 627) (by decide +kernel), by decide +kernel⟩
theorem mw_628 : Cond.instanceMethod ⟨"BeliefForge", "hits", "(II)I"⟩ ∈ sysW := List.mem_filter.mpr ⟨List.mem_of_getElem? (i := 628) (by decide +kernel), by decide +kernel⟩
theorem mw_629 : Cond.selects "BeliefForge" ⟨"BeliefForge", "hits", "(II)I"⟩ ⟨"BeliefForge", "hits", "(II)I"⟩ ∈ sysW := List.mem_filter.mpr ⟨List.mem_of_getElem? (i := 629) (by decide +kernel), by decide +kernel⟩
theorem mw_630 : Cond.code ⟨"BeliefForge", "hits", "(II)I"⟩ prog_1_method_9_code 3 (some .int) ∈ sysW := List.mem_filter.mpr ⟨List.mem_of_getElem? (i := 630) (by decide +kernel), by decide +kernel⟩
theorem mw_643 : Cond.methodLink "BeliefForgeLaw" 42 ⟨"BeliefForge", "search", "(I)I"⟩ ∈ sysW := List.mem_filter.mpr ⟨List.mem_of_getElem? (i := 643) (by decide +kernel), by decide +kernel⟩
theorem mw_644 : Cond.instanceMethod ⟨"BeliefForge", "search", "(I)I"⟩ ∈ sysW := List.mem_filter.mpr ⟨List.mem_of_getElem? (i := 644) (by decide +kernel), by decide +kernel⟩
theorem mw_645 : Cond.selects "BeliefForge" ⟨"BeliefForge", "search", "(I)I"⟩ ⟨"BeliefForge", "search", "(I)I"⟩ ∈ sysW := List.mem_filter.mpr ⟨List.mem_of_getElem? (i := 645) (by decide +kernel), by decide +kernel⟩
theorem mw_646 : Cond.code ⟨"BeliefForge", "search", "(I)I"⟩ prog_1_method_10_code 3 (some .int) ∈ sysW := List.mem_filter.mpr ⟨List.mem_of_getElem? (i := 646) (by decide +kernel), by decide +kernel⟩
theorem mw_675 : Cond.methodLink "BeliefForgeLaw" 45 ⟨"BeliefForge", "found", "(I)I"⟩ ∈ sysW := List.mem_filter.mpr ⟨List.mem_of_getElem? (i := 675) (by decide +kernel), by decide +kernel⟩
theorem mw_676 : Cond.instanceMethod ⟨"BeliefForge", "found", "(I)I"⟩ ∈ sysW := List.mem_filter.mpr ⟨List.mem_of_getElem? (i := 676) (by decide +kernel), by decide +kernel⟩
theorem mw_677 : Cond.selects "BeliefForge" ⟨"BeliefForge", "found", "(I)I"⟩ ⟨"BeliefForge", "found", "(I)I"⟩ ∈ sysW := List.mem_filter.mpr ⟨List.mem_of_getElem? (i := 677) (by decide +kernel), by decide +kernel⟩
theorem mw_678 : Cond.code ⟨"BeliefForge", "found", "(I)I"⟩ prog_1_method_11_code 2 (some .int) ∈ sysW := List.mem_filter.mpr ⟨List.mem_of_getElem? (i := 678) (by decide +kernel), by decide +kernel⟩
theorem mw_691 : Cond.methodLink "BeliefForgeLaw" 48 ⟨"BeliefForge", "score", "(I)D"⟩ ∈ sysW := List.mem_filter.mpr ⟨List.mem_of_getElem? (i := 691) (by decide +kernel), by decide +kernel⟩
theorem mw_692 : Cond.instanceMethod ⟨"BeliefForge", "score", "(I)D"⟩ ∈ sysW := List.mem_filter.mpr ⟨List.mem_of_getElem? (i := 692) (by decide +kernel), by decide +kernel⟩
theorem mw_693 : Cond.selects "BeliefForge" ⟨"BeliefForge", "score", "(I)D"⟩ ⟨"BeliefForge", "score", "(I)D"⟩ ∈ sysW := List.mem_filter.mpr ⟨List.mem_of_getElem? (i := 693) (by decide +kernel), by decide +kernel⟩
theorem mw_694 : Cond.code ⟨"BeliefForge", "score", "(I)D"⟩ prog_1_method_12_code 2 (some .double) ∈ sysW := List.mem_filter.mpr ⟨List.mem_of_getElem? (i := 694) (by decide +kernel), by decide +kernel⟩
theorem mw_702 : Cond.methodLink "BeliefForgeLaw" 51 ⟨"BeliefForge", "model", "(I)I"⟩ ∈ sysW := List.mem_filter.mpr ⟨List.mem_of_getElem? (i := 702) (by decide +kernel), by decide +kernel⟩
theorem mw_703 : Cond.instanceMethod ⟨"BeliefForge", "model", "(I)I"⟩ ∈ sysW := List.mem_filter.mpr ⟨List.mem_of_getElem? (i := 703) (by decide +kernel), by decide +kernel⟩
theorem mw_704 : Cond.selects "BeliefForge" ⟨"BeliefForge", "model", "(I)I"⟩ ⟨"BeliefForge", "model", "(I)I"⟩ ∈ sysW := List.mem_filter.mpr ⟨List.mem_of_getElem? (i := 704) (by decide +kernel), by decide +kernel⟩
theorem mw_705 : Cond.code ⟨"BeliefForge", "model", "(I)I"⟩ prog_1_method_13_code 2 (some .int) ∈ sysW := List.mem_filter.mpr ⟨List.mem_of_getElem? (i := 705) (by decide +kernel), by decide +kernel⟩
theorem mw_742 : Cond.methodLink "BeliefForgeLaw" 54 ⟨"BeliefForge", "told", "(II)D"⟩ ∈ sysW := List.mem_filter.mpr ⟨List.mem_of_getElem? (i := 742) (by decide +kernel), by decide +kernel⟩
theorem mw_743 : Cond.instanceMethod ⟨"BeliefForge", "told", "(II)D"⟩ ∈ sysW := List.mem_filter.mpr ⟨List.mem_of_getElem? (i := 743) (by decide +kernel), by decide +kernel⟩
theorem mw_744 : Cond.selects "BeliefForge" ⟨"BeliefForge", "told", "(II)D"⟩ ⟨"BeliefForge", "told", "(II)D"⟩ ∈ sysW := List.mem_filter.mpr ⟨List.mem_of_getElem? (i := 744) (by decide +kernel), by decide +kernel⟩
theorem mw_745 : Cond.code ⟨"BeliefForge", "told", "(II)D"⟩ prog_1_method_14_code 3 (some .double) ∈ sysW := List.mem_filter.mpr ⟨List.mem_of_getElem? (i := 745) (by decide +kernel), by decide +kernel⟩
theorem mw_753 : Cond.methodLink "BeliefForgeLaw" 58 ⟨"BeliefForge", "count", "(I)I"⟩ ∈ sysW := List.mem_filter.mpr ⟨List.mem_of_getElem? (i := 753) (by decide +kernel), by decide +kernel⟩
theorem mw_754 : Cond.instanceMethod ⟨"BeliefForge", "count", "(I)I"⟩ ∈ sysW := List.mem_filter.mpr ⟨List.mem_of_getElem? (i := 754) (by decide +kernel), by decide +kernel⟩
theorem mw_755 : Cond.selects "BeliefForge" ⟨"BeliefForge", "count", "(I)I"⟩ ⟨"BeliefForge", "count", "(I)I"⟩ ∈ sysW := List.mem_filter.mpr ⟨List.mem_of_getElem? (i := 755) (by decide +kernel), by decide +kernel⟩
theorem mw_756 : Cond.code ⟨"BeliefForge", "count", "(I)I"⟩ prog_1_method_15_code 2 (some .int) ∈ sysW := List.mem_filter.mpr ⟨List.mem_of_getElem? (i := 756) (by decide +kernel), by decide +kernel⟩
theorem mw_225 : Cond.methodLink "BeliefForgeLaw" 65 ⟨"BeliefForgeLaw", "document", "(LBeliefForge;I[J)I"⟩ ∈ sysW := List.mem_filter.mpr ⟨List.mem_of_getElem? (i := 225) (by decide +kernel), by decide +kernel⟩
theorem mw_226 : Cond.static ⟨"BeliefForgeLaw", "document", "(LBeliefForge;I[J)I"⟩ ∈ sysW := List.mem_filter.mpr ⟨List.mem_of_getElem? (i := 226) (by decide +kernel), by decide +kernel⟩
theorem mw_36 : Cond.initialized "BeliefForgeLaw" ∈ sysW := List.mem_filter.mpr ⟨List.mem_of_getElem? (i := 36) (by decide +kernel), by decide +kernel⟩
theorem mw_227 : Cond.codeWith ⟨"BeliefForgeLaw", "document", "(LBeliefForge;I[J)I"⟩ method_3_code 4 (some .int) [(0, 9, 12, 13), (0, 9, 15, 15)] ∈ sysW := List.mem_filter.mpr ⟨List.mem_of_getElem? (i := 227) (by decide +kernel), by decide +kernel⟩
theorem mw_840 : Cond.methodLink "BeliefForgeLaw" 70 ⟨"BeliefForgeModel", "document", "(I)I"⟩ ∈ sysW := List.mem_filter.mpr ⟨List.mem_of_getElem? (i := 840) (by decide +kernel), by decide +kernel⟩
theorem mw_841 : Cond.instanceMethod ⟨"BeliefForgeModel", "document", "(I)I"⟩ ∈ sysW := List.mem_filter.mpr ⟨List.mem_of_getElem? (i := 841) (by decide +kernel), by decide +kernel⟩
theorem mw_842 : Cond.selects "BeliefForgeModel" ⟨"BeliefForgeModel", "document", "(I)I"⟩ ⟨"BeliefForgeModel", "document", "(I)I"⟩ ∈ sysW := List.mem_filter.mpr ⟨List.mem_of_getElem? (i := 842) (by decide +kernel), by decide +kernel⟩
theorem mw_843 : Cond.code ⟨"BeliefForgeModel", "document", "(I)I"⟩ prog_8_method_5_code 2 (some .int) ∈ sysW := List.mem_filter.mpr ⟨List.mem_of_getElem? (i := 843) (by decide +kernel), by decide +kernel⟩
theorem mw_836 : Cond.methodLink "BeliefForgeLaw" 71 ⟨"BeliefForgeModel", "thrown", "()I"⟩ ∈ sysW := List.mem_filter.mpr ⟨List.mem_of_getElem? (i := 836) (by decide +kernel), by decide +kernel⟩
theorem mw_837 : Cond.instanceMethod ⟨"BeliefForgeModel", "thrown", "()I"⟩ ∈ sysW := List.mem_filter.mpr ⟨List.mem_of_getElem? (i := 837) (by decide +kernel), by decide +kernel⟩
theorem mw_838 : Cond.selects "BeliefForgeModel" ⟨"BeliefForgeModel", "thrown", "()I"⟩ ⟨"BeliefForgeModel", "thrown", "()I"⟩ ∈ sysW := List.mem_filter.mpr ⟨List.mem_of_getElem? (i := 838) (by decide +kernel), by decide +kernel⟩
theorem mw_839 : Cond.code ⟨"BeliefForgeModel", "thrown", "()I"⟩ prog_8_method_2_code 1 (some .int) ∈ sysW := List.mem_filter.mpr ⟨List.mem_of_getElem? (i := 839) (by decide +kernel), by decide +kernel⟩
theorem mw_328 : Cond.methodLink "BeliefForgeLaw" 75 ⟨"BeliefForgeLaw", "word", "(LBeliefForge;I[J)I"⟩ ∈ sysW := List.mem_filter.mpr ⟨List.mem_of_getElem? (i := 328) (by decide +kernel), by decide +kernel⟩
theorem mw_329 : Cond.static ⟨"BeliefForgeLaw", "word", "(LBeliefForge;I[J)I"⟩ ∈ sysW := List.mem_filter.mpr ⟨List.mem_of_getElem? (i := 329) (by decide +kernel), by decide +kernel⟩
theorem mw_330 : Cond.codeWith ⟨"BeliefForgeLaw", "word", "(LBeliefForge;I[J)I"⟩ method_4_code 4 (some .int) [(0, 9, 12, 13), (0, 9, 15, 15)] ∈ sysW := List.mem_filter.mpr ⟨List.mem_of_getElem? (i := 330) (by decide +kernel), by decide +kernel⟩
theorem mw_851 : Cond.methodLink "BeliefForgeLaw" 77 ⟨"BeliefForgeModel", "word", "(I)I"⟩ ∈ sysW := List.mem_filter.mpr ⟨List.mem_of_getElem? (i := 851) (by decide +kernel), by decide +kernel⟩
theorem mw_852 : Cond.instanceMethod ⟨"BeliefForgeModel", "word", "(I)I"⟩ ∈ sysW := List.mem_filter.mpr ⟨List.mem_of_getElem? (i := 852) (by decide +kernel), by decide +kernel⟩
theorem mw_853 : Cond.selects "BeliefForgeModel" ⟨"BeliefForgeModel", "word", "(I)I"⟩ ⟨"BeliefForgeModel", "word", "(I)I"⟩ ∈ sysW := List.mem_filter.mpr ⟨List.mem_of_getElem? (i := 853) (by decide +kernel), by decide +kernel⟩
theorem mw_854 : Cond.code ⟨"BeliefForgeModel", "word", "(I)I"⟩ prog_8_method_6_code 3 (some .int) ∈ sysW := List.mem_filter.mpr ⟨List.mem_of_getElem? (i := 854) (by decide +kernel), by decide +kernel⟩
theorem mw_977 : Cond.constantDouble "BeliefForgeLaw" 78 4593671619917905920 ∈ sysW := List.mem_filter.mpr ⟨List.mem_of_getElem? (i := 977) (by decide +kernel), by decide +kernel⟩
theorem mw_348 : Cond.methodLink "BeliefForgeLaw" 80 ⟨"BeliefForgeLaw", "smooth", "(LBeliefForge;ID[J)I"⟩ ∈ sysW := List.mem_filter.mpr ⟨List.mem_of_getElem? (i := 348) (by decide +kernel), by decide +kernel⟩
theorem mw_349 : Cond.static ⟨"BeliefForgeLaw", "smooth", "(LBeliefForge;ID[J)I"⟩ ∈ sysW := List.mem_filter.mpr ⟨List.mem_of_getElem? (i := 349) (by decide +kernel), by decide +kernel⟩
theorem mw_350 : Cond.codeWith ⟨"BeliefForgeLaw", "smooth", "(LBeliefForge;ID[J)I"⟩ method_5_code 6 (some .int) [(0, 11, 14, 13)] ∈ sysW := List.mem_filter.mpr ⟨List.mem_of_getElem? (i := 350) (by decide +kernel), by decide +kernel⟩
theorem mw_855 : Cond.methodLink "BeliefForgeLaw" 83 ⟨"BeliefForgeModel", "smooth", "(ID)I"⟩ ∈ sysW := List.mem_filter.mpr ⟨List.mem_of_getElem? (i := 855) (by decide +kernel), by decide +kernel⟩
theorem mw_856 : Cond.instanceMethod ⟨"BeliefForgeModel", "smooth", "(ID)I"⟩ ∈ sysW := List.mem_filter.mpr ⟨List.mem_of_getElem? (i := 856) (by decide +kernel), by decide +kernel⟩
theorem mw_857 : Cond.selects "BeliefForgeModel" ⟨"BeliefForgeModel", "smooth", "(ID)I"⟩ ⟨"BeliefForgeModel", "smooth", "(ID)I"⟩ ∈ sysW := List.mem_filter.mpr ⟨List.mem_of_getElem? (i := 857) (by decide +kernel), by decide +kernel⟩
theorem mw_858 : Cond.code ⟨"BeliefForgeModel", "smooth", "(ID)I"⟩ prog_8_method_7_code 5 (some .int) ∈ sysW := List.mem_filter.mpr ⟨List.mem_of_getElem? (i := 858) (by decide +kernel), by decide +kernel⟩
theorem mw_365 : Cond.methodLink "BeliefForgeLaw" 84 ⟨"BeliefForgeLaw", "token", "(LBeliefForge;IID[J)I"⟩ ∈ sysW := List.mem_filter.mpr ⟨List.mem_of_getElem? (i := 365) (by decide +kernel), by decide +kernel⟩
theorem mw_366 : Cond.static ⟨"BeliefForgeLaw", "token", "(LBeliefForge;IID[J)I"⟩ ∈ sysW := List.mem_filter.mpr ⟨List.mem_of_getElem? (i := 366) (by decide +kernel), by decide +kernel⟩
theorem mw_367 : Cond.codeWith ⟨"BeliefForgeLaw", "token", "(LBeliefForge;IID[J)I"⟩ method_6_code 7 (some .int) [(0, 12, 15, 13), (0, 12, 19, 15), (0, 12, 23, 28)] ∈ sysW := List.mem_filter.mpr ⟨List.mem_of_getElem? (i := 367) (by decide +kernel), by decide +kernel⟩
theorem mw_859 : Cond.methodLink "BeliefForgeLaw" 87 ⟨"BeliefForgeModel", "token", "(IID)I"⟩ ∈ sysW := List.mem_filter.mpr ⟨List.mem_of_getElem? (i := 859) (by decide +kernel), by decide +kernel⟩
theorem mw_860 : Cond.instanceMethod ⟨"BeliefForgeModel", "token", "(IID)I"⟩ ∈ sysW := List.mem_filter.mpr ⟨List.mem_of_getElem? (i := 860) (by decide +kernel), by decide +kernel⟩
theorem mw_861 : Cond.selects "BeliefForgeModel" ⟨"BeliefForgeModel", "token", "(IID)I"⟩ ⟨"BeliefForgeModel", "token", "(IID)I"⟩ ∈ sysW := List.mem_filter.mpr ⟨List.mem_of_getElem? (i := 861) (by decide +kernel), by decide +kernel⟩
theorem mw_862 : Cond.code ⟨"BeliefForgeModel", "token", "(IID)I"⟩ prog_8_method_12_code 5 (some .int) ∈ sysW := List.mem_filter.mpr ⟨List.mem_of_getElem? (i := 862) (by decide +kernel), by decide +kernel⟩
theorem mw_205 : Cond.methodLink "BeliefForgeLaw" 88 ⟨"BeliefForge", "clear", "()I"⟩ ∈ sysW := List.mem_filter.mpr ⟨List.mem_of_getElem? (i := 205) (by decide +kernel), by decide +kernel⟩
theorem mw_206 : Cond.instanceMethod ⟨"BeliefForge", "clear", "()I"⟩ ∈ sysW := List.mem_filter.mpr ⟨List.mem_of_getElem? (i := 206) (by decide +kernel), by decide +kernel⟩
theorem mw_207 : Cond.selects "BeliefForge" ⟨"BeliefForge", "clear", "()I"⟩ ⟨"BeliefForge", "clear", "()I"⟩ ∈ sysW := List.mem_filter.mpr ⟨List.mem_of_getElem? (i := 207) (by decide +kernel), by decide +kernel⟩
theorem mw_208 : Cond.code ⟨"BeliefForge", "clear", "()I"⟩ prog_1_method_6_code 2 (some .int) ∈ sysW := List.mem_filter.mpr ⟨List.mem_of_getElem? (i := 208) (by decide +kernel), by decide +kernel⟩
theorem mw_885 : Cond.methodLink "BeliefForgeLaw" 91 ⟨"BeliefForgeModel", "clear", "()I"⟩ ∈ sysW := List.mem_filter.mpr ⟨List.mem_of_getElem? (i := 885) (by decide +kernel), by decide +kernel⟩
theorem mw_886 : Cond.instanceMethod ⟨"BeliefForgeModel", "clear", "()I"⟩ ∈ sysW := List.mem_filter.mpr ⟨List.mem_of_getElem? (i := 886) (by decide +kernel), by decide +kernel⟩
theorem mw_887 : Cond.selects "BeliefForgeModel" ⟨"BeliefForgeModel", "clear", "()I"⟩ ⟨"BeliefForgeModel", "clear", "()I"⟩ ∈ sysW := List.mem_filter.mpr ⟨List.mem_of_getElem? (i := 887) (by decide +kernel), by decide +kernel⟩
theorem mw_888 : Cond.code ⟨"BeliefForgeModel", "clear", "()I"⟩ prog_8_method_14_code 2 (some .int) ∈ sysW := List.mem_filter.mpr ⟨List.mem_of_getElem? (i := 888) (by decide +kernel), by decide +kernel⟩
theorem mw_217 : Cond.methodLink "BeliefForgeLaw" 92 ⟨"BeliefForge", "wanted", "()I"⟩ ∈ sysW := List.mem_filter.mpr ⟨List.mem_of_getElem? (i := 217) (by decide +kernel), by decide +kernel⟩
theorem mw_218 : Cond.instanceMethod ⟨"BeliefForge", "wanted", "()I"⟩ ∈ sysW := List.mem_filter.mpr ⟨List.mem_of_getElem? (i := 218) (by decide +kernel), by decide +kernel⟩
theorem mw_219 : Cond.selects "BeliefForge" ⟨"BeliefForge", "wanted", "()I"⟩ ⟨"BeliefForge", "wanted", "()I"⟩ ∈ sysW := List.mem_filter.mpr ⟨List.mem_of_getElem? (i := 219) (by decide +kernel), by decide +kernel⟩
theorem mw_220 : Cond.code ⟨"BeliefForge", "wanted", "()I"⟩ prog_1_method_7_code 1 (some .int) ∈ sysW := List.mem_filter.mpr ⟨List.mem_of_getElem? (i := 220) (by decide +kernel), by decide +kernel⟩
theorem mw_889 : Cond.methodLink "BeliefForgeLaw" 95 ⟨"BeliefForgeModel", "wanted", "()I"⟩ ∈ sysW := List.mem_filter.mpr ⟨List.mem_of_getElem? (i := 889) (by decide +kernel), by decide +kernel⟩
theorem mw_890 : Cond.instanceMethod ⟨"BeliefForgeModel", "wanted", "()I"⟩ ∈ sysW := List.mem_filter.mpr ⟨List.mem_of_getElem? (i := 890) (by decide +kernel), by decide +kernel⟩
theorem mw_891 : Cond.selects "BeliefForgeModel" ⟨"BeliefForgeModel", "wanted", "()I"⟩ ⟨"BeliefForgeModel", "wanted", "()I"⟩ ∈ sysW := List.mem_filter.mpr ⟨List.mem_of_getElem? (i := 891) (by decide +kernel), by decide +kernel⟩
theorem mw_892 : Cond.code ⟨"BeliefForgeModel", "wanted", "()I"⟩ prog_8_method_15_code 1 (some .int) ∈ sysW := List.mem_filter.mpr ⟨List.mem_of_getElem? (i := 892) (by decide +kernel), by decide +kernel⟩
theorem mw_434 : Cond.methodLink "BeliefForgeLaw" 96 ⟨"BeliefForgeLaw", "belief", "(LBeliefForge;I[D)I"⟩ ∈ sysW := List.mem_filter.mpr ⟨List.mem_of_getElem? (i := 434) (by decide +kernel), by decide +kernel⟩
theorem mw_435 : Cond.static ⟨"BeliefForgeLaw", "belief", "(LBeliefForge;I[D)I"⟩ ∈ sysW := List.mem_filter.mpr ⟨List.mem_of_getElem? (i := 435) (by decide +kernel), by decide +kernel⟩
theorem mw_436 : Cond.codeWith ⟨"BeliefForgeLaw", "belief", "(LBeliefForge;I[D)I"⟩ method_7_code 4 (some .int) [(0, 8, 11, 34), (0, 8, 14, 15), (0, 8, 17, 36)] ∈ sysW := List.mem_filter.mpr ⟨List.mem_of_getElem? (i := 436) (by decide +kernel), by decide +kernel⟩
theorem mw_893 : Cond.methodLink "BeliefForgeLaw" 99 ⟨"BeliefForgeModel", "belief", "(I)D"⟩ ∈ sysW := List.mem_filter.mpr ⟨List.mem_of_getElem? (i := 893) (by decide +kernel), by decide +kernel⟩
theorem mw_894 : Cond.instanceMethod ⟨"BeliefForgeModel", "belief", "(I)D"⟩ ∈ sysW := List.mem_filter.mpr ⟨List.mem_of_getElem? (i := 894) (by decide +kernel), by decide +kernel⟩
theorem mw_895 : Cond.selects "BeliefForgeModel" ⟨"BeliefForgeModel", "belief", "(I)D"⟩ ⟨"BeliefForgeModel", "belief", "(I)D"⟩ ∈ sysW := List.mem_filter.mpr ⟨List.mem_of_getElem? (i := 895) (by decide +kernel), by decide +kernel⟩
theorem mw_896 : Cond.code ⟨"BeliefForgeModel", "belief", "(I)D"⟩ prog_8_method_27_code 4 (some .double) ∈ sysW := List.mem_filter.mpr ⟨List.mem_of_getElem? (i := 896) (by decide +kernel), by decide +kernel⟩
theorem mw_624 : Cond.methodLink "BeliefForgeLaw" 100 ⟨"BeliefForgeLaw", "hits", "(LBeliefForge;II[J)I"⟩ ∈ sysW := List.mem_filter.mpr ⟨List.mem_of_getElem? (i := 624) (by decide +kernel), by decide +kernel⟩
theorem mw_625 : Cond.static ⟨"BeliefForgeLaw", "hits", "(LBeliefForge;II[J)I"⟩ ∈ sysW := List.mem_filter.mpr ⟨List.mem_of_getElem? (i := 625) (by decide +kernel), by decide +kernel⟩
theorem mw_626 : Cond.codeWith ⟨"BeliefForgeLaw", "hits", "(LBeliefForge;II[J)I"⟩ method_8_code 5 (some .int) [(0, 10, 13, 34), (0, 10, 17, 15), (0, 10, 21, 28)] ∈ sysW := List.mem_filter.mpr ⟨List.mem_of_getElem? (i := 626) (by decide +kernel), by decide +kernel⟩
theorem mw_941 : Cond.methodLink "BeliefForgeLaw" 103 ⟨"BeliefForgeModel", "hits", "(II)I"⟩ ∈ sysW := List.mem_filter.mpr ⟨List.mem_of_getElem? (i := 941) (by decide +kernel), by decide +kernel⟩
theorem mw_942 : Cond.instanceMethod ⟨"BeliefForgeModel", "hits", "(II)I"⟩ ∈ sysW := List.mem_filter.mpr ⟨List.mem_of_getElem? (i := 942) (by decide +kernel), by decide +kernel⟩
theorem mw_943 : Cond.selects "BeliefForgeModel" ⟨"BeliefForgeModel", "hits", "(II)I"⟩ ⟨"BeliefForgeModel", "hits", "(II)I"⟩ ∈ sysW := List.mem_filter.mpr ⟨List.mem_of_getElem? (i := 943) (by decide +kernel), by decide +kernel⟩
theorem mw_944 : Cond.code ⟨"BeliefForgeModel", "hits", "(II)I"⟩ prog_8_method_28_code 3 (some .int) ∈ sysW := List.mem_filter.mpr ⟨List.mem_of_getElem? (i := 944) (by decide +kernel), by decide +kernel⟩
theorem mw_640 : Cond.methodLink "BeliefForgeLaw" 104 ⟨"BeliefForgeLaw", "search", "(LBeliefForge;I[J)I"⟩ ∈ sysW := List.mem_filter.mpr ⟨List.mem_of_getElem? (i := 640) (by decide +kernel), by decide +kernel⟩
theorem mw_641 : Cond.static ⟨"BeliefForgeLaw", "search", "(LBeliefForge;I[J)I"⟩ ∈ sysW := List.mem_filter.mpr ⟨List.mem_of_getElem? (i := 641) (by decide +kernel), by decide +kernel⟩
theorem mw_642 : Cond.codeWith ⟨"BeliefForgeLaw", "search", "(LBeliefForge;I[J)I"⟩ method_9_code 4 (some .int) [(0, 9, 12, 13), (0, 9, 15, 15)] ∈ sysW := List.mem_filter.mpr ⟨List.mem_of_getElem? (i := 642) (by decide +kernel), by decide +kernel⟩
theorem mw_945 : Cond.methodLink "BeliefForgeLaw" 106 ⟨"BeliefForgeModel", "search", "(I)I"⟩ ∈ sysW := List.mem_filter.mpr ⟨List.mem_of_getElem? (i := 945) (by decide +kernel), by decide +kernel⟩
theorem mw_946 : Cond.instanceMethod ⟨"BeliefForgeModel", "search", "(I)I"⟩ ∈ sysW := List.mem_filter.mpr ⟨List.mem_of_getElem? (i := 946) (by decide +kernel), by decide +kernel⟩
theorem mw_947 : Cond.selects "BeliefForgeModel" ⟨"BeliefForgeModel", "search", "(I)I"⟩ ⟨"BeliefForgeModel", "search", "(I)I"⟩ ∈ sysW := List.mem_filter.mpr ⟨List.mem_of_getElem? (i := 947) (by decide +kernel), by decide +kernel⟩
theorem mw_948 : Cond.code ⟨"BeliefForgeModel", "search", "(I)I"⟩ prog_8_method_29_code 5 (some .int) ∈ sysW := List.mem_filter.mpr ⟨List.mem_of_getElem? (i := 948) (by decide +kernel), by decide +kernel⟩
theorem mw_672 : Cond.methodLink "BeliefForgeLaw" 107 ⟨"BeliefForgeLaw", "found", "(LBeliefForge;I[J)I"⟩ ∈ sysW := List.mem_filter.mpr ⟨List.mem_of_getElem? (i := 672) (by decide +kernel), by decide +kernel⟩
theorem mw_673 : Cond.static ⟨"BeliefForgeLaw", "found", "(LBeliefForge;I[J)I"⟩ ∈ sysW := List.mem_filter.mpr ⟨List.mem_of_getElem? (i := 673) (by decide +kernel), by decide +kernel⟩
theorem mw_674 : Cond.codeWith ⟨"BeliefForgeLaw", "found", "(LBeliefForge;I[J)I"⟩ method_10_code 4 (some .int) [(0, 9, 12, 34)] ∈ sysW := List.mem_filter.mpr ⟨List.mem_of_getElem? (i := 674) (by decide +kernel), by decide +kernel⟩
theorem mw_953 : Cond.methodLink "BeliefForgeLaw" 109 ⟨"BeliefForgeModel", "found", "(I)I"⟩ ∈ sysW := List.mem_filter.mpr ⟨List.mem_of_getElem? (i := 953) (by decide +kernel), by decide +kernel⟩
theorem mw_954 : Cond.instanceMethod ⟨"BeliefForgeModel", "found", "(I)I"⟩ ∈ sysW := List.mem_filter.mpr ⟨List.mem_of_getElem? (i := 954) (by decide +kernel), by decide +kernel⟩
theorem mw_955 : Cond.selects "BeliefForgeModel" ⟨"BeliefForgeModel", "found", "(I)I"⟩ ⟨"BeliefForgeModel", "found", "(I)I"⟩ ∈ sysW := List.mem_filter.mpr ⟨List.mem_of_getElem? (i := 955) (by decide +kernel), by decide +kernel⟩
theorem mw_956 : Cond.code ⟨"BeliefForgeModel", "found", "(I)I"⟩ prog_8_method_31_code 2 (some .int) ∈ sysW := List.mem_filter.mpr ⟨List.mem_of_getElem? (i := 956) (by decide +kernel), by decide +kernel⟩
theorem mw_688 : Cond.methodLink "BeliefForgeLaw" 110 ⟨"BeliefForgeLaw", "score", "(LBeliefForge;I[D)I"⟩ ∈ sysW := List.mem_filter.mpr ⟨List.mem_of_getElem? (i := 688) (by decide +kernel), by decide +kernel⟩
theorem mw_689 : Cond.static ⟨"BeliefForgeLaw", "score", "(LBeliefForge;I[D)I"⟩ ∈ sysW := List.mem_filter.mpr ⟨List.mem_of_getElem? (i := 689) (by decide +kernel), by decide +kernel⟩
theorem mw_690 : Cond.codeWith ⟨"BeliefForgeLaw", "score", "(LBeliefForge;I[D)I"⟩ method_11_code 4 (some .int) [(0, 8, 11, 34)] ∈ sysW := List.mem_filter.mpr ⟨List.mem_of_getElem? (i := 690) (by decide +kernel), by decide +kernel⟩
theorem mw_957 : Cond.methodLink "BeliefForgeLaw" 112 ⟨"BeliefForgeModel", "score", "(I)D"⟩ ∈ sysW := List.mem_filter.mpr ⟨List.mem_of_getElem? (i := 957) (by decide +kernel), by decide +kernel⟩
theorem mw_958 : Cond.instanceMethod ⟨"BeliefForgeModel", "score", "(I)D"⟩ ∈ sysW := List.mem_filter.mpr ⟨List.mem_of_getElem? (i := 958) (by decide +kernel), by decide +kernel⟩
theorem mw_959 : Cond.selects "BeliefForgeModel" ⟨"BeliefForgeModel", "score", "(I)D"⟩ ⟨"BeliefForgeModel", "score", "(I)D"⟩ ∈ sysW := List.mem_filter.mpr ⟨List.mem_of_getElem? (i := 959) (by decide +kernel), by decide +kernel⟩
theorem mw_960 : Cond.code ⟨"BeliefForgeModel", "score", "(I)D"⟩ prog_8_method_32_code 2 (some .double) ∈ sysW := List.mem_filter.mpr ⟨List.mem_of_getElem? (i := 960) (by decide +kernel), by decide +kernel⟩
theorem mw_699 : Cond.methodLink "BeliefForgeLaw" 113 ⟨"BeliefForgeLaw", "model", "(LBeliefForge;I[J)I"⟩ ∈ sysW := List.mem_filter.mpr ⟨List.mem_of_getElem? (i := 699) (by decide +kernel), by decide +kernel⟩
theorem mw_700 : Cond.static ⟨"BeliefForgeLaw", "model", "(LBeliefForge;I[J)I"⟩ ∈ sysW := List.mem_filter.mpr ⟨List.mem_of_getElem? (i := 700) (by decide +kernel), by decide +kernel⟩
theorem mw_701 : Cond.codeWith ⟨"BeliefForgeLaw", "model", "(LBeliefForge;I[J)I"⟩ method_12_code 4 (some .int) [(0, 9, 12, 13), (0, 9, 15, 15)] ∈ sysW := List.mem_filter.mpr ⟨List.mem_of_getElem? (i := 701) (by decide +kernel), by decide +kernel⟩
theorem mw_961 : Cond.methodLink "BeliefForgeLaw" 115 ⟨"BeliefForgeModel", "model", "(I)I"⟩ ∈ sysW := List.mem_filter.mpr ⟨List.mem_of_getElem? (i := 961) (by decide +kernel), by decide +kernel⟩
theorem mw_962 : Cond.instanceMethod ⟨"BeliefForgeModel", "model", "(I)I"⟩ ∈ sysW := List.mem_filter.mpr ⟨List.mem_of_getElem? (i := 962) (by decide +kernel), by decide +kernel⟩
theorem mw_963 : Cond.selects "BeliefForgeModel" ⟨"BeliefForgeModel", "model", "(I)I"⟩ ⟨"BeliefForgeModel", "model", "(I)I"⟩ ∈ sysW := List.mem_filter.mpr ⟨List.mem_of_getElem? (i := 963) (by decide +kernel), by decide +kernel⟩
theorem mw_964 : Cond.code ⟨"BeliefForgeModel", "model", "(I)I"⟩ prog_8_method_34_code 7 (some .int) ∈ sysW := List.mem_filter.mpr ⟨List.mem_of_getElem? (i := 964) (by decide +kernel), by decide +kernel⟩
theorem mw_739 : Cond.methodLink "BeliefForgeLaw" 116 ⟨"BeliefForgeLaw", "told", "(LBeliefForge;II[D)I"⟩ ∈ sysW := List.mem_filter.mpr ⟨List.mem_of_getElem? (i := 739) (by decide +kernel), by decide +kernel⟩
theorem mw_740 : Cond.static ⟨"BeliefForgeLaw", "told", "(LBeliefForge;II[D)I"⟩ ∈ sysW := List.mem_filter.mpr ⟨List.mem_of_getElem? (i := 740) (by decide +kernel), by decide +kernel⟩
theorem mw_741 : Cond.codeWith ⟨"BeliefForgeLaw", "told", "(LBeliefForge;II[D)I"⟩ method_13_code 5 (some .int) [(0, 9, 12, 34), (0, 9, 16, 13)] ∈ sysW := List.mem_filter.mpr ⟨List.mem_of_getElem? (i := 741) (by decide +kernel), by decide +kernel⟩
theorem mw_969 : Cond.methodLink "BeliefForgeLaw" 119 ⟨"BeliefForgeModel", "told", "(II)D"⟩ ∈ sysW := List.mem_filter.mpr ⟨List.mem_of_getElem? (i := 969) (by decide +kernel), by decide +kernel⟩
theorem mw_970 : Cond.instanceMethod ⟨"BeliefForgeModel", "told", "(II)D"⟩ ∈ sysW := List.mem_filter.mpr ⟨List.mem_of_getElem? (i := 970) (by decide +kernel), by decide +kernel⟩
theorem mw_971 : Cond.selects "BeliefForgeModel" ⟨"BeliefForgeModel", "told", "(II)D"⟩ ⟨"BeliefForgeModel", "told", "(II)D"⟩ ∈ sysW := List.mem_filter.mpr ⟨List.mem_of_getElem? (i := 971) (by decide +kernel), by decide +kernel⟩
theorem mw_972 : Cond.code ⟨"BeliefForgeModel", "told", "(II)D"⟩ prog_8_method_35_code 3 (some .double) ∈ sysW := List.mem_filter.mpr ⟨List.mem_of_getElem? (i := 972) (by decide +kernel), by decide +kernel⟩
theorem mw_750 : Cond.methodLink "BeliefForgeLaw" 120 ⟨"BeliefForgeLaw", "count", "(LBeliefForge;I[J)I"⟩ ∈ sysW := List.mem_filter.mpr ⟨List.mem_of_getElem? (i := 750) (by decide +kernel), by decide +kernel⟩
theorem mw_751 : Cond.static ⟨"BeliefForgeLaw", "count", "(LBeliefForge;I[J)I"⟩ ∈ sysW := List.mem_filter.mpr ⟨List.mem_of_getElem? (i := 751) (by decide +kernel), by decide +kernel⟩
theorem mw_752 : Cond.codeWith ⟨"BeliefForgeLaw", "count", "(LBeliefForge;I[J)I"⟩ method_14_code 4 (some .int) [(0, 9, 12, 13)] ∈ sysW := List.mem_filter.mpr ⟨List.mem_of_getElem? (i := 752) (by decide +kernel), by decide +kernel⟩
theorem mw_973 : Cond.methodLink "BeliefForgeLaw" 122 ⟨"BeliefForgeModel", "count", "(I)I"⟩ ∈ sysW := List.mem_filter.mpr ⟨List.mem_of_getElem? (i := 973) (by decide +kernel), by decide +kernel⟩
theorem mw_974 : Cond.instanceMethod ⟨"BeliefForgeModel", "count", "(I)I"⟩ ∈ sysW := List.mem_filter.mpr ⟨List.mem_of_getElem? (i := 974) (by decide +kernel), by decide +kernel⟩
theorem mw_975 : Cond.selects "BeliefForgeModel" ⟨"BeliefForgeModel", "count", "(I)I"⟩ ⟨"BeliefForgeModel", "count", "(I)I"⟩ ∈ sysW := List.mem_filter.mpr ⟨List.mem_of_getElem? (i := 975) (by decide +kernel), by decide +kernel⟩
theorem mw_976 : Cond.code ⟨"BeliefForgeModel", "count", "(I)I"⟩ prog_8_method_36_code 4 (some .int) ∈ sysW := List.mem_filter.mpr ⟨List.mem_of_getElem? (i := 976) (by decide +kernel), by decide +kernel⟩
