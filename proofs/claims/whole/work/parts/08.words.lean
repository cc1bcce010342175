def lw_g : List Cond := lw_tbl.filter goodWord
theorem lw_gin {w : Cond} (h : w ∈ lw_tbl) (hg : goodWord w = true) : w ∈ lw_g := List.mem_filter.mpr ⟨h, hg⟩
theorem lw_gg : GoodIn lw_g lw_g := fun _ h => ⟨h, good_of_word (List.mem_filter.mp h).2⟩
theorem lw_gc {w : Cond} (h : w ∈ lw_g) : GoodIn lw_g (w :: lw_g) := fun _ hw => (List.mem_cons.mp hw).elim (fun e => e ▸ lw_gg _ h) (lw_gg _)
/-- nest mates' words, which a warmed state keeps -/
def lw_nest : List Cond := lw_tbl.filter (fun w => match w with | .methodLinkNest .. => true | _ => false)
theorem w0 : Cond.selects "NecklaceSisters$Text" ⟨"NecklaceSisters$Text", "signAt", "(I)C"⟩ ⟨"NecklaceSisters$Text", "signAt", "(I)C"⟩ ∈ lw_g := lw_gin (List.mem_of_getElem? (i := 0) (by decide +kernel)) rfl
theorem w1 : Cond.selects "NecklaceSisters$Necklace" ⟨"NecklaceSisters$Necklace", "putJewel", "(III)V"⟩ ⟨"NecklaceSisters$Necklace", "putJewel", "(III)V"⟩ ∈ lw_g := lw_gin (List.mem_of_getElem? (i := 1) (by decide +kernel)) rfl
theorem w2 : Cond.selects "NecklaceSisters$Necklace" ⟨"NecklaceSisters$Necklace", "putOwner", "(II)V"⟩ ⟨"NecklaceSisters$Necklace", "putOwner", "(II)V"⟩ ∈ lw_g := lw_gin (List.mem_of_getElem? (i := 2) (by decide +kernel)) rfl
theorem w3 : Cond.selects "NecklaceSisters$Division" ⟨"NecklaceSisters$Division", "isOddOfAKind", "()Z"⟩ ⟨"NecklaceSisters$Division", "isOddOfAKind", "()Z"⟩ ∈ lw_g := lw_gin (List.mem_of_getElem? (i := 3) (by decide +kernel)) rfl
theorem w4 : Cond.selects "NecklaceSisters$Division" ⟨"NecklaceSisters$Division", "sumAhead", "(I)J"⟩ ⟨"NecklaceSisters$Division", "sumAhead", "(I)J"⟩ ∈ lw_g := lw_gin (List.mem_of_getElem? (i := 4) (by decide +kernel)) rfl
theorem w5 : Cond.selects "NecklaceSisters$Division" ⟨"NecklaceSisters$Division", "withRun", "(JIII)J"⟩ ⟨"NecklaceSisters$Division", "withRun", "(JIII)J"⟩ ∈ lw_g := lw_gin (List.mem_of_getElem? (i := 5) (by decide +kernel)) rfl
theorem w6 : Cond.selects "NecklaceSisters$Division" ⟨"NecklaceSisters$Division", "isOverHalf", "(J)Z"⟩ ⟨"NecklaceSisters$Division", "isOverHalf", "(J)Z"⟩ ∈ lw_g := lw_gin (List.mem_of_getElem? (i := 6) (by decide +kernel)) rfl
theorem w7 : Cond.selects "NecklaceSisters$Division" ⟨"NecklaceSisters$Division", "keepCut", "(II)V"⟩ ⟨"NecklaceSisters$Division", "keepCut", "(II)V"⟩ ∈ lw_g := lw_gin (List.mem_of_getElem? (i := 7) (by decide +kernel)) rfl
theorem w8 : Cond.selects "NecklaceSisters" ⟨"NecklaceSisters", "gapWith", "(II)I"⟩ ⟨"NecklaceSisters", "gapWith", "(II)I"⟩ ∈ lw_g := lw_gin (List.mem_of_getElem? (i := 8) (by decide +kernel)) rfl
theorem w10 : Cond.selects "NecklaceSisters$Text" ⟨"NecklaceSisters$Text", "performs", "(ILNecklaceSisters$Necklace;)Z"⟩ ⟨"NecklaceSisters$Text", "performs", "(ILNecklaceSisters$Necklace;)Z"⟩ ∈ lw_g := lw_gin (List.mem_of_getElem? (i := 10) (by decide +kernel)) rfl
theorem w11 : Cond.selects "NecklaceSisters$Text" ⟨"NecklaceSisters$Text", "digitAt", "(I)I"⟩ ⟨"NecklaceSisters$Text", "digitAt", "(I)I"⟩ ∈ lw_g := lw_gin (List.mem_of_getElem? (i := 11) (by decide +kernel)) rfl
theorem w12 : Cond.selects "NecklaceSisters$Text" ⟨"NecklaceSisters$Text", "numberAt", "(I)I"⟩ ⟨"NecklaceSisters$Text", "numberAt", "(I)I"⟩ ∈ lw_g := lw_gin (List.mem_of_getElem? (i := 12) (by decide +kernel)) rfl
theorem w13 : Cond.selects "NecklaceSisters" ⟨"NecklaceSisters", "fewestCuts", "()I"⟩ ⟨"NecklaceSisters", "fewestCuts", "()I"⟩ ∈ lw_g := lw_gin (List.mem_of_getElem? (i := 13) (by decide +kernel)) rfl
theorem w14 : Cond.selects "NecklaceSisters$Division" ⟨"NecklaceSisters$Division", "gapOf", "(J)I"⟩ ⟨"NecklaceSisters$Division", "gapOf", "(J)I"⟩ ∈ lw_g := lw_gin (List.mem_of_getElem? (i := 14) (by decide +kernel)) rfl
theorem w15 : Cond.selects "NecklaceSistersModel" ⟨"NecklaceSistersModel", "refused", "(I)Z"⟩ ⟨"NecklaceSistersModel", "refused", "(I)Z"⟩ ∈ lw_g := lw_gin (List.mem_of_getElem? (i := 15) (by decide +kernel)) rfl
theorem w16 : Cond.selects "NecklaceSistersModel" ⟨"NecklaceSistersModel", "readText", "([I)I"⟩ ⟨"NecklaceSistersModel", "readText", "([I)I"⟩ ∈ lw_g := lw_gin (List.mem_of_getElem? (i := 16) (by decide +kernel)) rfl
theorem w17 : Cond.selects "NecklaceSistersModel" ⟨"NecklaceSistersModel", "readCommand", "([I)Z"⟩ ⟨"NecklaceSistersModel", "readCommand", "([I)Z"⟩ ∈ lw_g := lw_gin (List.mem_of_getElem? (i := 17) (by decide +kernel)) rfl
theorem w18 : Cond.selects "NecklaceSistersModel" ⟨"NecklaceSistersModel", "readJewel", "([I)Z"⟩ ⟨"NecklaceSistersModel", "readJewel", "([I)Z"⟩ ∈ lw_g := lw_gin (List.mem_of_getElem? (i := 18) (by decide +kernel)) rfl
theorem w19 : Cond.selects "NecklaceSistersModel" ⟨"NecklaceSistersModel", "figures", "(IIII)I"⟩ ⟨"NecklaceSistersModel", "figures", "(IIII)I"⟩ ∈ lw_g := lw_gin (List.mem_of_getElem? (i := 19) (by decide +kernel)) rfl
theorem w20 : Cond.selects "NecklaceSistersModel" ⟨"NecklaceSistersModel", "done", "(Z)Z"⟩ ⟨"NecklaceSistersModel", "done", "(Z)Z"⟩ ∈ lw_g := lw_gin (List.mem_of_getElem? (i := 20) (by decide +kernel)) rfl
theorem w21 : Cond.selects "NecklaceSistersModel" ⟨"NecklaceSistersModel", "remember", "()V"⟩ ⟨"NecklaceSistersModel", "remember", "()V"⟩ ∈ lw_g := lw_gin (List.mem_of_getElem? (i := 21) (by decide +kernel)) rfl
theorem w22 : Cond.selects "NecklaceSistersModel" ⟨"NecklaceSistersModel", "fewestOf", "([I)I"⟩ ⟨"NecklaceSistersModel", "fewestOf", "([I)I"⟩ ∈ lw_g := lw_gin (List.mem_of_getElem? (i := 22) (by decide +kernel)) rfl
theorem w23 : Cond.selects "NecklaceSistersModel" ⟨"NecklaceSistersModel", "layOut", "([I)V"⟩ ⟨"NecklaceSistersModel", "layOut", "([I)V"⟩ ∈ lw_g := lw_gin (List.mem_of_getElem? (i := 23) (by decide +kernel)) rfl
theorem w24 : Cond.selects "NecklaceSistersModel" ⟨"NecklaceSistersModel", "leastWith", "(II)I"⟩ ⟨"NecklaceSistersModel", "leastWith", "(II)I"⟩ ∈ lw_g := lw_gin (List.mem_of_getElem? (i := 24) (by decide +kernel)) rfl
theorem w25 : Cond.selects "NecklaceSistersModel" ⟨"NecklaceSistersModel", "firstWay", "(II)Z"⟩ ⟨"NecklaceSistersModel", "firstWay", "(II)Z"⟩ ∈ lw_g := lw_gin (List.mem_of_getElem? (i := 25) (by decide +kernel)) rfl
theorem w26 : Cond.selects "NecklaceSistersModel" ⟨"NecklaceSistersModel", "gapTried", "(II)I"⟩ ⟨"NecklaceSistersModel", "gapTried", "(II)I"⟩ ∈ lw_g := lw_gin (List.mem_of_getElem? (i := 26) (by decide +kernel)) rfl
theorem w27 : Cond.selects "NecklaceSistersModel" ⟨"NecklaceSistersModel", "nextWay", "(II)Z"⟩ ⟨"NecklaceSistersModel", "nextWay", "(II)Z"⟩ ∈ lw_g := lw_gin (List.mem_of_getElem? (i := 27) (by decide +kernel)) rfl
theorem w28 : Cond.selects "NecklaceSistersModel" ⟨"NecklaceSistersModel", "gapWith", "(II)I"⟩ ⟨"NecklaceSistersModel", "gapWith", "(II)I"⟩ ∈ lw_g := lw_gin (List.mem_of_getElem? (i := 28) (by decide +kernel)) rfl
theorem w29 : Cond.selects "NecklaceSistersModel" ⟨"NecklaceSistersModel", "command", "(II)Z"⟩ ⟨"NecklaceSistersModel", "command", "(II)Z"⟩ ∈ lw_g := lw_gin (List.mem_of_getElem? (i := 29) (by decide +kernel)) rfl
theorem w30 : Cond.selects "NecklaceSistersModel" ⟨"NecklaceSistersModel", "isDivided", "(I)Z"⟩ ⟨"NecklaceSistersModel", "isDivided", "(I)Z"⟩ ∈ lw_g := lw_gin (List.mem_of_getElem? (i := 30) (by decide +kernel)) rfl
theorem w32 : Cond.initialized "NecklaceSisters" ∈ lw_g := lw_gin (List.mem_of_getElem? (i := 32) (by decide +kernel)) rfl
theorem w33 : Cond.initialized "NecklaceSisters$Text" ∈ lw_g := lw_gin (List.mem_of_getElem? (i := 33) (by decide +kernel)) rfl
theorem w34 : Cond.initialized "NecklaceSisters$Necklace" ∈ lw_g := lw_gin (List.mem_of_getElem? (i := 34) (by decide +kernel)) rfl
theorem w35 : Cond.initialized "NecklaceSisters$History" ∈ lw_g := lw_gin (List.mem_of_getElem? (i := 35) (by decide +kernel)) rfl
theorem w36 : Cond.initialized "NecklaceSisters$Division" ∈ lw_g := lw_gin (List.mem_of_getElem? (i := 36) (by decide +kernel)) rfl
theorem w38 : Cond.initialized "NecklaceSistersModel" ∈ lw_g := lw_gin (List.mem_of_getElem? (i := 38) (by decide +kernel)) rfl
theorem w44 : Cond.initialized "java/lang/String" ∈ lw_g := lw_gin (List.mem_of_getElem? (i := 44) (by decide +kernel)) rfl
theorem w45 : Cond.initialized "java/lang/StringLatin1" ∈ lw_g := lw_gin (List.mem_of_getElem? (i := 45) (by decide +kernel)) rfl
theorem w46 : Cond.initialized "jdk/internal/util/Preconditions" ∈ lw_g := lw_gin (List.mem_of_getElem? (i := 46) (by decide +kernel)) rfl
theorem w47 : Cond.initialized "java/lang/StringUTF16" ∈ lw_g := lw_gin (List.mem_of_getElem? (i := 47) (by decide +kernel)) rfl
theorem w48 : Cond.initialized "java/lang/Integer" ∈ lw_g := lw_gin (List.mem_of_getElem? (i := 48) (by decide +kernel)) rfl
theorem w49 : Cond.initialized "java/lang/Math" ∈ lw_g := lw_gin (List.mem_of_getElem? (i := 49) (by decide +kernel)) rfl
theorem w51 : Cond.initialized "NecklaceSisters$Script" ∈ lw_g := lw_gin (List.mem_of_getElem? (i := 51) (by decide +kernel)) rfl
theorem w52 : Cond.initialized "NecklaceSisters$Simulation" ∈ lw_g := lw_gin (List.mem_of_getElem? (i := 52) (by decide +kernel)) rfl
theorem w55 : Cond.methodLink "NecklaceSistersLaw" 96 ⟨"NecklaceSisters", "<init>", "()V"⟩ ∈ lw_g := lw_gin (List.mem_of_getElem? (i := 55) (by decide +kernel)) rfl
theorem w58 : Cond.methodLink "NecklaceSisters" 1 ⟨"java/lang/Object", "<init>", "()V"⟩ ∈ lw_g := lw_gin (List.mem_of_getElem? (i := 58) (by decide +kernel)) rfl
theorem w66 : Cond.methodLink "NecklaceSisters$Text" 3 ⟨"java/lang/Object", "<init>", "()V"⟩ ∈ lw_g := lw_gin (List.mem_of_getElem? (i := 66) (by decide +kernel)) rfl
theorem w67 : Cond.fieldLink "NecklaceSisters$Text" 9 "NecklaceSisters$Text" "signs" "[C" ∈ lw_g := lw_gin (List.mem_of_getElem? (i := 67) (by decide +kernel)) rfl
theorem w68 : Cond.fieldLink "NecklaceSisters$Text" 15 "NecklaceSisters$Text" "length" "I" ∈ lw_g := lw_gin (List.mem_of_getElem? (i := 68) (by decide +kernel)) rfl
theorem w69 : Cond.fieldLink "NecklaceSisters" 57 "NecklaceSisters$Text" "length" "I" ∈ lw_g := lw_gin (List.mem_of_getElem? (i := 69) (by decide +kernel)) rfl
theorem w81 : Cond.methodLink "NecklaceSisters$Necklace" 3 ⟨"java/lang/Object", "<init>", "()V"⟩ ∈ lw_g := lw_gin (List.mem_of_getElem? (i := 81) (by decide +kernel)) rfl
theorem w82 : Cond.fieldLink "NecklaceSisters$Necklace" 21 "NecklaceSisters$Necklace" "jewels" "I" ∈ lw_g := lw_gin (List.mem_of_getElem? (i := 82) (by decide +kernel)) rfl
theorem w83 : Cond.fieldLink "NecklaceSisters$Division" 27 "NecklaceSisters$Necklace" "jewels" "I" ∈ lw_g := lw_gin (List.mem_of_getElem? (i := 83) (by decide +kernel)) rfl
theorem w84 : Cond.fieldLink "NecklaceSisters" 90 "NecklaceSisters$Necklace" "jewels" "I" ∈ lw_g := lw_gin (List.mem_of_getElem? (i := 84) (by decide +kernel)) rfl
theorem w85 : Cond.fieldLink "NecklaceSisters$Necklace" 25 "NecklaceSisters$Necklace" "broken" "I" ∈ lw_g := lw_gin (List.mem_of_getElem? (i := 85) (by decide +kernel)) rfl
theorem w86 : Cond.fieldLink "NecklaceSisters$Script" 61 "NecklaceSisters$Necklace" "broken" "I" ∈ lw_g := lw_gin (List.mem_of_getElem? (i := 86) (by decide +kernel)) rfl
theorem w87 : Cond.fieldLink "NecklaceSisters" 93 "NecklaceSisters$Necklace" "broken" "I" ∈ lw_g := lw_gin (List.mem_of_getElem? (i := 87) (by decide +kernel)) rfl
theorem w88 : Cond.fieldLink "NecklaceSisters$Necklace" 28 "NecklaceSisters$Necklace" "mover" "I" ∈ lw_g := lw_gin (List.mem_of_getElem? (i := 88) (by decide +kernel)) rfl
theorem w89 : Cond.fieldLink "NecklaceSisters" 109 "NecklaceSisters$Necklace" "mover" "I" ∈ lw_g := lw_gin (List.mem_of_getElem? (i := 89) (by decide +kernel)) rfl
theorem w90 : Cond.fieldLink "NecklaceSisters$Necklace" 31 "NecklaceSisters$Necklace" "refused" "I" ∈ lw_g := lw_gin (List.mem_of_getElem? (i := 90) (by decide +kernel)) rfl
theorem w91 : Cond.fieldLink "NecklaceSisters" 115 "NecklaceSisters$Necklace" "refused" "I" ∈ lw_g := lw_gin (List.mem_of_getElem? (i := 91) (by decide +kernel)) rfl
theorem w92 : Cond.fieldLink "NecklaceSisters$Necklace" 34 "NecklaceSisters$Necklace" "setting" "I" ∈ lw_g := lw_gin (List.mem_of_getElem? (i := 92) (by decide +kernel)) rfl
theorem w93 : Cond.fieldLink "NecklaceSisters" 118 "NecklaceSisters$Necklace" "setting" "I" ∈ lw_g := lw_gin (List.mem_of_getElem? (i := 93) (by decide +kernel)) rfl
theorem w94 : Cond.fieldLink "NecklaceSisters$Necklace" 40 "NecklaceSisters$Necklace" "cuts" "I" ∈ lw_g := lw_gin (List.mem_of_getElem? (i := 94) (by decide +kernel)) rfl
theorem w95 : Cond.fieldLink "NecklaceSisters$Necklace" 9 "NecklaceSisters$Necklace" "kinds" "[I" ∈ lw_g := lw_gin (List.mem_of_getElem? (i := 95) (by decide +kernel)) rfl
theorem w96 : Cond.fieldLink "NecklaceSisters$Necklace" 15 "NecklaceSisters$Necklace" "weights" "[I" ∈ lw_g := lw_gin (List.mem_of_getElem? (i := 96) (by decide +kernel)) rfl
theorem w97 : Cond.fieldLink "NecklaceSisters$Necklace" 18 "NecklaceSisters$Necklace" "owners" "[I" ∈ lw_g := lw_gin (List.mem_of_getElem? (i := 97) (by decide +kernel)) rfl
theorem w120 : Cond.methodLink "NecklaceSisters" 28 ⟨"NecklaceSisters$History", "<init>", "()V"⟩ ∈ lw_g := lw_gin (List.mem_of_getElem? (i := 120) (by decide +kernel)) rfl
theorem w123 : Cond.methodLink "NecklaceSisters$History" 3 ⟨"java/lang/Object", "<init>", "()V"⟩ ∈ lw_g := lw_gin (List.mem_of_getElem? (i := 123) (by decide +kernel)) rfl
theorem w127 : Cond.fieldLink "NecklaceSisters$History" 11 "NecklaceSisters$History" "states" "[LNecklaceSisters$Necklace;" ∈ lw_g := lw_gin (List.mem_of_getElem? (i := 127) (by decide +kernel)) rfl
theorem w128 : Cond.fieldLink "NecklaceSisters$History" 22 "NecklaceSisters$History" "next" "I" ∈ lw_g := lw_gin (List.mem_of_getElem? (i := 128) (by decide +kernel)) rfl
theorem w129 : Cond.fieldLink "NecklaceSisters$History" 18 "NecklaceSisters$History" "count" "I" ∈ lw_g := lw_gin (List.mem_of_getElem? (i := 129) (by decide +kernel)) rfl
theorem w130 : Cond.fieldLink "NecklaceSisters" 260 "NecklaceSisters$History" "count" "I" ∈ lw_g := lw_gin (List.mem_of_getElem? (i := 130) (by decide +kernel)) rfl
theorem w143 : Cond.methodLink "NecklaceSisters$Division" 3 ⟨"java/lang/Object", "<init>", "()V"⟩ ∈ lw_g := lw_gin (List.mem_of_getElem? (i := 143) (by decide +kernel)) rfl
theorem w144 : Cond.fieldLink "NecklaceSisters$Division" 9 "NecklaceSisters$Division" "ahead" "[J" ∈ lw_g := lw_gin (List.mem_of_getElem? (i := 144) (by decide +kernel)) rfl
theorem w145 : Cond.fieldLink "NecklaceSisters$Division" 15 "NecklaceSisters$Division" "found" "[I" ∈ lw_g := lw_gin (List.mem_of_getElem? (i := 145) (by decide +kernel)) rfl
theorem w146 : Cond.fieldLink "NecklaceSisters$Division" 19 "NecklaceSisters$Division" "places" "I" ∈ lw_g := lw_gin (List.mem_of_getElem? (i := 146) (by decide +kernel)) rfl
theorem w147 : Cond.fieldLink "NecklaceSisters$Division" 23 "NecklaceSisters$Division" "half" "J" ∈ lw_g := lw_gin (List.mem_of_getElem? (i := 147) (by decide +kernel)) rfl
theorem w163 : Cond.methodLink "NecklaceSisters$Slot" 1 ⟨"java/lang/Object", "<init>", "()V"⟩ ∈ lw_g := lw_gin (List.mem_of_getElem? (i := 163) (by decide +kernel)) rfl
theorem w166 : Cond.fieldLink "NecklaceSisters$Slot" 10 "NecklaceSisters$Slot" "kept" "LNecklaceSisters$Necklace;" ∈ lw_g := lw_gin (List.mem_of_getElem? (i := 166) (by decide +kernel)) rfl
theorem w167 : Cond.fieldLink "NecklaceSisters" 324 "NecklaceSisters$Slot" "kept" "LNecklaceSisters$Necklace;" ∈ lw_g := lw_gin (List.mem_of_getElem? (i := 167) (by decide +kernel)) rfl
theorem w168 : Cond.fieldLink "NecklaceSisters" 82 "NecklaceSisters$Slot" "filled" "Z" ∈ lw_g := lw_gin (List.mem_of_getElem? (i := 168) (by decide +kernel)) rfl
theorem w174 : Cond.fieldLink "NecklaceSisters" 10 "NecklaceSisters" "text" "LNecklaceSisters$Text;" ∈ lw_g := lw_gin (List.mem_of_getElem? (i := 174) (by decide +kernel)) rfl
theorem w175 : Cond.fieldLink "NecklaceSisters" 19 "NecklaceSisters" "necklace" "LNecklaceSisters$Necklace;" ∈ lw_g := lw_gin (List.mem_of_getElem? (i := 175) (by decide +kernel)) rfl
theorem w176 : Cond.fieldLink "NecklaceSisters" 23 "NecklaceSisters" "trial" "LNecklaceSisters$Necklace;" ∈ lw_g := lw_gin (List.mem_of_getElem? (i := 176) (by decide +kernel)) rfl
theorem w177 : Cond.fieldLink "NecklaceSisters" 29 "NecklaceSisters" "history" "LNecklaceSisters$History;" ∈ lw_g := lw_gin (List.mem_of_getElem? (i := 177) (by decide +kernel)) rfl
theorem w178 : Cond.fieldLink "NecklaceSisters" 36 "NecklaceSisters" "division" "LNecklaceSisters$Division;" ∈ lw_g := lw_gin (List.mem_of_getElem? (i := 178) (by decide +kernel)) rfl
theorem w179 : Cond.fieldLink "NecklaceSisters" 43 "NecklaceSisters" "firstSlot" "LNecklaceSisters$Slot;" ∈ lw_g := lw_gin (List.mem_of_getElem? (i := 179) (by decide +kernel)) rfl
theorem w180 : Cond.fieldLink "NecklaceSisters" 47 "NecklaceSisters" "secondSlot" "LNecklaceSisters$Slot;" ∈ lw_g := lw_gin (List.mem_of_getElem? (i := 180) (by decide +kernel)) rfl
theorem w196 : Cond.methodLink "NecklaceSistersLaw" 109 ⟨"NecklaceSisters", "clearText", "()I"⟩ ∈ lw_g := lw_gin (List.mem_of_getElem? (i := 196) (by decide +kernel)) rfl
theorem w197 : Cond.instanceMethod ⟨"NecklaceSisters", "clearText", "()I"⟩ ∈ lw_g := lw_gin (List.mem_of_getElem? (i := 197) (by decide +kernel)) rfl
theorem w198 : Cond.selects "NecklaceSisters" ⟨"NecklaceSisters", "clearText", "()I"⟩ ⟨"NecklaceSisters", "clearText", "()I"⟩ ∈ lw_g := lw_gin (List.mem_of_getElem? (i := 198) (by decide +kernel)) rfl
theorem w199 : Cond.code yX7_clearText cX7_clearText 2 (some .int) ∈ lw_g := lw_gin (List.mem_of_getElem? (i := 199) (by decide +kernel)) rfl
theorem w200 : Cond.methodLink "NecklaceSistersLaw" 113 ⟨"NecklaceSisters", "errorPosition", "()I"⟩ ∈ lw_g := lw_gin (List.mem_of_getElem? (i := 200) (by decide +kernel)) rfl
theorem w201 : Cond.instanceMethod ⟨"NecklaceSisters", "errorPosition", "()I"⟩ ∈ lw_g := lw_gin (List.mem_of_getElem? (i := 201) (by decide +kernel)) rfl
theorem w202 : Cond.selects "NecklaceSisters" ⟨"NecklaceSisters", "errorPosition", "()I"⟩ ⟨"NecklaceSisters", "errorPosition", "()I"⟩ ∈ lw_g := lw_gin (List.mem_of_getElem? (i := 202) (by decide +kernel)) rfl
theorem w203 : Cond.code yX7_errorPosition cX7_errorPosition 1 (some .int) ∈ lw_g := lw_gin (List.mem_of_getElem? (i := 203) (by decide +kernel)) rfl
theorem w204 : Cond.methodLink "NecklaceSisters" 70 ⟨"NecklaceSisters$Text", "firstError", "()I"⟩ ∈ lw_g := lw_gin (List.mem_of_getElem? (i := 204) (by decide +kernel)) rfl
theorem w205 : Cond.instanceMethod ⟨"NecklaceSisters$Text", "firstError", "()I"⟩ ∈ lw_g := lw_gin (List.mem_of_getElem? (i := 205) (by decide +kernel)) rfl
theorem w206 : Cond.selects "NecklaceSisters$Text" ⟨"NecklaceSisters$Text", "firstError", "()I"⟩ ⟨"NecklaceSisters$Text", "firstError", "()I"⟩ ∈ lw_g := lw_gin (List.mem_of_getElem? (i := 206) (by decide +kernel)) rfl
theorem w207 : Cond.code yX6_firstError cX6_firstError 4 (some .int) ∈ lw_g := lw_gin (List.mem_of_getElem? (i := 207) (by decide +kernel)) rfl
theorem w208 : Cond.methodLink "NecklaceSisters$Text" 19 ⟨"NecklaceSisters$Text", "signAt", "(I)C"⟩ ∈ lw_g := lw_gin (List.mem_of_getElem? (i := 208) (by decide +kernel)) rfl
theorem w210 : Cond.instanceMethod ⟨"NecklaceSisters$Text", "signAt", "(I)C"⟩ ∈ lw_g := lw_gin (List.mem_of_getElem? (i := 210) (by decide +kernel)) rfl
theorem w211 : Cond.code yX6_signAt cX6_signAt 2 (some .char) ∈ lw_g := lw_gin (List.mem_of_getElem? (i := 211) (by decide +kernel)) rfl
theorem w213 : Cond.methodLink "NecklaceSisters$Text" 39 ⟨"java/lang/String", "length", "()I"⟩ ∈ lw_g := lw_gin (List.mem_of_getElem? (i := 213) (by decide +kernel)) rfl
theorem w214 : Cond.instanceMethod ⟨"java/lang/String", "length", "()I"⟩ ∈ lw_g := lw_gin (List.mem_of_getElem? (i := 214) (by decide +kernel)) rfl
theorem w215 : Cond.selects "java/lang/String" ⟨"java/lang/String", "length", "()I"⟩ ⟨"java/lang/String", "length", "()I"⟩ ∈ lw_g := lw_gin (List.mem_of_getElem? (i := 215) (by decide +kernel)) rfl
theorem w216 : Cond.code yJ0_length_8abf5 cJ0_length_8abf5 1 (some .int) ∈ lw_g := lw_gin (List.mem_of_getElem? (i := 216) (by decide +kernel)) rfl
theorem w217 : Cond.methodLink "java/lang/String" 335 ⟨"java/lang/String", "coder", "()B"⟩ ∈ lw_g := lw_gin (List.mem_of_getElem? (i := 217) (by decide +kernel)) rfl
theorem w218 : Cond.instanceMethod ⟨"java/lang/String", "coder", "()B"⟩ ∈ lw_g := lw_gin (List.mem_of_getElem? (i := 218) (by decide +kernel)) rfl
theorem w219 : Cond.selects "java/lang/String" ⟨"java/lang/String", "coder", "()B"⟩ ⟨"java/lang/String", "coder", "()B"⟩ ∈ lw_g := lw_gin (List.mem_of_getElem? (i := 219) (by decide +kernel)) rfl
theorem w220 : Cond.code yJ0_coder_7d493 cJ0_coder_7d493 1 (some .byte) ∈ lw_g := lw_gin (List.mem_of_getElem? (i := 220) (by decide +kernel)) rfl
theorem w221 : Cond.fieldLink "java/lang/String" 38 "java/lang/String" "COMPACT_STRINGS" "Z" ∈ lw_g := lw_gin (List.mem_of_getElem? (i := 221) (by decide +kernel)) rfl
theorem w223 : Cond.methodLink "NecklaceSisters$Text" 44 ⟨"NecklaceSisters$Text", "formOf", "(C)Ljava/lang/String;"⟩ ∈ lw_g := lw_gin (List.mem_of_getElem? (i := 223) (by decide +kernel)) rfl
theorem w224 : Cond.static ⟨"NecklaceSisters$Text", "formOf", "(C)Ljava/lang/String;"⟩ ∈ lw_g := lw_gin (List.mem_of_getElem? (i := 224) (by decide +kernel)) rfl
theorem w225 : Cond.code yX6_formOf cX6_formOf 1 (some (.object "java/lang/String")) ∈ lw_g := lw_gin (List.mem_of_getElem? (i := 225) (by decide +kernel)) rfl
theorem w231 : Cond.methodLink "NecklaceSisters$Text" 48 ⟨"java/lang/String", "charAt", "(I)C"⟩ ∈ lw_g := lw_gin (List.mem_of_getElem? (i := 231) (by decide +kernel)) rfl
theorem w232 : Cond.instanceMethod ⟨"java/lang/String", "charAt", "(I)C"⟩ ∈ lw_g := lw_gin (List.mem_of_getElem? (i := 232) (by decide +kernel)) rfl
theorem w233 : Cond.selects "java/lang/String" ⟨"java/lang/String", "charAt", "(I)C"⟩ ⟨"java/lang/String", "charAt", "(I)C"⟩ ∈ lw_g := lw_gin (List.mem_of_getElem? (i := 233) (by decide +kernel)) rfl
theorem w234 : Cond.code yJ0_charAt_5068e cJ0_charAt_5068e 2 (some .char) ∈ lw_g := lw_gin (List.mem_of_getElem? (i := 234) (by decide +kernel)) rfl
theorem w235 : Cond.methodLink "java/lang/String" 492 ⟨"java/lang/String", "isLatin1", "()Z"⟩ ∈ lw_g := lw_gin (List.mem_of_getElem? (i := 235) (by decide +kernel)) rfl
theorem w236 : Cond.instanceMethod ⟨"java/lang/String", "isLatin1", "()Z"⟩ ∈ lw_g := lw_gin (List.mem_of_getElem? (i := 236) (by decide +kernel)) rfl
theorem w237 : Cond.selects "java/lang/String" ⟨"java/lang/String", "isLatin1", "()Z"⟩ ⟨"java/lang/String", "isLatin1", "()Z"⟩ ∈ lw_g := lw_gin (List.mem_of_getElem? (i := 237) (by decide +kernel)) rfl
theorem w238 : Cond.code yJ0_isLatin1_aae02 cJ0_isLatin1_aae02 1 (some .boolean) ∈ lw_g := lw_gin (List.mem_of_getElem? (i := 238) (by decide +kernel)) rfl
theorem w239 : Cond.methodLink "java/lang/String" 495 ⟨"java/lang/StringLatin1", "charAt", "([BI)C"⟩ ∈ lw_g := lw_gin (List.mem_of_getElem? (i := 239) (by decide +kernel)) rfl
theorem w240 : Cond.static ⟨"java/lang/StringLatin1", "charAt", "([BI)C"⟩ ∈ lw_g := lw_gin (List.mem_of_getElem? (i := 240) (by decide +kernel)) rfl
theorem w241 : Cond.code yJ1_charAt_3b067 cJ1_charAt_3b067 2 (some .char) ∈ lw_g := lw_gin (List.mem_of_getElem? (i := 241) (by decide +kernel)) rfl
theorem w242 : Cond.methodLink "java/lang/StringLatin1" 9 ⟨"java/lang/String", "checkIndex", "(II)V"⟩ ∈ lw_g := lw_gin (List.mem_of_getElem? (i := 242) (by decide +kernel)) rfl
theorem w243 : Cond.static ⟨"java/lang/String", "checkIndex", "(II)V"⟩ ∈ lw_g := lw_gin (List.mem_of_getElem? (i := 243) (by decide +kernel)) rfl
theorem w244 : Cond.code yJ0_checkIndex_df160 cJ0_checkIndex_df160 2 none ∈ lw_g := lw_gin (List.mem_of_getElem? (i := 244) (by decide +kernel)) rfl
theorem w245 : Cond.fieldLink "java/lang/String" 1053 "jdk/internal/util/Preconditions" "SIOOBE_FORMATTER" "Ljava/util/function/BiFunction;" ∈ lw_g := lw_gin (List.mem_of_getElem? (i := 245) (by decide +kernel)) rfl
theorem w247 : Cond.methodLink "java/lang/String" 1059 ⟨"jdk/internal/util/Preconditions", "checkIndex", "(IILjava/util/function/BiFunction;)I"⟩ ∈ lw_g := lw_gin (List.mem_of_getElem? (i := 247) (by decide +kernel)) rfl
theorem w248 : Cond.static ⟨"jdk/internal/util/Preconditions", "checkIndex", "(IILjava/util/function/BiFunction;)I"⟩ ∈ lw_g := lw_gin (List.mem_of_getElem? (i := 248) (by decide +kernel)) rfl
theorem w249 : Cond.code yJ3_checkIndex_8e157 cJ3_checkIndex_8e157 3 (some .int) ∈ lw_g := lw_gin (List.mem_of_getElem? (i := 249) (by decide +kernel)) rfl
theorem w250 : Cond.methodLink "java/lang/String" 498 ⟨"java/lang/StringUTF16", "charAt", "([BI)C"⟩ ∈ lw_g := lw_gin (List.mem_of_getElem? (i := 250) (by decide +kernel)) rfl
theorem w251 : Cond.static ⟨"java/lang/StringUTF16", "charAt", "([BI)C"⟩ ∈ lw_g := lw_gin (List.mem_of_getElem? (i := 251) (by decide +kernel)) rfl
theorem w252 : Cond.code yJ2_charAt_3b067 cJ2_charAt_3b067 2 (some .char) ∈ lw_g := lw_gin (List.mem_of_getElem? (i := 252) (by decide +kernel)) rfl
theorem w253 : Cond.methodLink "java/lang/StringUTF16" 67 ⟨"java/lang/StringUTF16", "checkIndex", "(I[B)V"⟩ ∈ lw_g := lw_gin (List.mem_of_getElem? (i := 253) (by decide +kernel)) rfl
theorem w254 : Cond.static ⟨"java/lang/StringUTF16", "checkIndex", "(I[B)V"⟩ ∈ lw_g := lw_gin (List.mem_of_getElem? (i := 254) (by decide +kernel)) rfl
theorem w255 : Cond.code yJ2_checkIndex_2214a cJ2_checkIndex_2214a 2 none ∈ lw_g := lw_gin (List.mem_of_getElem? (i := 255) (by decide +kernel)) rfl
theorem w256 : Cond.methodLink "java/lang/StringUTF16" 48 ⟨"java/lang/StringUTF16", "length", "([B)I"⟩ ∈ lw_g := lw_gin (List.mem_of_getElem? (i := 256) (by decide +kernel)) rfl
theorem w257 : Cond.static ⟨"java/lang/StringUTF16", "length", "([B)I"⟩ ∈ lw_g := lw_gin (List.mem_of_getElem? (i := 257) (by decide +kernel)) rfl
theorem w258 : Cond.code yJ2_length_9d52b cJ2_length_9d52b 1 (some .int) ∈ lw_g := lw_gin (List.mem_of_getElem? (i := 258) (by decide +kernel)) rfl
theorem w259 : Cond.methodLink "java/lang/StringUTF16" 414 ⟨"java/lang/String", "checkIndex", "(II)V"⟩ ∈ lw_g := lw_gin (List.mem_of_getElem? (i := 259) (by decide +kernel)) rfl
theorem w260 : Cond.methodLink "java/lang/StringUTF16" 71 ⟨"java/lang/StringUTF16", "getChar", "([BI)C"⟩ ∈ lw_g := lw_gin (List.mem_of_getElem? (i := 260) (by decide +kernel)) rfl
theorem w261 : Cond.static ⟨"java/lang/StringUTF16", "getChar", "([BI)C"⟩ ∈ lw_g := lw_gin (List.mem_of_getElem? (i := 261) (by decide +kernel)) rfl
theorem w262 : Cond.code yJ2_getChar_3b067 cJ2_getChar_3b067 2 (some .char) ∈ lw_g := lw_gin (List.mem_of_getElem? (i := 262) (by decide +kernel)) rfl
theorem w263 : Cond.fieldLink "java/lang/StringUTF16" 44 "java/lang/StringUTF16" "$assertionsDisabled" "Z" ∈ lw_g := lw_gin (List.mem_of_getElem? (i := 263) (by decide +kernel)) rfl
theorem w265 : Cond.fieldLink "java/lang/StringUTF16" 59 "java/lang/StringUTF16" "HI_BYTE_SHIFT" "I" ∈ lw_g := lw_gin (List.mem_of_getElem? (i := 265) (by decide +kernel)) rfl
theorem w267 : Cond.fieldLink "java/lang/StringUTF16" 63 "java/lang/StringUTF16" "LO_BYTE_SHIFT" "I" ∈ lw_g := lw_gin (List.mem_of_getElem? (i := 267) (by decide +kernel)) rfl
theorem w269 : Cond.methodLink "NecklaceSisters$Text" 51 ⟨"NecklaceSisters$Text", "fits", "(CCC)Z"⟩ ∈ lw_g := lw_gin (List.mem_of_getElem? (i := 269) (by decide +kernel)) rfl
theorem w270 : Cond.static ⟨"NecklaceSisters$Text", "fits", "(CCC)Z"⟩ ∈ lw_g := lw_gin (List.mem_of_getElem? (i := 270) (by decide +kernel)) rfl
theorem w271 : Cond.code yX6_fits cX6_fits 3 (some .boolean) ∈ lw_g := lw_gin (List.mem_of_getElem? (i := 271) (by decide +kernel)) rfl
theorem w273 : Cond.methodLink "NecklaceSistersLaw" 146 ⟨"NecklaceSisters", "turnRound", "()I"⟩ ∈ lw_g := lw_gin (List.mem_of_getElem? (i := 273) (by decide +kernel)) rfl
theorem w274 : Cond.instanceMethod ⟨"NecklaceSisters", "turnRound", "()I"⟩ ∈ lw_g := lw_gin (List.mem_of_getElem? (i := 274) (by decide +kernel)) rfl
theorem w275 : Cond.selects "NecklaceSisters" ⟨"NecklaceSisters", "turnRound", "()I"⟩ ⟨"NecklaceSisters", "turnRound", "()I"⟩ ∈ lw_g := lw_gin (List.mem_of_getElem? (i := 275) (by decide +kernel)) rfl
theorem w276 : Cond.code yX7_turnRound cX7_turnRound 1 (some .int) ∈ lw_g := lw_gin (List.mem_of_getElem? (i := 276) (by decide +kernel)) rfl
theorem w277 : Cond.methodLink "NecklaceSisters" 198 ⟨"NecklaceSisters$History", "remember", "(LNecklaceSisters$Necklace;)V"⟩ ∈ lw_g := lw_gin (List.mem_of_getElem? (i := 277) (by decide +kernel)) rfl
theorem w278 : Cond.instanceMethod ⟨"NecklaceSisters$History", "remember", "(LNecklaceSisters$Necklace;)V"⟩ ∈ lw_g := lw_gin (List.mem_of_getElem? (i := 278) (by decide +kernel)) rfl
theorem w279 : Cond.selects "NecklaceSisters$History" ⟨"NecklaceSisters$History", "remember", "(LNecklaceSisters$Necklace;)V"⟩ ⟨"NecklaceSisters$History", "remember", "(LNecklaceSisters$Necklace;)V"⟩ ∈ lw_g := lw_gin (List.mem_of_getElem? (i := 279) (by decide +kernel)) rfl
theorem w280 : Cond.code yX1_remember cX1_remember 3 none ∈ lw_g := lw_gin (List.mem_of_getElem? (i := 280) (by decide +kernel)) rfl
theorem w281 : Cond.methodLink "NecklaceSisters$History" 25 ⟨"NecklaceSisters$Necklace", "becomeLike", "(LNecklaceSisters$Necklace;)V"⟩ ∈ lw_g := lw_gin (List.mem_of_getElem? (i := 281) (by decide +kernel)) rfl
theorem w282 : Cond.instanceMethod ⟨"NecklaceSisters$Necklace", "becomeLike", "(LNecklaceSisters$Necklace;)V"⟩ ∈ lw_g := lw_gin (List.mem_of_getElem? (i := 282) (by decide +kernel)) rfl
theorem w283 : Cond.selects "NecklaceSisters$Necklace" ⟨"NecklaceSisters$Necklace", "becomeLike", "(LNecklaceSisters$Necklace;)V"⟩ ⟨"NecklaceSisters$Necklace", "becomeLike", "(LNecklaceSisters$Necklace;)V"⟩ ∈ lw_g := lw_gin (List.mem_of_getElem? (i := 283) (by decide +kernel)) rfl
theorem w284 : Cond.code yX2_becomeLike cX2_becomeLike 3 none ∈ lw_g := lw_gin (List.mem_of_getElem? (i := 284) (by decide +kernel)) rfl
theorem w285 : Cond.methodLink "NecklaceSisters$Necklace" 43 ⟨"NecklaceSisters$Necklace", "kindOf", "(I)I"⟩ ∈ lw_g := lw_gin (List.mem_of_getElem? (i := 285) (by decide +kernel)) rfl
theorem w286 : Cond.instanceMethod ⟨"NecklaceSisters$Necklace", "kindOf", "(I)I"⟩ ∈ lw_g := lw_gin (List.mem_of_getElem? (i := 286) (by decide +kernel)) rfl
theorem w287 : Cond.selects "NecklaceSisters$Necklace" ⟨"NecklaceSisters$Necklace", "kindOf", "(I)I"⟩ ⟨"NecklaceSisters$Necklace", "kindOf", "(I)I"⟩ ∈ lw_g := lw_gin (List.mem_of_getElem? (i := 287) (by decide +kernel)) rfl
theorem w288 : Cond.code yX2_kindOf cX2_kindOf 2 (some .int) ∈ lw_g := lw_gin (List.mem_of_getElem? (i := 288) (by decide +kernel)) rfl
theorem w289 : Cond.methodLink "NecklaceSisters$Necklace" 47 ⟨"NecklaceSisters$Necklace", "weightOf", "(I)I"⟩ ∈ lw_g := lw_gin (List.mem_of_getElem? (i := 289) (by decide +kernel)) rfl
theorem w290 : Cond.instanceMethod ⟨"NecklaceSisters$Necklace", "weightOf", "(I)I"⟩ ∈ lw_g := lw_gin (List.mem_of_getElem? (i := 290) (by decide +kernel)) rfl
theorem w291 : Cond.selects "NecklaceSisters$Necklace" ⟨"NecklaceSisters$Necklace", "weightOf", "(I)I"⟩ ⟨"NecklaceSisters$Necklace", "weightOf", "(I)I"⟩ ∈ lw_g := lw_gin (List.mem_of_getElem? (i := 291) (by decide +kernel)) rfl
theorem w292 : Cond.code yX2_weightOf cX2_weightOf 2 (some .int) ∈ lw_g := lw_gin (List.mem_of_getElem? (i := 292) (by decide +kernel)) rfl
theorem w293 : Cond.methodLink "NecklaceSisters$Necklace" 50 ⟨"NecklaceSisters$Necklace", "putJewel", "(III)V"⟩ ∈ lw_g := lw_gin (List.mem_of_getElem? (i := 293) (by decide +kernel)) rfl
theorem w295 : Cond.instanceMethod ⟨"NecklaceSisters$Necklace", "putJewel", "(III)V"⟩ ∈ lw_g := lw_gin (List.mem_of_getElem? (i := 295) (by decide +kernel)) rfl
theorem w296 : Cond.code yX2_putJewel cX2_putJewel 4 none ∈ lw_g := lw_gin (List.mem_of_getElem? (i := 296) (by decide +kernel)) rfl
theorem w297 : Cond.methodLink "NecklaceSisters$Necklace" 54 ⟨"NecklaceSisters$Necklace", "ownerAt", "(I)I"⟩ ∈ lw_g := lw_gin (List.mem_of_getElem? (i := 297) (by decide +kernel)) rfl
theorem w298 : Cond.instanceMethod ⟨"NecklaceSisters$Necklace", "ownerAt", "(I)I"⟩ ∈ lw_g := lw_gin (List.mem_of_getElem? (i := 298) (by decide +kernel)) rfl
theorem w299 : Cond.selects "NecklaceSisters$Necklace" ⟨"NecklaceSisters$Necklace", "ownerAt", "(I)I"⟩ ⟨"NecklaceSisters$Necklace", "ownerAt", "(I)I"⟩ ∈ lw_g := lw_gin (List.mem_of_getElem? (i := 299) (by decide +kernel)) rfl
theorem w300 : Cond.code yX2_ownerAt cX2_ownerAt 2 (some .int) ∈ lw_g := lw_gin (List.mem_of_getElem? (i := 300) (by decide +kernel)) rfl
theorem w301 : Cond.methodLink "NecklaceSisters$Necklace" 57 ⟨"NecklaceSisters$Necklace", "putOwner", "(II)V"⟩ ∈ lw_g := lw_gin (List.mem_of_getElem? (i := 301) (by decide +kernel)) rfl
theorem w303 : Cond.instanceMethod ⟨"NecklaceSisters$Necklace", "putOwner", "(II)V"⟩ ∈ lw_g := lw_gin (List.mem_of_getElem? (i := 303) (by decide +kernel)) rfl
theorem w304 : Cond.code yX2_putOwner cX2_putOwner 3 none ∈ lw_g := lw_gin (List.mem_of_getElem? (i := 304) (by decide +kernel)) rfl
theorem w305 : Cond.methodLink "NecklaceSisters$History" 29 ⟨"java/lang/Math", "min", "(II)I"⟩ ∈ lw_g := lw_gin (List.mem_of_getElem? (i := 305) (by decide +kernel)) rfl
theorem w306 : Cond.static ⟨"java/lang/Math", "min", "(II)I"⟩ ∈ lw_g := lw_gin (List.mem_of_getElem? (i := 306) (by decide +kernel)) rfl
theorem w307 : Cond.code yJ9_min_7cf53 cJ9_min_7cf53 2 (some .int) ∈ lw_g := lw_gin (List.mem_of_getElem? (i := 307) (by decide +kernel)) rfl
theorem w308 : Cond.methodLink "NecklaceSisters" 212 ⟨"NecklaceSisters$Necklace", "reverseRing", "()V"⟩ ∈ lw_g := lw_gin (List.mem_of_getElem? (i := 308) (by decide +kernel)) rfl
theorem w309 : Cond.instanceMethod ⟨"NecklaceSisters$Necklace", "reverseRing", "()V"⟩ ∈ lw_g := lw_gin (List.mem_of_getElem? (i := 309) (by decide +kernel)) rfl
theorem w310 : Cond.selects "NecklaceSisters$Necklace" ⟨"NecklaceSisters$Necklace", "reverseRing", "()V"⟩ ⟨"NecklaceSisters$Necklace", "reverseRing", "()V"⟩ ∈ lw_g := lw_gin (List.mem_of_getElem? (i := 310) (by decide +kernel)) rfl
theorem w311 : Cond.code yX2_reverseRing cX2_reverseRing 2 none ∈ lw_g := lw_gin (List.mem_of_getElem? (i := 311) (by decide +kernel)) rfl
theorem w312 : Cond.methodLink "NecklaceSisters$Necklace" 107 ⟨"NecklaceSisters$Necklace", "swapJewels", "(II)Z"⟩ ∈ lw_g := lw_gin (List.mem_of_getElem? (i := 312) (by decide +kernel)) rfl
theorem w313 : Cond.instanceMethod ⟨"NecklaceSisters$Necklace", "swapJewels", "(II)Z"⟩ ∈ lw_g := lw_gin (List.mem_of_getElem? (i := 313) (by decide +kernel)) rfl
theorem w314 : Cond.selects "NecklaceSisters$Necklace" ⟨"NecklaceSisters$Necklace", "swapJewels", "(II)Z"⟩ ⟨"NecklaceSisters$Necklace", "swapJewels", "(II)Z"⟩ ∈ lw_g := lw_gin (List.mem_of_getElem? (i := 314) (by decide +kernel)) rfl
theorem w315 : Cond.code yX2_swapJewels cX2_swapJewels 5 (some .boolean) ∈ lw_g := lw_gin (List.mem_of_getElem? (i := 315) (by decide +kernel)) rfl
theorem w316 : Cond.methodLink "NecklaceSisters$Necklace" 104 ⟨"NecklaceSisters$Necklace", "hasJewel", "(I)Z"⟩ ∈ lw_g := lw_gin (List.mem_of_getElem? (i := 316) (by decide +kernel)) rfl
theorem w317 : Cond.instanceMethod ⟨"NecklaceSisters$Necklace", "hasJewel", "(I)Z"⟩ ∈ lw_g := lw_gin (List.mem_of_getElem? (i := 317) (by decide +kernel)) rfl
theorem w318 : Cond.selects "NecklaceSisters$Necklace" ⟨"NecklaceSisters$Necklace", "hasJewel", "(I)Z"⟩ ⟨"NecklaceSisters$Necklace", "hasJewel", "(I)Z"⟩ ∈ lw_g := lw_gin (List.mem_of_getElem? (i := 318) (by decide +kernel)) rfl
theorem w319 : Cond.code yX2_hasJewel cX2_hasJewel 2 (some .boolean) ∈ lw_g := lw_gin (List.mem_of_getElem? (i := 319) (by decide +kernel)) rfl
theorem w320 : Cond.methodLink "NecklaceSisters$Necklace" 37 ⟨"NecklaceSisters$Necklace", "loosen", "()V"⟩ ∈ lw_g := lw_gin (List.mem_of_getElem? (i := 320) (by decide +kernel)) rfl
theorem w321 : Cond.instanceMethod ⟨"NecklaceSisters$Necklace", "loosen", "()V"⟩ ∈ lw_g := lw_gin (List.mem_of_getElem? (i := 321) (by decide +kernel)) rfl
theorem w322 : Cond.selects "NecklaceSisters$Necklace" ⟨"NecklaceSisters$Necklace", "loosen", "()V"⟩ ⟨"NecklaceSisters$Necklace", "loosen", "()V"⟩ ∈ lw_g := lw_gin (List.mem_of_getElem? (i := 322) (by decide +kernel)) rfl
theorem w323 : Cond.code yX2_loosen cX2_loosen 2 none ∈ lw_g := lw_gin (List.mem_of_getElem? (i := 323) (by decide +kernel)) rfl
theorem w324 : Cond.methodLink "NecklaceSistersLaw" 181 ⟨"NecklaceSisters", "bestBreak", "()I"⟩ ∈ lw_g := lw_gin (List.mem_of_getElem? (i := 324) (by decide +kernel)) rfl
theorem w325 : Cond.instanceMethod ⟨"NecklaceSisters", "bestBreak", "()I"⟩ ∈ lw_g := lw_gin (List.mem_of_getElem? (i := 325) (by decide +kernel)) rfl
theorem w326 : Cond.selects "NecklaceSisters" ⟨"NecklaceSisters", "bestBreak", "()I"⟩ ⟨"NecklaceSisters", "bestBreak", "()I"⟩ ∈ lw_g := lw_gin (List.mem_of_getElem? (i := 326) (by decide +kernel)) rfl
theorem w327 : Cond.code yX7_bestBreak cX7_bestBreak 5 (some .int) ∈ lw_g := lw_gin (List.mem_of_getElem? (i := 327) (by decide +kernel)) rfl
theorem w328 : Cond.methodLink "NecklaceSisters" 270 ⟨"NecklaceSisters$Division", "weigh", "(LNecklaceSisters$Necklace;I)V"⟩ ∈ lw_g := lw_gin (List.mem_of_getElem? (i := 328) (by decide +kernel)) rfl
theorem w329 : Cond.instanceMethod ⟨"NecklaceSisters$Division", "weigh", "(LNecklaceSisters$Necklace;I)V"⟩ ∈ lw_g := lw_gin (List.mem_of_getElem? (i := 329) (by decide +kernel)) rfl
theorem w330 : Cond.selects "NecklaceSisters$Division" ⟨"NecklaceSisters$Division", "weigh", "(LNecklaceSisters$Necklace;I)V"⟩ ⟨"NecklaceSisters$Division", "weigh", "(LNecklaceSisters$Necklace;I)V"⟩ ∈ lw_g := lw_gin (List.mem_of_getElem? (i := 330) (by decide +kernel)) rfl
theorem w331 : Cond.code yX0_weigh cX0_weigh 7 none ∈ lw_g := lw_gin (List.mem_of_getElem? (i := 331) (by decide +kernel)) rfl
theorem w332 : Cond.methodLink "NecklaceSisters$Division" 32 ⟨"NecklaceSisters$Necklace", "valueOf", "(I)I"⟩ ∈ lw_g := lw_gin (List.mem_of_getElem? (i := 332) (by decide +kernel)) rfl
theorem w333 : Cond.instanceMethod ⟨"NecklaceSisters$Necklace", "valueOf", "(I)I"⟩ ∈ lw_g := lw_gin (List.mem_of_getElem? (i := 333) (by decide +kernel)) rfl
theorem w334 : Cond.selects "NecklaceSisters$Necklace" ⟨"NecklaceSisters$Necklace", "valueOf", "(I)I"⟩ ⟨"NecklaceSisters$Necklace", "valueOf", "(I)I"⟩ ∈ lw_g := lw_gin (List.mem_of_getElem? (i := 334) (by decide +kernel)) rfl
theorem w335 : Cond.code yX2_valueOf cX2_valueOf 2 (some .int) ∈ lw_g := lw_gin (List.mem_of_getElem? (i := 335) (by decide +kernel)) rfl
theorem w336 : Cond.methodLink "NecklaceSisters$Division" 36 ⟨"NecklaceSisters$Necklace", "kindOf", "(I)I"⟩ ∈ lw_g := lw_gin (List.mem_of_getElem? (i := 336) (by decide +kernel)) rfl
theorem w337 : Cond.methodLink "NecklaceSisters" 284 ⟨"NecklaceSisters$Division", "fewestByCuts", "(I)I"⟩ ∈ lw_g := lw_gin (List.mem_of_getElem? (i := 337) (by decide +kernel)) rfl
theorem w338 : Cond.instanceMethod ⟨"NecklaceSisters$Division", "fewestByCuts", "(I)I"⟩ ∈ lw_g := lw_gin (List.mem_of_getElem? (i := 338) (by decide +kernel)) rfl
theorem w339 : Cond.selects "NecklaceSisters$Division" ⟨"NecklaceSisters$Division", "fewestByCuts", "(I)I"⟩ ⟨"NecklaceSisters$Division", "fewestByCuts", "(I)I"⟩ ∈ lw_g := lw_gin (List.mem_of_getElem? (i := 339) (by decide +kernel)) rfl
theorem w340 : Cond.code yX0_fewestByCuts cX0_fewestByCuts 3 (some .int) ∈ lw_g := lw_gin (List.mem_of_getElem? (i := 340) (by decide +kernel)) rfl
theorem w341 : Cond.methodLink "NecklaceSisters$Division" 47 ⟨"NecklaceSisters$Division", "isOddOfAKind", "()Z"⟩ ∈ lw_g := lw_gin (List.mem_of_getElem? (i := 341) (by decide +kernel)) rfl
theorem w343 : Cond.instanceMethod ⟨"NecklaceSisters$Division", "isOddOfAKind", "()Z"⟩ ∈ lw_g := lw_gin (List.mem_of_getElem? (i := 343) (by decide +kernel)) rfl
theorem w344 : Cond.code yX0_isOddOfAKind cX0_isOddOfAKind 1 (some .boolean) ∈ lw_g := lw_gin (List.mem_of_getElem? (i := 344) (by decide +kernel)) rfl
theorem w345 : Cond.methodLink "NecklaceSisters$Division" 39 ⟨"NecklaceSisters$Division", "sumAhead", "(I)J"⟩ ∈ lw_g := lw_gin (List.mem_of_getElem? (i := 345) (by decide +kernel)) rfl
theorem w347 : Cond.instanceMethod ⟨"NecklaceSisters$Division", "sumAhead", "(I)J"⟩ ∈ lw_g := lw_gin (List.mem_of_getElem? (i := 347) (by decide +kernel)) rfl
theorem w348 : Cond.code yX0_sumAhead cX0_sumAhead 2 (some .long) ∈ lw_g := lw_gin (List.mem_of_getElem? (i := 348) (by decide +kernel)) rfl
theorem w349 : Cond.constantLong "NecklaceSisters$Division" 43 (281479271743489) ∈ lw_g := lw_gin (List.mem_of_getElem? (i := 349) (by decide +kernel)) rfl
theorem w350 : Cond.methodLink "NecklaceSisters$Division" 51 ⟨"NecklaceSisters$Division", "dividesWith", "(LNecklaceSisters$Division;IIIJ)Z"⟩ ∈ lw_g := lw_gin (List.mem_of_getElem? (i := 350) (by decide +kernel)) rfl
theorem w351 : Cond.static ⟨"NecklaceSisters$Division", "dividesWith", "(LNecklaceSisters$Division;IIIJ)Z"⟩ ∈ lw_g := lw_gin (List.mem_of_getElem? (i := 351) (by decide +kernel)) rfl
theorem w352 : Cond.code yX0_dividesWith cX0_dividesWith 9 (some .boolean) ∈ lw_g := lw_gin (List.mem_of_getElem? (i := 352) (by decide +kernel)) rfl
theorem w353 : Cond.methodLink "NecklaceSisters$Division" 55 ⟨"NecklaceSisters$Division", "withRun", "(JIII)J"⟩ ∈ lw_g := lw_gin (List.mem_of_getElem? (i := 353) (by decide +kernel)) rfl
theorem w355 : Cond.instanceMethod ⟨"NecklaceSisters$Division", "withRun", "(JIII)J"⟩ ∈ lw_g := lw_gin (List.mem_of_getElem? (i := 355) (by decide +kernel)) rfl
theorem w356 : Cond.code yX0_withRun cX0_withRun 6 (some .long) ∈ lw_g := lw_gin (List.mem_of_getElem? (i := 356) (by decide +kernel)) rfl
theorem w357 : Cond.methodLink "NecklaceSisters$Division" 59 ⟨"NecklaceSisters$Division", "isOverHalf", "(J)Z"⟩ ∈ lw_g := lw_gin (List.mem_of_getElem? (i := 357) (by decide +kernel)) rfl
theorem w359 : Cond.instanceMethod ⟨"NecklaceSisters$Division", "isOverHalf", "(J)Z"⟩ ∈ lw_g := lw_gin (List.mem_of_getElem? (i := 359) (by decide +kernel)) rfl
theorem w360 : Cond.code yX0_isOverHalf cX0_isOverHalf 3 (some .boolean) ∈ lw_g := lw_gin (List.mem_of_getElem? (i := 360) (by decide +kernel)) rfl
theorem w361 : Cond.constantLong "NecklaceSisters$Division" 45 (-9223231297218904064) ∈ lw_g := lw_gin (List.mem_of_getElem? (i := 361) (by decide +kernel)) rfl
theorem w362 : Cond.methodLink "NecklaceSisters$Division" 63 ⟨"NecklaceSisters$Division", "keepCut", "(II)V"⟩ ∈ lw_g := lw_gin (List.mem_of_getElem? (i := 362) (by decide +kernel)) rfl
theorem w364 : Cond.instanceMethod ⟨"NecklaceSisters$Division", "keepCut", "(II)V"⟩ ∈ lw_g := lw_gin (List.mem_of_getElem? (i := 364) (by decide +kernel)) rfl
theorem w365 : Cond.code yX0_keepCut cX0_keepCut 3 none ∈ lw_g := lw_gin (List.mem_of_getElem? (i := 365) (by decide +kernel)) rfl
theorem w366 : Cond.methodLink "NecklaceSistersLaw" 185 ⟨"NecklaceSisters", "bestRun", "()I"⟩ ∈ lw_g := lw_gin (List.mem_of_getElem? (i := 366) (by decide +kernel)) rfl
theorem w367 : Cond.instanceMethod ⟨"NecklaceSisters", "bestRun", "()I"⟩ ∈ lw_g := lw_gin (List.mem_of_getElem? (i := 367) (by decide +kernel)) rfl
theorem w368 : Cond.selects "NecklaceSisters" ⟨"NecklaceSisters", "bestRun", "()I"⟩ ⟨"NecklaceSisters", "bestRun", "()I"⟩ ∈ lw_g := lw_gin (List.mem_of_getElem? (i := 368) (by decide +kernel)) rfl
theorem w369 : Cond.code yX7_bestRun cX7_bestRun 5 (some .int) ∈ lw_g := lw_gin (List.mem_of_getElem? (i := 369) (by decide +kernel)) rfl
theorem w370 : Cond.methodLink "NecklaceSisters" 99 ⟨"NecklaceSisters$Necklace", "runs", "()I"⟩ ∈ lw_g := lw_gin (List.mem_of_getElem? (i := 370) (by decide +kernel)) rfl
theorem w371 : Cond.instanceMethod ⟨"NecklaceSisters$Necklace", "runs", "()I"⟩ ∈ lw_g := lw_gin (List.mem_of_getElem? (i := 371) (by decide +kernel)) rfl
theorem w372 : Cond.selects "NecklaceSisters$Necklace" ⟨"NecklaceSisters$Necklace", "runs", "()I"⟩ ⟨"NecklaceSisters$Necklace", "runs", "()I"⟩ ∈ lw_g := lw_gin (List.mem_of_getElem? (i := 372) (by decide +kernel)) rfl
theorem w373 : Cond.code yX2_runs cX2_runs 1 (some .int) ∈ lw_g := lw_gin (List.mem_of_getElem? (i := 373) (by decide +kernel)) rfl
theorem w374 : Cond.methodLink "NecklaceSisters$Necklace" 65 ⟨"java/lang/Integer", "bitCount", "(I)I"⟩ ∈ lw_g := lw_gin (List.mem_of_getElem? (i := 374) (by decide +kernel)) rfl
theorem w375 : Cond.static ⟨"java/lang/Integer", "bitCount", "(I)I"⟩ ∈ lw_g := lw_gin (List.mem_of_getElem? (i := 375) (by decide +kernel)) rfl
theorem w376 : Cond.code yJ6_bitCount_0f7a4 cJ6_bitCount_0f7a4 1 (some .int) ∈ lw_g := lw_gin (List.mem_of_getElem? (i := 376) (by decide +kernel)) rfl
theorem w377 : Cond.constant "java/lang/Integer" 265 (1431655765) ∈ lw_g := lw_gin (List.mem_of_getElem? (i := 377) (by decide +kernel)) rfl
theorem w378 : Cond.constant "java/lang/Integer" 266 (858993459) ∈ lw_g := lw_gin (List.mem_of_getElem? (i := 378) (by decide +kernel)) rfl
theorem w379 : Cond.constant "java/lang/Integer" 267 (252645135) ∈ lw_g := lw_gin (List.mem_of_getElem? (i := 379) (by decide +kernel)) rfl
theorem w380 : Cond.methodLink "NecklaceSisters" 230 ⟨"NecklaceSisters$Necklace", "reasonAgainstTaking", "(I)I"⟩ ∈ lw_g := lw_gin (List.mem_of_getElem? (i := 380) (by decide +kernel)) rfl
theorem w381 : Cond.instanceMethod ⟨"NecklaceSisters$Necklace", "reasonAgainstTaking", "(I)I"⟩ ∈ lw_g := lw_gin (List.mem_of_getElem? (i := 381) (by decide +kernel)) rfl
theorem w382 : Cond.selects "NecklaceSisters$Necklace" ⟨"NecklaceSisters$Necklace", "reasonAgainstTaking", "(I)I"⟩ ⟨"NecklaceSisters$Necklace", "reasonAgainstTaking", "(I)I"⟩ ∈ lw_g := lw_gin (List.mem_of_getElem? (i := 382) (by decide +kernel)) rfl
theorem w383 : Cond.code yX2_reasonAgainstTaking cX2_reasonAgainstTaking 3 (some .int) ∈ lw_g := lw_gin (List.mem_of_getElem? (i := 383) (by decide +kernel)) rfl
theorem w384 : Cond.methodLink "NecklaceSisters$Necklace" 94 ⟨"NecklaceSisters$Necklace", "firstPlaceOf", "(I)I"⟩ ∈ lw_g := lw_gin (List.mem_of_getElem? (i := 384) (by decide +kernel)) rfl
theorem w385 : Cond.instanceMethod ⟨"NecklaceSisters$Necklace", "firstPlaceOf", "(I)I"⟩ ∈ lw_g := lw_gin (List.mem_of_getElem? (i := 385) (by decide +kernel)) rfl
theorem w386 : Cond.selects "NecklaceSisters$Necklace" ⟨"NecklaceSisters$Necklace", "firstPlaceOf", "(I)I"⟩ ⟨"NecklaceSisters$Necklace", "firstPlaceOf", "(I)I"⟩ ∈ lw_g := lw_gin (List.mem_of_getElem? (i := 386) (by decide +kernel)) rfl
theorem w387 : Cond.code yX2_firstPlaceOf cX2_firstPlaceOf 3 (some .int) ∈ lw_g := lw_gin (List.mem_of_getElem? (i := 387) (by decide +kernel)) rfl
theorem w388 : Cond.methodLink "NecklaceSisters$Necklace" 70 ⟨"NecklaceSisters$Necklace", "runAt", "(I)I"⟩ ∈ lw_g := lw_gin (List.mem_of_getElem? (i := 388) (by decide +kernel)) rfl
theorem w389 : Cond.instanceMethod ⟨"NecklaceSisters$Necklace", "runAt", "(I)I"⟩ ∈ lw_g := lw_gin (List.mem_of_getElem? (i := 389) (by decide +kernel)) rfl
theorem w390 : Cond.selects "NecklaceSisters$Necklace" ⟨"NecklaceSisters$Necklace", "runAt", "(I)I"⟩ ⟨"NecklaceSisters$Necklace", "runAt", "(I)I"⟩ ∈ lw_g := lw_gin (List.mem_of_getElem? (i := 390) (by decide +kernel)) rfl
theorem w391 : Cond.code yX2_runAt cX2_runAt 2 (some .int) ∈ lw_g := lw_gin (List.mem_of_getElem? (i := 391) (by decide +kernel)) rfl
theorem w392 : Cond.methodLink "NecklaceSisters" 287 ⟨"NecklaceSisters", "gapWith", "(II)I"⟩ ∈ lw_g := lw_gin (List.mem_of_getElem? (i := 392) (by decide +kernel)) rfl
theorem w394 : Cond.instanceMethod ⟨"NecklaceSisters", "gapWith", "(II)I"⟩ ∈ lw_g := lw_gin (List.mem_of_getElem? (i := 394) (by decide +kernel)) rfl
theorem w395 : Cond.code yX7_gapWith cX7_gapWith 3 (some .int) ∈ lw_g := lw_gin (List.mem_of_getElem? (i := 395) (by decide +kernel)) rfl
theorem w396 : Cond.methodLink "NecklaceSisters" 300 ⟨"NecklaceSisters$Necklace", "becomeLike", "(LNecklaceSisters$Necklace;)V"⟩ ∈ lw_g := lw_gin (List.mem_of_getElem? (i := 396) (by decide +kernel)) rfl
theorem w397 : Cond.methodLink "NecklaceSisters" 227 ⟨"NecklaceSisters$Necklace", "giveRun", "(II)Z"⟩ ∈ lw_g := lw_gin (List.mem_of_getElem? (i := 397) (by decide +kernel)) rfl
theorem w398 : Cond.instanceMethod ⟨"NecklaceSisters$Necklace", "giveRun", "(II)Z"⟩ ∈ lw_g := lw_gin (List.mem_of_getElem? (i := 398) (by decide +kernel)) rfl
theorem w399 : Cond.selects "NecklaceSisters$Necklace" ⟨"NecklaceSisters$Necklace", "giveRun", "(II)Z"⟩ ⟨"NecklaceSisters$Necklace", "giveRun", "(II)Z"⟩ ∈ lw_g := lw_gin (List.mem_of_getElem? (i := 399) (by decide +kernel)) rfl
theorem w400 : Cond.code yX2_giveRun cX2_giveRun 4 (some .boolean) ∈ lw_g := lw_gin (List.mem_of_getElem? (i := 400) (by decide +kernel)) rfl
theorem w401 : Cond.methodLink "NecklaceSisters$Necklace" 120 ⟨"NecklaceSisters$Necklace", "hasRun", "(I)Z"⟩ ∈ lw_g := lw_gin (List.mem_of_getElem? (i := 401) (by decide +kernel)) rfl
theorem w402 : Cond.instanceMethod ⟨"NecklaceSisters$Necklace", "hasRun", "(I)Z"⟩ ∈ lw_g := lw_gin (List.mem_of_getElem? (i := 402) (by decide +kernel)) rfl
theorem w403 : Cond.selects "NecklaceSisters$Necklace" ⟨"NecklaceSisters$Necklace", "hasRun", "(I)Z"⟩ ⟨"NecklaceSisters$Necklace", "hasRun", "(I)Z"⟩ ∈ lw_g := lw_gin (List.mem_of_getElem? (i := 403) (by decide +kernel)) rfl
theorem w404 : Cond.code yX2_hasRun cX2_hasRun 2 (some .boolean) ∈ lw_g := lw_gin (List.mem_of_getElem? (i := 404) (by decide +kernel)) rfl
theorem w405 : Cond.methodLink "NecklaceSisters$Necklace" 61 ⟨"NecklaceSisters$Necklace", "runs", "()I"⟩ ∈ lw_g := lw_gin (List.mem_of_getElem? (i := 405) (by decide +kernel)) rfl
theorem w407 : Cond.static ⟨"NecklaceSisters", "isOwner", "(I)Z"⟩ ∈ lw_g := lw_gin (List.mem_of_getElem? (i := 407) (by decide +kernel)) rfl
theorem w408 : Cond.code yX7_isOwner cX7_isOwner 1 (some .boolean) ∈ lw_g := lw_gin (List.mem_of_getElem? (i := 408) (by decide +kernel)) rfl
theorem w409 : Cond.methodLink "NecklaceSisters" 177 ⟨"NecklaceSisters", "isSister", "(I)Z"⟩ ∈ lw_g := lw_gin (List.mem_of_getElem? (i := 409) (by decide +kernel)) rfl
theorem w410 : Cond.static ⟨"NecklaceSisters", "isSister", "(I)Z"⟩ ∈ lw_g := lw_gin (List.mem_of_getElem? (i := 410) (by decide +kernel)) rfl
theorem w411 : Cond.code yX7_isSister cX7_isSister 1 (some .boolean) ∈ lw_g := lw_gin (List.mem_of_getElem? (i := 411) (by decide +kernel)) rfl
theorem w412 : Cond.methodLink "NecklaceSisters" 102 ⟨"NecklaceSisters$Necklace", "gap", "()I"⟩ ∈ lw_g := lw_gin (List.mem_of_getElem? (i := 412) (by decide +kernel)) rfl
theorem w413 : Cond.instanceMethod ⟨"NecklaceSisters$Necklace", "gap", "()I"⟩ ∈ lw_g := lw_gin (List.mem_of_getElem? (i := 413) (by decide +kernel)) rfl
theorem w414 : Cond.selects "NecklaceSisters$Necklace" ⟨"NecklaceSisters$Necklace", "gap", "()I"⟩ ⟨"NecklaceSisters$Necklace", "gap", "()I"⟩ ∈ lw_g := lw_gin (List.mem_of_getElem? (i := 414) (by decide +kernel)) rfl
theorem w415 : Cond.code yX2_gap cX2_gap 3 (some .int) ∈ lw_g := lw_gin (List.mem_of_getElem? (i := 415) (by decide +kernel)) rfl
theorem w416 : Cond.methodLink "NecklaceSisters$Necklace" 79 ⟨"NecklaceSisters$Necklace", "holding", "(II)I"⟩ ∈ lw_g := lw_gin (List.mem_of_getElem? (i := 416) (by decide +kernel)) rfl
theorem w417 : Cond.instanceMethod ⟨"NecklaceSisters$Necklace", "holding", "(II)I"⟩ ∈ lw_g := lw_gin (List.mem_of_getElem? (i := 417) (by decide +kernel)) rfl
theorem w418 : Cond.selects "NecklaceSisters$Necklace" ⟨"NecklaceSisters$Necklace", "holding", "(II)I"⟩ ⟨"NecklaceSisters$Necklace", "holding", "(II)I"⟩ ∈ lw_g := lw_gin (List.mem_of_getElem? (i := 418) (by decide +kernel)) rfl
theorem w419 : Cond.code yX2_holding cX2_holding 6 (some .int) ∈ lw_g := lw_gin (List.mem_of_getElem? (i := 419) (by decide +kernel)) rfl
theorem w420 : Cond.methodLink "NecklaceSisters$Necklace" 73 ⟨"NecklaceSisters$Necklace", "jewelAt", "(I)I"⟩ ∈ lw_g := lw_gin (List.mem_of_getElem? (i := 420) (by decide +kernel)) rfl
theorem w421 : Cond.instanceMethod ⟨"NecklaceSisters$Necklace", "jewelAt", "(I)I"⟩ ∈ lw_g := lw_gin (List.mem_of_getElem? (i := 421) (by decide +kernel)) rfl
theorem w422 : Cond.selects "NecklaceSisters$Necklace" ⟨"NecklaceSisters$Necklace", "jewelAt", "(I)I"⟩ ⟨"NecklaceSisters$Necklace", "jewelAt", "(I)I"⟩ ∈ lw_g := lw_gin (List.mem_of_getElem? (i := 422) (by decide +kernel)) rfl
theorem w423 : Cond.code yX2_jewelAt cX2_jewelAt 3 (some .int) ∈ lw_g := lw_gin (List.mem_of_getElem? (i := 423) (by decide +kernel)) rfl
theorem w424 : Cond.methodLink "NecklaceSisters$Necklace" 76 ⟨"NecklaceSisters$Necklace", "valueOf", "(I)I"⟩ ∈ lw_g := lw_gin (List.mem_of_getElem? (i := 424) (by decide +kernel)) rfl
theorem w425 : Cond.methodLink "NecklaceSisters$Necklace" 83 ⟨"java/lang/Math", "abs", "(I)I"⟩ ∈ lw_g := lw_gin (List.mem_of_getElem? (i := 425) (by decide +kernel)) rfl
theorem w426 : Cond.static ⟨"java/lang/Math", "abs", "(I)I"⟩ ∈ lw_g := lw_gin (List.mem_of_getElem? (i := 426) (by decide +kernel)) rfl
theorem w427 : Cond.code yJ9_abs_0f7a4 cJ9_abs_0f7a4 1 (some .int) ∈ lw_g := lw_gin (List.mem_of_getElem? (i := 427) (by decide +kernel)) rfl
theorem w428 : Cond.methodLink "NecklaceSistersLaw" 100 ⟨"NecklaceSistersLaw", "append", "(LNecklaceSisters;I[J)I"⟩ ∈ lw_g := lw_gin (List.mem_of_getElem? (i := 428) (by decide +kernel)) rfl
theorem w433 : Cond.methodLink "NecklaceSistersLaw" 7 ⟨"NecklaceSisters", "append", "(I)I"⟩ ∈ lw_g := lw_gin (List.mem_of_getElem? (i := 433) (by decide +kernel)) rfl
theorem w434 : Cond.instanceMethod ⟨"NecklaceSisters", "append", "(I)I"⟩ ∈ lw_g := lw_gin (List.mem_of_getElem? (i := 434) (by decide +kernel)) rfl
theorem w435 : Cond.selects "NecklaceSisters" ⟨"NecklaceSisters", "append", "(I)I"⟩ ⟨"NecklaceSisters", "append", "(I)I"⟩ ∈ lw_g := lw_gin (List.mem_of_getElem? (i := 435) (by decide +kernel)) rfl
theorem w436 : Cond.code yX7_append cX7_append 2 (some .int) ∈ lw_g := lw_gin (List.mem_of_getElem? (i := 436) (by decide +kernel)) rfl
theorem w462 : Cond.methodLink "java/lang/Throwable" 1 ⟨"java/lang/Object", "<init>", "()V"⟩ ∈ lw_g := lw_gin (List.mem_of_getElem? (i := 462) (by decide +kernel)) rfl
theorem w463 : Cond.fieldLink "java/lang/Throwable" 13 "java/lang/Throwable" "UNASSIGNED_STACK" "[Ljava/lang/StackTraceElement;" ∈ lw_g := lw_gin (List.mem_of_getElem? (i := 463) (by decide +kernel)) rfl
theorem w465 : Cond.fieldLink "java/lang/Throwable" 20 "java/lang/Throwable" "SUPPRESSED_SENTINEL" "Ljava/util/List;" ∈ lw_g := lw_gin (List.mem_of_getElem? (i := 465) (by decide +kernel)) rfl
theorem w467 : Cond.methodLink "java/lang/Throwable" 27 ⟨"java/lang/Throwable", "fillInStackTrace", "()Ljava/lang/Throwable;"⟩ ∈ lw_g := lw_gin (List.mem_of_getElem? (i := 467) (by decide +kernel)) rfl
theorem w473 : Cond.methodLink "java/lang/Throwable" 202 ⟨"java/lang/Throwable", "fillInStackTrace", "(I)Ljava/lang/Throwable;"⟩ ∈ lw_g := lw_gin (List.mem_of_getElem? (i := 473) (by decide +kernel)) rfl
theorem w479 : Cond.methodLink "NecklaceSisters" 54 ⟨"java/lang/IllegalArgumentException", "<init>", "(Ljava/lang/String;)V"⟩ ∈ lw_g := lw_gin (List.mem_of_getElem? (i := 479) (by decide +kernel)) rfl
theorem w482 : Cond.methodLink "java/lang/IllegalArgumentException" 7 ⟨"java/lang/RuntimeException", "<init>", "(Ljava/lang/String;)V"⟩ ∈ lw_g := lw_gin (List.mem_of_getElem? (i := 482) (by decide +kernel)) rfl
theorem w485 : Cond.methodLink "java/lang/RuntimeException" 7 ⟨"java/lang/Exception", "<init>", "(Ljava/lang/String;)V"⟩ ∈ lw_g := lw_gin (List.mem_of_getElem? (i := 485) (by decide +kernel)) rfl
theorem w488 : Cond.methodLink "java/lang/Exception" 7 ⟨"java/lang/Throwable", "<init>", "(Ljava/lang/String;)V"⟩ ∈ lw_g := lw_gin (List.mem_of_getElem? (i := 488) (by decide +kernel)) rfl
theorem w491 : Cond.fieldLink "java/lang/Throwable" 198 "java/lang/Throwable" "backtrace" "Ljava/lang/Object;" ∈ lw_g := lw_gin (List.mem_of_getElem? (i := 491) (by decide +kernel)) rfl
theorem w492 : Cond.fieldLink "java/lang/Throwable" 31 "java/lang/Throwable" "detailMessage" "Ljava/lang/String;" ∈ lw_g := lw_gin (List.mem_of_getElem? (i := 492) (by decide +kernel)) rfl
theorem w493 : Cond.fieldLink "java/lang/Throwable" 7 "java/lang/Throwable" "cause" "Ljava/lang/Throwable;" ∈ lw_g := lw_gin (List.mem_of_getElem? (i := 493) (by decide +kernel)) rfl
theorem w494 : Cond.fieldLink "java/lang/Throwable" 17 "java/lang/Throwable" "stackTrace" "[Ljava/lang/StackTraceElement;" ∈ lw_g := lw_gin (List.mem_of_getElem? (i := 494) (by decide +kernel)) rfl
theorem w495 : Cond.fieldLink "java/lang/Throwable" 24 "java/lang/Throwable" "suppressedExceptions" "Ljava/util/List;" ∈ lw_g := lw_gin (List.mem_of_getElem? (i := 495) (by decide +kernel)) rfl
theorem w514 : Cond.methodLink "NecklaceSisters" 65 ⟨"java/lang/IllegalStateException", "<init>", "(Ljava/lang/String;)V"⟩ ∈ lw_g := lw_gin (List.mem_of_getElem? (i := 514) (by decide +kernel)) rfl
theorem w517 : Cond.methodLink "java/lang/IllegalStateException" 7 ⟨"java/lang/RuntimeException", "<init>", "(Ljava/lang/String;)V"⟩ ∈ lw_g := lw_gin (List.mem_of_getElem? (i := 517) (by decide +kernel)) rfl
theorem w520 : Cond.methodLink "NecklaceSisters" 66 ⟨"NecklaceSisters$Text", "add", "(C)V"⟩ ∈ lw_g := lw_gin (List.mem_of_getElem? (i := 520) (by decide +kernel)) rfl
theorem w521 : Cond.instanceMethod ⟨"NecklaceSisters$Text", "add", "(C)V"⟩ ∈ lw_g := lw_gin (List.mem_of_getElem? (i := 521) (by decide +kernel)) rfl
theorem w522 : Cond.selects "NecklaceSisters$Text" ⟨"NecklaceSisters$Text", "add", "(C)V"⟩ ⟨"NecklaceSisters$Text", "add", "(C)V"⟩ ∈ lw_g := lw_gin (List.mem_of_getElem? (i := 522) (by decide +kernel)) rfl
theorem w523 : Cond.code yX6_add cX6_add 2 none ∈ lw_g := lw_gin (List.mem_of_getElem? (i := 523) (by decide +kernel)) rfl
theorem w524 : Cond.methodLink "NecklaceSistersLaw" 117 ⟨"NecklaceSistersLaw", "load", "(LNecklaceSisters;[J)I"⟩ ∈ lw_g := lw_gin (List.mem_of_getElem? (i := 524) (by decide +kernel)) rfl
theorem w527 : Cond.methodLink "NecklaceSistersLaw" 17 ⟨"NecklaceSisters", "load", "()I"⟩ ∈ lw_g := lw_gin (List.mem_of_getElem? (i := 527) (by decide +kernel)) rfl
theorem w528 : Cond.instanceMethod ⟨"NecklaceSisters", "load", "()I"⟩ ∈ lw_g := lw_gin (List.mem_of_getElem? (i := 528) (by decide +kernel)) rfl
theorem w529 : Cond.selects "NecklaceSisters" ⟨"NecklaceSisters", "load", "()I"⟩ ⟨"NecklaceSisters", "load", "()I"⟩ ∈ lw_g := lw_gin (List.mem_of_getElem? (i := 529) (by decide +kernel)) rfl
theorem w530 : Cond.code yX7_load cX7_load 1 (some .int) ∈ lw_g := lw_gin (List.mem_of_getElem? (i := 530) (by decide +kernel)) rfl
theorem w532 : Cond.methodLink "NecklaceSisters" 76 ⟨"NecklaceSisters$Necklace", "becomeNew", "()V"⟩ ∈ lw_g := lw_gin (List.mem_of_getElem? (i := 532) (by decide +kernel)) rfl
theorem w533 : Cond.instanceMethod ⟨"NecklaceSisters$Necklace", "becomeNew", "()V"⟩ ∈ lw_g := lw_gin (List.mem_of_getElem? (i := 533) (by decide +kernel)) rfl
theorem w534 : Cond.selects "NecklaceSisters$Necklace" ⟨"NecklaceSisters$Necklace", "becomeNew", "()V"⟩ ⟨"NecklaceSisters$Necklace", "becomeNew", "()V"⟩ ∈ lw_g := lw_gin (List.mem_of_getElem? (i := 534) (by decide +kernel)) rfl
theorem w535 : Cond.code yX2_becomeNew cX2_becomeNew 1 none ∈ lw_g := lw_gin (List.mem_of_getElem? (i := 535) (by decide +kernel)) rfl
theorem w536 : Cond.methodLink "NecklaceSisters" 79 ⟨"NecklaceSisters$History", "forgetAll", "()V"⟩ ∈ lw_g := lw_gin (List.mem_of_getElem? (i := 536) (by decide +kernel)) rfl
theorem w537 : Cond.instanceMethod ⟨"NecklaceSisters$History", "forgetAll", "()V"⟩ ∈ lw_g := lw_gin (List.mem_of_getElem? (i := 537) (by decide +kernel)) rfl
theorem w538 : Cond.selects "NecklaceSisters$History" ⟨"NecklaceSisters$History", "forgetAll", "()V"⟩ ⟨"NecklaceSisters$History", "forgetAll", "()V"⟩ ∈ lw_g := lw_gin (List.mem_of_getElem? (i := 538) (by decide +kernel)) rfl
theorem w539 : Cond.code yX1_forgetAll cX1_forgetAll 1 none ∈ lw_g := lw_gin (List.mem_of_getElem? (i := 539) (by decide +kernel)) rfl
theorem w540 : Cond.methodLink "NecklaceSisters" 86 ⟨"NecklaceSisters$Text", "performOn", "(LNecklaceSisters$Necklace;)I"⟩ ∈ lw_g := lw_gin (List.mem_of_getElem? (i := 540) (by decide +kernel)) rfl
theorem w541 : Cond.instanceMethod ⟨"NecklaceSisters$Text", "performOn", "(LNecklaceSisters$Necklace;)I"⟩ ∈ lw_g := lw_gin (List.mem_of_getElem? (i := 541) (by decide +kernel)) rfl
theorem w542 : Cond.selects "NecklaceSisters$Text" ⟨"NecklaceSisters$Text", "performOn", "(LNecklaceSisters$Necklace;)I"⟩ ⟨"NecklaceSisters$Text", "performOn", "(LNecklaceSisters$Necklace;)I"⟩ ∈ lw_g := lw_gin (List.mem_of_getElem? (i := 542) (by decide +kernel)) rfl
theorem w543 : Cond.code yX6_performOn cX6_performOn 5 (some .int) ∈ lw_g := lw_gin (List.mem_of_getElem? (i := 543) (by decide +kernel)) rfl
theorem w544 : Cond.methodLink "NecklaceSisters$Text" 55 ⟨"NecklaceSisters$Text", "performs", "(ILNecklaceSisters$Necklace;)Z"⟩ ∈ lw_g := lw_gin (List.mem_of_getElem? (i := 544) (by decide +kernel)) rfl
theorem w546 : Cond.instanceMethod ⟨"NecklaceSisters$Text", "performs", "(ILNecklaceSisters$Necklace;)Z"⟩ ∈ lw_g := lw_gin (List.mem_of_getElem? (i := 546) (by decide +kernel)) rfl
theorem w547 : Cond.code yX6_performs cX6_performs 3 (some .boolean) ∈ lw_g := lw_gin (List.mem_of_getElem? (i := 547) (by decide +kernel)) rfl
theorem w548 : Cond.methodLink "NecklaceSisters$Text" 23 ⟨"NecklaceSisters$Text", "digitAt", "(I)I"⟩ ∈ lw_g := lw_gin (List.mem_of_getElem? (i := 548) (by decide +kernel)) rfl
theorem w550 : Cond.instanceMethod ⟨"NecklaceSisters$Text", "digitAt", "(I)I"⟩ ∈ lw_g := lw_gin (List.mem_of_getElem? (i := 550) (by decide +kernel)) rfl
theorem w551 : Cond.code yX6_digitAt cX6_digitAt 2 (some .int) ∈ lw_g := lw_gin (List.mem_of_getElem? (i := 551) (by decide +kernel)) rfl
theorem w552 : Cond.methodLink "NecklaceSisters$Text" 59 ⟨"NecklaceSisters$Necklace", "addJewel", "(II)Z"⟩ ∈ lw_g := lw_gin (List.mem_of_getElem? (i := 552) (by decide +kernel)) rfl
theorem w553 : Cond.instanceMethod ⟨"NecklaceSisters$Necklace", "addJewel", "(II)Z"⟩ ∈ lw_g := lw_gin (List.mem_of_getElem? (i := 553) (by decide +kernel)) rfl
theorem w554 : Cond.selects "NecklaceSisters$Necklace" ⟨"NecklaceSisters$Necklace", "addJewel", "(II)Z"⟩ ⟨"NecklaceSisters$Necklace", "addJewel", "(II)Z"⟩ ∈ lw_g := lw_gin (List.mem_of_getElem? (i := 554) (by decide +kernel)) rfl
theorem w555 : Cond.code yX2_addJewel cX2_addJewel 3 (some .boolean) ∈ lw_g := lw_gin (List.mem_of_getElem? (i := 555) (by decide +kernel)) rfl
theorem w557 : Cond.static ⟨"NecklaceSisters", "isKind", "(I)Z"⟩ ∈ lw_g := lw_gin (List.mem_of_getElem? (i := 557) (by decide +kernel)) rfl
theorem w558 : Cond.code yX7_isKind cX7_isKind 1 (some .boolean) ∈ lw_g := lw_gin (List.mem_of_getElem? (i := 558) (by decide +kernel)) rfl
theorem w560 : Cond.static ⟨"NecklaceSisters", "isWeight", "(I)Z"⟩ ∈ lw_g := lw_gin (List.mem_of_getElem? (i := 560) (by decide +kernel)) rfl
theorem w561 : Cond.code yX7_isWeight cX7_isWeight 1 (some .boolean) ∈ lw_g := lw_gin (List.mem_of_getElem? (i := 561) (by decide +kernel)) rfl
theorem w562 : Cond.methodLink "NecklaceSisters$Text" 65 ⟨"NecklaceSisters$Text", "numberAt", "(I)I"⟩ ∈ lw_g := lw_gin (List.mem_of_getElem? (i := 562) (by decide +kernel)) rfl
theorem w564 : Cond.instanceMethod ⟨"NecklaceSisters$Text", "numberAt", "(I)I"⟩ ∈ lw_g := lw_gin (List.mem_of_getElem? (i := 564) (by decide +kernel)) rfl
theorem w565 : Cond.code yX6_numberAt cX6_numberAt 2 (some .int) ∈ lw_g := lw_gin (List.mem_of_getElem? (i := 565) (by decide +kernel)) rfl
theorem w566 : Cond.methodLink "NecklaceSisters$Text" 68 ⟨"NecklaceSisters$Necklace", "breakAhead", "(I)Z"⟩ ∈ lw_g := lw_gin (List.mem_of_getElem? (i := 566) (by decide +kernel)) rfl
theorem w567 : Cond.instanceMethod ⟨"NecklaceSisters$Necklace", "breakAhead", "(I)Z"⟩ ∈ lw_g := lw_gin (List.mem_of_getElem? (i := 567) (by decide +kernel)) rfl
theorem w568 : Cond.selects "NecklaceSisters$Necklace" ⟨"NecklaceSisters$Necklace", "breakAhead", "(I)Z"⟩ ⟨"NecklaceSisters$Necklace", "breakAhead", "(I)Z"⟩ ∈ lw_g := lw_gin (List.mem_of_getElem? (i := 568) (by decide +kernel)) rfl
theorem w569 : Cond.code yX2_breakAhead cX2_breakAhead 2 (some .boolean) ∈ lw_g := lw_gin (List.mem_of_getElem? (i := 569) (by decide +kernel)) rfl
theorem w570 : Cond.methodLink "NecklaceSisters$Text" 72 ⟨"NecklaceSisters$Necklace", "setCut", "(IZ)Z"⟩ ∈ lw_g := lw_gin (List.mem_of_getElem? (i := 570) (by decide +kernel)) rfl
theorem w571 : Cond.instanceMethod ⟨"NecklaceSisters$Necklace", "setCut", "(IZ)Z"⟩ ∈ lw_g := lw_gin (List.mem_of_getElem? (i := 571) (by decide +kernel)) rfl
theorem w572 : Cond.selects "NecklaceSisters$Necklace" ⟨"NecklaceSisters$Necklace", "setCut", "(IZ)Z"⟩ ⟨"NecklaceSisters$Necklace", "setCut", "(IZ)Z"⟩ ∈ lw_g := lw_gin (List.mem_of_getElem? (i := 572) (by decide +kernel)) rfl
theorem w573 : Cond.code yX2_setCut cX2_setCut 3 (some .boolean) ∈ lw_g := lw_gin (List.mem_of_getElem? (i := 573) (by decide +kernel)) rfl
theorem w574 : Cond.methodLink "NecklaceSisters$Necklace" 111 ⟨"NecklaceSisters$Necklace", "canBeCutAt", "(I)Z"⟩ ∈ lw_g := lw_gin (List.mem_of_getElem? (i := 574) (by decide +kernel)) rfl
theorem w575 : Cond.instanceMethod ⟨"NecklaceSisters$Necklace", "canBeCutAt", "(I)Z"⟩ ∈ lw_g := lw_gin (List.mem_of_getElem? (i := 575) (by decide +kernel)) rfl
theorem w576 : Cond.selects "NecklaceSisters$Necklace" ⟨"NecklaceSisters$Necklace", "canBeCutAt", "(I)Z"⟩ ⟨"NecklaceSisters$Necklace", "canBeCutAt", "(I)Z"⟩ ∈ lw_g := lw_gin (List.mem_of_getElem? (i := 576) (by decide +kernel)) rfl
theorem w577 : Cond.code yX2_canBeCutAt cX2_canBeCutAt 2 (some .boolean) ∈ lw_g := lw_gin (List.mem_of_getElem? (i := 577) (by decide +kernel)) rfl
theorem w578 : Cond.methodLink "NecklaceSisters$Necklace" 114 ⟨"NecklaceSisters$Necklace", "isCut", "(I)Z"⟩ ∈ lw_g := lw_gin (List.mem_of_getElem? (i := 578) (by decide +kernel)) rfl
theorem w579 : Cond.instanceMethod ⟨"NecklaceSisters$Necklace", "isCut", "(I)Z"⟩ ∈ lw_g := lw_gin (List.mem_of_getElem? (i := 579) (by decide +kernel)) rfl
theorem w580 : Cond.selects "NecklaceSisters$Necklace" ⟨"NecklaceSisters$Necklace", "isCut", "(I)Z"⟩ ⟨"NecklaceSisters$Necklace", "isCut", "(I)Z"⟩ ∈ lw_g := lw_gin (List.mem_of_getElem? (i := 580) (by decide +kernel)) rfl
theorem w581 : Cond.code yX2_isCut cX2_isCut 2 (some .boolean) ∈ lw_g := lw_gin (List.mem_of_getElem? (i := 581) (by decide +kernel)) rfl
theorem w582 : Cond.methodLink "NecklaceSisters$Necklace" 117 ⟨"NecklaceSisters$Necklace", "giveRun", "(II)Z"⟩ ∈ lw_g := lw_gin (List.mem_of_getElem? (i := 582) (by decide +kernel)) rfl
theorem w584 : Cond.static ⟨"NecklaceSisters", "ownerFor", "(I)I"⟩ ∈ lw_g := lw_gin (List.mem_of_getElem? (i := 584) (by decide +kernel)) rfl
theorem w585 : Cond.code yX7_ownerFor cX7_ownerFor 1 (some .int) ∈ lw_g := lw_gin (List.mem_of_getElem? (i := 585) (by decide +kernel)) rfl
theorem w586 : Cond.methodLink "NecklaceSisters$Text" 79 ⟨"NecklaceSisters$Necklace", "giveRun", "(II)Z"⟩ ∈ lw_g := lw_gin (List.mem_of_getElem? (i := 586) (by decide +kernel)) rfl
theorem w587 : Cond.methodLink "NecklaceSisters$Text" 82 ⟨"NecklaceSisters$Necklace", "takeRun", "(I)Z"⟩ ∈ lw_g := lw_gin (List.mem_of_getElem? (i := 587) (by decide +kernel)) rfl
theorem w588 : Cond.instanceMethod ⟨"NecklaceSisters$Necklace", "takeRun", "(I)Z"⟩ ∈ lw_g := lw_gin (List.mem_of_getElem? (i := 588) (by decide +kernel)) rfl
theorem w589 : Cond.selects "NecklaceSisters$Necklace" ⟨"NecklaceSisters$Necklace", "takeRun", "(I)Z"⟩ ⟨"NecklaceSisters$Necklace", "takeRun", "(I)Z"⟩ ∈ lw_g := lw_gin (List.mem_of_getElem? (i := 589) (by decide +kernel)) rfl
theorem w590 : Cond.code yX2_takeRun cX2_takeRun 2 (some .boolean) ∈ lw_g := lw_gin (List.mem_of_getElem? (i := 590) (by decide +kernel)) rfl
theorem w591 : Cond.methodLink "NecklaceSisters$Necklace" 126 ⟨"NecklaceSisters$Necklace", "reasonAgainstTaking", "(I)I"⟩ ∈ lw_g := lw_gin (List.mem_of_getElem? (i := 591) (by decide +kernel)) rfl
theorem w592 : Cond.methodLink "NecklaceSisters$Text" 85 ⟨"NecklaceSisters$Necklace", "dealRuns", "(I)Z"⟩ ∈ lw_g := lw_gin (List.mem_of_getElem? (i := 592) (by decide +kernel)) rfl
theorem w593 : Cond.instanceMethod ⟨"NecklaceSisters$Necklace", "dealRuns", "(I)Z"⟩ ∈ lw_g := lw_gin (List.mem_of_getElem? (i := 593) (by decide +kernel)) rfl
theorem w594 : Cond.selects "NecklaceSisters$Necklace" ⟨"NecklaceSisters$Necklace", "dealRuns", "(I)Z"⟩ ⟨"NecklaceSisters$Necklace", "dealRuns", "(I)Z"⟩ ∈ lw_g := lw_gin (List.mem_of_getElem? (i := 594) (by decide +kernel)) rfl
theorem w595 : Cond.code yX2_dealRuns cX2_dealRuns 3 (some .boolean) ∈ lw_g := lw_gin (List.mem_of_getElem? (i := 595) (by decide +kernel)) rfl
theorem w597 : Cond.methodLink "NecklaceSisters$Text" 88 ⟨"NecklaceSisters$Necklace", "chooseSetting", "(I)Z"⟩ ∈ lw_g := lw_gin (List.mem_of_getElem? (i := 597) (by decide +kernel)) rfl
theorem w598 : Cond.instanceMethod ⟨"NecklaceSisters$Necklace", "chooseSetting", "(I)Z"⟩ ∈ lw_g := lw_gin (List.mem_of_getElem? (i := 598) (by decide +kernel)) rfl
theorem w599 : Cond.selects "NecklaceSisters$Necklace" ⟨"NecklaceSisters$Necklace", "chooseSetting", "(I)Z"⟩ ⟨"NecklaceSisters$Necklace", "chooseSetting", "(I)Z"⟩ ∈ lw_g := lw_gin (List.mem_of_getElem? (i := 599) (by decide +kernel)) rfl
theorem w600 : Cond.code yX2_chooseSetting cX2_chooseSetting 2 (some .boolean) ∈ lw_g := lw_gin (List.mem_of_getElem? (i := 600) (by decide +kernel)) rfl
theorem w602 : Cond.static ⟨"NecklaceSisters", "isSetting", "(I)Z"⟩ ∈ lw_g := lw_gin (List.mem_of_getElem? (i := 602) (by decide +kernel)) rfl
theorem w603 : Cond.code yX7_isSetting cX7_isSetting 1 (some .boolean) ∈ lw_g := lw_gin (List.mem_of_getElem? (i := 603) (by decide +kernel)) rfl
theorem w604 : Cond.methodLink "NecklaceSisters$Text" 91 ⟨"NecklaceSisters$Necklace", "reverseRing", "()V"⟩ ∈ lw_g := lw_gin (List.mem_of_getElem? (i := 604) (by decide +kernel)) rfl
theorem w605 : Cond.methodLink "NecklaceSistersLaw" 121 ⟨"NecklaceSistersLaw", "about", "(LNecklaceSisters;I[J)I"⟩ ∈ lw_g := lw_gin (List.mem_of_getElem? (i := 605) (by decide +kernel)) rfl
theorem w608 : Cond.methodLink "NecklaceSistersLaw" 21 ⟨"NecklaceSisters", "about", "(I)I"⟩ ∈ lw_g := lw_gin (List.mem_of_getElem? (i := 608) (by decide +kernel)) rfl
theorem w609 : Cond.instanceMethod ⟨"NecklaceSisters", "about", "(I)I"⟩ ∈ lw_g := lw_gin (List.mem_of_getElem? (i := 609) (by decide +kernel)) rfl
theorem w610 : Cond.selects "NecklaceSisters" ⟨"NecklaceSisters", "about", "(I)I"⟩ ⟨"NecklaceSisters", "about", "(I)I"⟩ ∈ lw_g := lw_gin (List.mem_of_getElem? (i := 610) (by decide +kernel)) rfl
theorem w611 : Cond.code yX7_about cX7_about 2 (some .int) ∈ lw_g := lw_gin (List.mem_of_getElem? (i := 611) (by decide +kernel)) rfl
theorem w612 : Cond.methodLink "NecklaceSisters" 96 ⟨"NecklaceSisters$Necklace", "cutCount", "()I"⟩ ∈ lw_g := lw_gin (List.mem_of_getElem? (i := 612) (by decide +kernel)) rfl
theorem w613 : Cond.instanceMethod ⟨"NecklaceSisters$Necklace", "cutCount", "()I"⟩ ∈ lw_g := lw_gin (List.mem_of_getElem? (i := 613) (by decide +kernel)) rfl
theorem w614 : Cond.selects "NecklaceSisters$Necklace" ⟨"NecklaceSisters$Necklace", "cutCount", "()I"⟩ ⟨"NecklaceSisters$Necklace", "cutCount", "()I"⟩ ∈ lw_g := lw_gin (List.mem_of_getElem? (i := 614) (by decide +kernel)) rfl
theorem w615 : Cond.code yX2_cutCount cX2_cutCount 1 (some .int) ∈ lw_g := lw_gin (List.mem_of_getElem? (i := 615) (by decide +kernel)) rfl
theorem w616 : Cond.methodLink "NecklaceSisters" 105 ⟨"NecklaceSisters$Necklace", "isFair", "()Z"⟩ ∈ lw_g := lw_gin (List.mem_of_getElem? (i := 616) (by decide +kernel)) rfl
theorem w617 : Cond.instanceMethod ⟨"NecklaceSisters$Necklace", "isFair", "()Z"⟩ ∈ lw_g := lw_gin (List.mem_of_getElem? (i := 617) (by decide +kernel)) rfl
theorem w618 : Cond.selects "NecklaceSisters$Necklace" ⟨"NecklaceSisters$Necklace", "isFair", "()Z"⟩ ⟨"NecklaceSisters$Necklace", "isFair", "()Z"⟩ ∈ lw_g := lw_gin (List.mem_of_getElem? (i := 618) (by decide +kernel)) rfl
theorem w619 : Cond.code yX2_isFair cX2_isFair 1 (some .boolean) ∈ lw_g := lw_gin (List.mem_of_getElem? (i := 619) (by decide +kernel)) rfl
theorem w620 : Cond.methodLink "NecklaceSisters$Necklace" 88 ⟨"NecklaceSisters$Necklace", "placesOfNobody", "()I"⟩ ∈ lw_g := lw_gin (List.mem_of_getElem? (i := 620) (by decide +kernel)) rfl
theorem w621 : Cond.instanceMethod ⟨"NecklaceSisters$Necklace", "placesOfNobody", "()I"⟩ ∈ lw_g := lw_gin (List.mem_of_getElem? (i := 621) (by decide +kernel)) rfl
theorem w622 : Cond.selects "NecklaceSisters$Necklace" ⟨"NecklaceSisters$Necklace", "placesOfNobody", "()I"⟩ ⟨"NecklaceSisters$Necklace", "placesOfNobody", "()I"⟩ ∈ lw_g := lw_gin (List.mem_of_getElem? (i := 622) (by decide +kernel)) rfl
theorem w623 : Cond.code yX2_placesOfNobody cX2_placesOfNobody 3 (some .int) ∈ lw_g := lw_gin (List.mem_of_getElem? (i := 623) (by decide +kernel)) rfl
theorem w624 : Cond.methodLink "NecklaceSisters$Necklace" 91 ⟨"NecklaceSisters$Necklace", "gap", "()I"⟩ ∈ lw_g := lw_gin (List.mem_of_getElem? (i := 624) (by decide +kernel)) rfl
theorem w625 : Cond.methodLink "NecklaceSisters" 112 ⟨"NecklaceSisters$Necklace", "placesOfNobody", "()I"⟩ ∈ lw_g := lw_gin (List.mem_of_getElem? (i := 625) (by decide +kernel)) rfl
theorem w627 : Cond.methodLink "NecklaceSistersLaw" 124 ⟨"NecklaceSistersLaw", "jewelOf", "(LNecklaceSisters;II[J)I"⟩ ∈ lw_g := lw_gin (List.mem_of_getElem? (i := 627) (by decide +kernel)) rfl
theorem w631 : Cond.methodLink "NecklaceSistersLaw" 24 ⟨"NecklaceSisters", "jewelOf", "(II)I"⟩ ∈ lw_g := lw_gin (List.mem_of_getElem? (i := 631) (by decide +kernel)) rfl
theorem w632 : Cond.instanceMethod ⟨"NecklaceSisters", "jewelOf", "(II)I"⟩ ∈ lw_g := lw_gin (List.mem_of_getElem? (i := 632) (by decide +kernel)) rfl
theorem w633 : Cond.selects "NecklaceSisters" ⟨"NecklaceSisters", "jewelOf", "(II)I"⟩ ⟨"NecklaceSisters", "jewelOf", "(II)I"⟩ ∈ lw_g := lw_gin (List.mem_of_getElem? (i := 633) (by decide +kernel)) rfl
theorem w634 : Cond.code yX7_jewelOf cX7_jewelOf 3 (some .int) ∈ lw_g := lw_gin (List.mem_of_getElem? (i := 634) (by decide +kernel)) rfl
theorem w635 : Cond.methodLink "NecklaceSisters" 123 ⟨"NecklaceSisters$Necklace", "hasJewel", "(I)Z"⟩ ∈ lw_g := lw_gin (List.mem_of_getElem? (i := 635) (by decide +kernel)) rfl
theorem w646 : Cond.methodLink "NecklaceSisters" 131 ⟨"java/lang/IndexOutOfBoundsException", "<init>", "(Ljava/lang/String;)V"⟩ ∈ lw_g := lw_gin (List.mem_of_getElem? (i := 646) (by decide +kernel)) rfl
theorem w649 : Cond.methodLink "java/lang/IndexOutOfBoundsException" 7 ⟨"java/lang/RuntimeException", "<init>", "(Ljava/lang/String;)V"⟩ ∈ lw_g := lw_gin (List.mem_of_getElem? (i := 649) (by decide +kernel)) rfl
theorem w652 : Cond.methodLink "NecklaceSisters" 132 ⟨"NecklaceSisters$Necklace", "kindOf", "(I)I"⟩ ∈ lw_g := lw_gin (List.mem_of_getElem? (i := 652) (by decide +kernel)) rfl
theorem w653 : Cond.methodLink "NecklaceSisters" 136 ⟨"NecklaceSisters$Necklace", "weightOf", "(I)I"⟩ ∈ lw_g := lw_gin (List.mem_of_getElem? (i := 653) (by decide +kernel)) rfl
theorem w654 : Cond.methodLink "NecklaceSisters" 139 ⟨"NecklaceSisters$Necklace", "placeWith", "(I)I"⟩ ∈ lw_g := lw_gin (List.mem_of_getElem? (i := 654) (by decide +kernel)) rfl
theorem w655 : Cond.instanceMethod ⟨"NecklaceSisters$Necklace", "placeWith", "(I)I"⟩ ∈ lw_g := lw_gin (List.mem_of_getElem? (i := 655) (by decide +kernel)) rfl
theorem w656 : Cond.selects "NecklaceSisters$Necklace" ⟨"NecklaceSisters$Necklace", "placeWith", "(I)I"⟩ ⟨"NecklaceSisters$Necklace", "placeWith", "(I)I"⟩ ∈ lw_g := lw_gin (List.mem_of_getElem? (i := 656) (by decide +kernel)) rfl
theorem w657 : Cond.code yX2_placeWith cX2_placeWith 3 (some .int) ∈ lw_g := lw_gin (List.mem_of_getElem? (i := 657) (by decide +kernel)) rfl
theorem w659 : Cond.methodLink "NecklaceSistersLaw" 128 ⟨"NecklaceSistersLaw", "placeOf", "(LNecklaceSisters;II[J)I"⟩ ∈ lw_g := lw_gin (List.mem_of_getElem? (i := 659) (by decide +kernel)) rfl
theorem w662 : Cond.methodLink "NecklaceSistersLaw" 30 ⟨"NecklaceSisters", "placeOf", "(II)I"⟩ ∈ lw_g := lw_gin (List.mem_of_getElem? (i := 662) (by decide +kernel)) rfl
theorem w663 : Cond.instanceMethod ⟨"NecklaceSisters", "placeOf", "(II)I"⟩ ∈ lw_g := lw_gin (List.mem_of_getElem? (i := 663) (by decide +kernel)) rfl
theorem w664 : Cond.selects "NecklaceSisters" ⟨"NecklaceSisters", "placeOf", "(II)I"⟩ ⟨"NecklaceSisters", "placeOf", "(II)I"⟩ ∈ lw_g := lw_gin (List.mem_of_getElem? (i := 664) (by decide +kernel)) rfl
theorem w665 : Cond.code yX7_placeOf cX7_placeOf 3 (some .int) ∈ lw_g := lw_gin (List.mem_of_getElem? (i := 665) (by decide +kernel)) rfl
theorem w666 : Cond.methodLink "NecklaceSisters" 144 ⟨"NecklaceSisters$Necklace", "hasPlace", "(I)Z"⟩ ∈ lw_g := lw_gin (List.mem_of_getElem? (i := 666) (by decide +kernel)) rfl
theorem w667 : Cond.instanceMethod ⟨"NecklaceSisters$Necklace", "hasPlace", "(I)Z"⟩ ∈ lw_g := lw_gin (List.mem_of_getElem? (i := 667) (by decide +kernel)) rfl
theorem w668 : Cond.selects "NecklaceSisters$Necklace" ⟨"NecklaceSisters$Necklace", "hasPlace", "(I)Z"⟩ ⟨"NecklaceSisters$Necklace", "hasPlace", "(I)Z"⟩ ∈ lw_g := lw_gin (List.mem_of_getElem? (i := 668) (by decide +kernel)) rfl
theorem w669 : Cond.code yX2_hasPlace cX2_hasPlace 2 (some .boolean) ∈ lw_g := lw_gin (List.mem_of_getElem? (i := 669) (by decide +kernel)) rfl
theorem w671 : Cond.methodLink "NecklaceSisters" 149 ⟨"NecklaceSisters$Necklace", "jewelAt", "(I)I"⟩ ∈ lw_g := lw_gin (List.mem_of_getElem? (i := 671) (by decide +kernel)) rfl
theorem w672 : Cond.methodLink "NecklaceSisters" 152 ⟨"NecklaceSisters$Necklace", "ownerAt", "(I)I"⟩ ∈ lw_g := lw_gin (List.mem_of_getElem? (i := 672) (by decide +kernel)) rfl
theorem w673 : Cond.methodLink "NecklaceSisters" 155 ⟨"NecklaceSisters$Necklace", "runAt", "(I)I"⟩ ∈ lw_g := lw_gin (List.mem_of_getElem? (i := 673) (by decide +kernel)) rfl
theorem w674 : Cond.methodLink "NecklaceSisters" 158 ⟨"NecklaceSisters$Necklace", "isCut", "(I)Z"⟩ ∈ lw_g := lw_gin (List.mem_of_getElem? (i := 674) (by decide +kernel)) rfl
theorem w676 : Cond.methodLink "NecklaceSistersLaw" 131 ⟨"NecklaceSistersLaw", "runOf", "(LNecklaceSisters;II[J)I"⟩ ∈ lw_g := lw_gin (List.mem_of_getElem? (i := 676) (by decide +kernel)) rfl
theorem w679 : Cond.methodLink "NecklaceSistersLaw" 33 ⟨"NecklaceSisters", "runOf", "(II)I"⟩ ∈ lw_g := lw_gin (List.mem_of_getElem? (i := 679) (by decide +kernel)) rfl
theorem w680 : Cond.instanceMethod ⟨"NecklaceSisters", "runOf", "(II)I"⟩ ∈ lw_g := lw_gin (List.mem_of_getElem? (i := 680) (by decide +kernel)) rfl
theorem w681 : Cond.selects "NecklaceSisters" ⟨"NecklaceSisters", "runOf", "(II)I"⟩ ⟨"NecklaceSisters", "runOf", "(II)I"⟩ ∈ lw_g := lw_gin (List.mem_of_getElem? (i := 681) (by decide +kernel)) rfl
theorem w682 : Cond.code yX7_runOf cX7_runOf 3 (some .int) ∈ lw_g := lw_gin (List.mem_of_getElem? (i := 682) (by decide +kernel)) rfl
theorem w683 : Cond.methodLink "NecklaceSisters" 163 ⟨"NecklaceSisters$Necklace", "hasRun", "(I)Z"⟩ ∈ lw_g := lw_gin (List.mem_of_getElem? (i := 683) (by decide +kernel)) rfl
theorem w685 : Cond.methodLink "NecklaceSisters" 168 ⟨"NecklaceSisters$Necklace", "firstPlaceOf", "(I)I"⟩ ∈ lw_g := lw_gin (List.mem_of_getElem? (i := 685) (by decide +kernel)) rfl
theorem w686 : Cond.methodLink "NecklaceSisters" 171 ⟨"NecklaceSisters$Necklace", "placesOf", "(I)I"⟩ ∈ lw_g := lw_gin (List.mem_of_getElem? (i := 686) (by decide +kernel)) rfl
theorem w687 : Cond.instanceMethod ⟨"NecklaceSisters$Necklace", "placesOf", "(I)I"⟩ ∈ lw_g := lw_gin (List.mem_of_getElem? (i := 687) (by decide +kernel)) rfl
theorem w688 : Cond.selects "NecklaceSisters$Necklace" ⟨"NecklaceSisters$Necklace", "placesOf", "(I)I"⟩ ⟨"NecklaceSisters$Necklace", "placesOf", "(I)I"⟩ ∈ lw_g := lw_gin (List.mem_of_getElem? (i := 688) (by decide +kernel)) rfl
theorem w689 : Cond.code yX2_placesOf cX2_placesOf 4 (some .int) ∈ lw_g := lw_gin (List.mem_of_getElem? (i := 689) (by decide +kernel)) rfl
theorem w690 : Cond.methodLink "NecklaceSisters" 174 ⟨"NecklaceSisters$Necklace", "valueOfRun", "(I)I"⟩ ∈ lw_g := lw_gin (List.mem_of_getElem? (i := 690) (by decide +kernel)) rfl
theorem w691 : Cond.instanceMethod ⟨"NecklaceSisters$Necklace", "valueOfRun", "(I)I"⟩ ∈ lw_g := lw_gin (List.mem_of_getElem? (i := 691) (by decide +kernel)) rfl
theorem w692 : Cond.selects "NecklaceSisters$Necklace" ⟨"NecklaceSisters$Necklace", "valueOfRun", "(I)I"⟩ ⟨"NecklaceSisters$Necklace", "valueOfRun", "(I)I"⟩ ∈ lw_g := lw_gin (List.mem_of_getElem? (i := 692) (by decide +kernel)) rfl
theorem w693 : Cond.code yX2_valueOfRun cX2_valueOfRun 4 (some .int) ∈ lw_g := lw_gin (List.mem_of_getElem? (i := 693) (by decide +kernel)) rfl
theorem w694 : Cond.methodLink "NecklaceSistersLaw" 134 ⟨"NecklaceSistersLaw", "has", "(LNecklaceSisters;II[J)I"⟩ ∈ lw_g := lw_gin (List.mem_of_getElem? (i := 694) (by decide +kernel)) rfl
theorem w697 : Cond.methodLink "NecklaceSistersLaw" 36 ⟨"NecklaceSisters", "has", "(II)I"⟩ ∈ lw_g := lw_gin (List.mem_of_getElem? (i := 697) (by decide +kernel)) rfl
theorem w698 : Cond.instanceMethod ⟨"NecklaceSisters", "has", "(II)I"⟩ ∈ lw_g := lw_gin (List.mem_of_getElem? (i := 698) (by decide +kernel)) rfl
theorem w699 : Cond.selects "NecklaceSisters" ⟨"NecklaceSisters", "has", "(II)I"⟩ ⟨"NecklaceSisters", "has", "(II)I"⟩ ∈ lw_g := lw_gin (List.mem_of_getElem? (i := 699) (by decide +kernel)) rfl
theorem w700 : Cond.code yX7_has cX7_has 3 (some .int) ∈ lw_g := lw_gin (List.mem_of_getElem? (i := 700) (by decide +kernel)) rfl
theorem w701 : Cond.methodLink "NecklaceSisters" 180 ⟨"NecklaceSisters", "isKind", "(I)Z"⟩ ∈ lw_g := lw_gin (List.mem_of_getElem? (i := 701) (by decide +kernel)) rfl
theorem w703 : Cond.methodLink "NecklaceSisters" 185 ⟨"NecklaceSisters$Necklace", "holding", "(II)I"⟩ ∈ lw_g := lw_gin (List.mem_of_getElem? (i := 703) (by decide +kernel)) rfl
theorem w704 : Cond.methodLink "NecklaceSistersLaw" 137 ⟨"NecklaceSistersLaw", "jewel", "(LNecklaceSisters;II[J)I"⟩ ∈ lw_g := lw_gin (List.mem_of_getElem? (i := 704) (by decide +kernel)) rfl
theorem w707 : Cond.methodLink "NecklaceSistersLaw" 39 ⟨"NecklaceSisters", "jewel", "(II)I"⟩ ∈ lw_g := lw_gin (List.mem_of_getElem? (i := 707) (by decide +kernel)) rfl
theorem w708 : Cond.instanceMethod ⟨"NecklaceSisters", "jewel", "(II)I"⟩ ∈ lw_g := lw_gin (List.mem_of_getElem? (i := 708) (by decide +kernel)) rfl
theorem w709 : Cond.selects "NecklaceSisters" ⟨"NecklaceSisters", "jewel", "(II)I"⟩ ⟨"NecklaceSisters", "jewel", "(II)I"⟩ ∈ lw_g := lw_gin (List.mem_of_getElem? (i := 709) (by decide +kernel)) rfl
theorem w710 : Cond.code yX7_jewel cX7_jewel 3 (some .int) ∈ lw_g := lw_gin (List.mem_of_getElem? (i := 710) (by decide +kernel)) rfl
theorem w712 : Cond.methodLink "NecklaceSisters" 191 ⟨"NecklaceSisters", "isWeight", "(I)Z"⟩ ∈ lw_g := lw_gin (List.mem_of_getElem? (i := 712) (by decide +kernel)) rfl
theorem w715 : Cond.methodLink "NecklaceSisters" 202 ⟨"NecklaceSisters$Necklace", "addJewel", "(II)Z"⟩ ∈ lw_g := lw_gin (List.mem_of_getElem? (i := 715) (by decide +kernel)) rfl
theorem w716 : Cond.methodLink "NecklaceSistersLaw" 140 ⟨"NecklaceSistersLaw", "exchange", "(LNecklaceSisters;II[J)I"⟩ ∈ lw_g := lw_gin (List.mem_of_getElem? (i := 716) (by decide +kernel)) rfl
theorem w719 : Cond.methodLink "NecklaceSistersLaw" 42 ⟨"NecklaceSisters", "exchange", "(II)I"⟩ ∈ lw_g := lw_gin (List.mem_of_getElem? (i := 719) (by decide +kernel)) rfl
theorem w720 : Cond.instanceMethod ⟨"NecklaceSisters", "exchange", "(II)I"⟩ ∈ lw_g := lw_gin (List.mem_of_getElem? (i := 720) (by decide +kernel)) rfl
theorem w721 : Cond.selects "NecklaceSisters" ⟨"NecklaceSisters", "exchange", "(II)I"⟩ ⟨"NecklaceSisters", "exchange", "(II)I"⟩ ∈ lw_g := lw_gin (List.mem_of_getElem? (i := 721) (by decide +kernel)) rfl
theorem w722 : Cond.code yX7_exchange cX7_exchange 3 (some .int) ∈ lw_g := lw_gin (List.mem_of_getElem? (i := 722) (by decide +kernel)) rfl
theorem w723 : Cond.methodLink "NecklaceSisters" 206 ⟨"NecklaceSisters$Necklace", "swapJewels", "(II)Z"⟩ ∈ lw_g := lw_gin (List.mem_of_getElem? (i := 723) (by decide +kernel)) rfl
theorem w724 : Cond.methodLink "NecklaceSistersLaw" 143 ⟨"NecklaceSistersLaw", "breakAt", "(LNecklaceSisters;I[J)I"⟩ ∈ lw_g := lw_gin (List.mem_of_getElem? (i := 724) (by decide +kernel)) rfl
theorem w727 : Cond.methodLink "NecklaceSistersLaw" 45 ⟨"NecklaceSisters", "breakAt", "(I)I"⟩ ∈ lw_g := lw_gin (List.mem_of_getElem? (i := 727) (by decide +kernel)) rfl
theorem w728 : Cond.instanceMethod ⟨"NecklaceSisters", "breakAt", "(I)I"⟩ ∈ lw_g := lw_gin (List.mem_of_getElem? (i := 728) (by decide +kernel)) rfl
theorem w729 : Cond.selects "NecklaceSisters" ⟨"NecklaceSisters", "breakAt", "(I)I"⟩ ⟨"NecklaceSisters", "breakAt", "(I)I"⟩ ∈ lw_g := lw_gin (List.mem_of_getElem? (i := 729) (by decide +kernel)) rfl
theorem w730 : Cond.code yX7_breakAt cX7_breakAt 3 (some .int) ∈ lw_g := lw_gin (List.mem_of_getElem? (i := 730) (by decide +kernel)) rfl
theorem w731 : Cond.methodLink "NecklaceSisters" 209 ⟨"NecklaceSisters$Necklace", "breakAhead", "(I)Z"⟩ ∈ lw_g := lw_gin (List.mem_of_getElem? (i := 731) (by decide +kernel)) rfl
theorem w732 : Cond.methodLink "NecklaceSistersLaw" 150 ⟨"NecklaceSistersLaw", "cut", "(LNecklaceSisters;IZ[J)I"⟩ ∈ lw_g := lw_gin (List.mem_of_getElem? (i := 732) (by decide +kernel)) rfl
theorem w735 : Cond.methodLink "NecklaceSistersLaw" 48 ⟨"NecklaceSisters", "cut", "(IZ)I"⟩ ∈ lw_g := lw_gin (List.mem_of_getElem? (i := 735) (by decide +kernel)) rfl
theorem w736 : Cond.instanceMethod ⟨"NecklaceSisters", "cut", "(IZ)I"⟩ ∈ lw_g := lw_gin (List.mem_of_getElem? (i := 736) (by decide +kernel)) rfl
theorem w737 : Cond.selects "NecklaceSisters" ⟨"NecklaceSisters", "cut", "(IZ)I"⟩ ⟨"NecklaceSisters", "cut", "(IZ)I"⟩ ∈ lw_g := lw_gin (List.mem_of_getElem? (i := 737) (by decide +kernel)) rfl
theorem w738 : Cond.code yX7_cut cX7_cut 3 (some .int) ∈ lw_g := lw_gin (List.mem_of_getElem? (i := 738) (by decide +kernel)) rfl
theorem w739 : Cond.methodLink "NecklaceSisters" 215 ⟨"NecklaceSisters$Necklace", "canBeCutAt", "(I)Z"⟩ ∈ lw_g := lw_gin (List.mem_of_getElem? (i := 739) (by decide +kernel)) rfl
theorem w740 : Cond.methodLink "NecklaceSisters" 218 ⟨"NecklaceSisters$Necklace", "setCut", "(IZ)Z"⟩ ∈ lw_g := lw_gin (List.mem_of_getElem? (i := 740) (by decide +kernel)) rfl
theorem w741 : Cond.methodLink "NecklaceSistersLaw" 154 ⟨"NecklaceSistersLaw", "give", "(LNecklaceSisters;II[J)I"⟩ ∈ lw_g := lw_gin (List.mem_of_getElem? (i := 741) (by decide +kernel)) rfl
theorem w744 : Cond.methodLink "NecklaceSistersLaw" 52 ⟨"NecklaceSisters", "give", "(II)I"⟩ ∈ lw_g := lw_gin (List.mem_of_getElem? (i := 744) (by decide +kernel)) rfl
theorem w745 : Cond.instanceMethod ⟨"NecklaceSisters", "give", "(II)I"⟩ ∈ lw_g := lw_gin (List.mem_of_getElem? (i := 745) (by decide +kernel)) rfl
theorem w746 : Cond.selects "NecklaceSisters" ⟨"NecklaceSisters", "give", "(II)I"⟩ ⟨"NecklaceSisters", "give", "(II)I"⟩ ∈ lw_g := lw_gin (List.mem_of_getElem? (i := 746) (by decide +kernel)) rfl
theorem w747 : Cond.code yX7_give cX7_give 3 (some .int) ∈ lw_g := lw_gin (List.mem_of_getElem? (i := 747) (by decide +kernel)) rfl
theorem w748 : Cond.methodLink "NecklaceSisters" 222 ⟨"NecklaceSisters", "isOwner", "(I)Z"⟩ ∈ lw_g := lw_gin (List.mem_of_getElem? (i := 748) (by decide +kernel)) rfl
theorem w750 : Cond.methodLink "NecklaceSistersLaw" 157 ⟨"NecklaceSistersLaw", "take", "(LNecklaceSisters;I[J)I"⟩ ∈ lw_g := lw_gin (List.mem_of_getElem? (i := 750) (by decide +kernel)) rfl
theorem w753 : Cond.methodLink "NecklaceSistersLaw" 55 ⟨"NecklaceSisters", "take", "(I)I"⟩ ∈ lw_g := lw_gin (List.mem_of_getElem? (i := 753) (by decide +kernel)) rfl
theorem w754 : Cond.instanceMethod ⟨"NecklaceSisters", "take", "(I)I"⟩ ∈ lw_g := lw_gin (List.mem_of_getElem? (i := 754) (by decide +kernel)) rfl
theorem w755 : Cond.selects "NecklaceSisters" ⟨"NecklaceSisters", "take", "(I)I"⟩ ⟨"NecklaceSisters", "take", "(I)I"⟩ ∈ lw_g := lw_gin (List.mem_of_getElem? (i := 755) (by decide +kernel)) rfl
theorem w756 : Cond.code yX7_take cX7_take 3 (some .int) ∈ lw_g := lw_gin (List.mem_of_getElem? (i := 756) (by decide +kernel)) rfl
theorem w757 : Cond.methodLink "NecklaceSisters" 233 ⟨"NecklaceSisters$Necklace", "takeRun", "(I)Z"⟩ ∈ lw_g := lw_gin (List.mem_of_getElem? (i := 757) (by decide +kernel)) rfl
theorem w758 : Cond.methodLink "NecklaceSistersLaw" 160 ⟨"NecklaceSistersLaw", "deal", "(LNecklaceSisters;I[J)I"⟩ ∈ lw_g := lw_gin (List.mem_of_getElem? (i := 758) (by decide +kernel)) rfl
theorem w761 : Cond.methodLink "NecklaceSistersLaw" 58 ⟨"NecklaceSisters", "deal", "(I)I"⟩ ∈ lw_g := lw_gin (List.mem_of_getElem? (i := 761) (by decide +kernel)) rfl
theorem w762 : Cond.instanceMethod ⟨"NecklaceSisters", "deal", "(I)I"⟩ ∈ lw_g := lw_gin (List.mem_of_getElem? (i := 762) (by decide +kernel)) rfl
theorem w763 : Cond.selects "NecklaceSisters" ⟨"NecklaceSisters", "deal", "(I)I"⟩ ⟨"NecklaceSisters", "deal", "(I)I"⟩ ∈ lw_g := lw_gin (List.mem_of_getElem? (i := 763) (by decide +kernel)) rfl
theorem w764 : Cond.code yX7_deal cX7_deal 2 (some .int) ∈ lw_g := lw_gin (List.mem_of_getElem? (i := 764) (by decide +kernel)) rfl
theorem w766 : Cond.methodLink "NecklaceSisters" 238 ⟨"NecklaceSisters$Necklace", "dealRuns", "(I)Z"⟩ ∈ lw_g := lw_gin (List.mem_of_getElem? (i := 766) (by decide +kernel)) rfl
theorem w767 : Cond.methodLink "NecklaceSistersLaw" 163 ⟨"NecklaceSistersLaw", "divide", "(LNecklaceSisters;[J)I"⟩ ∈ lw_g := lw_gin (List.mem_of_getElem? (i := 767) (by decide +kernel)) rfl
theorem w770 : Cond.methodLink "NecklaceSistersLaw" 61 ⟨"NecklaceSisters", "divide", "()I"⟩ ∈ lw_g := lw_gin (List.mem_of_getElem? (i := 770) (by decide +kernel)) rfl
theorem w771 : Cond.instanceMethod ⟨"NecklaceSisters", "divide", "()I"⟩ ∈ lw_g := lw_gin (List.mem_of_getElem? (i := 771) (by decide +kernel)) rfl
theorem w772 : Cond.selects "NecklaceSisters" ⟨"NecklaceSisters", "divide", "()I"⟩ ⟨"NecklaceSisters", "divide", "()I"⟩ ∈ lw_g := lw_gin (List.mem_of_getElem? (i := 772) (by decide +kernel)) rfl
theorem w773 : Cond.code yX7_divide cX7_divide 3 (some .int) ∈ lw_g := lw_gin (List.mem_of_getElem? (i := 773) (by decide +kernel)) rfl
theorem w774 : Cond.methodLink "NecklaceSisters" 241 ⟨"NecklaceSisters", "fewestCuts", "()I"⟩ ∈ lw_g := lw_gin (List.mem_of_getElem? (i := 774) (by decide +kernel)) rfl
theorem w776 : Cond.instanceMethod ⟨"NecklaceSisters", "fewestCuts", "()I"⟩ ∈ lw_g := lw_gin (List.mem_of_getElem? (i := 776) (by decide +kernel)) rfl
theorem w777 : Cond.code yX7_fewestCuts cX7_fewestCuts 1 (some .int) ∈ lw_g := lw_gin (List.mem_of_getElem? (i := 777) (by decide +kernel)) rfl
theorem w779 : Cond.methodLink "NecklaceSisters" 246 ⟨"NecklaceSisters$Necklace", "loosen", "()V"⟩ ∈ lw_g := lw_gin (List.mem_of_getElem? (i := 779) (by decide +kernel)) rfl
theorem w780 : Cond.methodLink "NecklaceSisters" 249 ⟨"NecklaceSisters$Division", "foundCut", "(I)I"⟩ ∈ lw_g := lw_gin (List.mem_of_getElem? (i := 780) (by decide +kernel)) rfl
theorem w781 : Cond.instanceMethod ⟨"NecklaceSisters$Division", "foundCut", "(I)I"⟩ ∈ lw_g := lw_gin (List.mem_of_getElem? (i := 781) (by decide +kernel)) rfl
theorem w782 : Cond.selects "NecklaceSisters$Division" ⟨"NecklaceSisters$Division", "foundCut", "(I)I"⟩ ⟨"NecklaceSisters$Division", "foundCut", "(I)I"⟩ ∈ lw_g := lw_gin (List.mem_of_getElem? (i := 782) (by decide +kernel)) rfl
theorem w783 : Cond.code yX0_foundCut cX0_foundCut 2 (some .int) ∈ lw_g := lw_gin (List.mem_of_getElem? (i := 783) (by decide +kernel)) rfl
theorem w784 : Cond.methodLink "NecklaceSistersLaw" 166 ⟨"NecklaceSistersLaw", "set", "(LNecklaceSisters;I[J)I"⟩ ∈ lw_g := lw_gin (List.mem_of_getElem? (i := 784) (by decide +kernel)) rfl
theorem w787 : Cond.methodLink "NecklaceSistersLaw" 64 ⟨"NecklaceSisters", "set", "(I)I"⟩ ∈ lw_g := lw_gin (List.mem_of_getElem? (i := 787) (by decide +kernel)) rfl
theorem w788 : Cond.instanceMethod ⟨"NecklaceSisters", "set", "(I)I"⟩ ∈ lw_g := lw_gin (List.mem_of_getElem? (i := 788) (by decide +kernel)) rfl
theorem w789 : Cond.selects "NecklaceSisters" ⟨"NecklaceSisters", "set", "(I)I"⟩ ⟨"NecklaceSisters", "set", "(I)I"⟩ ∈ lw_g := lw_gin (List.mem_of_getElem? (i := 789) (by decide +kernel)) rfl
theorem w790 : Cond.code yX7_set cX7_set 3 (some .int) ∈ lw_g := lw_gin (List.mem_of_getElem? (i := 790) (by decide +kernel)) rfl
theorem w791 : Cond.methodLink "NecklaceSisters" 252 ⟨"NecklaceSisters", "isSetting", "(I)Z"⟩ ∈ lw_g := lw_gin (List.mem_of_getElem? (i := 791) (by decide +kernel)) rfl
theorem w793 : Cond.methodLink "NecklaceSisters" 257 ⟨"NecklaceSisters$Necklace", "chooseSetting", "(I)Z"⟩ ∈ lw_g := lw_gin (List.mem_of_getElem? (i := 793) (by decide +kernel)) rfl
theorem w794 : Cond.methodLink "NecklaceSistersLaw" 169 ⟨"NecklaceSistersLaw", "undo", "(LNecklaceSisters;[J)I"⟩ ∈ lw_g := lw_gin (List.mem_of_getElem? (i := 794) (by decide +kernel)) rfl
theorem w797 : Cond.methodLink "NecklaceSistersLaw" 67 ⟨"NecklaceSisters", "undo", "()I"⟩ ∈ lw_g := lw_gin (List.mem_of_getElem? (i := 797) (by decide +kernel)) rfl
theorem w798 : Cond.instanceMethod ⟨"NecklaceSisters", "undo", "()I"⟩ ∈ lw_g := lw_gin (List.mem_of_getElem? (i := 798) (by decide +kernel)) rfl
theorem w799 : Cond.selects "NecklaceSisters" ⟨"NecklaceSisters", "undo", "()I"⟩ ⟨"NecklaceSisters", "undo", "()I"⟩ ∈ lw_g := lw_gin (List.mem_of_getElem? (i := 799) (by decide +kernel)) rfl
theorem w800 : Cond.code yX7_undo cX7_undo 1 (some .int) ∈ lw_g := lw_gin (List.mem_of_getElem? (i := 800) (by decide +kernel)) rfl
theorem w802 : Cond.methodLink "NecklaceSisters" 265 ⟨"NecklaceSisters$History", "takeBack", "(LNecklaceSisters$Necklace;)V"⟩ ∈ lw_g := lw_gin (List.mem_of_getElem? (i := 802) (by decide +kernel)) rfl
theorem w803 : Cond.instanceMethod ⟨"NecklaceSisters$History", "takeBack", "(LNecklaceSisters$Necklace;)V"⟩ ∈ lw_g := lw_gin (List.mem_of_getElem? (i := 803) (by decide +kernel)) rfl
theorem w804 : Cond.selects "NecklaceSisters$History" ⟨"NecklaceSisters$History", "takeBack", "(LNecklaceSisters$Necklace;)V"⟩ ⟨"NecklaceSisters$History", "takeBack", "(LNecklaceSisters$Necklace;)V"⟩ ∈ lw_g := lw_gin (List.mem_of_getElem? (i := 804) (by decide +kernel)) rfl
theorem w805 : Cond.code yX1_takeBack cX1_takeBack 3 none ∈ lw_g := lw_gin (List.mem_of_getElem? (i := 805) (by decide +kernel)) rfl
theorem w806 : Cond.methodLink "NecklaceSistersLaw" 172 ⟨"NecklaceSistersLaw", "fewest", "(LNecklaceSisters;I[J)I"⟩ ∈ lw_g := lw_gin (List.mem_of_getElem? (i := 806) (by decide +kernel)) rfl
theorem w809 : Cond.methodLink "NecklaceSistersLaw" 70 ⟨"NecklaceSisters", "fewest", "(I)I"⟩ ∈ lw_g := lw_gin (List.mem_of_getElem? (i := 809) (by decide +kernel)) rfl
theorem w810 : Cond.instanceMethod ⟨"NecklaceSisters", "fewest", "(I)I"⟩ ∈ lw_g := lw_gin (List.mem_of_getElem? (i := 810) (by decide +kernel)) rfl
theorem w811 : Cond.selects "NecklaceSisters" ⟨"NecklaceSisters", "fewest", "(I)I"⟩ ⟨"NecklaceSisters", "fewest", "(I)I"⟩ ∈ lw_g := lw_gin (List.mem_of_getElem? (i := 811) (by decide +kernel)) rfl
theorem w812 : Cond.code yX7_fewest cX7_fewest 2 (some .int) ∈ lw_g := lw_gin (List.mem_of_getElem? (i := 812) (by decide +kernel)) rfl
theorem w814 : Cond.methodLink "NecklaceSisters" 274 ⟨"NecklaceSisters$Division", "fewestByOwners", "()I"⟩ ∈ lw_g := lw_gin (List.mem_of_getElem? (i := 814) (by decide +kernel)) rfl
theorem w815 : Cond.instanceMethod ⟨"NecklaceSisters$Division", "fewestByOwners", "()I"⟩ ∈ lw_g := lw_gin (List.mem_of_getElem? (i := 815) (by decide +kernel)) rfl
theorem w816 : Cond.selects "NecklaceSisters$Division" ⟨"NecklaceSisters$Division", "fewestByOwners", "()I"⟩ ⟨"NecklaceSisters$Division", "fewestByOwners", "()I"⟩ ∈ lw_g := lw_gin (List.mem_of_getElem? (i := 816) (by decide +kernel)) rfl
theorem w817 : Cond.code yX0_fewestByOwners cX0_fewestByOwners 9 (some .int) ∈ lw_g := lw_gin (List.mem_of_getElem? (i := 817) (by decide +kernel)) rfl
theorem w818 : Cond.methodLink "NecklaceSisters$Division" 67 ⟨"java/lang/Integer", "numberOfTrailingZeros", "(I)I"⟩ ∈ lw_g := lw_gin (List.mem_of_getElem? (i := 818) (by decide +kernel)) rfl
theorem w819 : Cond.static ⟨"java/lang/Integer", "numberOfTrailingZeros", "(I)I"⟩ ∈ lw_g := lw_gin (List.mem_of_getElem? (i := 819) (by decide +kernel)) rfl
theorem w820 : Cond.code yJ6_numberOfTrailingZeros_0f7a4 cJ6_numberOfTrailingZeros_0f7a4 2 (some .int) ∈ lw_g := lw_gin (List.mem_of_getElem? (i := 820) (by decide +kernel)) rfl
theorem w821 : Cond.constant "java/lang/Integer" 264 (65536) ∈ lw_g := lw_gin (List.mem_of_getElem? (i := 821) (by decide +kernel)) rfl
theorem w822 : Cond.methodLink "NecklaceSisters$Division" 72 ⟨"java/lang/Integer", "bitCount", "(I)I"⟩ ∈ lw_g := lw_gin (List.mem_of_getElem? (i := 822) (by decide +kernel)) rfl
theorem w823 : Cond.methodLink "NecklaceSisters$Division" 75 ⟨"java/lang/Math", "min", "(II)I"⟩ ∈ lw_g := lw_gin (List.mem_of_getElem? (i := 823) (by decide +kernel)) rfl
theorem w824 : Cond.methodLink "NecklaceSistersLaw" 175 ⟨"NecklaceSistersLaw", "divided", "(LNecklaceSisters;I[J)I"⟩ ∈ lw_g := lw_gin (List.mem_of_getElem? (i := 824) (by decide +kernel)) rfl
theorem w827 : Cond.methodLink "NecklaceSistersLaw" 73 ⟨"NecklaceSisters", "divided", "(I)I"⟩ ∈ lw_g := lw_gin (List.mem_of_getElem? (i := 827) (by decide +kernel)) rfl
theorem w828 : Cond.instanceMethod ⟨"NecklaceSisters", "divided", "(I)I"⟩ ∈ lw_g := lw_gin (List.mem_of_getElem? (i := 828) (by decide +kernel)) rfl
theorem w829 : Cond.selects "NecklaceSisters" ⟨"NecklaceSisters", "divided", "(I)I"⟩ ⟨"NecklaceSisters", "divided", "(I)I"⟩ ∈ lw_g := lw_gin (List.mem_of_getElem? (i := 829) (by decide +kernel)) rfl
theorem w830 : Cond.code yX7_divided cX7_divided 2 (some .int) ∈ lw_g := lw_gin (List.mem_of_getElem? (i := 830) (by decide +kernel)) rfl
theorem w832 : Cond.methodLink "NecklaceSistersLaw" 178 ⟨"NecklaceSistersLaw", "leastGap", "(LNecklaceSisters;I[J)I"⟩ ∈ lw_g := lw_gin (List.mem_of_getElem? (i := 832) (by decide +kernel)) rfl
theorem w835 : Cond.methodLink "NecklaceSistersLaw" 76 ⟨"NecklaceSisters", "leastGap", "(I)I"⟩ ∈ lw_g := lw_gin (List.mem_of_getElem? (i := 835) (by decide +kernel)) rfl
theorem w836 : Cond.instanceMethod ⟨"NecklaceSisters", "leastGap", "(I)I"⟩ ∈ lw_g := lw_gin (List.mem_of_getElem? (i := 836) (by decide +kernel)) rfl
theorem w837 : Cond.selects "NecklaceSisters" ⟨"NecklaceSisters", "leastGap", "(I)I"⟩ ⟨"NecklaceSisters", "leastGap", "(I)I"⟩ ∈ lw_g := lw_gin (List.mem_of_getElem? (i := 837) (by decide +kernel)) rfl
theorem w838 : Cond.code yX7_leastGap cX7_leastGap 2 (some .int) ∈ lw_g := lw_gin (List.mem_of_getElem? (i := 838) (by decide +kernel)) rfl
theorem w840 : Cond.methodLink "NecklaceSisters" 281 ⟨"NecklaceSisters$Division", "leastGapWithin", "(I)I"⟩ ∈ lw_g := lw_gin (List.mem_of_getElem? (i := 840) (by decide +kernel)) rfl
theorem w841 : Cond.instanceMethod ⟨"NecklaceSisters$Division", "leastGapWithin", "(I)I"⟩ ∈ lw_g := lw_gin (List.mem_of_getElem? (i := 841) (by decide +kernel)) rfl
theorem w842 : Cond.selects "NecklaceSisters$Division" ⟨"NecklaceSisters$Division", "leastGapWithin", "(I)I"⟩ ⟨"NecklaceSisters$Division", "leastGapWithin", "(I)I"⟩ ∈ lw_g := lw_gin (List.mem_of_getElem? (i := 842) (by decide +kernel)) rfl
theorem w843 : Cond.code yX0_leastGapWithin cX0_leastGapWithin 2 (some .int) ∈ lw_g := lw_gin (List.mem_of_getElem? (i := 843) (by decide +kernel)) rfl
theorem w844 : Cond.methodLink "NecklaceSisters$Division" 81 ⟨"NecklaceSisters$Division", "leastFrom", "(LNecklaceSisters$Division;IIIJ)I"⟩ ∈ lw_g := lw_gin (List.mem_of_getElem? (i := 844) (by decide +kernel)) rfl
theorem w845 : Cond.static ⟨"NecklaceSisters$Division", "leastFrom", "(LNecklaceSisters$Division;IIIJ)I"⟩ ∈ lw_g := lw_gin (List.mem_of_getElem? (i := 845) (by decide +kernel)) rfl
theorem w846 : Cond.code yX0_leastFrom cX0_leastFrom 8 (some .int) ∈ lw_g := lw_gin (List.mem_of_getElem? (i := 846) (by decide +kernel)) rfl
theorem w847 : Cond.methodLink "NecklaceSisters$Division" 85 ⟨"NecklaceSisters$Division", "gapOf", "(J)I"⟩ ∈ lw_g := lw_gin (List.mem_of_getElem? (i := 847) (by decide +kernel)) rfl
theorem w849 : Cond.instanceMethod ⟨"NecklaceSisters$Division", "gapOf", "(J)I"⟩ ∈ lw_g := lw_gin (List.mem_of_getElem? (i := 849) (by decide +kernel)) rfl
theorem w850 : Cond.code yX0_gapOf cX0_gapOf 9 (some .int) ∈ lw_g := lw_gin (List.mem_of_getElem? (i := 850) (by decide +kernel)) rfl
theorem w851 : Cond.constant "NecklaceSisters$Division" 89 (65535) ∈ lw_g := lw_gin (List.mem_of_getElem? (i := 851) (by decide +kernel)) rfl
theorem w852 : Cond.methodLink "NecklaceSisters$Division" 90 ⟨"java/lang/Math", "abs", "(I)I"⟩ ∈ lw_g := lw_gin (List.mem_of_getElem? (i := 852) (by decide +kernel)) rfl
theorem w853 : Cond.methodLink "NecklaceSistersLaw" 189 ⟨"NecklaceSistersLaw", "ifGiven", "(LNecklaceSisters;II[J)I"⟩ ∈ lw_g := lw_gin (List.mem_of_getElem? (i := 853) (by decide +kernel)) rfl
theorem w856 : Cond.methodLink "NecklaceSistersLaw" 79 ⟨"NecklaceSisters", "ifGiven", "(II)I"⟩ ∈ lw_g := lw_gin (List.mem_of_getElem? (i := 856) (by decide +kernel)) rfl
theorem w857 : Cond.instanceMethod ⟨"NecklaceSisters", "ifGiven", "(II)I"⟩ ∈ lw_g := lw_gin (List.mem_of_getElem? (i := 857) (by decide +kernel)) rfl
theorem w858 : Cond.selects "NecklaceSisters" ⟨"NecklaceSisters", "ifGiven", "(II)I"⟩ ⟨"NecklaceSisters", "ifGiven", "(II)I"⟩ ∈ lw_g := lw_gin (List.mem_of_getElem? (i := 858) (by decide +kernel)) rfl
theorem w859 : Cond.code yX7_ifGiven cX7_ifGiven 3 (some .int) ∈ lw_g := lw_gin (List.mem_of_getElem? (i := 859) (by decide +kernel)) rfl
theorem w860 : Cond.methodLink "NecklaceSistersLaw" 194 ⟨"NecklaceSistersLaw", "runScript", "(LNecklaceSisters;IJ[J)I"⟩ ∈ lw_g := lw_gin (List.mem_of_getElem? (i := 860) (by decide +kernel)) rfl
theorem w863 : Cond.methodLink "NecklaceSistersLaw" 82 ⟨"NecklaceSisters", "runScript", "(IJ)I"⟩ ∈ lw_g := lw_gin (List.mem_of_getElem? (i := 863) (by decide +kernel)) rfl
theorem w864 : Cond.instanceMethod ⟨"NecklaceSisters", "runScript", "(IJ)I"⟩ ∈ lw_g := lw_gin (List.mem_of_getElem? (i := 864) (by decide +kernel)) rfl
theorem w865 : Cond.selects "NecklaceSisters" ⟨"NecklaceSisters", "runScript", "(IJ)I"⟩ ⟨"NecklaceSisters", "runScript", "(IJ)I"⟩ ∈ lw_g := lw_gin (List.mem_of_getElem? (i := 865) (by decide +kernel)) rfl
theorem w866 : Cond.code yX7_runScript cX7_runScript 6 (some .int) ∈ lw_g := lw_gin (List.mem_of_getElem? (i := 866) (by decide +kernel)) rfl
theorem w868 : Cond.methodLink "NecklaceSisters" 292 ⟨"NecklaceSisters$Script", "groupsAbove", "(JI)J"⟩ ∈ lw_g := lw_gin (List.mem_of_getElem? (i := 868) (by decide +kernel)) rfl
theorem w869 : Cond.static ⟨"NecklaceSisters$Script", "groupsAbove", "(JI)J"⟩ ∈ lw_g := lw_gin (List.mem_of_getElem? (i := 869) (by decide +kernel)) rfl
theorem w870 : Cond.code yX3_groupsAbove cX3_groupsAbove 6 (some .long) ∈ lw_g := lw_gin (List.mem_of_getElem? (i := 870) (by decide +kernel)) rfl
theorem w871 : Cond.constantLong "NecklaceSisters$Script" 9 (100000) ∈ lw_g := lw_gin (List.mem_of_getElem? (i := 871) (by decide +kernel)) rfl
theorem w873 : Cond.constantLong "NecklaceSisters" 303 (100000) ∈ lw_g := lw_gin (List.mem_of_getElem? (i := 873) (by decide +kernel)) rfl
theorem w874 : Cond.methodLink "NecklaceSisters" 305 ⟨"NecklaceSisters$Script", "succeeds", "(ILNecklaceSisters$Necklace;LNecklaceSisters$Division;)Z"⟩ ∈ lw_g := lw_gin (List.mem_of_getElem? (i := 874) (by decide +kernel)) rfl
theorem w875 : Cond.static ⟨"NecklaceSisters$Script", "succeeds", "(ILNecklaceSisters$Necklace;LNecklaceSisters$Division;)Z"⟩ ∈ lw_g := lw_gin (List.mem_of_getElem? (i := 875) (by decide +kernel)) rfl
theorem w876 : Cond.code yX3_succeeds cX3_succeeds 6 (some .boolean) ∈ lw_g := lw_gin (List.mem_of_getElem? (i := 876) (by decide +kernel)) rfl
theorem w877 : Cond.methodLink "NecklaceSisters$Script" 11 ⟨"NecklaceSisters$Necklace", "setCut", "(IZ)Z"⟩ ∈ lw_g := lw_gin (List.mem_of_getElem? (i := 877) (by decide +kernel)) rfl
theorem w879 : Cond.methodLink "NecklaceSisters$Script" 21 ⟨"NecklaceSisters$Necklace", "giveRun", "(II)Z"⟩ ∈ lw_g := lw_gin (List.mem_of_getElem? (i := 879) (by decide +kernel)) rfl
theorem w880 : Cond.methodLink "NecklaceSisters$Script" 25 ⟨"NecklaceSisters$Necklace", "takeRun", "(I)Z"⟩ ∈ lw_g := lw_gin (List.mem_of_getElem? (i := 880) (by decide +kernel)) rfl
theorem w881 : Cond.methodLink "NecklaceSisters$Script" 29 ⟨"NecklaceSisters$Necklace", "dealRuns", "(I)Z"⟩ ∈ lw_g := lw_gin (List.mem_of_getElem? (i := 881) (by decide +kernel)) rfl
theorem w882 : Cond.methodLink "NecklaceSisters$Script" 32 ⟨"NecklaceSisters$Necklace", "breakAhead", "(I)Z"⟩ ∈ lw_g := lw_gin (List.mem_of_getElem? (i := 882) (by decide +kernel)) rfl
theorem w883 : Cond.methodLink "NecklaceSisters$Script" 35 ⟨"NecklaceSisters$Necklace", "gap", "()I"⟩ ∈ lw_g := lw_gin (List.mem_of_getElem? (i := 883) (by decide +kernel)) rfl
theorem w884 : Cond.methodLink "NecklaceSisters$Script" 39 ⟨"NecklaceSisters$Script", "isDividedWithin", "(ILNecklaceSisters$Necklace;LNecklaceSisters$Division;)Z"⟩ ∈ lw_g := lw_gin (List.mem_of_getElem? (i := 884) (by decide +kernel)) rfl
theorem w885 : Cond.static ⟨"NecklaceSisters$Script", "isDividedWithin", "(ILNecklaceSisters$Necklace;LNecklaceSisters$Division;)Z"⟩ ∈ lw_g := lw_gin (List.mem_of_getElem? (i := 885) (by decide +kernel)) rfl
theorem w886 : Cond.code yX3_isDividedWithin cX3_isDividedWithin 3 (some .boolean) ∈ lw_g := lw_gin (List.mem_of_getElem? (i := 886) (by decide +kernel)) rfl
theorem w887 : Cond.methodLink "NecklaceSisters$Script" 65 ⟨"NecklaceSisters$Division", "weigh", "(LNecklaceSisters$Necklace;I)V"⟩ ∈ lw_g := lw_gin (List.mem_of_getElem? (i := 887) (by decide +kernel)) rfl
theorem w888 : Cond.methodLink "NecklaceSisters$Script" 71 ⟨"NecklaceSisters$Division", "fewestByCuts", "(I)I"⟩ ∈ lw_g := lw_gin (List.mem_of_getElem? (i := 888) (by decide +kernel)) rfl
theorem w889 : Cond.methodLink "NecklaceSisters$Script" 45 ⟨"NecklaceSisters$Necklace", "hasPlace", "(I)Z"⟩ ∈ lw_g := lw_gin (List.mem_of_getElem? (i := 889) (by decide +kernel)) rfl
theorem w890 : Cond.methodLink "NecklaceSisters$Script" 48 ⟨"NecklaceSisters$Necklace", "ownerAt", "(I)I"⟩ ∈ lw_g := lw_gin (List.mem_of_getElem? (i := 890) (by decide +kernel)) rfl
theorem w893 : Cond.methodLink "NecklaceSisters$Script" 57 ⟨"NecklaceSisters$Necklace", "holding", "(II)I"⟩ ∈ lw_g := lw_gin (List.mem_of_getElem? (i := 893) (by decide +kernel)) rfl
theorem w894 : Cond.methodLink "NecklaceSistersLaw" 198 ⟨"NecklaceSistersLaw", "simulate", "(LNecklaceSisters;JI[J)I"⟩ ∈ lw_g := lw_gin (List.mem_of_getElem? (i := 894) (by decide +kernel)) rfl
theorem w897 : Cond.methodLink "NecklaceSistersLaw" 86 ⟨"NecklaceSisters", "simulate", "(JI)I"⟩ ∈ lw_g := lw_gin (List.mem_of_getElem? (i := 897) (by decide +kernel)) rfl
theorem w898 : Cond.instanceMethod ⟨"NecklaceSisters", "simulate", "(JI)I"⟩ ∈ lw_g := lw_gin (List.mem_of_getElem? (i := 898) (by decide +kernel)) rfl
theorem w899 : Cond.selects "NecklaceSisters" ⟨"NecklaceSisters", "simulate", "(JI)I"⟩ ⟨"NecklaceSisters", "simulate", "(JI)I"⟩ ∈ lw_g := lw_gin (List.mem_of_getElem? (i := 899) (by decide +kernel)) rfl
theorem w900 : Cond.code yX7_simulate cX7_simulate 4 (some .int) ∈ lw_g := lw_gin (List.mem_of_getElem? (i := 900) (by decide +kernel)) rfl
theorem w902 : Cond.methodLink "NecklaceSisters" 311 ⟨"NecklaceSisters$Simulation", "play", "(JILNecklaceSisters$Necklace;)V"⟩ ∈ lw_g := lw_gin (List.mem_of_getElem? (i := 902) (by decide +kernel)) rfl
theorem w903 : Cond.static ⟨"NecklaceSisters$Simulation", "play", "(JILNecklaceSisters$Necklace;)V"⟩ ∈ lw_g := lw_gin (List.mem_of_getElem? (i := 903) (by decide +kernel)) rfl
theorem w904 : Cond.code yX4_play cX4_play 7 none ∈ lw_g := lw_gin (List.mem_of_getElem? (i := 904) (by decide +kernel)) rfl
theorem w905 : Cond.constantLong "NecklaceSisters$Simulation" 7 (6364136223846793005) ∈ lw_g := lw_gin (List.mem_of_getElem? (i := 905) (by decide +kernel)) rfl
theorem w906 : Cond.constantLong "NecklaceSisters$Simulation" 9 (1442695040888963407) ∈ lw_g := lw_gin (List.mem_of_getElem? (i := 906) (by decide +kernel)) rfl
theorem w907 : Cond.methodLink "NecklaceSisters$Simulation" 11 ⟨"NecklaceSisters$Simulation", "turn", "(ILNecklaceSisters$Necklace;)V"⟩ ∈ lw_g := lw_gin (List.mem_of_getElem? (i := 907) (by decide +kernel)) rfl
theorem w908 : Cond.static ⟨"NecklaceSisters$Simulation", "turn", "(ILNecklaceSisters$Necklace;)V"⟩ ∈ lw_g := lw_gin (List.mem_of_getElem? (i := 908) (by decide +kernel)) rfl
theorem w909 : Cond.code yX4_turn cX4_turn 4 none ∈ lw_g := lw_gin (List.mem_of_getElem? (i := 909) (by decide +kernel)) rfl
theorem w910 : Cond.methodLink "NecklaceSisters$Simulation" 17 ⟨"NecklaceSisters$Necklace", "addJewel", "(II)Z"⟩ ∈ lw_g := lw_gin (List.mem_of_getElem? (i := 910) (by decide +kernel)) rfl
theorem w911 : Cond.methodLink "NecklaceSisters$Simulation" 23 ⟨"NecklaceSisters$Necklace", "setCut", "(IZ)Z"⟩ ∈ lw_g := lw_gin (List.mem_of_getElem? (i := 911) (by decide +kernel)) rfl
theorem w912 : Cond.methodLink "NecklaceSisters$Simulation" 27 ⟨"NecklaceSisters$Necklace", "giveRun", "(II)Z"⟩ ∈ lw_g := lw_gin (List.mem_of_getElem? (i := 912) (by decide +kernel)) rfl
theorem w913 : Cond.methodLink "NecklaceSisters$Simulation" 30 ⟨"NecklaceSisters$Necklace", "takeRun", "(I)Z"⟩ ∈ lw_g := lw_gin (List.mem_of_getElem? (i := 913) (by decide +kernel)) rfl
theorem w914 : Cond.methodLink "NecklaceSisters$Simulation" 34 ⟨"NecklaceSisters$Necklace", "dealRuns", "(I)Z"⟩ ∈ lw_g := lw_gin (List.mem_of_getElem? (i := 914) (by decide +kernel)) rfl
theorem w915 : Cond.methodLink "NecklaceSisters$Simulation" 37 ⟨"NecklaceSisters$Simulation", "moveJewels", "(ILNecklaceSisters$Necklace;)V"⟩ ∈ lw_g := lw_gin (List.mem_of_getElem? (i := 915) (by decide +kernel)) rfl
theorem w916 : Cond.static ⟨"NecklaceSisters$Simulation", "moveJewels", "(ILNecklaceSisters$Necklace;)V"⟩ ∈ lw_g := lw_gin (List.mem_of_getElem? (i := 916) (by decide +kernel)) rfl
theorem w917 : Cond.code yX4_moveJewels cX4_moveJewels 2 none ∈ lw_g := lw_gin (List.mem_of_getElem? (i := 917) (by decide +kernel)) rfl
theorem w918 : Cond.methodLink "NecklaceSisters$Simulation" 46 ⟨"NecklaceSisters$Necklace", "breakAhead", "(I)Z"⟩ ∈ lw_g := lw_gin (List.mem_of_getElem? (i := 918) (by decide +kernel)) rfl
theorem w919 : Cond.methodLink "NecklaceSisters$Simulation" 49 ⟨"NecklaceSisters$Necklace", "swapJewels", "(II)Z"⟩ ∈ lw_g := lw_gin (List.mem_of_getElem? (i := 919) (by decide +kernel)) rfl
theorem w920 : Cond.methodLink "NecklaceSisters$Simulation" 40 ⟨"NecklaceSisters$Necklace", "chooseSetting", "(I)Z"⟩ ∈ lw_g := lw_gin (List.mem_of_getElem? (i := 920) (by decide +kernel)) rfl
theorem w921 : Cond.methodLink "NecklaceSisters$Simulation" 43 ⟨"NecklaceSisters$Necklace", "reverseRing", "()V"⟩ ∈ lw_g := lw_gin (List.mem_of_getElem? (i := 921) (by decide +kernel)) rfl
theorem w922 : Cond.methodLink "NecklaceSisters" 317 ⟨"java/lang/Math", "min", "(II)I"⟩ ∈ lw_g := lw_gin (List.mem_of_getElem? (i := 922) (by decide +kernel)) rfl
theorem w923 : Cond.methodLink "NecklaceSistersLaw" 202 ⟨"NecklaceSistersLaw", "save", "(LNecklaceSisters;I[J)I"⟩ ∈ lw_g := lw_gin (List.mem_of_getElem? (i := 923) (by decide +kernel)) rfl
theorem w926 : Cond.methodLink "NecklaceSistersLaw" 90 ⟨"NecklaceSisters", "save", "(I)I"⟩ ∈ lw_g := lw_gin (List.mem_of_getElem? (i := 926) (by decide +kernel)) rfl
theorem w927 : Cond.instanceMethod ⟨"NecklaceSisters", "save", "(I)I"⟩ ∈ lw_g := lw_gin (List.mem_of_getElem? (i := 927) (by decide +kernel)) rfl
theorem w928 : Cond.selects "NecklaceSisters" ⟨"NecklaceSisters", "save", "(I)I"⟩ ⟨"NecklaceSisters", "save", "(I)I"⟩ ∈ lw_g := lw_gin (List.mem_of_getElem? (i := 928) (by decide +kernel)) rfl
theorem w929 : Cond.code yX7_save cX7_save 3 (some .int) ∈ lw_g := lw_gin (List.mem_of_getElem? (i := 929) (by decide +kernel)) rfl
theorem w931 : Cond.methodLink "NecklaceSistersLaw" 205 ⟨"NecklaceSistersLaw", "restore", "(LNecklaceSisters;I[J)I"⟩ ∈ lw_g := lw_gin (List.mem_of_getElem? (i := 931) (by decide +kernel)) rfl
theorem w934 : Cond.methodLink "NecklaceSistersLaw" 93 ⟨"NecklaceSisters", "restore", "(I)I"⟩ ∈ lw_g := lw_gin (List.mem_of_getElem? (i := 934) (by decide +kernel)) rfl
theorem w935 : Cond.instanceMethod ⟨"NecklaceSisters", "restore", "(I)I"⟩ ∈ lw_g := lw_gin (List.mem_of_getElem? (i := 935) (by decide +kernel)) rfl
theorem w936 : Cond.selects "NecklaceSisters" ⟨"NecklaceSisters", "restore", "(I)I"⟩ ⟨"NecklaceSisters", "restore", "(I)I"⟩ ∈ lw_g := lw_gin (List.mem_of_getElem? (i := 936) (by decide +kernel)) rfl
theorem w937 : Cond.code yX7_restore cX7_restore 3 (some .int) ∈ lw_g := lw_gin (List.mem_of_getElem? (i := 937) (by decide +kernel)) rfl
theorem w941 : Cond.methodLink "NecklaceSistersLaw" 99 ⟨"NecklaceSistersModel", "<init>", "()V"⟩ ∈ lw_g := lw_gin (List.mem_of_getElem? (i := 941) (by decide +kernel)) rfl
theorem w944 : Cond.methodLink "NecklaceSistersModel" 1 ⟨"java/lang/Object", "<init>", "()V"⟩ ∈ lw_g := lw_gin (List.mem_of_getElem? (i := 944) (by decide +kernel)) rfl
theorem w945 : Cond.methodLink "NecklaceSistersModel" 35 ⟨"NecklaceSistersModel", "clear", "([I)V"⟩ ∈ lw_g := lw_gin (List.mem_of_getElem? (i := 945) (by decide +kernel)) rfl
theorem w946 : Cond.static ⟨"NecklaceSistersModel", "clear", "([I)V"⟩ ∈ lw_g := lw_gin (List.mem_of_getElem? (i := 946) (by decide +kernel)) rfl
theorem w947 : Cond.code yX8_clear cX8_clear 2 none ∈ lw_g := lw_gin (List.mem_of_getElem? (i := 947) (by decide +kernel)) rfl
theorem w948 : Cond.methodLink "NecklaceSistersModel" 43 ⟨"NecklaceSistersModel", "free", "([I)V"⟩ ∈ lw_g := lw_gin (List.mem_of_getElem? (i := 948) (by decide +kernel)) rfl
theorem w949 : Cond.static ⟨"NecklaceSistersModel", "free", "([I)V"⟩ ∈ lw_g := lw_gin (List.mem_of_getElem? (i := 949) (by decide +kernel)) rfl
theorem w950 : Cond.code yX8_free cX8_free 2 none ∈ lw_g := lw_gin (List.mem_of_getElem? (i := 950) (by decide +kernel)) rfl
theorem w951 : Cond.fieldLink "NecklaceSistersModel" 39 "NecklaceSistersModel" "refusal" "I" ∈ lw_g := lw_gin (List.mem_of_getElem? (i := 951) (by decide +kernel)) rfl
theorem w952 : Cond.fieldLink "NecklaceSistersModel" 7 "NecklaceSistersModel" "text" "[I" ∈ lw_g := lw_gin (List.mem_of_getElem? (i := 952) (by decide +kernel)) rfl
theorem w953 : Cond.fieldLink "NecklaceSistersModel" 112 "NecklaceSistersModel" "size" "I" ∈ lw_g := lw_gin (List.mem_of_getElem? (i := 953) (by decide +kernel)) rfl
theorem w954 : Cond.fieldLink "NecklaceSistersModel" 13 "NecklaceSistersModel" "now" "[I" ∈ lw_g := lw_gin (List.mem_of_getElem? (i := 954) (by decide +kernel)) rfl
theorem w955 : Cond.fieldLink "NecklaceSistersModel" 16 "NecklaceSistersModel" "trial" "[I" ∈ lw_g := lw_gin (List.mem_of_getElem? (i := 955) (by decide +kernel)) rfl
theorem w956 : Cond.fieldLink "NecklaceSistersModel" 19 "NecklaceSistersModel" "diary" "[I" ∈ lw_g := lw_gin (List.mem_of_getElem? (i := 956) (by decide +kernel)) rfl
theorem w957 : Cond.fieldLink "NecklaceSistersModel" 179 "NecklaceSistersModel" "acts" "I" ∈ lw_g := lw_gin (List.mem_of_getElem? (i := 957) (by decide +kernel)) rfl
theorem w958 : Cond.fieldLink "NecklaceSistersModel" 22 "NecklaceSistersModel" "kept" "[I" ∈ lw_g := lw_gin (List.mem_of_getElem? (i := 958) (by decide +kernel)) rfl
theorem w959 : Cond.fieldLink "NecklaceSistersModel" 25 "NecklaceSistersModel" "isKept" "[Z" ∈ lw_g := lw_gin (List.mem_of_getElem? (i := 959) (by decide +kernel)) rfl
theorem w960 : Cond.fieldLink "NecklaceSistersModel" 29 "NecklaceSistersModel" "ahead" "[I" ∈ lw_g := lw_gin (List.mem_of_getElem? (i := 960) (by decide +kernel)) rfl
theorem w961 : Cond.fieldLink "NecklaceSistersModel" 32 "NecklaceSistersModel" "tried" "[I" ∈ lw_g := lw_gin (List.mem_of_getElem? (i := 961) (by decide +kernel)) rfl
theorem w962 : Cond.fieldLink "NecklaceSistersModel" 119 "NecklaceSistersModel" "spot" "I" ∈ lw_g := lw_gin (List.mem_of_getElem? (i := 962) (by decide +kernel)) rfl
theorem w963 : Cond.fieldLink "NecklaceSistersModel" 124 "NecklaceSistersModel" "out" "I" ∈ lw_g := lw_gin (List.mem_of_getElem? (i := 963) (by decide +kernel)) rfl
theorem w992 : Cond.methodLink "NecklaceSistersLaw" 106 ⟨"NecklaceSistersModel", "thrown", "()I"⟩ ∈ lw_g := lw_gin (List.mem_of_getElem? (i := 992) (by decide +kernel)) rfl
theorem w993 : Cond.instanceMethod ⟨"NecklaceSistersModel", "thrown", "()I"⟩ ∈ lw_g := lw_gin (List.mem_of_getElem? (i := 993) (by decide +kernel)) rfl
theorem w994 : Cond.selects "NecklaceSistersModel" ⟨"NecklaceSistersModel", "thrown", "()I"⟩ ⟨"NecklaceSistersModel", "thrown", "()I"⟩ ∈ lw_g := lw_gin (List.mem_of_getElem? (i := 994) (by decide +kernel)) rfl
theorem w995 : Cond.code yX8_thrown cX8_thrown 1 (some .int) ∈ lw_g := lw_gin (List.mem_of_getElem? (i := 995) (by decide +kernel)) rfl
theorem w996 : Cond.methodLink "NecklaceSistersLaw" 105 ⟨"NecklaceSistersModel", "append", "(I)I"⟩ ∈ lw_g := lw_gin (List.mem_of_getElem? (i := 996) (by decide +kernel)) rfl
theorem w997 : Cond.instanceMethod ⟨"NecklaceSistersModel", "append", "(I)I"⟩ ∈ lw_g := lw_gin (List.mem_of_getElem? (i := 997) (by decide +kernel)) rfl
theorem w998 : Cond.selects "NecklaceSistersModel" ⟨"NecklaceSistersModel", "append", "(I)I"⟩ ⟨"NecklaceSistersModel", "append", "(I)I"⟩ ∈ lw_g := lw_gin (List.mem_of_getElem? (i := 998) (by decide +kernel)) rfl
theorem w999 : Cond.code yX8_append cX8_append 2 (some .int) ∈ lw_g := lw_gin (List.mem_of_getElem? (i := 999) (by decide +kernel)) rfl
theorem w1000 : Cond.constantLong "NecklaceSistersModel" 110 (255) ∈ lw_g := lw_gin (List.mem_of_getElem? (i := 1000) (by decide +kernel)) rfl
theorem w1001 : Cond.methodLink "NecklaceSistersModel" 46 ⟨"NecklaceSistersModel", "in", "(JJJ)Z"⟩ ∈ lw_g := lw_gin (List.mem_of_getElem? (i := 1001) (by decide +kernel)) rfl
theorem w1002 : Cond.static ⟨"NecklaceSistersModel", "in", "(JJJ)Z"⟩ ∈ lw_g := lw_gin (List.mem_of_getElem? (i := 1002) (by decide +kernel)) rfl
theorem w1003 : Cond.code yX8_in cX8_in 6 (some .boolean) ∈ lw_g := lw_gin (List.mem_of_getElem? (i := 1003) (by decide +kernel)) rfl
theorem w1004 : Cond.methodLink "NecklaceSistersModel" 115 ⟨"NecklaceSistersModel", "refused", "(I)Z"⟩ ∈ lw_g := lw_gin (List.mem_of_getElem? (i := 1004) (by decide +kernel)) rfl
theorem w1006 : Cond.instanceMethod ⟨"NecklaceSistersModel", "refused", "(I)Z"⟩ ∈ lw_g := lw_gin (List.mem_of_getElem? (i := 1006) (by decide +kernel)) rfl
theorem w1007 : Cond.code yX8_refused cX8_refused 2 (some .boolean) ∈ lw_g := lw_gin (List.mem_of_getElem? (i := 1007) (by decide +kernel)) rfl
theorem w1008 : Cond.methodLink "NecklaceSistersLaw" 112 ⟨"NecklaceSistersModel", "clearText", "()I"⟩ ∈ lw_g := lw_gin (List.mem_of_getElem? (i := 1008) (by decide +kernel)) rfl
theorem w1009 : Cond.instanceMethod ⟨"NecklaceSistersModel", "clearText", "()I"⟩ ∈ lw_g := lw_gin (List.mem_of_getElem? (i := 1009) (by decide +kernel)) rfl
theorem w1010 : Cond.selects "NecklaceSistersModel" ⟨"NecklaceSistersModel", "clearText", "()I"⟩ ⟨"NecklaceSistersModel", "clearText", "()I"⟩ ∈ lw_g := lw_gin (List.mem_of_getElem? (i := 1010) (by decide +kernel)) rfl
theorem w1011 : Cond.code yX8_clearText cX8_clearText 2 (some .int) ∈ lw_g := lw_gin (List.mem_of_getElem? (i := 1011) (by decide +kernel)) rfl
theorem w1012 : Cond.methodLink "NecklaceSistersLaw" 116 ⟨"NecklaceSistersModel", "errorPosition", "()I"⟩ ∈ lw_g := lw_gin (List.mem_of_getElem? (i := 1012) (by decide +kernel)) rfl
theorem w1013 : Cond.instanceMethod ⟨"NecklaceSistersModel", "errorPosition", "()I"⟩ ∈ lw_g := lw_gin (List.mem_of_getElem? (i := 1013) (by decide +kernel)) rfl
theorem w1014 : Cond.selects "NecklaceSistersModel" ⟨"NecklaceSistersModel", "errorPosition", "()I"⟩ ⟨"NecklaceSistersModel", "errorPosition", "()I"⟩ ∈ lw_g := lw_gin (List.mem_of_getElem? (i := 1014) (by decide +kernel)) rfl
theorem w1015 : Cond.code yX8_errorPosition cX8_errorPosition 1 (some .int) ∈ lw_g := lw_gin (List.mem_of_getElem? (i := 1015) (by decide +kernel)) rfl
theorem w1016 : Cond.methodLink "NecklaceSistersModel" 172 ⟨"NecklaceSistersModel", "readText", "([I)I"⟩ ∈ lw_g := lw_gin (List.mem_of_getElem? (i := 1016) (by decide +kernel)) rfl
theorem w1018 : Cond.instanceMethod ⟨"NecklaceSistersModel", "readText", "([I)I"⟩ ∈ lw_g := lw_gin (List.mem_of_getElem? (i := 1018) (by decide +kernel)) rfl
theorem w1019 : Cond.code yX8_readText cX8_readText 2 (some .int) ∈ lw_g := lw_gin (List.mem_of_getElem? (i := 1019) (by decide +kernel)) rfl
theorem w1020 : Cond.methodLink "NecklaceSistersModel" 169 ⟨"NecklaceSistersModel", "readCommand", "([I)Z"⟩ ∈ lw_g := lw_gin (List.mem_of_getElem? (i := 1020) (by decide +kernel)) rfl
theorem w1022 : Cond.instanceMethod ⟨"NecklaceSistersModel", "readCommand", "([I)Z"⟩ ∈ lw_g := lw_gin (List.mem_of_getElem? (i := 1022) (by decide +kernel)) rfl
theorem w1023 : Cond.code yX8_readCommand cX8_readCommand 5 (some .boolean) ∈ lw_g := lw_gin (List.mem_of_getElem? (i := 1023) (by decide +kernel)) rfl
theorem w1024 : Cond.methodLink "NecklaceSistersModel" 140 ⟨"NecklaceSistersModel", "readJewel", "([I)Z"⟩ ∈ lw_g := lw_gin (List.mem_of_getElem? (i := 1024) (by decide +kernel)) rfl
theorem w1026 : Cond.instanceMethod ⟨"NecklaceSistersModel", "readJewel", "([I)Z"⟩ ∈ lw_g := lw_gin (List.mem_of_getElem? (i := 1026) (by decide +kernel)) rfl
theorem w1027 : Cond.code yX8_readJewel cX8_readJewel 4 (some .boolean) ∈ lw_g := lw_gin (List.mem_of_getElem? (i := 1027) (by decide +kernel)) rfl
theorem w1028 : Cond.constantLong "NecklaceSistersModel" 127 (3) ∈ lw_g := lw_gin (List.mem_of_getElem? (i := 1028) (by decide +kernel)) rfl
theorem w1029 : Cond.methodLink "NecklaceSistersModel" 129 ⟨"NecklaceSistersModel", "figures", "(IIII)I"⟩ ∈ lw_g := lw_gin (List.mem_of_getElem? (i := 1029) (by decide +kernel)) rfl
theorem w1031 : Cond.instanceMethod ⟨"NecklaceSistersModel", "figures", "(IIII)I"⟩ ∈ lw_g := lw_gin (List.mem_of_getElem? (i := 1031) (by decide +kernel)) rfl
theorem w1032 : Cond.code yX8_figures cX8_figures 9 (some .int) ∈ lw_g := lw_gin (List.mem_of_getElem? (i := 1032) (by decide +kernel)) rfl
theorem w1033 : Cond.constantLong "NecklaceSistersModel" 122 (9) ∈ lw_g := lw_gin (List.mem_of_getElem? (i := 1033) (by decide +kernel)) rfl
theorem w1034 : Cond.methodLink "NecklaceSistersModel" 133 ⟨"NecklaceSistersModel", "jewelOn", "([III)I"⟩ ∈ lw_g := lw_gin (List.mem_of_getElem? (i := 1034) (by decide +kernel)) rfl
theorem w1035 : Cond.static ⟨"NecklaceSistersModel", "jewelOn", "([III)I"⟩ ∈ lw_g := lw_gin (List.mem_of_getElem? (i := 1035) (by decide +kernel)) rfl
theorem w1036 : Cond.code yX8_jewelOn cX8_jewelOn 4 (some .int) ∈ lw_g := lw_gin (List.mem_of_getElem? (i := 1036) (by decide +kernel)) rfl
theorem w1037 : Cond.methodLink "NecklaceSistersModel" 136 ⟨"NecklaceSistersModel", "done", "(Z)Z"⟩ ∈ lw_g := lw_gin (List.mem_of_getElem? (i := 1037) (by decide +kernel)) rfl
theorem w1039 : Cond.instanceMethod ⟨"NecklaceSistersModel", "done", "(Z)Z"⟩ ∈ lw_g := lw_gin (List.mem_of_getElem? (i := 1039) (by decide +kernel)) rfl
theorem w1040 : Cond.code yX8_done cX8_done 2 (some .boolean) ∈ lw_g := lw_gin (List.mem_of_getElem? (i := 1040) (by decide +kernel)) rfl
theorem w1041 : Cond.methodLink "NecklaceSistersModel" 144 ⟨"NecklaceSistersModel", "isJewel", "([II)Z"⟩ ∈ lw_g := lw_gin (List.mem_of_getElem? (i := 1041) (by decide +kernel)) rfl
theorem w1042 : Cond.static ⟨"NecklaceSistersModel", "isJewel", "([II)Z"⟩ ∈ lw_g := lw_gin (List.mem_of_getElem? (i := 1042) (by decide +kernel)) rfl
theorem w1043 : Cond.code yX8_isJewel cX8_isJewel 2 (some .boolean) ∈ lw_g := lw_gin (List.mem_of_getElem? (i := 1043) (by decide +kernel)) rfl
theorem w1044 : Cond.methodLink "NecklaceSistersModel" 147 ⟨"NecklaceSistersModel", "breakOn", "([II)I"⟩ ∈ lw_g := lw_gin (List.mem_of_getElem? (i := 1044) (by decide +kernel)) rfl
theorem w1045 : Cond.static ⟨"NecklaceSistersModel", "breakOn", "([II)I"⟩ ∈ lw_g := lw_gin (List.mem_of_getElem? (i := 1045) (by decide +kernel)) rfl
theorem w1046 : Cond.code yX8_breakOn cX8_breakOn 3 (some .int) ∈ lw_g := lw_gin (List.mem_of_getElem? (i := 1046) (by decide +kernel)) rfl
theorem w1047 : Cond.methodLink "NecklaceSistersModel" 150 ⟨"NecklaceSistersModel", "isCutPlace", "([II)Z"⟩ ∈ lw_g := lw_gin (List.mem_of_getElem? (i := 1047) (by decide +kernel)) rfl
theorem w1048 : Cond.static ⟨"NecklaceSistersModel", "isCutPlace", "([II)Z"⟩ ∈ lw_g := lw_gin (List.mem_of_getElem? (i := 1048) (by decide +kernel)) rfl
theorem w1049 : Cond.code yX8_isCutPlace cX8_isCutPlace 2 (some .boolean) ∈ lw_g := lw_gin (List.mem_of_getElem? (i := 1049) (by decide +kernel)) rfl
theorem w1050 : Cond.methodLink "NecklaceSistersModel" 153 ⟨"NecklaceSistersModel", "cutOn", "([IIZ)I"⟩ ∈ lw_g := lw_gin (List.mem_of_getElem? (i := 1050) (by decide +kernel)) rfl
theorem w1051 : Cond.static ⟨"NecklaceSistersModel", "cutOn", "([IIZ)I"⟩ ∈ lw_g := lw_gin (List.mem_of_getElem? (i := 1051) (by decide +kernel)) rfl
theorem w1052 : Cond.code yX8_cutOn cX8_cutOn 6 (some .int) ∈ lw_g := lw_gin (List.mem_of_getElem? (i := 1052) (by decide +kernel)) rfl
theorem w1053 : Cond.methodLink "NecklaceSistersModel" 60 ⟨"NecklaceSistersModel", "isCut", "([II)Z"⟩ ∈ lw_g := lw_gin (List.mem_of_getElem? (i := 1053) (by decide +kernel)) rfl
theorem w1054 : Cond.static ⟨"NecklaceSistersModel", "isCut", "([II)Z"⟩ ∈ lw_g := lw_gin (List.mem_of_getElem? (i := 1054) (by decide +kernel)) rfl
theorem w1055 : Cond.code yX8_isCut cX8_isCut 2 (some .boolean) ∈ lw_g := lw_gin (List.mem_of_getElem? (i := 1055) (by decide +kernel)) rfl
theorem w1056 : Cond.methodLink "NecklaceSistersModel" 64 ⟨"NecklaceSistersModel", "runAt", "([II)I"⟩ ∈ lw_g := lw_gin (List.mem_of_getElem? (i := 1056) (by decide +kernel)) rfl
theorem w1057 : Cond.static ⟨"NecklaceSistersModel", "runAt", "([II)I"⟩ ∈ lw_g := lw_gin (List.mem_of_getElem? (i := 1057) (by decide +kernel)) rfl
theorem w1058 : Cond.code yX8_runAt cX8_runAt 4 (some .int) ∈ lw_g := lw_gin (List.mem_of_getElem? (i := 1058) (by decide +kernel)) rfl
theorem w1059 : Cond.methodLink "NecklaceSistersModel" 56 ⟨"NecklaceSistersModel", "runs", "([I)I"⟩ ∈ lw_g := lw_gin (List.mem_of_getElem? (i := 1059) (by decide +kernel)) rfl
theorem w1060 : Cond.static ⟨"NecklaceSistersModel", "runs", "([I)I"⟩ ∈ lw_g := lw_gin (List.mem_of_getElem? (i := 1060) (by decide +kernel)) rfl
theorem w1061 : Cond.code yX8_runs cX8_runs 1 (some .int) ∈ lw_g := lw_gin (List.mem_of_getElem? (i := 1061) (by decide +kernel)) rfl
theorem w1062 : Cond.methodLink "NecklaceSistersModel" 52 ⟨"NecklaceSistersModel", "bits", "(I)I"⟩ ∈ lw_g := lw_gin (List.mem_of_getElem? (i := 1062) (by decide +kernel)) rfl
theorem w1063 : Cond.static ⟨"NecklaceSistersModel", "bits", "(I)I"⟩ ∈ lw_g := lw_gin (List.mem_of_getElem? (i := 1063) (by decide +kernel)) rfl
theorem w1064 : Cond.code yX8_bits cX8_bits 3 (some .int) ∈ lw_g := lw_gin (List.mem_of_getElem? (i := 1064) (by decide +kernel)) rfl
theorem w1065 : Cond.methodLink "NecklaceSistersModel" 157 ⟨"NecklaceSistersModel", "isRun", "([II)Z"⟩ ∈ lw_g := lw_gin (List.mem_of_getElem? (i := 1065) (by decide +kernel)) rfl
theorem w1066 : Cond.static ⟨"NecklaceSistersModel", "isRun", "([II)Z"⟩ ∈ lw_g := lw_gin (List.mem_of_getElem? (i := 1066) (by decide +kernel)) rfl
theorem w1067 : Cond.code yX8_isRun cX8_isRun 2 (some .boolean) ∈ lw_g := lw_gin (List.mem_of_getElem? (i := 1067) (by decide +kernel)) rfl
theorem w1068 : Cond.methodLink "NecklaceSistersModel" 107 ⟨"NecklaceSistersModel", "giveOn", "([III)I"⟩ ∈ lw_g := lw_gin (List.mem_of_getElem? (i := 1068) (by decide +kernel)) rfl
theorem w1069 : Cond.static ⟨"NecklaceSistersModel", "giveOn", "([III)I"⟩ ∈ lw_g := lw_gin (List.mem_of_getElem? (i := 1069) (by decide +kernel)) rfl
theorem w1070 : Cond.code yX8_giveOn cX8_giveOn 4 (some .int) ∈ lw_g := lw_gin (List.mem_of_getElem? (i := 1070) (by decide +kernel)) rfl
theorem w1071 : Cond.methodLink "NecklaceSistersModel" 95 ⟨"NecklaceSistersModel", "gap", "([I)I"⟩ ∈ lw_g := lw_gin (List.mem_of_getElem? (i := 1071) (by decide +kernel)) rfl
theorem w1072 : Cond.static ⟨"NecklaceSistersModel", "gap", "([I)I"⟩ ∈ lw_g := lw_gin (List.mem_of_getElem? (i := 1072) (by decide +kernel)) rfl
theorem w1073 : Cond.code yX8_gap cX8_gap 4 (some .int) ∈ lw_g := lw_gin (List.mem_of_getElem? (i := 1073) (by decide +kernel)) rfl
theorem w1074 : Cond.methodLink "NecklaceSistersModel" 74 ⟨"NecklaceSistersModel", "hasOf", "([III)I"⟩ ∈ lw_g := lw_gin (List.mem_of_getElem? (i := 1074) (by decide +kernel)) rfl
theorem w1075 : Cond.static ⟨"NecklaceSistersModel", "hasOf", "([III)I"⟩ ∈ lw_g := lw_gin (List.mem_of_getElem? (i := 1075) (by decide +kernel)) rfl
theorem w1076 : Cond.code yX8_hasOf cX8_hasOf 6 (some .int) ∈ lw_g := lw_gin (List.mem_of_getElem? (i := 1076) (by decide +kernel)) rfl
theorem w1077 : Cond.methodLink "NecklaceSistersModel" 68 ⟨"NecklaceSistersModel", "jewelAt", "([II)I"⟩ ∈ lw_g := lw_gin (List.mem_of_getElem? (i := 1077) (by decide +kernel)) rfl
theorem w1078 : Cond.static ⟨"NecklaceSistersModel", "jewelAt", "([II)I"⟩ ∈ lw_g := lw_gin (List.mem_of_getElem? (i := 1078) (by decide +kernel)) rfl
theorem w1079 : Cond.code yX8_jewelAt cX8_jewelAt 2 (some .int) ∈ lw_g := lw_gin (List.mem_of_getElem? (i := 1079) (by decide +kernel)) rfl
theorem w1080 : Cond.methodLink "NecklaceSistersModel" 71 ⟨"NecklaceSistersModel", "valueOf", "([II)I"⟩ ∈ lw_g := lw_gin (List.mem_of_getElem? (i := 1080) (by decide +kernel)) rfl
theorem w1081 : Cond.static ⟨"NecklaceSistersModel", "valueOf", "([II)I"⟩ ∈ lw_g := lw_gin (List.mem_of_getElem? (i := 1081) (by decide +kernel)) rfl
theorem w1082 : Cond.code yX8_valueOf cX8_valueOf 2 (some .int) ∈ lw_g := lw_gin (List.mem_of_getElem? (i := 1082) (by decide +kernel)) rfl
theorem w1083 : Cond.methodLink "NecklaceSistersModel" 104 ⟨"NecklaceSistersModel", "whyNot", "([II)I"⟩ ∈ lw_g := lw_gin (List.mem_of_getElem? (i := 1083) (by decide +kernel)) rfl
theorem w1084 : Cond.static ⟨"NecklaceSistersModel", "whyNot", "([II)I"⟩ ∈ lw_g := lw_gin (List.mem_of_getElem? (i := 1084) (by decide +kernel)) rfl
theorem w1085 : Cond.code yX8_whyNot cX8_whyNot 3 (some .int) ∈ lw_g := lw_gin (List.mem_of_getElem? (i := 1085) (by decide +kernel)) rfl
theorem w1086 : Cond.methodLink "NecklaceSistersModel" 101 ⟨"NecklaceSistersModel", "firstOf", "([II)I"⟩ ∈ lw_g := lw_gin (List.mem_of_getElem? (i := 1086) (by decide +kernel)) rfl
theorem w1087 : Cond.static ⟨"NecklaceSistersModel", "firstOf", "([II)I"⟩ ∈ lw_g := lw_gin (List.mem_of_getElem? (i := 1087) (by decide +kernel)) rfl
theorem w1088 : Cond.code yX8_firstOf cX8_firstOf 3 (some .int) ∈ lw_g := lw_gin (List.mem_of_getElem? (i := 1088) (by decide +kernel)) rfl
theorem w1089 : Cond.methodLink "NecklaceSistersModel" 160 ⟨"NecklaceSistersModel", "takeOn", "([II)I"⟩ ∈ lw_g := lw_gin (List.mem_of_getElem? (i := 1089) (by decide +kernel)) rfl
theorem w1090 : Cond.static ⟨"NecklaceSistersModel", "takeOn", "([II)I"⟩ ∈ lw_g := lw_gin (List.mem_of_getElem? (i := 1090) (by decide +kernel)) rfl
theorem w1091 : Cond.code yX8_takeOn cX8_takeOn 3 (some .int) ∈ lw_g := lw_gin (List.mem_of_getElem? (i := 1091) (by decide +kernel)) rfl
theorem w1092 : Cond.methodLink "NecklaceSistersModel" 163 ⟨"NecklaceSistersModel", "dealOn", "([II)I"⟩ ∈ lw_g := lw_gin (List.mem_of_getElem? (i := 1092) (by decide +kernel)) rfl
theorem w1093 : Cond.static ⟨"NecklaceSistersModel", "dealOn", "([II)I"⟩ ∈ lw_g := lw_gin (List.mem_of_getElem? (i := 1093) (by decide +kernel)) rfl
theorem w1094 : Cond.code yX8_dealOn cX8_dealOn 3 (some .int) ∈ lw_g := lw_gin (List.mem_of_getElem? (i := 1094) (by decide +kernel)) rfl
theorem w1095 : Cond.methodLink "NecklaceSistersModel" 166 ⟨"NecklaceSistersModel", "roundOn", "([I)I"⟩ ∈ lw_g := lw_gin (List.mem_of_getElem? (i := 1095) (by decide +kernel)) rfl
theorem w1096 : Cond.static ⟨"NecklaceSistersModel", "roundOn", "([I)I"⟩ ∈ lw_g := lw_gin (List.mem_of_getElem? (i := 1096) (by decide +kernel)) rfl
theorem w1097 : Cond.code yX8_roundOn cX8_roundOn 2 (some .int) ∈ lw_g := lw_gin (List.mem_of_getElem? (i := 1097) (by decide +kernel)) rfl
theorem w1098 : Cond.methodLink "NecklaceSistersModel" 98 ⟨"NecklaceSistersModel", "exchangeOn", "([III)I"⟩ ∈ lw_g := lw_gin (List.mem_of_getElem? (i := 1098) (by decide +kernel)) rfl
theorem w1099 : Cond.static ⟨"NecklaceSistersModel", "exchangeOn", "([III)I"⟩ ∈ lw_g := lw_gin (List.mem_of_getElem? (i := 1099) (by decide +kernel)) rfl
theorem w1100 : Cond.code yX8_exchangeOn cX8_exchangeOn 5 (some .int) ∈ lw_g := lw_gin (List.mem_of_getElem? (i := 1100) (by decide +kernel)) rfl
theorem w1101 : Cond.methodLink "NecklaceSistersLaw" 120 ⟨"NecklaceSistersModel", "load", "()I"⟩ ∈ lw_g := lw_gin (List.mem_of_getElem? (i := 1101) (by decide +kernel)) rfl
theorem w1102 : Cond.instanceMethod ⟨"NecklaceSistersModel", "load", "()I"⟩ ∈ lw_g := lw_gin (List.mem_of_getElem? (i := 1102) (by decide +kernel)) rfl
theorem w1103 : Cond.selects "NecklaceSistersModel" ⟨"NecklaceSistersModel", "load", "()I"⟩ ⟨"NecklaceSistersModel", "load", "()I"⟩ ∈ lw_g := lw_gin (List.mem_of_getElem? (i := 1103) (by decide +kernel)) rfl
theorem w1104 : Cond.code yX8_load cX8_load 1 (some .int) ∈ lw_g := lw_gin (List.mem_of_getElem? (i := 1104) (by decide +kernel)) rfl
theorem w1105 : Cond.methodLink "NecklaceSistersModel" 175 ⟨"NecklaceSistersModel", "copyState", "([II[II)V"⟩ ∈ lw_g := lw_gin (List.mem_of_getElem? (i := 1105) (by decide +kernel)) rfl
theorem w1106 : Cond.static ⟨"NecklaceSistersModel", "copyState", "([II[II)V"⟩ ∈ lw_g := lw_gin (List.mem_of_getElem? (i := 1106) (by decide +kernel)) rfl
theorem w1107 : Cond.code yX8_copyState cX8_copyState 5 none ∈ lw_g := lw_gin (List.mem_of_getElem? (i := 1107) (by decide +kernel)) rfl
theorem w1108 : Cond.methodLink "NecklaceSistersLaw" 123 ⟨"NecklaceSistersModel", "about", "(I)I"⟩ ∈ lw_g := lw_gin (List.mem_of_getElem? (i := 1108) (by decide +kernel)) rfl
theorem w1109 : Cond.instanceMethod ⟨"NecklaceSistersModel", "about", "(I)I"⟩ ∈ lw_g := lw_gin (List.mem_of_getElem? (i := 1109) (by decide +kernel)) rfl
theorem w1110 : Cond.selects "NecklaceSistersModel" ⟨"NecklaceSistersModel", "about", "(I)I"⟩ ⟨"NecklaceSistersModel", "about", "(I)I"⟩ ∈ lw_g := lw_gin (List.mem_of_getElem? (i := 1110) (by decide +kernel)) rfl
theorem w1111 : Cond.code yX8_about cX8_about 2 (some .int) ∈ lw_g := lw_gin (List.mem_of_getElem? (i := 1111) (by decide +kernel)) rfl
theorem w1112 : Cond.methodLink "NecklaceSistersModel" 182 ⟨"NecklaceSistersModel", "nobodys", "([I)I"⟩ ∈ lw_g := lw_gin (List.mem_of_getElem? (i := 1112) (by decide +kernel)) rfl
theorem w1113 : Cond.static ⟨"NecklaceSistersModel", "nobodys", "([I)I"⟩ ∈ lw_g := lw_gin (List.mem_of_getElem? (i := 1113) (by decide +kernel)) rfl
theorem w1114 : Cond.code yX8_nobodys cX8_nobodys 3 (some .int) ∈ lw_g := lw_gin (List.mem_of_getElem? (i := 1114) (by decide +kernel)) rfl
theorem w1115 : Cond.methodLink "NecklaceSistersLaw" 127 ⟨"NecklaceSistersModel", "jewelOf", "(II)I"⟩ ∈ lw_g := lw_gin (List.mem_of_getElem? (i := 1115) (by decide +kernel)) rfl
theorem w1116 : Cond.instanceMethod ⟨"NecklaceSistersModel", "jewelOf", "(II)I"⟩ ∈ lw_g := lw_gin (List.mem_of_getElem? (i := 1116) (by decide +kernel)) rfl
theorem w1117 : Cond.selects "NecklaceSistersModel" ⟨"NecklaceSistersModel", "jewelOf", "(II)I"⟩ ⟨"NecklaceSistersModel", "jewelOf", "(II)I"⟩ ∈ lw_g := lw_gin (List.mem_of_getElem? (i := 1117) (by decide +kernel)) rfl
theorem w1118 : Cond.code yX8_jewelOf cX8_jewelOf 3 (some .int) ∈ lw_g := lw_gin (List.mem_of_getElem? (i := 1118) (by decide +kernel)) rfl
theorem w1119 : Cond.constantLong "NecklaceSistersModel" 185 (2) ∈ lw_g := lw_gin (List.mem_of_getElem? (i := 1119) (by decide +kernel)) rfl
theorem w1120 : Cond.methodLink "NecklaceSistersModel" 187 ⟨"NecklaceSistersModel", "placeOn", "([II)I"⟩ ∈ lw_g := lw_gin (List.mem_of_getElem? (i := 1120) (by decide +kernel)) rfl
theorem w1121 : Cond.static ⟨"NecklaceSistersModel", "placeOn", "([II)I"⟩ ∈ lw_g := lw_gin (List.mem_of_getElem? (i := 1121) (by decide +kernel)) rfl
theorem w1122 : Cond.code yX8_placeOn cX8_placeOn 2 (some .int) ∈ lw_g := lw_gin (List.mem_of_getElem? (i := 1122) (by decide +kernel)) rfl
theorem w1123 : Cond.methodLink "NecklaceSistersLaw" 130 ⟨"NecklaceSistersModel", "placeOf", "(II)I"⟩ ∈ lw_g := lw_gin (List.mem_of_getElem? (i := 1123) (by decide +kernel)) rfl
theorem w1124 : Cond.instanceMethod ⟨"NecklaceSistersModel", "placeOf", "(II)I"⟩ ∈ lw_g := lw_gin (List.mem_of_getElem? (i := 1124) (by decide +kernel)) rfl
theorem w1125 : Cond.selects "NecklaceSistersModel" ⟨"NecklaceSistersModel", "placeOf", "(II)I"⟩ ⟨"NecklaceSistersModel", "placeOf", "(II)I"⟩ ∈ lw_g := lw_gin (List.mem_of_getElem? (i := 1125) (by decide +kernel)) rfl
theorem w1126 : Cond.code yX8_placeOf cX8_placeOf 3 (some .int) ∈ lw_g := lw_gin (List.mem_of_getElem? (i := 1126) (by decide +kernel)) rfl
theorem w1127 : Cond.methodLink "NecklaceSistersLaw" 133 ⟨"NecklaceSistersModel", "runOf", "(II)I"⟩ ∈ lw_g := lw_gin (List.mem_of_getElem? (i := 1127) (by decide +kernel)) rfl
theorem w1128 : Cond.instanceMethod ⟨"NecklaceSistersModel", "runOf", "(II)I"⟩ ∈ lw_g := lw_gin (List.mem_of_getElem? (i := 1128) (by decide +kernel)) rfl
theorem w1129 : Cond.selects "NecklaceSistersModel" ⟨"NecklaceSistersModel", "runOf", "(II)I"⟩ ⟨"NecklaceSistersModel", "runOf", "(II)I"⟩ ∈ lw_g := lw_gin (List.mem_of_getElem? (i := 1129) (by decide +kernel)) rfl
theorem w1130 : Cond.code yX8_runOf cX8_runOf 7 (some .int) ∈ lw_g := lw_gin (List.mem_of_getElem? (i := 1130) (by decide +kernel)) rfl
theorem w1131 : Cond.methodLink "NecklaceSistersModel" 190 ⟨"NecklaceSistersModel", "placesOf", "([II)I"⟩ ∈ lw_g := lw_gin (List.mem_of_getElem? (i := 1131) (by decide +kernel)) rfl
theorem w1132 : Cond.static ⟨"NecklaceSistersModel", "placesOf", "([II)I"⟩ ∈ lw_g := lw_gin (List.mem_of_getElem? (i := 1132) (by decide +kernel)) rfl
theorem w1133 : Cond.code yX8_placesOf cX8_placesOf 4 (some .int) ∈ lw_g := lw_gin (List.mem_of_getElem? (i := 1133) (by decide +kernel)) rfl
theorem w1134 : Cond.methodLink "NecklaceSistersLaw" 136 ⟨"NecklaceSistersModel", "has", "(II)I"⟩ ∈ lw_g := lw_gin (List.mem_of_getElem? (i := 1134) (by decide +kernel)) rfl
theorem w1135 : Cond.instanceMethod ⟨"NecklaceSistersModel", "has", "(II)I"⟩ ∈ lw_g := lw_gin (List.mem_of_getElem? (i := 1135) (by decide +kernel)) rfl
theorem w1136 : Cond.selects "NecklaceSistersModel" ⟨"NecklaceSistersModel", "has", "(II)I"⟩ ⟨"NecklaceSistersModel", "has", "(II)I"⟩ ∈ lw_g := lw_gin (List.mem_of_getElem? (i := 1136) (by decide +kernel)) rfl
theorem w1137 : Cond.code yX8_has cX8_has 3 (some .int) ∈ lw_g := lw_gin (List.mem_of_getElem? (i := 1137) (by decide +kernel)) rfl
theorem w1138 : Cond.methodLink "NecklaceSistersLaw" 139 ⟨"NecklaceSistersModel", "jewel", "(II)I"⟩ ∈ lw_g := lw_gin (List.mem_of_getElem? (i := 1138) (by decide +kernel)) rfl
theorem w1139 : Cond.instanceMethod ⟨"NecklaceSistersModel", "jewel", "(II)I"⟩ ∈ lw_g := lw_gin (List.mem_of_getElem? (i := 1139) (by decide +kernel)) rfl
theorem w1140 : Cond.selects "NecklaceSistersModel" ⟨"NecklaceSistersModel", "jewel", "(II)I"⟩ ⟨"NecklaceSistersModel", "jewel", "(II)I"⟩ ∈ lw_g := lw_gin (List.mem_of_getElem? (i := 1140) (by decide +kernel)) rfl
theorem w1141 : Cond.code yX8_jewel cX8_jewel 3 (some .int) ∈ lw_g := lw_gin (List.mem_of_getElem? (i := 1141) (by decide +kernel)) rfl
theorem w1142 : Cond.methodLink "NecklaceSistersModel" 193 ⟨"NecklaceSistersModel", "remember", "()V"⟩ ∈ lw_g := lw_gin (List.mem_of_getElem? (i := 1142) (by decide +kernel)) rfl
theorem w1144 : Cond.instanceMethod ⟨"NecklaceSistersModel", "remember", "()V"⟩ ∈ lw_g := lw_gin (List.mem_of_getElem? (i := 1144) (by decide +kernel)) rfl
theorem w1145 : Cond.code yX8_remember cX8_remember 2 none ∈ lw_g := lw_gin (List.mem_of_getElem? (i := 1145) (by decide +kernel)) rfl
theorem w1146 : Cond.methodLink "NecklaceSistersLaw" 142 ⟨"NecklaceSistersModel", "exchange", "(II)I"⟩ ∈ lw_g := lw_gin (List.mem_of_getElem? (i := 1146) (by decide +kernel)) rfl
theorem w1147 : Cond.instanceMethod ⟨"NecklaceSistersModel", "exchange", "(II)I"⟩ ∈ lw_g := lw_gin (List.mem_of_getElem? (i := 1147) (by decide +kernel)) rfl
theorem w1148 : Cond.selects "NecklaceSistersModel" ⟨"NecklaceSistersModel", "exchange", "(II)I"⟩ ⟨"NecklaceSistersModel", "exchange", "(II)I"⟩ ∈ lw_g := lw_gin (List.mem_of_getElem? (i := 1148) (by decide +kernel)) rfl
theorem w1149 : Cond.code yX8_exchange cX8_exchange 3 (some .int) ∈ lw_g := lw_gin (List.mem_of_getElem? (i := 1149) (by decide +kernel)) rfl
theorem w1150 : Cond.methodLink "NecklaceSistersLaw" 145 ⟨"NecklaceSistersModel", "breakAt", "(I)I"⟩ ∈ lw_g := lw_gin (List.mem_of_getElem? (i := 1150) (by decide +kernel)) rfl
theorem w1151 : Cond.instanceMethod ⟨"NecklaceSistersModel", "breakAt", "(I)I"⟩ ∈ lw_g := lw_gin (List.mem_of_getElem? (i := 1151) (by decide +kernel)) rfl
theorem w1152 : Cond.selects "NecklaceSistersModel" ⟨"NecklaceSistersModel", "breakAt", "(I)I"⟩ ⟨"NecklaceSistersModel", "breakAt", "(I)I"⟩ ∈ lw_g := lw_gin (List.mem_of_getElem? (i := 1152) (by decide +kernel)) rfl
theorem w1153 : Cond.code yX8_breakAt cX8_breakAt 2 (some .int) ∈ lw_g := lw_gin (List.mem_of_getElem? (i := 1153) (by decide +kernel)) rfl
theorem w1154 : Cond.methodLink "NecklaceSistersLaw" 149 ⟨"NecklaceSistersModel", "turnRound", "()I"⟩ ∈ lw_g := lw_gin (List.mem_of_getElem? (i := 1154) (by decide +kernel)) rfl
theorem w1155 : Cond.instanceMethod ⟨"NecklaceSistersModel", "turnRound", "()I"⟩ ∈ lw_g := lw_gin (List.mem_of_getElem? (i := 1155) (by decide +kernel)) rfl
theorem w1156 : Cond.selects "NecklaceSistersModel" ⟨"NecklaceSistersModel", "turnRound", "()I"⟩ ⟨"NecklaceSistersModel", "turnRound", "()I"⟩ ∈ lw_g := lw_gin (List.mem_of_getElem? (i := 1156) (by decide +kernel)) rfl
theorem w1157 : Cond.code yX8_turnRound cX8_turnRound 1 (some .int) ∈ lw_g := lw_gin (List.mem_of_getElem? (i := 1157) (by decide +kernel)) rfl
theorem w1158 : Cond.methodLink "NecklaceSistersLaw" 153 ⟨"NecklaceSistersModel", "cut", "(IZ)I"⟩ ∈ lw_g := lw_gin (List.mem_of_getElem? (i := 1158) (by decide +kernel)) rfl
theorem w1159 : Cond.instanceMethod ⟨"NecklaceSistersModel", "cut", "(IZ)I"⟩ ∈ lw_g := lw_gin (List.mem_of_getElem? (i := 1159) (by decide +kernel)) rfl
theorem w1160 : Cond.selects "NecklaceSistersModel" ⟨"NecklaceSistersModel", "cut", "(IZ)I"⟩ ⟨"NecklaceSistersModel", "cut", "(IZ)I"⟩ ∈ lw_g := lw_gin (List.mem_of_getElem? (i := 1160) (by decide +kernel)) rfl
theorem w1161 : Cond.code yX8_cut cX8_cut 3 (some .int) ∈ lw_g := lw_gin (List.mem_of_getElem? (i := 1161) (by decide +kernel)) rfl
theorem w1162 : Cond.methodLink "NecklaceSistersLaw" 156 ⟨"NecklaceSistersModel", "give", "(II)I"⟩ ∈ lw_g := lw_gin (List.mem_of_getElem? (i := 1162) (by decide +kernel)) rfl
theorem w1163 : Cond.instanceMethod ⟨"NecklaceSistersModel", "give", "(II)I"⟩ ∈ lw_g := lw_gin (List.mem_of_getElem? (i := 1163) (by decide +kernel)) rfl
theorem w1164 : Cond.selects "NecklaceSistersModel" ⟨"NecklaceSistersModel", "give", "(II)I"⟩ ⟨"NecklaceSistersModel", "give", "(II)I"⟩ ∈ lw_g := lw_gin (List.mem_of_getElem? (i := 1164) (by decide +kernel)) rfl
theorem w1165 : Cond.code yX8_give cX8_give 3 (some .int) ∈ lw_g := lw_gin (List.mem_of_getElem? (i := 1165) (by decide +kernel)) rfl
theorem w1166 : Cond.methodLink "NecklaceSistersModel" 196 ⟨"NecklaceSistersModel", "isOwner", "(I)Z"⟩ ∈ lw_g := lw_gin (List.mem_of_getElem? (i := 1166) (by decide +kernel)) rfl
theorem w1167 : Cond.static ⟨"NecklaceSistersModel", "isOwner", "(I)Z"⟩ ∈ lw_g := lw_gin (List.mem_of_getElem? (i := 1167) (by decide +kernel)) rfl
theorem w1168 : Cond.code yX8_isOwner cX8_isOwner 1 (some .boolean) ∈ lw_g := lw_gin (List.mem_of_getElem? (i := 1168) (by decide +kernel)) rfl
theorem w1169 : Cond.constantLong "NecklaceSistersModel" 50 (-1) ∈ lw_g := lw_gin (List.mem_of_getElem? (i := 1169) (by decide +kernel)) rfl
theorem w1170 : Cond.methodLink "NecklaceSistersLaw" 159 ⟨"NecklaceSistersModel", "take", "(I)I"⟩ ∈ lw_g := lw_gin (List.mem_of_getElem? (i := 1170) (by decide +kernel)) rfl
theorem w1171 : Cond.instanceMethod ⟨"NecklaceSistersModel", "take", "(I)I"⟩ ∈ lw_g := lw_gin (List.mem_of_getElem? (i := 1171) (by decide +kernel)) rfl
theorem w1172 : Cond.selects "NecklaceSistersModel" ⟨"NecklaceSistersModel", "take", "(I)I"⟩ ⟨"NecklaceSistersModel", "take", "(I)I"⟩ ∈ lw_g := lw_gin (List.mem_of_getElem? (i := 1172) (by decide +kernel)) rfl
theorem w1173 : Cond.code yX8_take cX8_take 2 (some .int) ∈ lw_g := lw_gin (List.mem_of_getElem? (i := 1173) (by decide +kernel)) rfl
theorem w1174 : Cond.methodLink "NecklaceSistersLaw" 162 ⟨"NecklaceSistersModel", "deal", "(I)I"⟩ ∈ lw_g := lw_gin (List.mem_of_getElem? (i := 1174) (by decide +kernel)) rfl
theorem w1175 : Cond.instanceMethod ⟨"NecklaceSistersModel", "deal", "(I)I"⟩ ∈ lw_g := lw_gin (List.mem_of_getElem? (i := 1175) (by decide +kernel)) rfl
theorem w1176 : Cond.selects "NecklaceSistersModel" ⟨"NecklaceSistersModel", "deal", "(I)I"⟩ ⟨"NecklaceSistersModel", "deal", "(I)I"⟩ ∈ lw_g := lw_gin (List.mem_of_getElem? (i := 1176) (by decide +kernel)) rfl
theorem w1177 : Cond.code yX8_deal cX8_deal 2 (some .int) ∈ lw_g := lw_gin (List.mem_of_getElem? (i := 1177) (by decide +kernel)) rfl
theorem w1178 : Cond.methodLink "NecklaceSistersLaw" 165 ⟨"NecklaceSistersModel", "divide", "()I"⟩ ∈ lw_g := lw_gin (List.mem_of_getElem? (i := 1178) (by decide +kernel)) rfl
theorem w1179 : Cond.instanceMethod ⟨"NecklaceSistersModel", "divide", "()I"⟩ ∈ lw_g := lw_gin (List.mem_of_getElem? (i := 1179) (by decide +kernel)) rfl
theorem w1180 : Cond.selects "NecklaceSistersModel" ⟨"NecklaceSistersModel", "divide", "()I"⟩ ⟨"NecklaceSistersModel", "divide", "()I"⟩ ∈ lw_g := lw_gin (List.mem_of_getElem? (i := 1180) (by decide +kernel)) rfl
theorem w1181 : Cond.code yX8_divide cX8_divide 3 (some .int) ∈ lw_g := lw_gin (List.mem_of_getElem? (i := 1181) (by decide +kernel)) rfl
theorem w1182 : Cond.methodLink "NecklaceSistersModel" 199 ⟨"NecklaceSistersModel", "fewestOf", "([I)I"⟩ ∈ lw_g := lw_gin (List.mem_of_getElem? (i := 1182) (by decide +kernel)) rfl
theorem w1184 : Cond.instanceMethod ⟨"NecklaceSistersModel", "fewestOf", "([I)I"⟩ ∈ lw_g := lw_gin (List.mem_of_getElem? (i := 1184) (by decide +kernel)) rfl
theorem w1185 : Cond.code yX8_fewestOf cX8_fewestOf 3 (some .int) ∈ lw_g := lw_gin (List.mem_of_getElem? (i := 1185) (by decide +kernel)) rfl
theorem w1186 : Cond.methodLink "NecklaceSistersModel" 89 ⟨"NecklaceSistersModel", "layOut", "([I)V"⟩ ∈ lw_g := lw_gin (List.mem_of_getElem? (i := 1186) (by decide +kernel)) rfl
theorem w1188 : Cond.instanceMethod ⟨"NecklaceSistersModel", "layOut", "([I)V"⟩ ∈ lw_g := lw_gin (List.mem_of_getElem? (i := 1188) (by decide +kernel)) rfl
theorem w1189 : Cond.code yX8_layOut cX8_layOut 5 none ∈ lw_g := lw_gin (List.mem_of_getElem? (i := 1189) (by decide +kernel)) rfl
theorem w1190 : Cond.methodLink "NecklaceSistersModel" 92 ⟨"NecklaceSistersModel", "leastWith", "(II)I"⟩ ∈ lw_g := lw_gin (List.mem_of_getElem? (i := 1190) (by decide +kernel)) rfl
theorem w1192 : Cond.instanceMethod ⟨"NecklaceSistersModel", "leastWith", "(II)I"⟩ ∈ lw_g := lw_gin (List.mem_of_getElem? (i := 1192) (by decide +kernel)) rfl
theorem w1193 : Cond.code yX8_leastWith cX8_leastWith 6 (some .int) ∈ lw_g := lw_gin (List.mem_of_getElem? (i := 1193) (by decide +kernel)) rfl
theorem w1194 : Cond.methodLink "NecklaceSistersModel" 78 ⟨"NecklaceSistersModel", "firstWay", "(II)Z"⟩ ∈ lw_g := lw_gin (List.mem_of_getElem? (i := 1194) (by decide +kernel)) rfl
theorem w1196 : Cond.instanceMethod ⟨"NecklaceSistersModel", "firstWay", "(II)Z"⟩ ∈ lw_g := lw_gin (List.mem_of_getElem? (i := 1196) (by decide +kernel)) rfl
theorem w1197 : Cond.code yX8_firstWay cX8_firstWay 4 (some .boolean) ∈ lw_g := lw_gin (List.mem_of_getElem? (i := 1197) (by decide +kernel)) rfl
theorem w1198 : Cond.methodLink "NecklaceSistersModel" 82 ⟨"NecklaceSistersModel", "gapTried", "(II)I"⟩ ∈ lw_g := lw_gin (List.mem_of_getElem? (i := 1198) (by decide +kernel)) rfl
theorem w1200 : Cond.instanceMethod ⟨"NecklaceSistersModel", "gapTried", "(II)I"⟩ ∈ lw_g := lw_gin (List.mem_of_getElem? (i := 1200) (by decide +kernel)) rfl
theorem w1201 : Cond.code yX8_gapTried cX8_gapTried 10 (some .int) ∈ lw_g := lw_gin (List.mem_of_getElem? (i := 1201) (by decide +kernel)) rfl
theorem w1202 : Cond.methodLink "NecklaceSistersModel" 86 ⟨"NecklaceSistersModel", "nextWay", "(II)Z"⟩ ∈ lw_g := lw_gin (List.mem_of_getElem? (i := 1202) (by decide +kernel)) rfl
theorem w1204 : Cond.instanceMethod ⟨"NecklaceSistersModel", "nextWay", "(II)Z"⟩ ∈ lw_g := lw_gin (List.mem_of_getElem? (i := 1204) (by decide +kernel)) rfl
theorem w1205 : Cond.code yX8_nextWay cX8_nextWay 5 (some .boolean) ∈ lw_g := lw_gin (List.mem_of_getElem? (i := 1205) (by decide +kernel)) rfl
theorem w1206 : Cond.methodLink "NecklaceSistersLaw" 168 ⟨"NecklaceSistersModel", "set", "(I)I"⟩ ∈ lw_g := lw_gin (List.mem_of_getElem? (i := 1206) (by decide +kernel)) rfl
theorem w1207 : Cond.instanceMethod ⟨"NecklaceSistersModel", "set", "(I)I"⟩ ∈ lw_g := lw_gin (List.mem_of_getElem? (i := 1207) (by decide +kernel)) rfl
theorem w1208 : Cond.selects "NecklaceSistersModel" ⟨"NecklaceSistersModel", "set", "(I)I"⟩ ⟨"NecklaceSistersModel", "set", "(I)I"⟩ ∈ lw_g := lw_gin (List.mem_of_getElem? (i := 1208) (by decide +kernel)) rfl
theorem w1209 : Cond.code yX8_set cX8_set 3 (some .int) ∈ lw_g := lw_gin (List.mem_of_getElem? (i := 1209) (by decide +kernel)) rfl
theorem w1210 : Cond.methodLink "NecklaceSistersLaw" 171 ⟨"NecklaceSistersModel", "undo", "()I"⟩ ∈ lw_g := lw_gin (List.mem_of_getElem? (i := 1210) (by decide +kernel)) rfl
theorem w1211 : Cond.instanceMethod ⟨"NecklaceSistersModel", "undo", "()I"⟩ ∈ lw_g := lw_gin (List.mem_of_getElem? (i := 1211) (by decide +kernel)) rfl
theorem w1212 : Cond.selects "NecklaceSistersModel" ⟨"NecklaceSistersModel", "undo", "()I"⟩ ⟨"NecklaceSistersModel", "undo", "()I"⟩ ∈ lw_g := lw_gin (List.mem_of_getElem? (i := 1212) (by decide +kernel)) rfl
theorem w1213 : Cond.code yX8_undo cX8_undo 1 (some .int) ∈ lw_g := lw_gin (List.mem_of_getElem? (i := 1213) (by decide +kernel)) rfl
theorem w1214 : Cond.methodLink "NecklaceSistersLaw" 174 ⟨"NecklaceSistersModel", "fewest", "(I)I"⟩ ∈ lw_g := lw_gin (List.mem_of_getElem? (i := 1214) (by decide +kernel)) rfl
theorem w1215 : Cond.instanceMethod ⟨"NecklaceSistersModel", "fewest", "(I)I"⟩ ∈ lw_g := lw_gin (List.mem_of_getElem? (i := 1215) (by decide +kernel)) rfl
theorem w1216 : Cond.selects "NecklaceSistersModel" ⟨"NecklaceSistersModel", "fewest", "(I)I"⟩ ⟨"NecklaceSistersModel", "fewest", "(I)I"⟩ ∈ lw_g := lw_gin (List.mem_of_getElem? (i := 1216) (by decide +kernel)) rfl
theorem w1217 : Cond.code yX8_fewest cX8_fewest 2 (some .int) ∈ lw_g := lw_gin (List.mem_of_getElem? (i := 1217) (by decide +kernel)) rfl
theorem w1218 : Cond.methodLink "NecklaceSistersLaw" 177 ⟨"NecklaceSistersModel", "divided", "(I)I"⟩ ∈ lw_g := lw_gin (List.mem_of_getElem? (i := 1218) (by decide +kernel)) rfl
theorem w1219 : Cond.instanceMethod ⟨"NecklaceSistersModel", "divided", "(I)I"⟩ ∈ lw_g := lw_gin (List.mem_of_getElem? (i := 1219) (by decide +kernel)) rfl
theorem w1220 : Cond.selects "NecklaceSistersModel" ⟨"NecklaceSistersModel", "divided", "(I)I"⟩ ⟨"NecklaceSistersModel", "divided", "(I)I"⟩ ∈ lw_g := lw_gin (List.mem_of_getElem? (i := 1220) (by decide +kernel)) rfl
theorem w1221 : Cond.code yX8_divided cX8_divided 3 (some .int) ∈ lw_g := lw_gin (List.mem_of_getElem? (i := 1221) (by decide +kernel)) rfl
theorem w1222 : Cond.methodLink "NecklaceSistersLaw" 180 ⟨"NecklaceSistersModel", "leastGap", "(I)I"⟩ ∈ lw_g := lw_gin (List.mem_of_getElem? (i := 1222) (by decide +kernel)) rfl
theorem w1223 : Cond.instanceMethod ⟨"NecklaceSistersModel", "leastGap", "(I)I"⟩ ∈ lw_g := lw_gin (List.mem_of_getElem? (i := 1223) (by decide +kernel)) rfl
theorem w1224 : Cond.selects "NecklaceSistersModel" ⟨"NecklaceSistersModel", "leastGap", "(I)I"⟩ ⟨"NecklaceSistersModel", "leastGap", "(I)I"⟩ ∈ lw_g := lw_gin (List.mem_of_getElem? (i := 1224) (by decide +kernel)) rfl
theorem w1225 : Cond.code yX8_leastGap cX8_leastGap 5 (some .int) ∈ lw_g := lw_gin (List.mem_of_getElem? (i := 1225) (by decide +kernel)) rfl
theorem w1226 : Cond.constantLong "NecklaceSistersModel" 202 (4) ∈ lw_g := lw_gin (List.mem_of_getElem? (i := 1226) (by decide +kernel)) rfl
theorem w1227 : Cond.methodLink "NecklaceSistersLaw" 184 ⟨"NecklaceSistersModel", "bestBreak", "()I"⟩ ∈ lw_g := lw_gin (List.mem_of_getElem? (i := 1227) (by decide +kernel)) rfl
theorem w1228 : Cond.instanceMethod ⟨"NecklaceSistersModel", "bestBreak", "()I"⟩ ∈ lw_g := lw_gin (List.mem_of_getElem? (i := 1228) (by decide +kernel)) rfl
theorem w1229 : Cond.selects "NecklaceSistersModel" ⟨"NecklaceSistersModel", "bestBreak", "()I"⟩ ⟨"NecklaceSistersModel", "bestBreak", "()I"⟩ ∈ lw_g := lw_gin (List.mem_of_getElem? (i := 1229) (by decide +kernel)) rfl
theorem w1230 : Cond.code yX8_bestBreak cX8_bestBreak 6 (some .int) ∈ lw_g := lw_gin (List.mem_of_getElem? (i := 1230) (by decide +kernel)) rfl
theorem w1231 : Cond.methodLink "NecklaceSistersLaw" 188 ⟨"NecklaceSistersModel", "bestRun", "()I"⟩ ∈ lw_g := lw_gin (List.mem_of_getElem? (i := 1231) (by decide +kernel)) rfl
theorem w1232 : Cond.instanceMethod ⟨"NecklaceSistersModel", "bestRun", "()I"⟩ ∈ lw_g := lw_gin (List.mem_of_getElem? (i := 1232) (by decide +kernel)) rfl
theorem w1233 : Cond.selects "NecklaceSistersModel" ⟨"NecklaceSistersModel", "bestRun", "()I"⟩ ⟨"NecklaceSistersModel", "bestRun", "()I"⟩ ∈ lw_g := lw_gin (List.mem_of_getElem? (i := 1233) (by decide +kernel)) rfl
theorem w1234 : Cond.code yX8_bestRun cX8_bestRun 6 (some .int) ∈ lw_g := lw_gin (List.mem_of_getElem? (i := 1234) (by decide +kernel)) rfl
theorem w1235 : Cond.methodLink "NecklaceSistersModel" 204 ⟨"NecklaceSistersModel", "gapWith", "(II)I"⟩ ∈ lw_g := lw_gin (List.mem_of_getElem? (i := 1235) (by decide +kernel)) rfl
theorem w1237 : Cond.instanceMethod ⟨"NecklaceSistersModel", "gapWith", "(II)I"⟩ ∈ lw_g := lw_gin (List.mem_of_getElem? (i := 1237) (by decide +kernel)) rfl
theorem w1238 : Cond.code yX8_gapWith cX8_gapWith 3 (some .int) ∈ lw_g := lw_gin (List.mem_of_getElem? (i := 1238) (by decide +kernel)) rfl
theorem w1239 : Cond.methodLink "NecklaceSistersLaw" 191 ⟨"NecklaceSistersModel", "ifGiven", "(II)I"⟩ ∈ lw_g := lw_gin (List.mem_of_getElem? (i := 1239) (by decide +kernel)) rfl
theorem w1240 : Cond.instanceMethod ⟨"NecklaceSistersModel", "ifGiven", "(II)I"⟩ ∈ lw_g := lw_gin (List.mem_of_getElem? (i := 1240) (by decide +kernel)) rfl
theorem w1241 : Cond.selects "NecklaceSistersModel" ⟨"NecklaceSistersModel", "ifGiven", "(II)I"⟩ ⟨"NecklaceSistersModel", "ifGiven", "(II)I"⟩ ∈ lw_g := lw_gin (List.mem_of_getElem? (i := 1241) (by decide +kernel)) rfl
theorem w1242 : Cond.code yX8_ifGiven cX8_ifGiven 3 (some .int) ∈ lw_g := lw_gin (List.mem_of_getElem? (i := 1242) (by decide +kernel)) rfl
theorem w1243 : Cond.methodLink "NecklaceSistersLaw" 197 ⟨"NecklaceSistersModel", "runScript", "(IJ)I"⟩ ∈ lw_g := lw_gin (List.mem_of_getElem? (i := 1243) (by decide +kernel)) rfl
theorem w1244 : Cond.instanceMethod ⟨"NecklaceSistersModel", "runScript", "(IJ)I"⟩ ∈ lw_g := lw_gin (List.mem_of_getElem? (i := 1244) (by decide +kernel)) rfl
theorem w1245 : Cond.selects "NecklaceSistersModel" ⟨"NecklaceSistersModel", "runScript", "(IJ)I"⟩ ⟨"NecklaceSistersModel", "runScript", "(IJ)I"⟩ ∈ lw_g := lw_gin (List.mem_of_getElem? (i := 1245) (by decide +kernel)) rfl
theorem w1246 : Cond.code yX8_runScript cX8_runScript 8 (some .int) ∈ lw_g := lw_gin (List.mem_of_getElem? (i := 1246) (by decide +kernel)) rfl
theorem w1247 : Cond.constantLong "NecklaceSistersModel" 210 (100000) ∈ lw_g := lw_gin (List.mem_of_getElem? (i := 1247) (by decide +kernel)) rfl
theorem w1248 : Cond.methodLink "NecklaceSistersModel" 212 ⟨"NecklaceSistersModel", "command", "(II)Z"⟩ ∈ lw_g := lw_gin (List.mem_of_getElem? (i := 1248) (by decide +kernel)) rfl
theorem w1250 : Cond.instanceMethod ⟨"NecklaceSistersModel", "command", "(II)Z"⟩ ∈ lw_g := lw_gin (List.mem_of_getElem? (i := 1250) (by decide +kernel)) rfl
theorem w1251 : Cond.code yX8_command cX8_command 7 (some .boolean) ∈ lw_g := lw_gin (List.mem_of_getElem? (i := 1251) (by decide +kernel)) rfl
theorem w1252 : Cond.methodLink "NecklaceSistersModel" 207 ⟨"NecklaceSistersModel", "isDivided", "(I)Z"⟩ ∈ lw_g := lw_gin (List.mem_of_getElem? (i := 1252) (by decide +kernel)) rfl
theorem w1254 : Cond.instanceMethod ⟨"NecklaceSistersModel", "isDivided", "(I)Z"⟩ ∈ lw_g := lw_gin (List.mem_of_getElem? (i := 1254) (by decide +kernel)) rfl
theorem w1255 : Cond.code yX8_isDivided cX8_isDivided 3 (some .boolean) ∈ lw_g := lw_gin (List.mem_of_getElem? (i := 1255) (by decide +kernel)) rfl
theorem w1256 : Cond.methodLink "NecklaceSistersLaw" 201 ⟨"NecklaceSistersModel", "simulate", "(JI)I"⟩ ∈ lw_g := lw_gin (List.mem_of_getElem? (i := 1256) (by decide +kernel)) rfl
theorem w1257 : Cond.instanceMethod ⟨"NecklaceSistersModel", "simulate", "(JI)I"⟩ ∈ lw_g := lw_gin (List.mem_of_getElem? (i := 1257) (by decide +kernel)) rfl
theorem w1258 : Cond.selects "NecklaceSistersModel" ⟨"NecklaceSistersModel", "simulate", "(JI)I"⟩ ⟨"NecklaceSistersModel", "simulate", "(JI)I"⟩ ∈ lw_g := lw_gin (List.mem_of_getElem? (i := 1258) (by decide +kernel)) rfl
theorem w1259 : Cond.code yX8_simulate cX8_simulate 8 (some .int) ∈ lw_g := lw_gin (List.mem_of_getElem? (i := 1259) (by decide +kernel)) rfl
theorem w1260 : Cond.constantLong "NecklaceSistersModel" 215 (60) ∈ lw_g := lw_gin (List.mem_of_getElem? (i := 1260) (by decide +kernel)) rfl
theorem w1261 : Cond.constantLong "NecklaceSistersModel" 217 (6364136223846793005) ∈ lw_g := lw_gin (List.mem_of_getElem? (i := 1261) (by decide +kernel)) rfl
theorem w1262 : Cond.constantLong "NecklaceSistersModel" 219 (1442695040888963407) ∈ lw_g := lw_gin (List.mem_of_getElem? (i := 1262) (by decide +kernel)) rfl
theorem w1263 : Cond.methodLink "NecklaceSistersModel" 221 ⟨"NecklaceSistersModel", "turnRing", "([III)V"⟩ ∈ lw_g := lw_gin (List.mem_of_getElem? (i := 1263) (by decide +kernel)) rfl
theorem w1264 : Cond.static ⟨"NecklaceSistersModel", "turnRing", "([III)V"⟩ ∈ lw_g := lw_gin (List.mem_of_getElem? (i := 1264) (by decide +kernel)) rfl
theorem w1265 : Cond.code yX8_turnRing cX8_turnRing 3 none ∈ lw_g := lw_gin (List.mem_of_getElem? (i := 1265) (by decide +kernel)) rfl
theorem w1266 : Cond.methodLink "NecklaceSistersModel" 225 ⟨"NecklaceSistersModel", "turnRuns", "([III)V"⟩ ∈ lw_g := lw_gin (List.mem_of_getElem? (i := 1266) (by decide +kernel)) rfl
theorem w1267 : Cond.static ⟨"NecklaceSistersModel", "turnRuns", "([III)V"⟩ ∈ lw_g := lw_gin (List.mem_of_getElem? (i := 1267) (by decide +kernel)) rfl
theorem w1268 : Cond.code yX8_turnRuns cX8_turnRuns 3 none ∈ lw_g := lw_gin (List.mem_of_getElem? (i := 1268) (by decide +kernel)) rfl
theorem w1269 : Cond.methodLink "NecklaceSistersLaw" 204 ⟨"NecklaceSistersModel", "save", "(I)I"⟩ ∈ lw_g := lw_gin (List.mem_of_getElem? (i := 1269) (by decide +kernel)) rfl
theorem w1270 : Cond.instanceMethod ⟨"NecklaceSistersModel", "save", "(I)I"⟩ ∈ lw_g := lw_gin (List.mem_of_getElem? (i := 1270) (by decide +kernel)) rfl
theorem w1271 : Cond.selects "NecklaceSistersModel" ⟨"NecklaceSistersModel", "save", "(I)I"⟩ ⟨"NecklaceSistersModel", "save", "(I)I"⟩ ∈ lw_g := lw_gin (List.mem_of_getElem? (i := 1271) (by decide +kernel)) rfl
theorem w1272 : Cond.code yX8_save cX8_save 2 (some .int) ∈ lw_g := lw_gin (List.mem_of_getElem? (i := 1272) (by decide +kernel)) rfl
theorem w1273 : Cond.methodLink "NecklaceSistersLaw" 207 ⟨"NecklaceSistersModel", "restore", "(I)I"⟩ ∈ lw_g := lw_gin (List.mem_of_getElem? (i := 1273) (by decide +kernel)) rfl
theorem w1274 : Cond.instanceMethod ⟨"NecklaceSistersModel", "restore", "(I)I"⟩ ∈ lw_g := lw_gin (List.mem_of_getElem? (i := 1274) (by decide +kernel)) rfl
theorem w1275 : Cond.selects "NecklaceSistersModel" ⟨"NecklaceSistersModel", "restore", "(I)I"⟩ ⟨"NecklaceSistersModel", "restore", "(I)I"⟩ ∈ lw_g := lw_gin (List.mem_of_getElem? (i := 1275) (by decide +kernel)) rfl
theorem w1276 : Cond.code yX8_restore cX8_restore 2 (some .int) ∈ lw_g := lw_gin (List.mem_of_getElem? (i := 1276) (by decide +kernel)) rfl
theorem w1277 : Cond.constantLong "NecklaceSistersLaw" 192 (4294967295) ∈ lw_g := lw_gin (List.mem_of_getElem? (i := 1277) (by decide +kernel)) rfl
theorem w1279 : Cond.fieldLink "java/lang/String" 9 "java/lang/String" "value" "[B" ∈ lw_g := lw_gin (List.mem_of_getElem? (i := 1279) (by decide +kernel)) rfl
theorem w1280 : Cond.fieldLink "java/lang/String" 15 "java/lang/String" "coder" "B" ∈ lw_g := lw_gin (List.mem_of_getElem? (i := 1280) (by decide +kernel)) rfl
theorem wst_min : Cond.static Lib.Math.min.name ∈ lw_g := lw_gin (List.mem_of_getElem? (i := 306) (by decide +kernel)) rfl
theorem wco_min : Cond.code Lib.Math.min.name Lib.Math.min.code 2 (some .int) ∈ lw_g := lw_gin (List.mem_of_getElem? (i := 307) (by decide +kernel)) rfl
theorem wst_abs : Cond.static Lib.Math.abs.name ∈ lw_g := lw_gin (List.mem_of_getElem? (i := 426) (by decide +kernel)) rfl
theorem wco_abs : Cond.code Lib.Math.abs.name Lib.Math.abs.code 1 (some .int) ∈ lw_g := lw_gin (List.mem_of_getElem? (i := 427) (by decide +kernel)) rfl
theorem w63 : Cond.methodLinkNest "NecklaceSisters" 9 ⟨"NecklaceSisters$Text", "<init>", "()V"⟩ "NecklaceSisters" ∈ lw_nest := List.mem_filter.mpr ⟨List.mem_of_getElem? (i := 63) (by decide +kernel), rfl⟩
theorem w78 : Cond.methodLinkNest "NecklaceSisters" 18 ⟨"NecklaceSisters$Necklace", "<init>", "()V"⟩ "NecklaceSisters" ∈ lw_nest := List.mem_filter.mpr ⟨List.mem_of_getElem? (i := 78) (by decide +kernel), rfl⟩
theorem w126 : Cond.methodLinkNest "NecklaceSisters$History" 17 ⟨"NecklaceSisters$Necklace", "<init>", "()V"⟩ "NecklaceSisters" ∈ lw_nest := List.mem_filter.mpr ⟨List.mem_of_getElem? (i := 126) (by decide +kernel), rfl⟩
theorem w140 : Cond.methodLinkNest "NecklaceSisters" 35 ⟨"NecklaceSisters$Division", "<init>", "()V"⟩ "NecklaceSisters" ∈ lw_nest := List.mem_filter.mpr ⟨List.mem_of_getElem? (i := 140) (by decide +kernel), rfl⟩
theorem w160 : Cond.methodLinkNest "NecklaceSisters" 42 ⟨"NecklaceSisters$Slot", "<init>", "()V"⟩ "NecklaceSisters" ∈ lw_nest := List.mem_filter.mpr ⟨List.mem_of_getElem? (i := 160) (by decide +kernel), rfl⟩
theorem w165 : Cond.methodLinkNest "NecklaceSisters$Slot" 9 ⟨"NecklaceSisters$Necklace", "<init>", "()V"⟩ "NecklaceSisters" ∈ lw_nest := List.mem_filter.mpr ⟨List.mem_of_getElem? (i := 165) (by decide +kernel), rfl⟩
theorem w406 : Cond.methodLinkNest "NecklaceSisters$Necklace" 123 ⟨"NecklaceSisters", "isOwner", "(I)Z"⟩ "NecklaceSisters" ∈ lw_nest := List.mem_filter.mpr ⟨List.mem_of_getElem? (i := 406) (by decide +kernel), rfl⟩
theorem w556 : Cond.methodLinkNest "NecklaceSisters$Necklace" 97 ⟨"NecklaceSisters", "isKind", "(I)Z"⟩ "NecklaceSisters" ∈ lw_nest := List.mem_filter.mpr ⟨List.mem_of_getElem? (i := 556) (by decide +kernel), rfl⟩
theorem w559 : Cond.methodLinkNest "NecklaceSisters$Necklace" 101 ⟨"NecklaceSisters", "isWeight", "(I)Z"⟩ "NecklaceSisters" ∈ lw_nest := List.mem_filter.mpr ⟨List.mem_of_getElem? (i := 559) (by decide +kernel), rfl⟩
theorem w583 : Cond.methodLinkNest "NecklaceSisters$Text" 76 ⟨"NecklaceSisters", "ownerFor", "(I)I"⟩ "NecklaceSisters" ∈ lw_nest := List.mem_filter.mpr ⟨List.mem_of_getElem? (i := 583) (by decide +kernel), rfl⟩
theorem w596 : Cond.methodLinkNest "NecklaceSisters$Necklace" 129 ⟨"NecklaceSisters", "isSister", "(I)Z"⟩ "NecklaceSisters" ∈ lw_nest := List.mem_filter.mpr ⟨List.mem_of_getElem? (i := 596) (by decide +kernel), rfl⟩
theorem w601 : Cond.methodLinkNest "NecklaceSisters$Necklace" 132 ⟨"NecklaceSisters", "isSetting", "(I)Z"⟩ "NecklaceSisters" ∈ lw_nest := List.mem_filter.mpr ⟨List.mem_of_getElem? (i := 601) (by decide +kernel), rfl⟩
theorem w878 : Cond.methodLinkNest "NecklaceSisters$Script" 17 ⟨"NecklaceSisters", "ownerFor", "(I)I"⟩ "NecklaceSisters" ∈ lw_nest := List.mem_filter.mpr ⟨List.mem_of_getElem? (i := 878) (by decide +kernel), rfl⟩
theorem w891 : Cond.methodLinkNest "NecklaceSisters$Script" 51 ⟨"NecklaceSisters", "isSister", "(I)Z"⟩ "NecklaceSisters" ∈ lw_nest := List.mem_filter.mpr ⟨List.mem_of_getElem? (i := 891) (by decide +kernel), rfl⟩
theorem w892 : Cond.methodLinkNest "NecklaceSisters$Script" 54 ⟨"NecklaceSisters", "isKind", "(I)Z"⟩ "NecklaceSisters" ∈ lw_nest := List.mem_filter.mpr ⟨List.mem_of_getElem? (i := 892) (by decide +kernel), rfl⟩
