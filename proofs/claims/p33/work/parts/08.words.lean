def lw_g : List Cond := lw_tbl.filter goodWord
theorem lw_gin {w : Cond} (h : w ∈ lw_tbl) (hg : goodWord w = true) : w ∈ lw_g := List.mem_filter.mpr ⟨h, hg⟩
theorem lw_gg : GoodIn lw_g lw_g := fun _ h => ⟨h, good_of_word (List.mem_filter.mp h).2⟩
theorem lw_gc {w : Cond} (h : w ∈ lw_g) : GoodIn lw_g (w :: lw_g) := fun _ hw => (List.mem_cons.mp hw).elim (fun e => e ▸ lw_gg _ h) (lw_gg _)
/-- nest mates' words, which a warmed state keeps -/
def lw_nest : List Cond := lw_tbl.filter (fun w => match w with | .methodLinkNest .. => true | _ => false)
theorem w1 : Cond.selects "NecklaceSisters$Text" ⟨"NecklaceSisters$Text", "signAt", "(I)C"⟩ ⟨"NecklaceSisters$Text", "signAt", "(I)C"⟩ ∈ lw_g := lw_gin (List.mem_of_getElem? (i := 1) (by decide +kernel)) rfl
theorem w2 : Cond.selects "NecklaceSisters$Necklace" ⟨"NecklaceSisters$Necklace", "putOwner", "(II)V"⟩ ⟨"NecklaceSisters$Necklace", "putOwner", "(II)V"⟩ ∈ lw_g := lw_gin (List.mem_of_getElem? (i := 2) (by decide +kernel)) rfl
theorem w3 : Cond.selects "NecklaceSisters$Text" ⟨"NecklaceSisters$Text", "performs", "(ILNecklaceSisters$Necklace;)Z"⟩ ⟨"NecklaceSisters$Text", "performs", "(ILNecklaceSisters$Necklace;)Z"⟩ ∈ lw_g := lw_gin (List.mem_of_getElem? (i := 3) (by decide +kernel)) rfl
theorem w4 : Cond.selects "NecklaceSisters$Text" ⟨"NecklaceSisters$Text", "digitAt", "(I)I"⟩ ⟨"NecklaceSisters$Text", "digitAt", "(I)I"⟩ ∈ lw_g := lw_gin (List.mem_of_getElem? (i := 4) (by decide +kernel)) rfl
theorem w5 : Cond.selects "NecklaceSisters$Necklace" ⟨"NecklaceSisters$Necklace", "putJewel", "(III)V"⟩ ⟨"NecklaceSisters$Necklace", "putJewel", "(III)V"⟩ ∈ lw_g := lw_gin (List.mem_of_getElem? (i := 5) (by decide +kernel)) rfl
theorem w6 : Cond.selects "NecklaceSisters$Text" ⟨"NecklaceSisters$Text", "numberAt", "(I)I"⟩ ⟨"NecklaceSisters$Text", "numberAt", "(I)I"⟩ ∈ lw_g := lw_gin (List.mem_of_getElem? (i := 6) (by decide +kernel)) rfl
theorem w7 : Cond.selects "NecklaceSisters" ⟨"NecklaceSisters", "fewestCuts", "()I"⟩ ⟨"NecklaceSisters", "fewestCuts", "()I"⟩ ∈ lw_g := lw_gin (List.mem_of_getElem? (i := 7) (by decide +kernel)) rfl
theorem w8 : Cond.selects "NecklaceSisters$Division" ⟨"NecklaceSisters$Division", "isOddOfAKind", "()Z"⟩ ⟨"NecklaceSisters$Division", "isOddOfAKind", "()Z"⟩ ∈ lw_g := lw_gin (List.mem_of_getElem? (i := 8) (by decide +kernel)) rfl
theorem w9 : Cond.selects "NecklaceSisters$Division" ⟨"NecklaceSisters$Division", "sumAhead", "(I)J"⟩ ⟨"NecklaceSisters$Division", "sumAhead", "(I)J"⟩ ∈ lw_g := lw_gin (List.mem_of_getElem? (i := 9) (by decide +kernel)) rfl
theorem w10 : Cond.selects "NecklaceSisters$Division" ⟨"NecklaceSisters$Division", "withRun", "(JIII)J"⟩ ⟨"NecklaceSisters$Division", "withRun", "(JIII)J"⟩ ∈ lw_g := lw_gin (List.mem_of_getElem? (i := 10) (by decide +kernel)) rfl
theorem w11 : Cond.selects "NecklaceSisters$Division" ⟨"NecklaceSisters$Division", "isOverHalf", "(J)Z"⟩ ⟨"NecklaceSisters$Division", "isOverHalf", "(J)Z"⟩ ∈ lw_g := lw_gin (List.mem_of_getElem? (i := 11) (by decide +kernel)) rfl
theorem w12 : Cond.selects "NecklaceSisters$Division" ⟨"NecklaceSisters$Division", "keepCut", "(II)V"⟩ ⟨"NecklaceSisters$Division", "keepCut", "(II)V"⟩ ∈ lw_g := lw_gin (List.mem_of_getElem? (i := 12) (by decide +kernel)) rfl
theorem w13 : Cond.selects "NecklaceSisters$Division" ⟨"NecklaceSisters$Division", "gapOf", "(J)I"⟩ ⟨"NecklaceSisters$Division", "gapOf", "(J)I"⟩ ∈ lw_g := lw_gin (List.mem_of_getElem? (i := 13) (by decide +kernel)) rfl
theorem w14 : Cond.selects "NecklaceSisters" ⟨"NecklaceSisters", "gapWith", "(II)I"⟩ ⟨"NecklaceSisters", "gapWith", "(II)I"⟩ ∈ lw_g := lw_gin (List.mem_of_getElem? (i := 14) (by decide +kernel)) rfl
theorem w16 : Cond.initialized "NecklaceSisters" ∈ lw_g := lw_gin (List.mem_of_getElem? (i := 16) (by decide +kernel)) rfl
theorem w17 : Cond.initialized "NecklaceSisters$Text" ∈ lw_g := lw_gin (List.mem_of_getElem? (i := 17) (by decide +kernel)) rfl
theorem w18 : Cond.initialized "NecklaceSisters$Necklace" ∈ lw_g := lw_gin (List.mem_of_getElem? (i := 18) (by decide +kernel)) rfl
theorem w19 : Cond.initialized "NecklaceSisters$History" ∈ lw_g := lw_gin (List.mem_of_getElem? (i := 19) (by decide +kernel)) rfl
theorem w20 : Cond.initialized "NecklaceSisters$Division" ∈ lw_g := lw_gin (List.mem_of_getElem? (i := 20) (by decide +kernel)) rfl
theorem w27 : Cond.initialized "java/lang/String" ∈ lw_g := lw_gin (List.mem_of_getElem? (i := 27) (by decide +kernel)) rfl
theorem w28 : Cond.initialized "java/lang/StringLatin1" ∈ lw_g := lw_gin (List.mem_of_getElem? (i := 28) (by decide +kernel)) rfl
theorem w29 : Cond.initialized "jdk/internal/util/Preconditions" ∈ lw_g := lw_gin (List.mem_of_getElem? (i := 29) (by decide +kernel)) rfl
theorem w30 : Cond.initialized "java/lang/StringUTF16" ∈ lw_g := lw_gin (List.mem_of_getElem? (i := 30) (by decide +kernel)) rfl
theorem w31 : Cond.initialized "java/lang/Integer" ∈ lw_g := lw_gin (List.mem_of_getElem? (i := 31) (by decide +kernel)) rfl
theorem w32 : Cond.initialized "java/lang/Math" ∈ lw_g := lw_gin (List.mem_of_getElem? (i := 32) (by decide +kernel)) rfl
theorem w34 : Cond.initialized "NecklaceSisters$Script" ∈ lw_g := lw_gin (List.mem_of_getElem? (i := 34) (by decide +kernel)) rfl
theorem w35 : Cond.initialized "NecklaceSisters$Simulation" ∈ lw_g := lw_gin (List.mem_of_getElem? (i := 35) (by decide +kernel)) rfl
theorem w38 : Cond.methodLink "NecklaceSistersLaw" 196 ⟨"NecklaceSisters", "<init>", "()V"⟩ ∈ lw_g := lw_gin (List.mem_of_getElem? (i := 38) (by decide +kernel)) rfl
theorem w41 : Cond.methodLink "NecklaceSisters" 1 ⟨"java/lang/Object", "<init>", "()V"⟩ ∈ lw_g := lw_gin (List.mem_of_getElem? (i := 41) (by decide +kernel)) rfl
theorem w49 : Cond.methodLink "NecklaceSisters$Text" 3 ⟨"java/lang/Object", "<init>", "()V"⟩ ∈ lw_g := lw_gin (List.mem_of_getElem? (i := 49) (by decide +kernel)) rfl
theorem w50 : Cond.fieldLink "NecklaceSisters$Text" 9 "NecklaceSisters$Text" "signs" "[C" ∈ lw_g := lw_gin (List.mem_of_getElem? (i := 50) (by decide +kernel)) rfl
theorem w51 : Cond.fieldLink "NecklaceSisters$Text" 15 "NecklaceSisters$Text" "length" "I" ∈ lw_g := lw_gin (List.mem_of_getElem? (i := 51) (by decide +kernel)) rfl
theorem w52 : Cond.fieldLink "NecklaceSisters" 57 "NecklaceSisters$Text" "length" "I" ∈ lw_g := lw_gin (List.mem_of_getElem? (i := 52) (by decide +kernel)) rfl
theorem w64 : Cond.methodLink "NecklaceSisters$Necklace" 3 ⟨"java/lang/Object", "<init>", "()V"⟩ ∈ lw_g := lw_gin (List.mem_of_getElem? (i := 64) (by decide +kernel)) rfl
theorem w65 : Cond.fieldLink "NecklaceSisters$Necklace" 21 "NecklaceSisters$Necklace" "jewels" "I" ∈ lw_g := lw_gin (List.mem_of_getElem? (i := 65) (by decide +kernel)) rfl
theorem w66 : Cond.fieldLink "NecklaceSisters$Division" 27 "NecklaceSisters$Necklace" "jewels" "I" ∈ lw_g := lw_gin (List.mem_of_getElem? (i := 66) (by decide +kernel)) rfl
theorem w67 : Cond.fieldLink "NecklaceSisters" 90 "NecklaceSisters$Necklace" "jewels" "I" ∈ lw_g := lw_gin (List.mem_of_getElem? (i := 67) (by decide +kernel)) rfl
theorem w68 : Cond.fieldLink "NecklaceSisters$Necklace" 25 "NecklaceSisters$Necklace" "broken" "I" ∈ lw_g := lw_gin (List.mem_of_getElem? (i := 68) (by decide +kernel)) rfl
theorem w69 : Cond.fieldLink "NecklaceSisters$Script" 61 "NecklaceSisters$Necklace" "broken" "I" ∈ lw_g := lw_gin (List.mem_of_getElem? (i := 69) (by decide +kernel)) rfl
theorem w70 : Cond.fieldLink "NecklaceSisters" 93 "NecklaceSisters$Necklace" "broken" "I" ∈ lw_g := lw_gin (List.mem_of_getElem? (i := 70) (by decide +kernel)) rfl
theorem w71 : Cond.fieldLink "NecklaceSisters$Necklace" 28 "NecklaceSisters$Necklace" "mover" "I" ∈ lw_g := lw_gin (List.mem_of_getElem? (i := 71) (by decide +kernel)) rfl
theorem w72 : Cond.fieldLink "NecklaceSisters" 109 "NecklaceSisters$Necklace" "mover" "I" ∈ lw_g := lw_gin (List.mem_of_getElem? (i := 72) (by decide +kernel)) rfl
theorem w73 : Cond.fieldLink "NecklaceSisters$Necklace" 31 "NecklaceSisters$Necklace" "refused" "I" ∈ lw_g := lw_gin (List.mem_of_getElem? (i := 73) (by decide +kernel)) rfl
theorem w74 : Cond.fieldLink "NecklaceSisters" 115 "NecklaceSisters$Necklace" "refused" "I" ∈ lw_g := lw_gin (List.mem_of_getElem? (i := 74) (by decide +kernel)) rfl
theorem w75 : Cond.fieldLink "NecklaceSisters$Necklace" 34 "NecklaceSisters$Necklace" "setting" "I" ∈ lw_g := lw_gin (List.mem_of_getElem? (i := 75) (by decide +kernel)) rfl
theorem w76 : Cond.fieldLink "NecklaceSisters" 118 "NecklaceSisters$Necklace" "setting" "I" ∈ lw_g := lw_gin (List.mem_of_getElem? (i := 76) (by decide +kernel)) rfl
theorem w77 : Cond.fieldLink "NecklaceSisters$Necklace" 40 "NecklaceSisters$Necklace" "cuts" "I" ∈ lw_g := lw_gin (List.mem_of_getElem? (i := 77) (by decide +kernel)) rfl
theorem w78 : Cond.fieldLink "NecklaceSisters$Necklace" 9 "NecklaceSisters$Necklace" "kinds" "[I" ∈ lw_g := lw_gin (List.mem_of_getElem? (i := 78) (by decide +kernel)) rfl
theorem w79 : Cond.fieldLink "NecklaceSisters$Necklace" 15 "NecklaceSisters$Necklace" "weights" "[I" ∈ lw_g := lw_gin (List.mem_of_getElem? (i := 79) (by decide +kernel)) rfl
theorem w80 : Cond.fieldLink "NecklaceSisters$Necklace" 18 "NecklaceSisters$Necklace" "owners" "[I" ∈ lw_g := lw_gin (List.mem_of_getElem? (i := 80) (by decide +kernel)) rfl
theorem w103 : Cond.methodLink "NecklaceSisters" 28 ⟨"NecklaceSisters$History", "<init>", "()V"⟩ ∈ lw_g := lw_gin (List.mem_of_getElem? (i := 103) (by decide +kernel)) rfl
theorem w106 : Cond.methodLink "NecklaceSisters$History" 3 ⟨"java/lang/Object", "<init>", "()V"⟩ ∈ lw_g := lw_gin (List.mem_of_getElem? (i := 106) (by decide +kernel)) rfl
theorem w110 : Cond.fieldLink "NecklaceSisters$History" 11 "NecklaceSisters$History" "states" "[LNecklaceSisters$Necklace;" ∈ lw_g := lw_gin (List.mem_of_getElem? (i := 110) (by decide +kernel)) rfl
theorem w111 : Cond.fieldLink "NecklaceSisters$History" 22 "NecklaceSisters$History" "next" "I" ∈ lw_g := lw_gin (List.mem_of_getElem? (i := 111) (by decide +kernel)) rfl
theorem w112 : Cond.fieldLink "NecklaceSisters$History" 18 "NecklaceSisters$History" "count" "I" ∈ lw_g := lw_gin (List.mem_of_getElem? (i := 112) (by decide +kernel)) rfl
theorem w113 : Cond.fieldLink "NecklaceSisters" 260 "NecklaceSisters$History" "count" "I" ∈ lw_g := lw_gin (List.mem_of_getElem? (i := 113) (by decide +kernel)) rfl
theorem w126 : Cond.methodLink "NecklaceSisters$Division" 3 ⟨"java/lang/Object", "<init>", "()V"⟩ ∈ lw_g := lw_gin (List.mem_of_getElem? (i := 126) (by decide +kernel)) rfl
theorem w127 : Cond.fieldLink "NecklaceSisters$Division" 9 "NecklaceSisters$Division" "ahead" "[J" ∈ lw_g := lw_gin (List.mem_of_getElem? (i := 127) (by decide +kernel)) rfl
theorem w128 : Cond.fieldLink "NecklaceSisters$Division" 15 "NecklaceSisters$Division" "found" "[I" ∈ lw_g := lw_gin (List.mem_of_getElem? (i := 128) (by decide +kernel)) rfl
theorem w129 : Cond.fieldLink "NecklaceSisters$Division" 19 "NecklaceSisters$Division" "places" "I" ∈ lw_g := lw_gin (List.mem_of_getElem? (i := 129) (by decide +kernel)) rfl
theorem w130 : Cond.fieldLink "NecklaceSisters$Division" 23 "NecklaceSisters$Division" "half" "J" ∈ lw_g := lw_gin (List.mem_of_getElem? (i := 130) (by decide +kernel)) rfl
theorem w146 : Cond.methodLink "NecklaceSisters$Slot" 1 ⟨"java/lang/Object", "<init>", "()V"⟩ ∈ lw_g := lw_gin (List.mem_of_getElem? (i := 146) (by decide +kernel)) rfl
theorem w149 : Cond.fieldLink "NecklaceSisters$Slot" 10 "NecklaceSisters$Slot" "kept" "LNecklaceSisters$Necklace;" ∈ lw_g := lw_gin (List.mem_of_getElem? (i := 149) (by decide +kernel)) rfl
theorem w150 : Cond.fieldLink "NecklaceSisters" 324 "NecklaceSisters$Slot" "kept" "LNecklaceSisters$Necklace;" ∈ lw_g := lw_gin (List.mem_of_getElem? (i := 150) (by decide +kernel)) rfl
theorem w151 : Cond.fieldLink "NecklaceSisters" 82 "NecklaceSisters$Slot" "filled" "Z" ∈ lw_g := lw_gin (List.mem_of_getElem? (i := 151) (by decide +kernel)) rfl
theorem w157 : Cond.fieldLink "NecklaceSisters" 10 "NecklaceSisters" "text" "LNecklaceSisters$Text;" ∈ lw_g := lw_gin (List.mem_of_getElem? (i := 157) (by decide +kernel)) rfl
theorem w158 : Cond.fieldLink "NecklaceSisters" 19 "NecklaceSisters" "necklace" "LNecklaceSisters$Necklace;" ∈ lw_g := lw_gin (List.mem_of_getElem? (i := 158) (by decide +kernel)) rfl
theorem w159 : Cond.fieldLink "NecklaceSisters" 23 "NecklaceSisters" "trial" "LNecklaceSisters$Necklace;" ∈ lw_g := lw_gin (List.mem_of_getElem? (i := 159) (by decide +kernel)) rfl
theorem w160 : Cond.fieldLink "NecklaceSisters" 29 "NecklaceSisters" "history" "LNecklaceSisters$History;" ∈ lw_g := lw_gin (List.mem_of_getElem? (i := 160) (by decide +kernel)) rfl
theorem w161 : Cond.fieldLink "NecklaceSisters" 36 "NecklaceSisters" "division" "LNecklaceSisters$Division;" ∈ lw_g := lw_gin (List.mem_of_getElem? (i := 161) (by decide +kernel)) rfl
theorem w162 : Cond.fieldLink "NecklaceSisters" 43 "NecklaceSisters" "firstSlot" "LNecklaceSisters$Slot;" ∈ lw_g := lw_gin (List.mem_of_getElem? (i := 162) (by decide +kernel)) rfl
theorem w163 : Cond.fieldLink "NecklaceSisters" 47 "NecklaceSisters" "secondSlot" "LNecklaceSisters$Slot;" ∈ lw_g := lw_gin (List.mem_of_getElem? (i := 163) (by decide +kernel)) rfl
theorem w179 : Cond.methodLink "NecklaceSistersLaw" 172 ⟨"NecklaceSistersLaw", "call", "(LNecklaceSisters;IIII)I"⟩ ∈ lw_g := lw_gin (List.mem_of_getElem? (i := 179) (by decide +kernel)) rfl
theorem w182 : Cond.methodLink "NecklaceSistersLaw" 99 ⟨"NecklaceSistersLaw", "tryAppend", "(LNecklaceSisters;I)I"⟩ ∈ lw_g := lw_gin (List.mem_of_getElem? (i := 182) (by decide +kernel)) rfl
theorem w187 : Cond.methodLink "NecklaceSistersLaw" 27 ⟨"NecklaceSisters", "append", "(I)I"⟩ ∈ lw_g := lw_gin (List.mem_of_getElem? (i := 187) (by decide +kernel)) rfl
theorem w188 : Cond.instanceMethod ⟨"NecklaceSisters", "append", "(I)I"⟩ ∈ lw_g := lw_gin (List.mem_of_getElem? (i := 188) (by decide +kernel)) rfl
theorem w189 : Cond.selects "NecklaceSisters" ⟨"NecklaceSisters", "append", "(I)I"⟩ ⟨"NecklaceSisters", "append", "(I)I"⟩ ∈ lw_g := lw_gin (List.mem_of_getElem? (i := 189) (by decide +kernel)) rfl
theorem w190 : Cond.code yX7_append cX7_append 2 (some .int) ∈ lw_g := lw_gin (List.mem_of_getElem? (i := 190) (by decide +kernel)) rfl
theorem w216 : Cond.methodLink "java/lang/Throwable" 1 ⟨"java/lang/Object", "<init>", "()V"⟩ ∈ lw_g := lw_gin (List.mem_of_getElem? (i := 216) (by decide +kernel)) rfl
theorem w217 : Cond.fieldLink "java/lang/Throwable" 13 "java/lang/Throwable" "UNASSIGNED_STACK" "[Ljava/lang/StackTraceElement;" ∈ lw_g := lw_gin (List.mem_of_getElem? (i := 217) (by decide +kernel)) rfl
theorem w219 : Cond.fieldLink "java/lang/Throwable" 20 "java/lang/Throwable" "SUPPRESSED_SENTINEL" "Ljava/util/List;" ∈ lw_g := lw_gin (List.mem_of_getElem? (i := 219) (by decide +kernel)) rfl
theorem w221 : Cond.methodLink "java/lang/Throwable" 27 ⟨"java/lang/Throwable", "fillInStackTrace", "()Ljava/lang/Throwable;"⟩ ∈ lw_g := lw_gin (List.mem_of_getElem? (i := 221) (by decide +kernel)) rfl
theorem w227 : Cond.methodLink "java/lang/Throwable" 202 ⟨"java/lang/Throwable", "fillInStackTrace", "(I)Ljava/lang/Throwable;"⟩ ∈ lw_g := lw_gin (List.mem_of_getElem? (i := 227) (by decide +kernel)) rfl
theorem w233 : Cond.methodLink "NecklaceSisters" 54 ⟨"java/lang/IllegalArgumentException", "<init>", "(Ljava/lang/String;)V"⟩ ∈ lw_g := lw_gin (List.mem_of_getElem? (i := 233) (by decide +kernel)) rfl
theorem w236 : Cond.methodLink "java/lang/IllegalArgumentException" 7 ⟨"java/lang/RuntimeException", "<init>", "(Ljava/lang/String;)V"⟩ ∈ lw_g := lw_gin (List.mem_of_getElem? (i := 236) (by decide +kernel)) rfl
theorem w239 : Cond.methodLink "java/lang/RuntimeException" 7 ⟨"java/lang/Exception", "<init>", "(Ljava/lang/String;)V"⟩ ∈ lw_g := lw_gin (List.mem_of_getElem? (i := 239) (by decide +kernel)) rfl
theorem w242 : Cond.methodLink "java/lang/Exception" 7 ⟨"java/lang/Throwable", "<init>", "(Ljava/lang/String;)V"⟩ ∈ lw_g := lw_gin (List.mem_of_getElem? (i := 242) (by decide +kernel)) rfl
theorem w245 : Cond.fieldLink "java/lang/Throwable" 198 "java/lang/Throwable" "backtrace" "Ljava/lang/Object;" ∈ lw_g := lw_gin (List.mem_of_getElem? (i := 245) (by decide +kernel)) rfl
theorem w246 : Cond.fieldLink "java/lang/Throwable" 31 "java/lang/Throwable" "detailMessage" "Ljava/lang/String;" ∈ lw_g := lw_gin (List.mem_of_getElem? (i := 246) (by decide +kernel)) rfl
theorem w247 : Cond.fieldLink "java/lang/Throwable" 7 "java/lang/Throwable" "cause" "Ljava/lang/Throwable;" ∈ lw_g := lw_gin (List.mem_of_getElem? (i := 247) (by decide +kernel)) rfl
theorem w248 : Cond.fieldLink "java/lang/Throwable" 17 "java/lang/Throwable" "stackTrace" "[Ljava/lang/StackTraceElement;" ∈ lw_g := lw_gin (List.mem_of_getElem? (i := 248) (by decide +kernel)) rfl
theorem w249 : Cond.fieldLink "java/lang/Throwable" 24 "java/lang/Throwable" "suppressedExceptions" "Ljava/util/List;" ∈ lw_g := lw_gin (List.mem_of_getElem? (i := 249) (by decide +kernel)) rfl
theorem w269 : Cond.methodLink "NecklaceSisters" 65 ⟨"java/lang/IllegalStateException", "<init>", "(Ljava/lang/String;)V"⟩ ∈ lw_g := lw_gin (List.mem_of_getElem? (i := 269) (by decide +kernel)) rfl
theorem w272 : Cond.methodLink "java/lang/IllegalStateException" 7 ⟨"java/lang/RuntimeException", "<init>", "(Ljava/lang/String;)V"⟩ ∈ lw_g := lw_gin (List.mem_of_getElem? (i := 272) (by decide +kernel)) rfl
theorem w275 : Cond.methodLink "NecklaceSisters" 66 ⟨"NecklaceSisters$Text", "add", "(C)V"⟩ ∈ lw_g := lw_gin (List.mem_of_getElem? (i := 275) (by decide +kernel)) rfl
theorem w276 : Cond.instanceMethod ⟨"NecklaceSisters$Text", "add", "(C)V"⟩ ∈ lw_g := lw_gin (List.mem_of_getElem? (i := 276) (by decide +kernel)) rfl
theorem w277 : Cond.selects "NecklaceSisters$Text" ⟨"NecklaceSisters$Text", "add", "(C)V"⟩ ⟨"NecklaceSisters$Text", "add", "(C)V"⟩ ∈ lw_g := lw_gin (List.mem_of_getElem? (i := 277) (by decide +kernel)) rfl
theorem w278 : Cond.code yX6_add cX6_add 2 none ∈ lw_g := lw_gin (List.mem_of_getElem? (i := 278) (by decide +kernel)) rfl
theorem w279 : Cond.constant "NecklaceSistersLaw" 22 (-9999002) ∈ lw_g := lw_gin (List.mem_of_getElem? (i := 279) (by decide +kernel)) rfl
theorem w280 : Cond.constant "NecklaceSistersLaw" 33 (-9999003) ∈ lw_g := lw_gin (List.mem_of_getElem? (i := 280) (by decide +kernel)) rfl
theorem w281 : Cond.methodLink "NecklaceSistersLaw" 105 ⟨"NecklaceSistersLaw", "tryLoad", "(LNecklaceSisters;)I"⟩ ∈ lw_g := lw_gin (List.mem_of_getElem? (i := 281) (by decide +kernel)) rfl
theorem w284 : Cond.methodLink "NecklaceSistersLaw" 34 ⟨"NecklaceSisters", "load", "()I"⟩ ∈ lw_g := lw_gin (List.mem_of_getElem? (i := 284) (by decide +kernel)) rfl
theorem w285 : Cond.instanceMethod ⟨"NecklaceSisters", "load", "()I"⟩ ∈ lw_g := lw_gin (List.mem_of_getElem? (i := 285) (by decide +kernel)) rfl
theorem w286 : Cond.selects "NecklaceSisters" ⟨"NecklaceSisters", "load", "()I"⟩ ⟨"NecklaceSisters", "load", "()I"⟩ ∈ lw_g := lw_gin (List.mem_of_getElem? (i := 286) (by decide +kernel)) rfl
theorem w287 : Cond.code yX7_load cX7_load 1 (some .int) ∈ lw_g := lw_gin (List.mem_of_getElem? (i := 287) (by decide +kernel)) rfl
theorem w288 : Cond.methodLink "NecklaceSisters" 70 ⟨"NecklaceSisters$Text", "firstError", "()I"⟩ ∈ lw_g := lw_gin (List.mem_of_getElem? (i := 288) (by decide +kernel)) rfl
theorem w289 : Cond.instanceMethod ⟨"NecklaceSisters$Text", "firstError", "()I"⟩ ∈ lw_g := lw_gin (List.mem_of_getElem? (i := 289) (by decide +kernel)) rfl
theorem w290 : Cond.selects "NecklaceSisters$Text" ⟨"NecklaceSisters$Text", "firstError", "()I"⟩ ⟨"NecklaceSisters$Text", "firstError", "()I"⟩ ∈ lw_g := lw_gin (List.mem_of_getElem? (i := 290) (by decide +kernel)) rfl
theorem w291 : Cond.code yX6_firstError cX6_firstError 4 (some .int) ∈ lw_g := lw_gin (List.mem_of_getElem? (i := 291) (by decide +kernel)) rfl
theorem w292 : Cond.methodLink "NecklaceSisters$Text" 19 ⟨"NecklaceSisters$Text", "signAt", "(I)C"⟩ ∈ lw_g := lw_gin (List.mem_of_getElem? (i := 292) (by decide +kernel)) rfl
theorem w294 : Cond.instanceMethod ⟨"NecklaceSisters$Text", "signAt", "(I)C"⟩ ∈ lw_g := lw_gin (List.mem_of_getElem? (i := 294) (by decide +kernel)) rfl
theorem w295 : Cond.code yX6_signAt cX6_signAt 2 (some .char) ∈ lw_g := lw_gin (List.mem_of_getElem? (i := 295) (by decide +kernel)) rfl
theorem w297 : Cond.methodLink "NecklaceSisters$Text" 39 ⟨"java/lang/String", "length", "()I"⟩ ∈ lw_g := lw_gin (List.mem_of_getElem? (i := 297) (by decide +kernel)) rfl
theorem w298 : Cond.instanceMethod ⟨"java/lang/String", "length", "()I"⟩ ∈ lw_g := lw_gin (List.mem_of_getElem? (i := 298) (by decide +kernel)) rfl
theorem w299 : Cond.selects "java/lang/String" ⟨"java/lang/String", "length", "()I"⟩ ⟨"java/lang/String", "length", "()I"⟩ ∈ lw_g := lw_gin (List.mem_of_getElem? (i := 299) (by decide +kernel)) rfl
theorem w300 : Cond.code yJ0_length_8abf5 cJ0_length_8abf5 1 (some .int) ∈ lw_g := lw_gin (List.mem_of_getElem? (i := 300) (by decide +kernel)) rfl
theorem w301 : Cond.methodLink "java/lang/String" 335 ⟨"java/lang/String", "coder", "()B"⟩ ∈ lw_g := lw_gin (List.mem_of_getElem? (i := 301) (by decide +kernel)) rfl
theorem w302 : Cond.instanceMethod ⟨"java/lang/String", "coder", "()B"⟩ ∈ lw_g := lw_gin (List.mem_of_getElem? (i := 302) (by decide +kernel)) rfl
theorem w303 : Cond.selects "java/lang/String" ⟨"java/lang/String", "coder", "()B"⟩ ⟨"java/lang/String", "coder", "()B"⟩ ∈ lw_g := lw_gin (List.mem_of_getElem? (i := 303) (by decide +kernel)) rfl
theorem w304 : Cond.code yJ0_coder_7d493 cJ0_coder_7d493 1 (some .byte) ∈ lw_g := lw_gin (List.mem_of_getElem? (i := 304) (by decide +kernel)) rfl
theorem w305 : Cond.fieldLink "java/lang/String" 38 "java/lang/String" "COMPACT_STRINGS" "Z" ∈ lw_g := lw_gin (List.mem_of_getElem? (i := 305) (by decide +kernel)) rfl
theorem w307 : Cond.methodLink "NecklaceSisters$Text" 44 ⟨"NecklaceSisters$Text", "formOf", "(C)Ljava/lang/String;"⟩ ∈ lw_g := lw_gin (List.mem_of_getElem? (i := 307) (by decide +kernel)) rfl
theorem w308 : Cond.static ⟨"NecklaceSisters$Text", "formOf", "(C)Ljava/lang/String;"⟩ ∈ lw_g := lw_gin (List.mem_of_getElem? (i := 308) (by decide +kernel)) rfl
theorem w309 : Cond.code yX6_formOf cX6_formOf 1 (some (.object "java/lang/String")) ∈ lw_g := lw_gin (List.mem_of_getElem? (i := 309) (by decide +kernel)) rfl
theorem w315 : Cond.methodLink "NecklaceSisters$Text" 48 ⟨"java/lang/String", "charAt", "(I)C"⟩ ∈ lw_g := lw_gin (List.mem_of_getElem? (i := 315) (by decide +kernel)) rfl
theorem w316 : Cond.instanceMethod ⟨"java/lang/String", "charAt", "(I)C"⟩ ∈ lw_g := lw_gin (List.mem_of_getElem? (i := 316) (by decide +kernel)) rfl
theorem w317 : Cond.selects "java/lang/String" ⟨"java/lang/String", "charAt", "(I)C"⟩ ⟨"java/lang/String", "charAt", "(I)C"⟩ ∈ lw_g := lw_gin (List.mem_of_getElem? (i := 317) (by decide +kernel)) rfl
theorem w318 : Cond.code yJ0_charAt_5068e cJ0_charAt_5068e 2 (some .char) ∈ lw_g := lw_gin (List.mem_of_getElem? (i := 318) (by decide +kernel)) rfl
theorem w319 : Cond.methodLink "java/lang/String" 492 ⟨"java/lang/String", "isLatin1", "()Z"⟩ ∈ lw_g := lw_gin (List.mem_of_getElem? (i := 319) (by decide +kernel)) rfl
theorem w320 : Cond.instanceMethod ⟨"java/lang/String", "isLatin1", "()Z"⟩ ∈ lw_g := lw_gin (List.mem_of_getElem? (i := 320) (by decide +kernel)) rfl
theorem w321 : Cond.selects "java/lang/String" ⟨"java/lang/String", "isLatin1", "()Z"⟩ ⟨"java/lang/String", "isLatin1", "()Z"⟩ ∈ lw_g := lw_gin (List.mem_of_getElem? (i := 321) (by decide +kernel)) rfl
theorem w322 : Cond.code yJ0_isLatin1_aae02 cJ0_isLatin1_aae02 1 (some .boolean) ∈ lw_g := lw_gin (List.mem_of_getElem? (i := 322) (by decide +kernel)) rfl
theorem w323 : Cond.methodLink "java/lang/String" 495 ⟨"java/lang/StringLatin1", "charAt", "([BI)C"⟩ ∈ lw_g := lw_gin (List.mem_of_getElem? (i := 323) (by decide +kernel)) rfl
theorem w324 : Cond.static ⟨"java/lang/StringLatin1", "charAt", "([BI)C"⟩ ∈ lw_g := lw_gin (List.mem_of_getElem? (i := 324) (by decide +kernel)) rfl
theorem w325 : Cond.code yJ1_charAt_3b067 cJ1_charAt_3b067 2 (some .char) ∈ lw_g := lw_gin (List.mem_of_getElem? (i := 325) (by decide +kernel)) rfl
theorem w326 : Cond.methodLink "java/lang/StringLatin1" 9 ⟨"java/lang/String", "checkIndex", "(II)V"⟩ ∈ lw_g := lw_gin (List.mem_of_getElem? (i := 326) (by decide +kernel)) rfl
theorem w327 : Cond.static ⟨"java/lang/String", "checkIndex", "(II)V"⟩ ∈ lw_g := lw_gin (List.mem_of_getElem? (i := 327) (by decide +kernel)) rfl
theorem w328 : Cond.code yJ0_checkIndex_df160 cJ0_checkIndex_df160 2 none ∈ lw_g := lw_gin (List.mem_of_getElem? (i := 328) (by decide +kernel)) rfl
theorem w329 : Cond.fieldLink "java/lang/String" 1053 "jdk/internal/util/Preconditions" "SIOOBE_FORMATTER" "Ljava/util/function/BiFunction;" ∈ lw_g := lw_gin (List.mem_of_getElem? (i := 329) (by decide +kernel)) rfl
theorem w331 : Cond.methodLink "java/lang/String" 1059 ⟨"jdk/internal/util/Preconditions", "checkIndex", "(IILjava/util/function/BiFunction;)I"⟩ ∈ lw_g := lw_gin (List.mem_of_getElem? (i := 331) (by decide +kernel)) rfl
theorem w332 : Cond.static ⟨"jdk/internal/util/Preconditions", "checkIndex", "(IILjava/util/function/BiFunction;)I"⟩ ∈ lw_g := lw_gin (List.mem_of_getElem? (i := 332) (by decide +kernel)) rfl
theorem w333 : Cond.code yJ3_checkIndex_8e157 cJ3_checkIndex_8e157 3 (some .int) ∈ lw_g := lw_gin (List.mem_of_getElem? (i := 333) (by decide +kernel)) rfl
theorem w334 : Cond.methodLink "java/lang/String" 498 ⟨"java/lang/StringUTF16", "charAt", "([BI)C"⟩ ∈ lw_g := lw_gin (List.mem_of_getElem? (i := 334) (by decide +kernel)) rfl
theorem w335 : Cond.static ⟨"java/lang/StringUTF16", "charAt", "([BI)C"⟩ ∈ lw_g := lw_gin (List.mem_of_getElem? (i := 335) (by decide +kernel)) rfl
theorem w336 : Cond.code yJ2_charAt_3b067 cJ2_charAt_3b067 2 (some .char) ∈ lw_g := lw_gin (List.mem_of_getElem? (i := 336) (by decide +kernel)) rfl
theorem w337 : Cond.methodLink "java/lang/StringUTF16" 67 ⟨"java/lang/StringUTF16", "checkIndex", "(I[B)V"⟩ ∈ lw_g := lw_gin (List.mem_of_getElem? (i := 337) (by decide +kernel)) rfl
theorem w338 : Cond.static ⟨"java/lang/StringUTF16", "checkIndex", "(I[B)V"⟩ ∈ lw_g := lw_gin (List.mem_of_getElem? (i := 338) (by decide +kernel)) rfl
theorem w339 : Cond.code yJ2_checkIndex_2214a cJ2_checkIndex_2214a 2 none ∈ lw_g := lw_gin (List.mem_of_getElem? (i := 339) (by decide +kernel)) rfl
theorem w340 : Cond.methodLink "java/lang/StringUTF16" 48 ⟨"java/lang/StringUTF16", "length", "([B)I"⟩ ∈ lw_g := lw_gin (List.mem_of_getElem? (i := 340) (by decide +kernel)) rfl
theorem w341 : Cond.static ⟨"java/lang/StringUTF16", "length", "([B)I"⟩ ∈ lw_g := lw_gin (List.mem_of_getElem? (i := 341) (by decide +kernel)) rfl
theorem w342 : Cond.code yJ2_length_9d52b cJ2_length_9d52b 1 (some .int) ∈ lw_g := lw_gin (List.mem_of_getElem? (i := 342) (by decide +kernel)) rfl
theorem w343 : Cond.methodLink "java/lang/StringUTF16" 414 ⟨"java/lang/String", "checkIndex", "(II)V"⟩ ∈ lw_g := lw_gin (List.mem_of_getElem? (i := 343) (by decide +kernel)) rfl
theorem w344 : Cond.methodLink "java/lang/StringUTF16" 71 ⟨"java/lang/StringUTF16", "getChar", "([BI)C"⟩ ∈ lw_g := lw_gin (List.mem_of_getElem? (i := 344) (by decide +kernel)) rfl
theorem w345 : Cond.static ⟨"java/lang/StringUTF16", "getChar", "([BI)C"⟩ ∈ lw_g := lw_gin (List.mem_of_getElem? (i := 345) (by decide +kernel)) rfl
theorem w346 : Cond.code yJ2_getChar_3b067 cJ2_getChar_3b067 2 (some .char) ∈ lw_g := lw_gin (List.mem_of_getElem? (i := 346) (by decide +kernel)) rfl
theorem w347 : Cond.fieldLink "java/lang/StringUTF16" 44 "java/lang/StringUTF16" "$assertionsDisabled" "Z" ∈ lw_g := lw_gin (List.mem_of_getElem? (i := 347) (by decide +kernel)) rfl
theorem w349 : Cond.fieldLink "java/lang/StringUTF16" 59 "java/lang/StringUTF16" "HI_BYTE_SHIFT" "I" ∈ lw_g := lw_gin (List.mem_of_getElem? (i := 349) (by decide +kernel)) rfl
theorem w351 : Cond.fieldLink "java/lang/StringUTF16" 63 "java/lang/StringUTF16" "LO_BYTE_SHIFT" "I" ∈ lw_g := lw_gin (List.mem_of_getElem? (i := 351) (by decide +kernel)) rfl
theorem w353 : Cond.methodLink "NecklaceSisters$Text" 51 ⟨"NecklaceSisters$Text", "fits", "(CCC)Z"⟩ ∈ lw_g := lw_gin (List.mem_of_getElem? (i := 353) (by decide +kernel)) rfl
theorem w354 : Cond.static ⟨"NecklaceSisters$Text", "fits", "(CCC)Z"⟩ ∈ lw_g := lw_gin (List.mem_of_getElem? (i := 354) (by decide +kernel)) rfl
theorem w355 : Cond.code yX6_fits cX6_fits 3 (some .boolean) ∈ lw_g := lw_gin (List.mem_of_getElem? (i := 355) (by decide +kernel)) rfl
theorem w357 : Cond.methodLink "NecklaceSisters" 76 ⟨"NecklaceSisters$Necklace", "becomeNew", "()V"⟩ ∈ lw_g := lw_gin (List.mem_of_getElem? (i := 357) (by decide +kernel)) rfl
theorem w358 : Cond.instanceMethod ⟨"NecklaceSisters$Necklace", "becomeNew", "()V"⟩ ∈ lw_g := lw_gin (List.mem_of_getElem? (i := 358) (by decide +kernel)) rfl
theorem w359 : Cond.selects "NecklaceSisters$Necklace" ⟨"NecklaceSisters$Necklace", "becomeNew", "()V"⟩ ⟨"NecklaceSisters$Necklace", "becomeNew", "()V"⟩ ∈ lw_g := lw_gin (List.mem_of_getElem? (i := 359) (by decide +kernel)) rfl
theorem w360 : Cond.code yX2_becomeNew cX2_becomeNew 1 none ∈ lw_g := lw_gin (List.mem_of_getElem? (i := 360) (by decide +kernel)) rfl
theorem w361 : Cond.methodLink "NecklaceSisters$Necklace" 37 ⟨"NecklaceSisters$Necklace", "loosen", "()V"⟩ ∈ lw_g := lw_gin (List.mem_of_getElem? (i := 361) (by decide +kernel)) rfl
theorem w362 : Cond.instanceMethod ⟨"NecklaceSisters$Necklace", "loosen", "()V"⟩ ∈ lw_g := lw_gin (List.mem_of_getElem? (i := 362) (by decide +kernel)) rfl
theorem w363 : Cond.selects "NecklaceSisters$Necklace" ⟨"NecklaceSisters$Necklace", "loosen", "()V"⟩ ⟨"NecklaceSisters$Necklace", "loosen", "()V"⟩ ∈ lw_g := lw_gin (List.mem_of_getElem? (i := 363) (by decide +kernel)) rfl
theorem w364 : Cond.code yX2_loosen cX2_loosen 2 none ∈ lw_g := lw_gin (List.mem_of_getElem? (i := 364) (by decide +kernel)) rfl
theorem w365 : Cond.methodLink "NecklaceSisters$Necklace" 57 ⟨"NecklaceSisters$Necklace", "putOwner", "(II)V"⟩ ∈ lw_g := lw_gin (List.mem_of_getElem? (i := 365) (by decide +kernel)) rfl
theorem w367 : Cond.instanceMethod ⟨"NecklaceSisters$Necklace", "putOwner", "(II)V"⟩ ∈ lw_g := lw_gin (List.mem_of_getElem? (i := 367) (by decide +kernel)) rfl
theorem w368 : Cond.code yX2_putOwner cX2_putOwner 3 none ∈ lw_g := lw_gin (List.mem_of_getElem? (i := 368) (by decide +kernel)) rfl
theorem w369 : Cond.methodLink "NecklaceSisters" 79 ⟨"NecklaceSisters$History", "forgetAll", "()V"⟩ ∈ lw_g := lw_gin (List.mem_of_getElem? (i := 369) (by decide +kernel)) rfl
theorem w370 : Cond.instanceMethod ⟨"NecklaceSisters$History", "forgetAll", "()V"⟩ ∈ lw_g := lw_gin (List.mem_of_getElem? (i := 370) (by decide +kernel)) rfl
theorem w371 : Cond.selects "NecklaceSisters$History" ⟨"NecklaceSisters$History", "forgetAll", "()V"⟩ ⟨"NecklaceSisters$History", "forgetAll", "()V"⟩ ∈ lw_g := lw_gin (List.mem_of_getElem? (i := 371) (by decide +kernel)) rfl
theorem w372 : Cond.code yX1_forgetAll cX1_forgetAll 1 none ∈ lw_g := lw_gin (List.mem_of_getElem? (i := 372) (by decide +kernel)) rfl
theorem w373 : Cond.methodLink "NecklaceSisters" 86 ⟨"NecklaceSisters$Text", "performOn", "(LNecklaceSisters$Necklace;)I"⟩ ∈ lw_g := lw_gin (List.mem_of_getElem? (i := 373) (by decide +kernel)) rfl
theorem w374 : Cond.instanceMethod ⟨"NecklaceSisters$Text", "performOn", "(LNecklaceSisters$Necklace;)I"⟩ ∈ lw_g := lw_gin (List.mem_of_getElem? (i := 374) (by decide +kernel)) rfl
theorem w375 : Cond.selects "NecklaceSisters$Text" ⟨"NecklaceSisters$Text", "performOn", "(LNecklaceSisters$Necklace;)I"⟩ ⟨"NecklaceSisters$Text", "performOn", "(LNecklaceSisters$Necklace;)I"⟩ ∈ lw_g := lw_gin (List.mem_of_getElem? (i := 375) (by decide +kernel)) rfl
theorem w376 : Cond.code yX6_performOn cX6_performOn 5 (some .int) ∈ lw_g := lw_gin (List.mem_of_getElem? (i := 376) (by decide +kernel)) rfl
theorem w377 : Cond.methodLink "NecklaceSisters$Text" 55 ⟨"NecklaceSisters$Text", "performs", "(ILNecklaceSisters$Necklace;)Z"⟩ ∈ lw_g := lw_gin (List.mem_of_getElem? (i := 377) (by decide +kernel)) rfl
theorem w379 : Cond.instanceMethod ⟨"NecklaceSisters$Text", "performs", "(ILNecklaceSisters$Necklace;)Z"⟩ ∈ lw_g := lw_gin (List.mem_of_getElem? (i := 379) (by decide +kernel)) rfl
theorem w380 : Cond.code yX6_performs cX6_performs 3 (some .boolean) ∈ lw_g := lw_gin (List.mem_of_getElem? (i := 380) (by decide +kernel)) rfl
theorem w381 : Cond.methodLink "NecklaceSisters$Text" 23 ⟨"NecklaceSisters$Text", "digitAt", "(I)I"⟩ ∈ lw_g := lw_gin (List.mem_of_getElem? (i := 381) (by decide +kernel)) rfl
theorem w383 : Cond.instanceMethod ⟨"NecklaceSisters$Text", "digitAt", "(I)I"⟩ ∈ lw_g := lw_gin (List.mem_of_getElem? (i := 383) (by decide +kernel)) rfl
theorem w384 : Cond.code yX6_digitAt cX6_digitAt 2 (some .int) ∈ lw_g := lw_gin (List.mem_of_getElem? (i := 384) (by decide +kernel)) rfl
theorem w385 : Cond.methodLink "NecklaceSisters$Text" 59 ⟨"NecklaceSisters$Necklace", "addJewel", "(II)Z"⟩ ∈ lw_g := lw_gin (List.mem_of_getElem? (i := 385) (by decide +kernel)) rfl
theorem w386 : Cond.instanceMethod ⟨"NecklaceSisters$Necklace", "addJewel", "(II)Z"⟩ ∈ lw_g := lw_gin (List.mem_of_getElem? (i := 386) (by decide +kernel)) rfl
theorem w387 : Cond.selects "NecklaceSisters$Necklace" ⟨"NecklaceSisters$Necklace", "addJewel", "(II)Z"⟩ ⟨"NecklaceSisters$Necklace", "addJewel", "(II)Z"⟩ ∈ lw_g := lw_gin (List.mem_of_getElem? (i := 387) (by decide +kernel)) rfl
theorem w388 : Cond.code yX2_addJewel cX2_addJewel 3 (some .boolean) ∈ lw_g := lw_gin (List.mem_of_getElem? (i := 388) (by decide +kernel)) rfl
theorem w390 : Cond.static ⟨"NecklaceSisters", "isKind", "(I)Z"⟩ ∈ lw_g := lw_gin (List.mem_of_getElem? (i := 390) (by decide +kernel)) rfl
theorem w391 : Cond.code yX7_isKind cX7_isKind 1 (some .boolean) ∈ lw_g := lw_gin (List.mem_of_getElem? (i := 391) (by decide +kernel)) rfl
theorem w393 : Cond.static ⟨"NecklaceSisters", "isWeight", "(I)Z"⟩ ∈ lw_g := lw_gin (List.mem_of_getElem? (i := 393) (by decide +kernel)) rfl
theorem w394 : Cond.code yX7_isWeight cX7_isWeight 1 (some .boolean) ∈ lw_g := lw_gin (List.mem_of_getElem? (i := 394) (by decide +kernel)) rfl
theorem w395 : Cond.methodLink "NecklaceSisters$Necklace" 50 ⟨"NecklaceSisters$Necklace", "putJewel", "(III)V"⟩ ∈ lw_g := lw_gin (List.mem_of_getElem? (i := 395) (by decide +kernel)) rfl
theorem w397 : Cond.instanceMethod ⟨"NecklaceSisters$Necklace", "putJewel", "(III)V"⟩ ∈ lw_g := lw_gin (List.mem_of_getElem? (i := 397) (by decide +kernel)) rfl
theorem w398 : Cond.code yX2_putJewel cX2_putJewel 4 none ∈ lw_g := lw_gin (List.mem_of_getElem? (i := 398) (by decide +kernel)) rfl
theorem w399 : Cond.methodLink "NecklaceSisters$Text" 65 ⟨"NecklaceSisters$Text", "numberAt", "(I)I"⟩ ∈ lw_g := lw_gin (List.mem_of_getElem? (i := 399) (by decide +kernel)) rfl
theorem w401 : Cond.instanceMethod ⟨"NecklaceSisters$Text", "numberAt", "(I)I"⟩ ∈ lw_g := lw_gin (List.mem_of_getElem? (i := 401) (by decide +kernel)) rfl
theorem w402 : Cond.code yX6_numberAt cX6_numberAt 2 (some .int) ∈ lw_g := lw_gin (List.mem_of_getElem? (i := 402) (by decide +kernel)) rfl
theorem w403 : Cond.methodLink "NecklaceSisters$Text" 68 ⟨"NecklaceSisters$Necklace", "breakAhead", "(I)Z"⟩ ∈ lw_g := lw_gin (List.mem_of_getElem? (i := 403) (by decide +kernel)) rfl
theorem w404 : Cond.instanceMethod ⟨"NecklaceSisters$Necklace", "breakAhead", "(I)Z"⟩ ∈ lw_g := lw_gin (List.mem_of_getElem? (i := 404) (by decide +kernel)) rfl
theorem w405 : Cond.selects "NecklaceSisters$Necklace" ⟨"NecklaceSisters$Necklace", "breakAhead", "(I)Z"⟩ ⟨"NecklaceSisters$Necklace", "breakAhead", "(I)Z"⟩ ∈ lw_g := lw_gin (List.mem_of_getElem? (i := 405) (by decide +kernel)) rfl
theorem w406 : Cond.code yX2_breakAhead cX2_breakAhead 2 (some .boolean) ∈ lw_g := lw_gin (List.mem_of_getElem? (i := 406) (by decide +kernel)) rfl
theorem w407 : Cond.methodLink "NecklaceSisters$Necklace" 104 ⟨"NecklaceSisters$Necklace", "hasJewel", "(I)Z"⟩ ∈ lw_g := lw_gin (List.mem_of_getElem? (i := 407) (by decide +kernel)) rfl
theorem w408 : Cond.instanceMethod ⟨"NecklaceSisters$Necklace", "hasJewel", "(I)Z"⟩ ∈ lw_g := lw_gin (List.mem_of_getElem? (i := 408) (by decide +kernel)) rfl
theorem w409 : Cond.selects "NecklaceSisters$Necklace" ⟨"NecklaceSisters$Necklace", "hasJewel", "(I)Z"⟩ ⟨"NecklaceSisters$Necklace", "hasJewel", "(I)Z"⟩ ∈ lw_g := lw_gin (List.mem_of_getElem? (i := 409) (by decide +kernel)) rfl
theorem w410 : Cond.code yX2_hasJewel cX2_hasJewel 2 (some .boolean) ∈ lw_g := lw_gin (List.mem_of_getElem? (i := 410) (by decide +kernel)) rfl
theorem w411 : Cond.methodLink "NecklaceSisters$Text" 72 ⟨"NecklaceSisters$Necklace", "setCut", "(IZ)Z"⟩ ∈ lw_g := lw_gin (List.mem_of_getElem? (i := 411) (by decide +kernel)) rfl
theorem w412 : Cond.instanceMethod ⟨"NecklaceSisters$Necklace", "setCut", "(IZ)Z"⟩ ∈ lw_g := lw_gin (List.mem_of_getElem? (i := 412) (by decide +kernel)) rfl
theorem w413 : Cond.selects "NecklaceSisters$Necklace" ⟨"NecklaceSisters$Necklace", "setCut", "(IZ)Z"⟩ ⟨"NecklaceSisters$Necklace", "setCut", "(IZ)Z"⟩ ∈ lw_g := lw_gin (List.mem_of_getElem? (i := 413) (by decide +kernel)) rfl
theorem w414 : Cond.code yX2_setCut cX2_setCut 3 (some .boolean) ∈ lw_g := lw_gin (List.mem_of_getElem? (i := 414) (by decide +kernel)) rfl
theorem w415 : Cond.methodLink "NecklaceSisters$Necklace" 111 ⟨"NecklaceSisters$Necklace", "canBeCutAt", "(I)Z"⟩ ∈ lw_g := lw_gin (List.mem_of_getElem? (i := 415) (by decide +kernel)) rfl
theorem w416 : Cond.instanceMethod ⟨"NecklaceSisters$Necklace", "canBeCutAt", "(I)Z"⟩ ∈ lw_g := lw_gin (List.mem_of_getElem? (i := 416) (by decide +kernel)) rfl
theorem w417 : Cond.selects "NecklaceSisters$Necklace" ⟨"NecklaceSisters$Necklace", "canBeCutAt", "(I)Z"⟩ ⟨"NecklaceSisters$Necklace", "canBeCutAt", "(I)Z"⟩ ∈ lw_g := lw_gin (List.mem_of_getElem? (i := 417) (by decide +kernel)) rfl
theorem w418 : Cond.code yX2_canBeCutAt cX2_canBeCutAt 2 (some .boolean) ∈ lw_g := lw_gin (List.mem_of_getElem? (i := 418) (by decide +kernel)) rfl
theorem w419 : Cond.methodLink "NecklaceSisters$Necklace" 114 ⟨"NecklaceSisters$Necklace", "isCut", "(I)Z"⟩ ∈ lw_g := lw_gin (List.mem_of_getElem? (i := 419) (by decide +kernel)) rfl
theorem w420 : Cond.instanceMethod ⟨"NecklaceSisters$Necklace", "isCut", "(I)Z"⟩ ∈ lw_g := lw_gin (List.mem_of_getElem? (i := 420) (by decide +kernel)) rfl
theorem w421 : Cond.selects "NecklaceSisters$Necklace" ⟨"NecklaceSisters$Necklace", "isCut", "(I)Z"⟩ ⟨"NecklaceSisters$Necklace", "isCut", "(I)Z"⟩ ∈ lw_g := lw_gin (List.mem_of_getElem? (i := 421) (by decide +kernel)) rfl
theorem w422 : Cond.code yX2_isCut cX2_isCut 2 (some .boolean) ∈ lw_g := lw_gin (List.mem_of_getElem? (i := 422) (by decide +kernel)) rfl
theorem w423 : Cond.methodLink "NecklaceSisters$Necklace" 70 ⟨"NecklaceSisters$Necklace", "runAt", "(I)I"⟩ ∈ lw_g := lw_gin (List.mem_of_getElem? (i := 423) (by decide +kernel)) rfl
theorem w424 : Cond.instanceMethod ⟨"NecklaceSisters$Necklace", "runAt", "(I)I"⟩ ∈ lw_g := lw_gin (List.mem_of_getElem? (i := 424) (by decide +kernel)) rfl
theorem w425 : Cond.selects "NecklaceSisters$Necklace" ⟨"NecklaceSisters$Necklace", "runAt", "(I)I"⟩ ⟨"NecklaceSisters$Necklace", "runAt", "(I)I"⟩ ∈ lw_g := lw_gin (List.mem_of_getElem? (i := 425) (by decide +kernel)) rfl
theorem w426 : Cond.code yX2_runAt cX2_runAt 2 (some .int) ∈ lw_g := lw_gin (List.mem_of_getElem? (i := 426) (by decide +kernel)) rfl
theorem w427 : Cond.methodLink "NecklaceSisters$Necklace" 65 ⟨"java/lang/Integer", "bitCount", "(I)I"⟩ ∈ lw_g := lw_gin (List.mem_of_getElem? (i := 427) (by decide +kernel)) rfl
theorem w428 : Cond.static ⟨"java/lang/Integer", "bitCount", "(I)I"⟩ ∈ lw_g := lw_gin (List.mem_of_getElem? (i := 428) (by decide +kernel)) rfl
theorem w429 : Cond.code yJ6_bitCount_0f7a4 cJ6_bitCount_0f7a4 1 (some .int) ∈ lw_g := lw_gin (List.mem_of_getElem? (i := 429) (by decide +kernel)) rfl
theorem w430 : Cond.constant "java/lang/Integer" 265 (1431655765) ∈ lw_g := lw_gin (List.mem_of_getElem? (i := 430) (by decide +kernel)) rfl
theorem w431 : Cond.constant "java/lang/Integer" 266 (858993459) ∈ lw_g := lw_gin (List.mem_of_getElem? (i := 431) (by decide +kernel)) rfl
theorem w432 : Cond.constant "java/lang/Integer" 267 (252645135) ∈ lw_g := lw_gin (List.mem_of_getElem? (i := 432) (by decide +kernel)) rfl
theorem w433 : Cond.methodLink "NecklaceSisters$Necklace" 54 ⟨"NecklaceSisters$Necklace", "ownerAt", "(I)I"⟩ ∈ lw_g := lw_gin (List.mem_of_getElem? (i := 433) (by decide +kernel)) rfl
theorem w434 : Cond.instanceMethod ⟨"NecklaceSisters$Necklace", "ownerAt", "(I)I"⟩ ∈ lw_g := lw_gin (List.mem_of_getElem? (i := 434) (by decide +kernel)) rfl
theorem w435 : Cond.selects "NecklaceSisters$Necklace" ⟨"NecklaceSisters$Necklace", "ownerAt", "(I)I"⟩ ⟨"NecklaceSisters$Necklace", "ownerAt", "(I)I"⟩ ∈ lw_g := lw_gin (List.mem_of_getElem? (i := 435) (by decide +kernel)) rfl
theorem w436 : Cond.code yX2_ownerAt cX2_ownerAt 2 (some .int) ∈ lw_g := lw_gin (List.mem_of_getElem? (i := 436) (by decide +kernel)) rfl
theorem w437 : Cond.methodLink "NecklaceSisters$Necklace" 117 ⟨"NecklaceSisters$Necklace", "giveRun", "(II)Z"⟩ ∈ lw_g := lw_gin (List.mem_of_getElem? (i := 437) (by decide +kernel)) rfl
theorem w438 : Cond.instanceMethod ⟨"NecklaceSisters$Necklace", "giveRun", "(II)Z"⟩ ∈ lw_g := lw_gin (List.mem_of_getElem? (i := 438) (by decide +kernel)) rfl
theorem w439 : Cond.selects "NecklaceSisters$Necklace" ⟨"NecklaceSisters$Necklace", "giveRun", "(II)Z"⟩ ⟨"NecklaceSisters$Necklace", "giveRun", "(II)Z"⟩ ∈ lw_g := lw_gin (List.mem_of_getElem? (i := 439) (by decide +kernel)) rfl
theorem w440 : Cond.code yX2_giveRun cX2_giveRun 4 (some .boolean) ∈ lw_g := lw_gin (List.mem_of_getElem? (i := 440) (by decide +kernel)) rfl
theorem w441 : Cond.methodLink "NecklaceSisters$Necklace" 120 ⟨"NecklaceSisters$Necklace", "hasRun", "(I)Z"⟩ ∈ lw_g := lw_gin (List.mem_of_getElem? (i := 441) (by decide +kernel)) rfl
theorem w442 : Cond.instanceMethod ⟨"NecklaceSisters$Necklace", "hasRun", "(I)Z"⟩ ∈ lw_g := lw_gin (List.mem_of_getElem? (i := 442) (by decide +kernel)) rfl
theorem w443 : Cond.selects "NecklaceSisters$Necklace" ⟨"NecklaceSisters$Necklace", "hasRun", "(I)Z"⟩ ⟨"NecklaceSisters$Necklace", "hasRun", "(I)Z"⟩ ∈ lw_g := lw_gin (List.mem_of_getElem? (i := 443) (by decide +kernel)) rfl
theorem w444 : Cond.code yX2_hasRun cX2_hasRun 2 (some .boolean) ∈ lw_g := lw_gin (List.mem_of_getElem? (i := 444) (by decide +kernel)) rfl
theorem w445 : Cond.methodLink "NecklaceSisters$Necklace" 61 ⟨"NecklaceSisters$Necklace", "runs", "()I"⟩ ∈ lw_g := lw_gin (List.mem_of_getElem? (i := 445) (by decide +kernel)) rfl
theorem w446 : Cond.instanceMethod ⟨"NecklaceSisters$Necklace", "runs", "()I"⟩ ∈ lw_g := lw_gin (List.mem_of_getElem? (i := 446) (by decide +kernel)) rfl
theorem w447 : Cond.selects "NecklaceSisters$Necklace" ⟨"NecklaceSisters$Necklace", "runs", "()I"⟩ ⟨"NecklaceSisters$Necklace", "runs", "()I"⟩ ∈ lw_g := lw_gin (List.mem_of_getElem? (i := 447) (by decide +kernel)) rfl
theorem w448 : Cond.code yX2_runs cX2_runs 1 (some .int) ∈ lw_g := lw_gin (List.mem_of_getElem? (i := 448) (by decide +kernel)) rfl
theorem w450 : Cond.static ⟨"NecklaceSisters", "isOwner", "(I)Z"⟩ ∈ lw_g := lw_gin (List.mem_of_getElem? (i := 450) (by decide +kernel)) rfl
theorem w451 : Cond.code yX7_isOwner cX7_isOwner 1 (some .boolean) ∈ lw_g := lw_gin (List.mem_of_getElem? (i := 451) (by decide +kernel)) rfl
theorem w452 : Cond.methodLink "NecklaceSisters" 177 ⟨"NecklaceSisters", "isSister", "(I)Z"⟩ ∈ lw_g := lw_gin (List.mem_of_getElem? (i := 452) (by decide +kernel)) rfl
theorem w453 : Cond.static ⟨"NecklaceSisters", "isSister", "(I)Z"⟩ ∈ lw_g := lw_gin (List.mem_of_getElem? (i := 453) (by decide +kernel)) rfl
theorem w454 : Cond.code yX7_isSister cX7_isSister 1 (some .boolean) ∈ lw_g := lw_gin (List.mem_of_getElem? (i := 454) (by decide +kernel)) rfl
theorem w456 : Cond.static ⟨"NecklaceSisters", "ownerFor", "(I)I"⟩ ∈ lw_g := lw_gin (List.mem_of_getElem? (i := 456) (by decide +kernel)) rfl
theorem w457 : Cond.code yX7_ownerFor cX7_ownerFor 1 (some .int) ∈ lw_g := lw_gin (List.mem_of_getElem? (i := 457) (by decide +kernel)) rfl
theorem w458 : Cond.methodLink "NecklaceSisters$Text" 79 ⟨"NecklaceSisters$Necklace", "giveRun", "(II)Z"⟩ ∈ lw_g := lw_gin (List.mem_of_getElem? (i := 458) (by decide +kernel)) rfl
theorem w459 : Cond.methodLink "NecklaceSisters$Text" 82 ⟨"NecklaceSisters$Necklace", "takeRun", "(I)Z"⟩ ∈ lw_g := lw_gin (List.mem_of_getElem? (i := 459) (by decide +kernel)) rfl
theorem w460 : Cond.instanceMethod ⟨"NecklaceSisters$Necklace", "takeRun", "(I)Z"⟩ ∈ lw_g := lw_gin (List.mem_of_getElem? (i := 460) (by decide +kernel)) rfl
theorem w461 : Cond.selects "NecklaceSisters$Necklace" ⟨"NecklaceSisters$Necklace", "takeRun", "(I)Z"⟩ ⟨"NecklaceSisters$Necklace", "takeRun", "(I)Z"⟩ ∈ lw_g := lw_gin (List.mem_of_getElem? (i := 461) (by decide +kernel)) rfl
theorem w462 : Cond.code yX2_takeRun cX2_takeRun 2 (some .boolean) ∈ lw_g := lw_gin (List.mem_of_getElem? (i := 462) (by decide +kernel)) rfl
theorem w463 : Cond.methodLink "NecklaceSisters$Necklace" 126 ⟨"NecklaceSisters$Necklace", "reasonAgainstTaking", "(I)I"⟩ ∈ lw_g := lw_gin (List.mem_of_getElem? (i := 463) (by decide +kernel)) rfl
theorem w464 : Cond.instanceMethod ⟨"NecklaceSisters$Necklace", "reasonAgainstTaking", "(I)I"⟩ ∈ lw_g := lw_gin (List.mem_of_getElem? (i := 464) (by decide +kernel)) rfl
theorem w465 : Cond.selects "NecklaceSisters$Necklace" ⟨"NecklaceSisters$Necklace", "reasonAgainstTaking", "(I)I"⟩ ⟨"NecklaceSisters$Necklace", "reasonAgainstTaking", "(I)I"⟩ ∈ lw_g := lw_gin (List.mem_of_getElem? (i := 465) (by decide +kernel)) rfl
theorem w466 : Cond.code yX2_reasonAgainstTaking cX2_reasonAgainstTaking 3 (some .int) ∈ lw_g := lw_gin (List.mem_of_getElem? (i := 466) (by decide +kernel)) rfl
theorem w467 : Cond.methodLink "NecklaceSisters$Necklace" 94 ⟨"NecklaceSisters$Necklace", "firstPlaceOf", "(I)I"⟩ ∈ lw_g := lw_gin (List.mem_of_getElem? (i := 467) (by decide +kernel)) rfl
theorem w468 : Cond.instanceMethod ⟨"NecklaceSisters$Necklace", "firstPlaceOf", "(I)I"⟩ ∈ lw_g := lw_gin (List.mem_of_getElem? (i := 468) (by decide +kernel)) rfl
theorem w469 : Cond.selects "NecklaceSisters$Necklace" ⟨"NecklaceSisters$Necklace", "firstPlaceOf", "(I)I"⟩ ⟨"NecklaceSisters$Necklace", "firstPlaceOf", "(I)I"⟩ ∈ lw_g := lw_gin (List.mem_of_getElem? (i := 469) (by decide +kernel)) rfl
theorem w470 : Cond.code yX2_firstPlaceOf cX2_firstPlaceOf 3 (some .int) ∈ lw_g := lw_gin (List.mem_of_getElem? (i := 470) (by decide +kernel)) rfl
theorem w471 : Cond.methodLink "NecklaceSisters$Text" 85 ⟨"NecklaceSisters$Necklace", "dealRuns", "(I)Z"⟩ ∈ lw_g := lw_gin (List.mem_of_getElem? (i := 471) (by decide +kernel)) rfl
theorem w472 : Cond.instanceMethod ⟨"NecklaceSisters$Necklace", "dealRuns", "(I)Z"⟩ ∈ lw_g := lw_gin (List.mem_of_getElem? (i := 472) (by decide +kernel)) rfl
theorem w473 : Cond.selects "NecklaceSisters$Necklace" ⟨"NecklaceSisters$Necklace", "dealRuns", "(I)Z"⟩ ⟨"NecklaceSisters$Necklace", "dealRuns", "(I)Z"⟩ ∈ lw_g := lw_gin (List.mem_of_getElem? (i := 473) (by decide +kernel)) rfl
theorem w474 : Cond.code yX2_dealRuns cX2_dealRuns 3 (some .boolean) ∈ lw_g := lw_gin (List.mem_of_getElem? (i := 474) (by decide +kernel)) rfl
theorem w476 : Cond.methodLink "NecklaceSisters$Text" 88 ⟨"NecklaceSisters$Necklace", "chooseSetting", "(I)Z"⟩ ∈ lw_g := lw_gin (List.mem_of_getElem? (i := 476) (by decide +kernel)) rfl
theorem w477 : Cond.instanceMethod ⟨"NecklaceSisters$Necklace", "chooseSetting", "(I)Z"⟩ ∈ lw_g := lw_gin (List.mem_of_getElem? (i := 477) (by decide +kernel)) rfl
theorem w478 : Cond.selects "NecklaceSisters$Necklace" ⟨"NecklaceSisters$Necklace", "chooseSetting", "(I)Z"⟩ ⟨"NecklaceSisters$Necklace", "chooseSetting", "(I)Z"⟩ ∈ lw_g := lw_gin (List.mem_of_getElem? (i := 478) (by decide +kernel)) rfl
theorem w479 : Cond.code yX2_chooseSetting cX2_chooseSetting 2 (some .boolean) ∈ lw_g := lw_gin (List.mem_of_getElem? (i := 479) (by decide +kernel)) rfl
theorem w481 : Cond.static ⟨"NecklaceSisters", "isSetting", "(I)Z"⟩ ∈ lw_g := lw_gin (List.mem_of_getElem? (i := 481) (by decide +kernel)) rfl
theorem w482 : Cond.code yX7_isSetting cX7_isSetting 1 (some .boolean) ∈ lw_g := lw_gin (List.mem_of_getElem? (i := 482) (by decide +kernel)) rfl
theorem w483 : Cond.methodLink "NecklaceSisters$Text" 91 ⟨"NecklaceSisters$Necklace", "reverseRing", "()V"⟩ ∈ lw_g := lw_gin (List.mem_of_getElem? (i := 483) (by decide +kernel)) rfl
theorem w484 : Cond.instanceMethod ⟨"NecklaceSisters$Necklace", "reverseRing", "()V"⟩ ∈ lw_g := lw_gin (List.mem_of_getElem? (i := 484) (by decide +kernel)) rfl
theorem w485 : Cond.selects "NecklaceSisters$Necklace" ⟨"NecklaceSisters$Necklace", "reverseRing", "()V"⟩ ⟨"NecklaceSisters$Necklace", "reverseRing", "()V"⟩ ∈ lw_g := lw_gin (List.mem_of_getElem? (i := 485) (by decide +kernel)) rfl
theorem w486 : Cond.code yX2_reverseRing cX2_reverseRing 2 none ∈ lw_g := lw_gin (List.mem_of_getElem? (i := 486) (by decide +kernel)) rfl
theorem w487 : Cond.methodLink "NecklaceSisters$Necklace" 107 ⟨"NecklaceSisters$Necklace", "swapJewels", "(II)Z"⟩ ∈ lw_g := lw_gin (List.mem_of_getElem? (i := 487) (by decide +kernel)) rfl
theorem w488 : Cond.instanceMethod ⟨"NecklaceSisters$Necklace", "swapJewels", "(II)Z"⟩ ∈ lw_g := lw_gin (List.mem_of_getElem? (i := 488) (by decide +kernel)) rfl
theorem w489 : Cond.selects "NecklaceSisters$Necklace" ⟨"NecklaceSisters$Necklace", "swapJewels", "(II)Z"⟩ ⟨"NecklaceSisters$Necklace", "swapJewels", "(II)Z"⟩ ∈ lw_g := lw_gin (List.mem_of_getElem? (i := 489) (by decide +kernel)) rfl
theorem w490 : Cond.code yX2_swapJewels cX2_swapJewels 5 (some .boolean) ∈ lw_g := lw_gin (List.mem_of_getElem? (i := 490) (by decide +kernel)) rfl
theorem w491 : Cond.methodLink "NecklaceSisters$Necklace" 43 ⟨"NecklaceSisters$Necklace", "kindOf", "(I)I"⟩ ∈ lw_g := lw_gin (List.mem_of_getElem? (i := 491) (by decide +kernel)) rfl
theorem w492 : Cond.instanceMethod ⟨"NecklaceSisters$Necklace", "kindOf", "(I)I"⟩ ∈ lw_g := lw_gin (List.mem_of_getElem? (i := 492) (by decide +kernel)) rfl
theorem w493 : Cond.selects "NecklaceSisters$Necklace" ⟨"NecklaceSisters$Necklace", "kindOf", "(I)I"⟩ ⟨"NecklaceSisters$Necklace", "kindOf", "(I)I"⟩ ∈ lw_g := lw_gin (List.mem_of_getElem? (i := 493) (by decide +kernel)) rfl
theorem w494 : Cond.code yX2_kindOf cX2_kindOf 2 (some .int) ∈ lw_g := lw_gin (List.mem_of_getElem? (i := 494) (by decide +kernel)) rfl
theorem w495 : Cond.methodLink "NecklaceSisters$Necklace" 47 ⟨"NecklaceSisters$Necklace", "weightOf", "(I)I"⟩ ∈ lw_g := lw_gin (List.mem_of_getElem? (i := 495) (by decide +kernel)) rfl
theorem w496 : Cond.instanceMethod ⟨"NecklaceSisters$Necklace", "weightOf", "(I)I"⟩ ∈ lw_g := lw_gin (List.mem_of_getElem? (i := 496) (by decide +kernel)) rfl
theorem w497 : Cond.selects "NecklaceSisters$Necklace" ⟨"NecklaceSisters$Necklace", "weightOf", "(I)I"⟩ ⟨"NecklaceSisters$Necklace", "weightOf", "(I)I"⟩ ∈ lw_g := lw_gin (List.mem_of_getElem? (i := 497) (by decide +kernel)) rfl
theorem w498 : Cond.code yX2_weightOf cX2_weightOf 2 (some .int) ∈ lw_g := lw_gin (List.mem_of_getElem? (i := 498) (by decide +kernel)) rfl
theorem w499 : Cond.methodLink "NecklaceSistersLaw" 109 ⟨"NecklaceSistersLaw", "tryAbout", "(LNecklaceSisters;I)I"⟩ ∈ lw_g := lw_gin (List.mem_of_getElem? (i := 499) (by decide +kernel)) rfl
theorem w502 : Cond.methodLink "NecklaceSistersLaw" 38 ⟨"NecklaceSisters", "about", "(I)I"⟩ ∈ lw_g := lw_gin (List.mem_of_getElem? (i := 502) (by decide +kernel)) rfl
theorem w503 : Cond.instanceMethod ⟨"NecklaceSisters", "about", "(I)I"⟩ ∈ lw_g := lw_gin (List.mem_of_getElem? (i := 503) (by decide +kernel)) rfl
theorem w504 : Cond.selects "NecklaceSisters" ⟨"NecklaceSisters", "about", "(I)I"⟩ ⟨"NecklaceSisters", "about", "(I)I"⟩ ∈ lw_g := lw_gin (List.mem_of_getElem? (i := 504) (by decide +kernel)) rfl
theorem w505 : Cond.code yX7_about cX7_about 2 (some .int) ∈ lw_g := lw_gin (List.mem_of_getElem? (i := 505) (by decide +kernel)) rfl
theorem w506 : Cond.methodLink "NecklaceSisters" 96 ⟨"NecklaceSisters$Necklace", "cutCount", "()I"⟩ ∈ lw_g := lw_gin (List.mem_of_getElem? (i := 506) (by decide +kernel)) rfl
theorem w507 : Cond.instanceMethod ⟨"NecklaceSisters$Necklace", "cutCount", "()I"⟩ ∈ lw_g := lw_gin (List.mem_of_getElem? (i := 507) (by decide +kernel)) rfl
theorem w508 : Cond.selects "NecklaceSisters$Necklace" ⟨"NecklaceSisters$Necklace", "cutCount", "()I"⟩ ⟨"NecklaceSisters$Necklace", "cutCount", "()I"⟩ ∈ lw_g := lw_gin (List.mem_of_getElem? (i := 508) (by decide +kernel)) rfl
theorem w509 : Cond.code yX2_cutCount cX2_cutCount 1 (some .int) ∈ lw_g := lw_gin (List.mem_of_getElem? (i := 509) (by decide +kernel)) rfl
theorem w510 : Cond.methodLink "NecklaceSisters" 99 ⟨"NecklaceSisters$Necklace", "runs", "()I"⟩ ∈ lw_g := lw_gin (List.mem_of_getElem? (i := 510) (by decide +kernel)) rfl
theorem w511 : Cond.methodLink "NecklaceSisters" 102 ⟨"NecklaceSisters$Necklace", "gap", "()I"⟩ ∈ lw_g := lw_gin (List.mem_of_getElem? (i := 511) (by decide +kernel)) rfl
theorem w512 : Cond.instanceMethod ⟨"NecklaceSisters$Necklace", "gap", "()I"⟩ ∈ lw_g := lw_gin (List.mem_of_getElem? (i := 512) (by decide +kernel)) rfl
theorem w513 : Cond.selects "NecklaceSisters$Necklace" ⟨"NecklaceSisters$Necklace", "gap", "()I"⟩ ⟨"NecklaceSisters$Necklace", "gap", "()I"⟩ ∈ lw_g := lw_gin (List.mem_of_getElem? (i := 513) (by decide +kernel)) rfl
theorem w514 : Cond.code yX2_gap cX2_gap 3 (some .int) ∈ lw_g := lw_gin (List.mem_of_getElem? (i := 514) (by decide +kernel)) rfl
theorem w515 : Cond.methodLink "NecklaceSisters$Necklace" 79 ⟨"NecklaceSisters$Necklace", "holding", "(II)I"⟩ ∈ lw_g := lw_gin (List.mem_of_getElem? (i := 515) (by decide +kernel)) rfl
theorem w516 : Cond.instanceMethod ⟨"NecklaceSisters$Necklace", "holding", "(II)I"⟩ ∈ lw_g := lw_gin (List.mem_of_getElem? (i := 516) (by decide +kernel)) rfl
theorem w517 : Cond.selects "NecklaceSisters$Necklace" ⟨"NecklaceSisters$Necklace", "holding", "(II)I"⟩ ⟨"NecklaceSisters$Necklace", "holding", "(II)I"⟩ ∈ lw_g := lw_gin (List.mem_of_getElem? (i := 517) (by decide +kernel)) rfl
theorem w518 : Cond.code yX2_holding cX2_holding 6 (some .int) ∈ lw_g := lw_gin (List.mem_of_getElem? (i := 518) (by decide +kernel)) rfl
theorem w519 : Cond.methodLink "NecklaceSisters$Necklace" 73 ⟨"NecklaceSisters$Necklace", "jewelAt", "(I)I"⟩ ∈ lw_g := lw_gin (List.mem_of_getElem? (i := 519) (by decide +kernel)) rfl
theorem w520 : Cond.instanceMethod ⟨"NecklaceSisters$Necklace", "jewelAt", "(I)I"⟩ ∈ lw_g := lw_gin (List.mem_of_getElem? (i := 520) (by decide +kernel)) rfl
theorem w521 : Cond.selects "NecklaceSisters$Necklace" ⟨"NecklaceSisters$Necklace", "jewelAt", "(I)I"⟩ ⟨"NecklaceSisters$Necklace", "jewelAt", "(I)I"⟩ ∈ lw_g := lw_gin (List.mem_of_getElem? (i := 521) (by decide +kernel)) rfl
theorem w522 : Cond.code yX2_jewelAt cX2_jewelAt 3 (some .int) ∈ lw_g := lw_gin (List.mem_of_getElem? (i := 522) (by decide +kernel)) rfl
theorem w523 : Cond.methodLink "NecklaceSisters$Necklace" 76 ⟨"NecklaceSisters$Necklace", "valueOf", "(I)I"⟩ ∈ lw_g := lw_gin (List.mem_of_getElem? (i := 523) (by decide +kernel)) rfl
theorem w524 : Cond.instanceMethod ⟨"NecklaceSisters$Necklace", "valueOf", "(I)I"⟩ ∈ lw_g := lw_gin (List.mem_of_getElem? (i := 524) (by decide +kernel)) rfl
theorem w525 : Cond.selects "NecklaceSisters$Necklace" ⟨"NecklaceSisters$Necklace", "valueOf", "(I)I"⟩ ⟨"NecklaceSisters$Necklace", "valueOf", "(I)I"⟩ ∈ lw_g := lw_gin (List.mem_of_getElem? (i := 525) (by decide +kernel)) rfl
theorem w526 : Cond.code yX2_valueOf cX2_valueOf 2 (some .int) ∈ lw_g := lw_gin (List.mem_of_getElem? (i := 526) (by decide +kernel)) rfl
theorem w527 : Cond.methodLink "NecklaceSisters$Necklace" 83 ⟨"java/lang/Math", "abs", "(I)I"⟩ ∈ lw_g := lw_gin (List.mem_of_getElem? (i := 527) (by decide +kernel)) rfl
theorem w528 : Cond.static ⟨"java/lang/Math", "abs", "(I)I"⟩ ∈ lw_g := lw_gin (List.mem_of_getElem? (i := 528) (by decide +kernel)) rfl
theorem w529 : Cond.code yJ9_abs_0f7a4 cJ9_abs_0f7a4 1 (some .int) ∈ lw_g := lw_gin (List.mem_of_getElem? (i := 529) (by decide +kernel)) rfl
theorem w530 : Cond.methodLink "NecklaceSisters" 105 ⟨"NecklaceSisters$Necklace", "isFair", "()Z"⟩ ∈ lw_g := lw_gin (List.mem_of_getElem? (i := 530) (by decide +kernel)) rfl
theorem w531 : Cond.instanceMethod ⟨"NecklaceSisters$Necklace", "isFair", "()Z"⟩ ∈ lw_g := lw_gin (List.mem_of_getElem? (i := 531) (by decide +kernel)) rfl
theorem w532 : Cond.selects "NecklaceSisters$Necklace" ⟨"NecklaceSisters$Necklace", "isFair", "()Z"⟩ ⟨"NecklaceSisters$Necklace", "isFair", "()Z"⟩ ∈ lw_g := lw_gin (List.mem_of_getElem? (i := 532) (by decide +kernel)) rfl
theorem w533 : Cond.code yX2_isFair cX2_isFair 1 (some .boolean) ∈ lw_g := lw_gin (List.mem_of_getElem? (i := 533) (by decide +kernel)) rfl
theorem w534 : Cond.methodLink "NecklaceSisters$Necklace" 88 ⟨"NecklaceSisters$Necklace", "placesOfNobody", "()I"⟩ ∈ lw_g := lw_gin (List.mem_of_getElem? (i := 534) (by decide +kernel)) rfl
theorem w535 : Cond.instanceMethod ⟨"NecklaceSisters$Necklace", "placesOfNobody", "()I"⟩ ∈ lw_g := lw_gin (List.mem_of_getElem? (i := 535) (by decide +kernel)) rfl
theorem w536 : Cond.selects "NecklaceSisters$Necklace" ⟨"NecklaceSisters$Necklace", "placesOfNobody", "()I"⟩ ⟨"NecklaceSisters$Necklace", "placesOfNobody", "()I"⟩ ∈ lw_g := lw_gin (List.mem_of_getElem? (i := 536) (by decide +kernel)) rfl
theorem w537 : Cond.code yX2_placesOfNobody cX2_placesOfNobody 3 (some .int) ∈ lw_g := lw_gin (List.mem_of_getElem? (i := 537) (by decide +kernel)) rfl
theorem w538 : Cond.methodLink "NecklaceSisters$Necklace" 91 ⟨"NecklaceSisters$Necklace", "gap", "()I"⟩ ∈ lw_g := lw_gin (List.mem_of_getElem? (i := 538) (by decide +kernel)) rfl
theorem w539 : Cond.methodLink "NecklaceSisters" 112 ⟨"NecklaceSisters$Necklace", "placesOfNobody", "()I"⟩ ∈ lw_g := lw_gin (List.mem_of_getElem? (i := 539) (by decide +kernel)) rfl
theorem w541 : Cond.methodLink "NecklaceSistersLaw" 112 ⟨"NecklaceSistersLaw", "tryJewel", "(LNecklaceSisters;II)I"⟩ ∈ lw_g := lw_gin (List.mem_of_getElem? (i := 541) (by decide +kernel)) rfl
theorem w545 : Cond.methodLink "NecklaceSistersLaw" 41 ⟨"NecklaceSisters", "jewelOf", "(II)I"⟩ ∈ lw_g := lw_gin (List.mem_of_getElem? (i := 545) (by decide +kernel)) rfl
theorem w546 : Cond.instanceMethod ⟨"NecklaceSisters", "jewelOf", "(II)I"⟩ ∈ lw_g := lw_gin (List.mem_of_getElem? (i := 546) (by decide +kernel)) rfl
theorem w547 : Cond.selects "NecklaceSisters" ⟨"NecklaceSisters", "jewelOf", "(II)I"⟩ ⟨"NecklaceSisters", "jewelOf", "(II)I"⟩ ∈ lw_g := lw_gin (List.mem_of_getElem? (i := 547) (by decide +kernel)) rfl
theorem w548 : Cond.code yX7_jewelOf cX7_jewelOf 3 (some .int) ∈ lw_g := lw_gin (List.mem_of_getElem? (i := 548) (by decide +kernel)) rfl
theorem w549 : Cond.methodLink "NecklaceSisters" 123 ⟨"NecklaceSisters$Necklace", "hasJewel", "(I)Z"⟩ ∈ lw_g := lw_gin (List.mem_of_getElem? (i := 549) (by decide +kernel)) rfl
theorem w560 : Cond.methodLink "NecklaceSisters" 131 ⟨"java/lang/IndexOutOfBoundsException", "<init>", "(Ljava/lang/String;)V"⟩ ∈ lw_g := lw_gin (List.mem_of_getElem? (i := 560) (by decide +kernel)) rfl
theorem w563 : Cond.methodLink "java/lang/IndexOutOfBoundsException" 7 ⟨"java/lang/RuntimeException", "<init>", "(Ljava/lang/String;)V"⟩ ∈ lw_g := lw_gin (List.mem_of_getElem? (i := 563) (by decide +kernel)) rfl
theorem w566 : Cond.methodLink "NecklaceSisters" 132 ⟨"NecklaceSisters$Necklace", "kindOf", "(I)I"⟩ ∈ lw_g := lw_gin (List.mem_of_getElem? (i := 566) (by decide +kernel)) rfl
theorem w567 : Cond.methodLink "NecklaceSisters" 136 ⟨"NecklaceSisters$Necklace", "weightOf", "(I)I"⟩ ∈ lw_g := lw_gin (List.mem_of_getElem? (i := 567) (by decide +kernel)) rfl
theorem w568 : Cond.methodLink "NecklaceSisters" 139 ⟨"NecklaceSisters$Necklace", "placeWith", "(I)I"⟩ ∈ lw_g := lw_gin (List.mem_of_getElem? (i := 568) (by decide +kernel)) rfl
theorem w569 : Cond.instanceMethod ⟨"NecklaceSisters$Necklace", "placeWith", "(I)I"⟩ ∈ lw_g := lw_gin (List.mem_of_getElem? (i := 569) (by decide +kernel)) rfl
theorem w570 : Cond.selects "NecklaceSisters$Necklace" ⟨"NecklaceSisters$Necklace", "placeWith", "(I)I"⟩ ⟨"NecklaceSisters$Necklace", "placeWith", "(I)I"⟩ ∈ lw_g := lw_gin (List.mem_of_getElem? (i := 570) (by decide +kernel)) rfl
theorem w571 : Cond.code yX2_placeWith cX2_placeWith 3 (some .int) ∈ lw_g := lw_gin (List.mem_of_getElem? (i := 571) (by decide +kernel)) rfl
theorem w573 : Cond.constant "NecklaceSistersLaw" 15 (-9999001) ∈ lw_g := lw_gin (List.mem_of_getElem? (i := 573) (by decide +kernel)) rfl
theorem w574 : Cond.methodLink "NecklaceSistersLaw" 116 ⟨"NecklaceSistersLaw", "tryPlace", "(LNecklaceSisters;II)I"⟩ ∈ lw_g := lw_gin (List.mem_of_getElem? (i := 574) (by decide +kernel)) rfl
theorem w577 : Cond.methodLink "NecklaceSistersLaw" 45 ⟨"NecklaceSisters", "placeOf", "(II)I"⟩ ∈ lw_g := lw_gin (List.mem_of_getElem? (i := 577) (by decide +kernel)) rfl
theorem w578 : Cond.instanceMethod ⟨"NecklaceSisters", "placeOf", "(II)I"⟩ ∈ lw_g := lw_gin (List.mem_of_getElem? (i := 578) (by decide +kernel)) rfl
theorem w579 : Cond.selects "NecklaceSisters" ⟨"NecklaceSisters", "placeOf", "(II)I"⟩ ⟨"NecklaceSisters", "placeOf", "(II)I"⟩ ∈ lw_g := lw_gin (List.mem_of_getElem? (i := 579) (by decide +kernel)) rfl
theorem w580 : Cond.code yX7_placeOf cX7_placeOf 3 (some .int) ∈ lw_g := lw_gin (List.mem_of_getElem? (i := 580) (by decide +kernel)) rfl
theorem w581 : Cond.methodLink "NecklaceSisters" 144 ⟨"NecklaceSisters$Necklace", "hasPlace", "(I)Z"⟩ ∈ lw_g := lw_gin (List.mem_of_getElem? (i := 581) (by decide +kernel)) rfl
theorem w582 : Cond.instanceMethod ⟨"NecklaceSisters$Necklace", "hasPlace", "(I)Z"⟩ ∈ lw_g := lw_gin (List.mem_of_getElem? (i := 582) (by decide +kernel)) rfl
theorem w583 : Cond.selects "NecklaceSisters$Necklace" ⟨"NecklaceSisters$Necklace", "hasPlace", "(I)Z"⟩ ⟨"NecklaceSisters$Necklace", "hasPlace", "(I)Z"⟩ ∈ lw_g := lw_gin (List.mem_of_getElem? (i := 583) (by decide +kernel)) rfl
theorem w584 : Cond.code yX2_hasPlace cX2_hasPlace 2 (some .boolean) ∈ lw_g := lw_gin (List.mem_of_getElem? (i := 584) (by decide +kernel)) rfl
theorem w586 : Cond.methodLink "NecklaceSisters" 149 ⟨"NecklaceSisters$Necklace", "jewelAt", "(I)I"⟩ ∈ lw_g := lw_gin (List.mem_of_getElem? (i := 586) (by decide +kernel)) rfl
theorem w587 : Cond.methodLink "NecklaceSisters" 152 ⟨"NecklaceSisters$Necklace", "ownerAt", "(I)I"⟩ ∈ lw_g := lw_gin (List.mem_of_getElem? (i := 587) (by decide +kernel)) rfl
theorem w588 : Cond.methodLink "NecklaceSisters" 155 ⟨"NecklaceSisters$Necklace", "runAt", "(I)I"⟩ ∈ lw_g := lw_gin (List.mem_of_getElem? (i := 588) (by decide +kernel)) rfl
theorem w589 : Cond.methodLink "NecklaceSisters" 158 ⟨"NecklaceSisters$Necklace", "isCut", "(I)Z"⟩ ∈ lw_g := lw_gin (List.mem_of_getElem? (i := 589) (by decide +kernel)) rfl
theorem w591 : Cond.methodLink "NecklaceSistersLaw" 119 ⟨"NecklaceSistersLaw", "tryRun", "(LNecklaceSisters;II)I"⟩ ∈ lw_g := lw_gin (List.mem_of_getElem? (i := 591) (by decide +kernel)) rfl
theorem w594 : Cond.methodLink "NecklaceSistersLaw" 48 ⟨"NecklaceSisters", "runOf", "(II)I"⟩ ∈ lw_g := lw_gin (List.mem_of_getElem? (i := 594) (by decide +kernel)) rfl
theorem w595 : Cond.instanceMethod ⟨"NecklaceSisters", "runOf", "(II)I"⟩ ∈ lw_g := lw_gin (List.mem_of_getElem? (i := 595) (by decide +kernel)) rfl
theorem w596 : Cond.selects "NecklaceSisters" ⟨"NecklaceSisters", "runOf", "(II)I"⟩ ⟨"NecklaceSisters", "runOf", "(II)I"⟩ ∈ lw_g := lw_gin (List.mem_of_getElem? (i := 596) (by decide +kernel)) rfl
theorem w597 : Cond.code yX7_runOf cX7_runOf 3 (some .int) ∈ lw_g := lw_gin (List.mem_of_getElem? (i := 597) (by decide +kernel)) rfl
theorem w598 : Cond.methodLink "NecklaceSisters" 163 ⟨"NecklaceSisters$Necklace", "hasRun", "(I)Z"⟩ ∈ lw_g := lw_gin (List.mem_of_getElem? (i := 598) (by decide +kernel)) rfl
theorem w600 : Cond.methodLink "NecklaceSisters" 168 ⟨"NecklaceSisters$Necklace", "firstPlaceOf", "(I)I"⟩ ∈ lw_g := lw_gin (List.mem_of_getElem? (i := 600) (by decide +kernel)) rfl
theorem w601 : Cond.methodLink "NecklaceSisters" 171 ⟨"NecklaceSisters$Necklace", "placesOf", "(I)I"⟩ ∈ lw_g := lw_gin (List.mem_of_getElem? (i := 601) (by decide +kernel)) rfl
theorem w602 : Cond.instanceMethod ⟨"NecklaceSisters$Necklace", "placesOf", "(I)I"⟩ ∈ lw_g := lw_gin (List.mem_of_getElem? (i := 602) (by decide +kernel)) rfl
theorem w603 : Cond.selects "NecklaceSisters$Necklace" ⟨"NecklaceSisters$Necklace", "placesOf", "(I)I"⟩ ⟨"NecklaceSisters$Necklace", "placesOf", "(I)I"⟩ ∈ lw_g := lw_gin (List.mem_of_getElem? (i := 603) (by decide +kernel)) rfl
theorem w604 : Cond.code yX2_placesOf cX2_placesOf 4 (some .int) ∈ lw_g := lw_gin (List.mem_of_getElem? (i := 604) (by decide +kernel)) rfl
theorem w605 : Cond.methodLink "NecklaceSisters" 174 ⟨"NecklaceSisters$Necklace", "valueOfRun", "(I)I"⟩ ∈ lw_g := lw_gin (List.mem_of_getElem? (i := 605) (by decide +kernel)) rfl
theorem w606 : Cond.instanceMethod ⟨"NecklaceSisters$Necklace", "valueOfRun", "(I)I"⟩ ∈ lw_g := lw_gin (List.mem_of_getElem? (i := 606) (by decide +kernel)) rfl
theorem w607 : Cond.selects "NecklaceSisters$Necklace" ⟨"NecklaceSisters$Necklace", "valueOfRun", "(I)I"⟩ ⟨"NecklaceSisters$Necklace", "valueOfRun", "(I)I"⟩ ∈ lw_g := lw_gin (List.mem_of_getElem? (i := 607) (by decide +kernel)) rfl
theorem w608 : Cond.code yX2_valueOfRun cX2_valueOfRun 4 (some .int) ∈ lw_g := lw_gin (List.mem_of_getElem? (i := 608) (by decide +kernel)) rfl
theorem w609 : Cond.methodLink "NecklaceSistersLaw" 122 ⟨"NecklaceSistersLaw", "tryHas", "(LNecklaceSisters;II)I"⟩ ∈ lw_g := lw_gin (List.mem_of_getElem? (i := 609) (by decide +kernel)) rfl
theorem w612 : Cond.methodLink "NecklaceSistersLaw" 51 ⟨"NecklaceSisters", "has", "(II)I"⟩ ∈ lw_g := lw_gin (List.mem_of_getElem? (i := 612) (by decide +kernel)) rfl
theorem w613 : Cond.instanceMethod ⟨"NecklaceSisters", "has", "(II)I"⟩ ∈ lw_g := lw_gin (List.mem_of_getElem? (i := 613) (by decide +kernel)) rfl
theorem w614 : Cond.selects "NecklaceSisters" ⟨"NecklaceSisters", "has", "(II)I"⟩ ⟨"NecklaceSisters", "has", "(II)I"⟩ ∈ lw_g := lw_gin (List.mem_of_getElem? (i := 614) (by decide +kernel)) rfl
theorem w615 : Cond.code yX7_has cX7_has 3 (some .int) ∈ lw_g := lw_gin (List.mem_of_getElem? (i := 615) (by decide +kernel)) rfl
theorem w616 : Cond.methodLink "NecklaceSisters" 180 ⟨"NecklaceSisters", "isKind", "(I)Z"⟩ ∈ lw_g := lw_gin (List.mem_of_getElem? (i := 616) (by decide +kernel)) rfl
theorem w618 : Cond.methodLink "NecklaceSisters" 185 ⟨"NecklaceSisters$Necklace", "holding", "(II)I"⟩ ∈ lw_g := lw_gin (List.mem_of_getElem? (i := 618) (by decide +kernel)) rfl
theorem w619 : Cond.methodLink "NecklaceSistersLaw" 125 ⟨"NecklaceSistersLaw", "tryCome", "(LNecklaceSisters;II)I"⟩ ∈ lw_g := lw_gin (List.mem_of_getElem? (i := 619) (by decide +kernel)) rfl
theorem w622 : Cond.methodLink "NecklaceSistersLaw" 54 ⟨"NecklaceSisters", "jewel", "(II)I"⟩ ∈ lw_g := lw_gin (List.mem_of_getElem? (i := 622) (by decide +kernel)) rfl
theorem w623 : Cond.instanceMethod ⟨"NecklaceSisters", "jewel", "(II)I"⟩ ∈ lw_g := lw_gin (List.mem_of_getElem? (i := 623) (by decide +kernel)) rfl
theorem w624 : Cond.selects "NecklaceSisters" ⟨"NecklaceSisters", "jewel", "(II)I"⟩ ⟨"NecklaceSisters", "jewel", "(II)I"⟩ ∈ lw_g := lw_gin (List.mem_of_getElem? (i := 624) (by decide +kernel)) rfl
theorem w625 : Cond.code yX7_jewel cX7_jewel 3 (some .int) ∈ lw_g := lw_gin (List.mem_of_getElem? (i := 625) (by decide +kernel)) rfl
theorem w627 : Cond.methodLink "NecklaceSisters" 191 ⟨"NecklaceSisters", "isWeight", "(I)Z"⟩ ∈ lw_g := lw_gin (List.mem_of_getElem? (i := 627) (by decide +kernel)) rfl
theorem w630 : Cond.methodLink "NecklaceSisters" 198 ⟨"NecklaceSisters$History", "remember", "(LNecklaceSisters$Necklace;)V"⟩ ∈ lw_g := lw_gin (List.mem_of_getElem? (i := 630) (by decide +kernel)) rfl
theorem w631 : Cond.instanceMethod ⟨"NecklaceSisters$History", "remember", "(LNecklaceSisters$Necklace;)V"⟩ ∈ lw_g := lw_gin (List.mem_of_getElem? (i := 631) (by decide +kernel)) rfl
theorem w632 : Cond.selects "NecklaceSisters$History" ⟨"NecklaceSisters$History", "remember", "(LNecklaceSisters$Necklace;)V"⟩ ⟨"NecklaceSisters$History", "remember", "(LNecklaceSisters$Necklace;)V"⟩ ∈ lw_g := lw_gin (List.mem_of_getElem? (i := 632) (by decide +kernel)) rfl
theorem w633 : Cond.code yX1_remember cX1_remember 3 none ∈ lw_g := lw_gin (List.mem_of_getElem? (i := 633) (by decide +kernel)) rfl
theorem w634 : Cond.methodLink "NecklaceSisters$History" 25 ⟨"NecklaceSisters$Necklace", "becomeLike", "(LNecklaceSisters$Necklace;)V"⟩ ∈ lw_g := lw_gin (List.mem_of_getElem? (i := 634) (by decide +kernel)) rfl
theorem w635 : Cond.instanceMethod ⟨"NecklaceSisters$Necklace", "becomeLike", "(LNecklaceSisters$Necklace;)V"⟩ ∈ lw_g := lw_gin (List.mem_of_getElem? (i := 635) (by decide +kernel)) rfl
theorem w636 : Cond.selects "NecklaceSisters$Necklace" ⟨"NecklaceSisters$Necklace", "becomeLike", "(LNecklaceSisters$Necklace;)V"⟩ ⟨"NecklaceSisters$Necklace", "becomeLike", "(LNecklaceSisters$Necklace;)V"⟩ ∈ lw_g := lw_gin (List.mem_of_getElem? (i := 636) (by decide +kernel)) rfl
theorem w637 : Cond.code yX2_becomeLike cX2_becomeLike 3 none ∈ lw_g := lw_gin (List.mem_of_getElem? (i := 637) (by decide +kernel)) rfl
theorem w638 : Cond.methodLink "NecklaceSisters$History" 29 ⟨"java/lang/Math", "min", "(II)I"⟩ ∈ lw_g := lw_gin (List.mem_of_getElem? (i := 638) (by decide +kernel)) rfl
theorem w639 : Cond.static ⟨"java/lang/Math", "min", "(II)I"⟩ ∈ lw_g := lw_gin (List.mem_of_getElem? (i := 639) (by decide +kernel)) rfl
theorem w640 : Cond.code yJ9_min_7cf53 cJ9_min_7cf53 2 (some .int) ∈ lw_g := lw_gin (List.mem_of_getElem? (i := 640) (by decide +kernel)) rfl
theorem w641 : Cond.methodLink "NecklaceSisters" 202 ⟨"NecklaceSisters$Necklace", "addJewel", "(II)Z"⟩ ∈ lw_g := lw_gin (List.mem_of_getElem? (i := 641) (by decide +kernel)) rfl
theorem w642 : Cond.methodLink "NecklaceSistersLaw" 128 ⟨"NecklaceSistersLaw", "tryChange", "(LNecklaceSisters;II)I"⟩ ∈ lw_g := lw_gin (List.mem_of_getElem? (i := 642) (by decide +kernel)) rfl
theorem w645 : Cond.methodLink "NecklaceSistersLaw" 57 ⟨"NecklaceSisters", "exchange", "(II)I"⟩ ∈ lw_g := lw_gin (List.mem_of_getElem? (i := 645) (by decide +kernel)) rfl
theorem w646 : Cond.instanceMethod ⟨"NecklaceSisters", "exchange", "(II)I"⟩ ∈ lw_g := lw_gin (List.mem_of_getElem? (i := 646) (by decide +kernel)) rfl
theorem w647 : Cond.selects "NecklaceSisters" ⟨"NecklaceSisters", "exchange", "(II)I"⟩ ⟨"NecklaceSisters", "exchange", "(II)I"⟩ ∈ lw_g := lw_gin (List.mem_of_getElem? (i := 647) (by decide +kernel)) rfl
theorem w648 : Cond.code yX7_exchange cX7_exchange 3 (some .int) ∈ lw_g := lw_gin (List.mem_of_getElem? (i := 648) (by decide +kernel)) rfl
theorem w649 : Cond.methodLink "NecklaceSisters" 206 ⟨"NecklaceSisters$Necklace", "swapJewels", "(II)Z"⟩ ∈ lw_g := lw_gin (List.mem_of_getElem? (i := 649) (by decide +kernel)) rfl
theorem w650 : Cond.methodLink "NecklaceSistersLaw" 131 ⟨"NecklaceSistersLaw", "tryBreak", "(LNecklaceSisters;I)I"⟩ ∈ lw_g := lw_gin (List.mem_of_getElem? (i := 650) (by decide +kernel)) rfl
theorem w653 : Cond.methodLink "NecklaceSistersLaw" 60 ⟨"NecklaceSisters", "breakAt", "(I)I"⟩ ∈ lw_g := lw_gin (List.mem_of_getElem? (i := 653) (by decide +kernel)) rfl
theorem w654 : Cond.instanceMethod ⟨"NecklaceSisters", "breakAt", "(I)I"⟩ ∈ lw_g := lw_gin (List.mem_of_getElem? (i := 654) (by decide +kernel)) rfl
theorem w655 : Cond.selects "NecklaceSisters" ⟨"NecklaceSisters", "breakAt", "(I)I"⟩ ⟨"NecklaceSisters", "breakAt", "(I)I"⟩ ∈ lw_g := lw_gin (List.mem_of_getElem? (i := 655) (by decide +kernel)) rfl
theorem w656 : Cond.code yX7_breakAt cX7_breakAt 3 (some .int) ∈ lw_g := lw_gin (List.mem_of_getElem? (i := 656) (by decide +kernel)) rfl
theorem w657 : Cond.methodLink "NecklaceSisters" 209 ⟨"NecklaceSisters$Necklace", "breakAhead", "(I)Z"⟩ ∈ lw_g := lw_gin (List.mem_of_getElem? (i := 657) (by decide +kernel)) rfl
theorem w658 : Cond.methodLink "NecklaceSistersLaw" 134 ⟨"NecklaceSistersLaw", "tryGive", "(LNecklaceSisters;II)I"⟩ ∈ lw_g := lw_gin (List.mem_of_getElem? (i := 658) (by decide +kernel)) rfl
theorem w661 : Cond.methodLink "NecklaceSistersLaw" 63 ⟨"NecklaceSisters", "give", "(II)I"⟩ ∈ lw_g := lw_gin (List.mem_of_getElem? (i := 661) (by decide +kernel)) rfl
theorem w662 : Cond.instanceMethod ⟨"NecklaceSisters", "give", "(II)I"⟩ ∈ lw_g := lw_gin (List.mem_of_getElem? (i := 662) (by decide +kernel)) rfl
theorem w663 : Cond.selects "NecklaceSisters" ⟨"NecklaceSisters", "give", "(II)I"⟩ ⟨"NecklaceSisters", "give", "(II)I"⟩ ∈ lw_g := lw_gin (List.mem_of_getElem? (i := 663) (by decide +kernel)) rfl
theorem w664 : Cond.code yX7_give cX7_give 3 (some .int) ∈ lw_g := lw_gin (List.mem_of_getElem? (i := 664) (by decide +kernel)) rfl
theorem w665 : Cond.methodLink "NecklaceSisters" 222 ⟨"NecklaceSisters", "isOwner", "(I)Z"⟩ ∈ lw_g := lw_gin (List.mem_of_getElem? (i := 665) (by decide +kernel)) rfl
theorem w667 : Cond.methodLink "NecklaceSisters" 227 ⟨"NecklaceSisters$Necklace", "giveRun", "(II)Z"⟩ ∈ lw_g := lw_gin (List.mem_of_getElem? (i := 667) (by decide +kernel)) rfl
theorem w668 : Cond.methodLink "NecklaceSistersLaw" 137 ⟨"NecklaceSistersLaw", "tryTake", "(LNecklaceSisters;I)I"⟩ ∈ lw_g := lw_gin (List.mem_of_getElem? (i := 668) (by decide +kernel)) rfl
theorem w671 : Cond.methodLink "NecklaceSistersLaw" 66 ⟨"NecklaceSisters", "take", "(I)I"⟩ ∈ lw_g := lw_gin (List.mem_of_getElem? (i := 671) (by decide +kernel)) rfl
theorem w672 : Cond.instanceMethod ⟨"NecklaceSisters", "take", "(I)I"⟩ ∈ lw_g := lw_gin (List.mem_of_getElem? (i := 672) (by decide +kernel)) rfl
theorem w673 : Cond.selects "NecklaceSisters" ⟨"NecklaceSisters", "take", "(I)I"⟩ ⟨"NecklaceSisters", "take", "(I)I"⟩ ∈ lw_g := lw_gin (List.mem_of_getElem? (i := 673) (by decide +kernel)) rfl
theorem w674 : Cond.code yX7_take cX7_take 3 (some .int) ∈ lw_g := lw_gin (List.mem_of_getElem? (i := 674) (by decide +kernel)) rfl
theorem w675 : Cond.methodLink "NecklaceSisters" 230 ⟨"NecklaceSisters$Necklace", "reasonAgainstTaking", "(I)I"⟩ ∈ lw_g := lw_gin (List.mem_of_getElem? (i := 675) (by decide +kernel)) rfl
theorem w676 : Cond.methodLink "NecklaceSisters" 233 ⟨"NecklaceSisters$Necklace", "takeRun", "(I)Z"⟩ ∈ lw_g := lw_gin (List.mem_of_getElem? (i := 676) (by decide +kernel)) rfl
theorem w677 : Cond.methodLink "NecklaceSistersLaw" 140 ⟨"NecklaceSistersLaw", "tryDeal", "(LNecklaceSisters;I)I"⟩ ∈ lw_g := lw_gin (List.mem_of_getElem? (i := 677) (by decide +kernel)) rfl
theorem w680 : Cond.methodLink "NecklaceSistersLaw" 69 ⟨"NecklaceSisters", "deal", "(I)I"⟩ ∈ lw_g := lw_gin (List.mem_of_getElem? (i := 680) (by decide +kernel)) rfl
theorem w681 : Cond.instanceMethod ⟨"NecklaceSisters", "deal", "(I)I"⟩ ∈ lw_g := lw_gin (List.mem_of_getElem? (i := 681) (by decide +kernel)) rfl
theorem w682 : Cond.selects "NecklaceSisters" ⟨"NecklaceSisters", "deal", "(I)I"⟩ ⟨"NecklaceSisters", "deal", "(I)I"⟩ ∈ lw_g := lw_gin (List.mem_of_getElem? (i := 682) (by decide +kernel)) rfl
theorem w683 : Cond.code yX7_deal cX7_deal 2 (some .int) ∈ lw_g := lw_gin (List.mem_of_getElem? (i := 683) (by decide +kernel)) rfl
theorem w685 : Cond.methodLink "NecklaceSisters" 238 ⟨"NecklaceSisters$Necklace", "dealRuns", "(I)Z"⟩ ∈ lw_g := lw_gin (List.mem_of_getElem? (i := 685) (by decide +kernel)) rfl
theorem w686 : Cond.methodLink "NecklaceSistersLaw" 143 ⟨"NecklaceSistersLaw", "tryDivide", "(LNecklaceSisters;)I"⟩ ∈ lw_g := lw_gin (List.mem_of_getElem? (i := 686) (by decide +kernel)) rfl
theorem w689 : Cond.methodLink "NecklaceSistersLaw" 72 ⟨"NecklaceSisters", "divide", "()I"⟩ ∈ lw_g := lw_gin (List.mem_of_getElem? (i := 689) (by decide +kernel)) rfl
theorem w690 : Cond.instanceMethod ⟨"NecklaceSisters", "divide", "()I"⟩ ∈ lw_g := lw_gin (List.mem_of_getElem? (i := 690) (by decide +kernel)) rfl
theorem w691 : Cond.selects "NecklaceSisters" ⟨"NecklaceSisters", "divide", "()I"⟩ ⟨"NecklaceSisters", "divide", "()I"⟩ ∈ lw_g := lw_gin (List.mem_of_getElem? (i := 691) (by decide +kernel)) rfl
theorem w692 : Cond.code yX7_divide cX7_divide 3 (some .int) ∈ lw_g := lw_gin (List.mem_of_getElem? (i := 692) (by decide +kernel)) rfl
theorem w693 : Cond.methodLink "NecklaceSisters" 241 ⟨"NecklaceSisters", "fewestCuts", "()I"⟩ ∈ lw_g := lw_gin (List.mem_of_getElem? (i := 693) (by decide +kernel)) rfl
theorem w695 : Cond.instanceMethod ⟨"NecklaceSisters", "fewestCuts", "()I"⟩ ∈ lw_g := lw_gin (List.mem_of_getElem? (i := 695) (by decide +kernel)) rfl
theorem w696 : Cond.code yX7_fewestCuts cX7_fewestCuts 1 (some .int) ∈ lw_g := lw_gin (List.mem_of_getElem? (i := 696) (by decide +kernel)) rfl
theorem w697 : Cond.methodLink "NecklaceSisters" 270 ⟨"NecklaceSisters$Division", "weigh", "(LNecklaceSisters$Necklace;I)V"⟩ ∈ lw_g := lw_gin (List.mem_of_getElem? (i := 697) (by decide +kernel)) rfl
theorem w698 : Cond.instanceMethod ⟨"NecklaceSisters$Division", "weigh", "(LNecklaceSisters$Necklace;I)V"⟩ ∈ lw_g := lw_gin (List.mem_of_getElem? (i := 698) (by decide +kernel)) rfl
theorem w699 : Cond.selects "NecklaceSisters$Division" ⟨"NecklaceSisters$Division", "weigh", "(LNecklaceSisters$Necklace;I)V"⟩ ⟨"NecklaceSisters$Division", "weigh", "(LNecklaceSisters$Necklace;I)V"⟩ ∈ lw_g := lw_gin (List.mem_of_getElem? (i := 699) (by decide +kernel)) rfl
theorem w700 : Cond.code yX0_weigh cX0_weigh 7 none ∈ lw_g := lw_gin (List.mem_of_getElem? (i := 700) (by decide +kernel)) rfl
theorem w701 : Cond.methodLink "NecklaceSisters$Division" 32 ⟨"NecklaceSisters$Necklace", "valueOf", "(I)I"⟩ ∈ lw_g := lw_gin (List.mem_of_getElem? (i := 701) (by decide +kernel)) rfl
theorem w702 : Cond.methodLink "NecklaceSisters$Division" 36 ⟨"NecklaceSisters$Necklace", "kindOf", "(I)I"⟩ ∈ lw_g := lw_gin (List.mem_of_getElem? (i := 702) (by decide +kernel)) rfl
theorem w703 : Cond.methodLink "NecklaceSisters" 284 ⟨"NecklaceSisters$Division", "fewestByCuts", "(I)I"⟩ ∈ lw_g := lw_gin (List.mem_of_getElem? (i := 703) (by decide +kernel)) rfl
theorem w704 : Cond.instanceMethod ⟨"NecklaceSisters$Division", "fewestByCuts", "(I)I"⟩ ∈ lw_g := lw_gin (List.mem_of_getElem? (i := 704) (by decide +kernel)) rfl
theorem w705 : Cond.selects "NecklaceSisters$Division" ⟨"NecklaceSisters$Division", "fewestByCuts", "(I)I"⟩ ⟨"NecklaceSisters$Division", "fewestByCuts", "(I)I"⟩ ∈ lw_g := lw_gin (List.mem_of_getElem? (i := 705) (by decide +kernel)) rfl
theorem w706 : Cond.code yX0_fewestByCuts cX0_fewestByCuts 3 (some .int) ∈ lw_g := lw_gin (List.mem_of_getElem? (i := 706) (by decide +kernel)) rfl
theorem w707 : Cond.methodLink "NecklaceSisters$Division" 47 ⟨"NecklaceSisters$Division", "isOddOfAKind", "()Z"⟩ ∈ lw_g := lw_gin (List.mem_of_getElem? (i := 707) (by decide +kernel)) rfl
theorem w709 : Cond.instanceMethod ⟨"NecklaceSisters$Division", "isOddOfAKind", "()Z"⟩ ∈ lw_g := lw_gin (List.mem_of_getElem? (i := 709) (by decide +kernel)) rfl
theorem w710 : Cond.code yX0_isOddOfAKind cX0_isOddOfAKind 1 (some .boolean) ∈ lw_g := lw_gin (List.mem_of_getElem? (i := 710) (by decide +kernel)) rfl
theorem w711 : Cond.methodLink "NecklaceSisters$Division" 39 ⟨"NecklaceSisters$Division", "sumAhead", "(I)J"⟩ ∈ lw_g := lw_gin (List.mem_of_getElem? (i := 711) (by decide +kernel)) rfl
theorem w713 : Cond.instanceMethod ⟨"NecklaceSisters$Division", "sumAhead", "(I)J"⟩ ∈ lw_g := lw_gin (List.mem_of_getElem? (i := 713) (by decide +kernel)) rfl
theorem w714 : Cond.code yX0_sumAhead cX0_sumAhead 2 (some .long) ∈ lw_g := lw_gin (List.mem_of_getElem? (i := 714) (by decide +kernel)) rfl
theorem w715 : Cond.constantLong "NecklaceSisters$Division" 43 (281479271743489) ∈ lw_g := lw_gin (List.mem_of_getElem? (i := 715) (by decide +kernel)) rfl
theorem w716 : Cond.methodLink "NecklaceSisters$Division" 51 ⟨"NecklaceSisters$Division", "dividesWith", "(LNecklaceSisters$Division;IIIJ)Z"⟩ ∈ lw_g := lw_gin (List.mem_of_getElem? (i := 716) (by decide +kernel)) rfl
theorem w717 : Cond.static ⟨"NecklaceSisters$Division", "dividesWith", "(LNecklaceSisters$Division;IIIJ)Z"⟩ ∈ lw_g := lw_gin (List.mem_of_getElem? (i := 717) (by decide +kernel)) rfl
theorem w718 : Cond.code yX0_dividesWith cX0_dividesWith 9 (some .boolean) ∈ lw_g := lw_gin (List.mem_of_getElem? (i := 718) (by decide +kernel)) rfl
theorem w719 : Cond.methodLink "NecklaceSisters$Division" 55 ⟨"NecklaceSisters$Division", "withRun", "(JIII)J"⟩ ∈ lw_g := lw_gin (List.mem_of_getElem? (i := 719) (by decide +kernel)) rfl
theorem w721 : Cond.instanceMethod ⟨"NecklaceSisters$Division", "withRun", "(JIII)J"⟩ ∈ lw_g := lw_gin (List.mem_of_getElem? (i := 721) (by decide +kernel)) rfl
theorem w722 : Cond.code yX0_withRun cX0_withRun 6 (some .long) ∈ lw_g := lw_gin (List.mem_of_getElem? (i := 722) (by decide +kernel)) rfl
theorem w723 : Cond.methodLink "NecklaceSisters$Division" 59 ⟨"NecklaceSisters$Division", "isOverHalf", "(J)Z"⟩ ∈ lw_g := lw_gin (List.mem_of_getElem? (i := 723) (by decide +kernel)) rfl
theorem w725 : Cond.instanceMethod ⟨"NecklaceSisters$Division", "isOverHalf", "(J)Z"⟩ ∈ lw_g := lw_gin (List.mem_of_getElem? (i := 725) (by decide +kernel)) rfl
theorem w726 : Cond.code yX0_isOverHalf cX0_isOverHalf 3 (some .boolean) ∈ lw_g := lw_gin (List.mem_of_getElem? (i := 726) (by decide +kernel)) rfl
theorem w727 : Cond.constantLong "NecklaceSisters$Division" 45 (-9223231297218904064) ∈ lw_g := lw_gin (List.mem_of_getElem? (i := 727) (by decide +kernel)) rfl
theorem w728 : Cond.methodLink "NecklaceSisters$Division" 63 ⟨"NecklaceSisters$Division", "keepCut", "(II)V"⟩ ∈ lw_g := lw_gin (List.mem_of_getElem? (i := 728) (by decide +kernel)) rfl
theorem w730 : Cond.instanceMethod ⟨"NecklaceSisters$Division", "keepCut", "(II)V"⟩ ∈ lw_g := lw_gin (List.mem_of_getElem? (i := 730) (by decide +kernel)) rfl
theorem w731 : Cond.code yX0_keepCut cX0_keepCut 3 none ∈ lw_g := lw_gin (List.mem_of_getElem? (i := 731) (by decide +kernel)) rfl
theorem w733 : Cond.methodLink "NecklaceSisters" 246 ⟨"NecklaceSisters$Necklace", "loosen", "()V"⟩ ∈ lw_g := lw_gin (List.mem_of_getElem? (i := 733) (by decide +kernel)) rfl
theorem w734 : Cond.methodLink "NecklaceSisters" 249 ⟨"NecklaceSisters$Division", "foundCut", "(I)I"⟩ ∈ lw_g := lw_gin (List.mem_of_getElem? (i := 734) (by decide +kernel)) rfl
theorem w735 : Cond.instanceMethod ⟨"NecklaceSisters$Division", "foundCut", "(I)I"⟩ ∈ lw_g := lw_gin (List.mem_of_getElem? (i := 735) (by decide +kernel)) rfl
theorem w736 : Cond.selects "NecklaceSisters$Division" ⟨"NecklaceSisters$Division", "foundCut", "(I)I"⟩ ⟨"NecklaceSisters$Division", "foundCut", "(I)I"⟩ ∈ lw_g := lw_gin (List.mem_of_getElem? (i := 736) (by decide +kernel)) rfl
theorem w737 : Cond.code yX0_foundCut cX0_foundCut 2 (some .int) ∈ lw_g := lw_gin (List.mem_of_getElem? (i := 737) (by decide +kernel)) rfl
theorem w738 : Cond.methodLink "NecklaceSisters" 218 ⟨"NecklaceSisters$Necklace", "setCut", "(IZ)Z"⟩ ∈ lw_g := lw_gin (List.mem_of_getElem? (i := 738) (by decide +kernel)) rfl
theorem w739 : Cond.methodLink "NecklaceSistersLaw" 146 ⟨"NecklaceSistersLaw", "tryLay", "(LNecklaceSisters;I)I"⟩ ∈ lw_g := lw_gin (List.mem_of_getElem? (i := 739) (by decide +kernel)) rfl
theorem w742 : Cond.methodLink "NecklaceSistersLaw" 75 ⟨"NecklaceSisters", "set", "(I)I"⟩ ∈ lw_g := lw_gin (List.mem_of_getElem? (i := 742) (by decide +kernel)) rfl
theorem w743 : Cond.instanceMethod ⟨"NecklaceSisters", "set", "(I)I"⟩ ∈ lw_g := lw_gin (List.mem_of_getElem? (i := 743) (by decide +kernel)) rfl
theorem w744 : Cond.selects "NecklaceSisters" ⟨"NecklaceSisters", "set", "(I)I"⟩ ⟨"NecklaceSisters", "set", "(I)I"⟩ ∈ lw_g := lw_gin (List.mem_of_getElem? (i := 744) (by decide +kernel)) rfl
theorem w745 : Cond.code yX7_set cX7_set 3 (some .int) ∈ lw_g := lw_gin (List.mem_of_getElem? (i := 745) (by decide +kernel)) rfl
theorem w746 : Cond.methodLink "NecklaceSisters" 252 ⟨"NecklaceSisters", "isSetting", "(I)Z"⟩ ∈ lw_g := lw_gin (List.mem_of_getElem? (i := 746) (by decide +kernel)) rfl
theorem w748 : Cond.methodLink "NecklaceSisters" 257 ⟨"NecklaceSisters$Necklace", "chooseSetting", "(I)Z"⟩ ∈ lw_g := lw_gin (List.mem_of_getElem? (i := 748) (by decide +kernel)) rfl
theorem w749 : Cond.methodLink "NecklaceSistersLaw" 149 ⟨"NecklaceSistersLaw", "tryUndo", "(LNecklaceSisters;)I"⟩ ∈ lw_g := lw_gin (List.mem_of_getElem? (i := 749) (by decide +kernel)) rfl
theorem w752 : Cond.methodLink "NecklaceSistersLaw" 78 ⟨"NecklaceSisters", "undo", "()I"⟩ ∈ lw_g := lw_gin (List.mem_of_getElem? (i := 752) (by decide +kernel)) rfl
theorem w753 : Cond.instanceMethod ⟨"NecklaceSisters", "undo", "()I"⟩ ∈ lw_g := lw_gin (List.mem_of_getElem? (i := 753) (by decide +kernel)) rfl
theorem w754 : Cond.selects "NecklaceSisters" ⟨"NecklaceSisters", "undo", "()I"⟩ ⟨"NecklaceSisters", "undo", "()I"⟩ ∈ lw_g := lw_gin (List.mem_of_getElem? (i := 754) (by decide +kernel)) rfl
theorem w755 : Cond.code yX7_undo cX7_undo 1 (some .int) ∈ lw_g := lw_gin (List.mem_of_getElem? (i := 755) (by decide +kernel)) rfl
theorem w757 : Cond.methodLink "NecklaceSisters" 265 ⟨"NecklaceSisters$History", "takeBack", "(LNecklaceSisters$Necklace;)V"⟩ ∈ lw_g := lw_gin (List.mem_of_getElem? (i := 757) (by decide +kernel)) rfl
theorem w758 : Cond.instanceMethod ⟨"NecklaceSisters$History", "takeBack", "(LNecklaceSisters$Necklace;)V"⟩ ∈ lw_g := lw_gin (List.mem_of_getElem? (i := 758) (by decide +kernel)) rfl
theorem w759 : Cond.selects "NecklaceSisters$History" ⟨"NecklaceSisters$History", "takeBack", "(LNecklaceSisters$Necklace;)V"⟩ ⟨"NecklaceSisters$History", "takeBack", "(LNecklaceSisters$Necklace;)V"⟩ ∈ lw_g := lw_gin (List.mem_of_getElem? (i := 759) (by decide +kernel)) rfl
theorem w760 : Cond.code yX1_takeBack cX1_takeBack 3 none ∈ lw_g := lw_gin (List.mem_of_getElem? (i := 760) (by decide +kernel)) rfl
theorem w761 : Cond.methodLink "NecklaceSistersLaw" 152 ⟨"NecklaceSistersLaw", "tryFewest", "(LNecklaceSisters;I)I"⟩ ∈ lw_g := lw_gin (List.mem_of_getElem? (i := 761) (by decide +kernel)) rfl
theorem w764 : Cond.methodLink "NecklaceSistersLaw" 81 ⟨"NecklaceSisters", "fewest", "(I)I"⟩ ∈ lw_g := lw_gin (List.mem_of_getElem? (i := 764) (by decide +kernel)) rfl
theorem w765 : Cond.instanceMethod ⟨"NecklaceSisters", "fewest", "(I)I"⟩ ∈ lw_g := lw_gin (List.mem_of_getElem? (i := 765) (by decide +kernel)) rfl
theorem w766 : Cond.selects "NecklaceSisters" ⟨"NecklaceSisters", "fewest", "(I)I"⟩ ⟨"NecklaceSisters", "fewest", "(I)I"⟩ ∈ lw_g := lw_gin (List.mem_of_getElem? (i := 766) (by decide +kernel)) rfl
theorem w767 : Cond.code yX7_fewest cX7_fewest 2 (some .int) ∈ lw_g := lw_gin (List.mem_of_getElem? (i := 767) (by decide +kernel)) rfl
theorem w769 : Cond.methodLink "NecklaceSisters" 274 ⟨"NecklaceSisters$Division", "fewestByOwners", "()I"⟩ ∈ lw_g := lw_gin (List.mem_of_getElem? (i := 769) (by decide +kernel)) rfl
theorem w770 : Cond.instanceMethod ⟨"NecklaceSisters$Division", "fewestByOwners", "()I"⟩ ∈ lw_g := lw_gin (List.mem_of_getElem? (i := 770) (by decide +kernel)) rfl
theorem w771 : Cond.selects "NecklaceSisters$Division" ⟨"NecklaceSisters$Division", "fewestByOwners", "()I"⟩ ⟨"NecklaceSisters$Division", "fewestByOwners", "()I"⟩ ∈ lw_g := lw_gin (List.mem_of_getElem? (i := 771) (by decide +kernel)) rfl
theorem w772 : Cond.code yX0_fewestByOwners cX0_fewestByOwners 9 (some .int) ∈ lw_g := lw_gin (List.mem_of_getElem? (i := 772) (by decide +kernel)) rfl
theorem w773 : Cond.methodLink "NecklaceSisters$Division" 67 ⟨"java/lang/Integer", "numberOfTrailingZeros", "(I)I"⟩ ∈ lw_g := lw_gin (List.mem_of_getElem? (i := 773) (by decide +kernel)) rfl
theorem w774 : Cond.static ⟨"java/lang/Integer", "numberOfTrailingZeros", "(I)I"⟩ ∈ lw_g := lw_gin (List.mem_of_getElem? (i := 774) (by decide +kernel)) rfl
theorem w775 : Cond.code yJ6_numberOfTrailingZeros_0f7a4 cJ6_numberOfTrailingZeros_0f7a4 2 (some .int) ∈ lw_g := lw_gin (List.mem_of_getElem? (i := 775) (by decide +kernel)) rfl
theorem w776 : Cond.constant "java/lang/Integer" 264 (65536) ∈ lw_g := lw_gin (List.mem_of_getElem? (i := 776) (by decide +kernel)) rfl
theorem w777 : Cond.methodLink "NecklaceSisters$Division" 72 ⟨"java/lang/Integer", "bitCount", "(I)I"⟩ ∈ lw_g := lw_gin (List.mem_of_getElem? (i := 777) (by decide +kernel)) rfl
theorem w778 : Cond.methodLink "NecklaceSisters$Division" 75 ⟨"java/lang/Math", "min", "(II)I"⟩ ∈ lw_g := lw_gin (List.mem_of_getElem? (i := 778) (by decide +kernel)) rfl
theorem w779 : Cond.methodLink "NecklaceSistersLaw" 155 ⟨"NecklaceSistersLaw", "tryDivided", "(LNecklaceSisters;I)I"⟩ ∈ lw_g := lw_gin (List.mem_of_getElem? (i := 779) (by decide +kernel)) rfl
theorem w782 : Cond.methodLink "NecklaceSistersLaw" 84 ⟨"NecklaceSisters", "divided", "(I)I"⟩ ∈ lw_g := lw_gin (List.mem_of_getElem? (i := 782) (by decide +kernel)) rfl
theorem w783 : Cond.instanceMethod ⟨"NecklaceSisters", "divided", "(I)I"⟩ ∈ lw_g := lw_gin (List.mem_of_getElem? (i := 783) (by decide +kernel)) rfl
theorem w784 : Cond.selects "NecklaceSisters" ⟨"NecklaceSisters", "divided", "(I)I"⟩ ⟨"NecklaceSisters", "divided", "(I)I"⟩ ∈ lw_g := lw_gin (List.mem_of_getElem? (i := 784) (by decide +kernel)) rfl
theorem w785 : Cond.code yX7_divided cX7_divided 2 (some .int) ∈ lw_g := lw_gin (List.mem_of_getElem? (i := 785) (by decide +kernel)) rfl
theorem w787 : Cond.methodLink "NecklaceSistersLaw" 158 ⟨"NecklaceSistersLaw", "tryLeast", "(LNecklaceSisters;I)I"⟩ ∈ lw_g := lw_gin (List.mem_of_getElem? (i := 787) (by decide +kernel)) rfl
theorem w790 : Cond.methodLink "NecklaceSistersLaw" 87 ⟨"NecklaceSisters", "leastGap", "(I)I"⟩ ∈ lw_g := lw_gin (List.mem_of_getElem? (i := 790) (by decide +kernel)) rfl
theorem w791 : Cond.instanceMethod ⟨"NecklaceSisters", "leastGap", "(I)I"⟩ ∈ lw_g := lw_gin (List.mem_of_getElem? (i := 791) (by decide +kernel)) rfl
theorem w792 : Cond.selects "NecklaceSisters" ⟨"NecklaceSisters", "leastGap", "(I)I"⟩ ⟨"NecklaceSisters", "leastGap", "(I)I"⟩ ∈ lw_g := lw_gin (List.mem_of_getElem? (i := 792) (by decide +kernel)) rfl
theorem w793 : Cond.code yX7_leastGap cX7_leastGap 2 (some .int) ∈ lw_g := lw_gin (List.mem_of_getElem? (i := 793) (by decide +kernel)) rfl
theorem w795 : Cond.methodLink "NecklaceSisters" 281 ⟨"NecklaceSisters$Division", "leastGapWithin", "(I)I"⟩ ∈ lw_g := lw_gin (List.mem_of_getElem? (i := 795) (by decide +kernel)) rfl
theorem w796 : Cond.instanceMethod ⟨"NecklaceSisters$Division", "leastGapWithin", "(I)I"⟩ ∈ lw_g := lw_gin (List.mem_of_getElem? (i := 796) (by decide +kernel)) rfl
theorem w797 : Cond.selects "NecklaceSisters$Division" ⟨"NecklaceSisters$Division", "leastGapWithin", "(I)I"⟩ ⟨"NecklaceSisters$Division", "leastGapWithin", "(I)I"⟩ ∈ lw_g := lw_gin (List.mem_of_getElem? (i := 797) (by decide +kernel)) rfl
theorem w798 : Cond.code yX0_leastGapWithin cX0_leastGapWithin 2 (some .int) ∈ lw_g := lw_gin (List.mem_of_getElem? (i := 798) (by decide +kernel)) rfl
theorem w799 : Cond.methodLink "NecklaceSisters$Division" 81 ⟨"NecklaceSisters$Division", "leastFrom", "(LNecklaceSisters$Division;IIIJ)I"⟩ ∈ lw_g := lw_gin (List.mem_of_getElem? (i := 799) (by decide +kernel)) rfl
theorem w800 : Cond.static ⟨"NecklaceSisters$Division", "leastFrom", "(LNecklaceSisters$Division;IIIJ)I"⟩ ∈ lw_g := lw_gin (List.mem_of_getElem? (i := 800) (by decide +kernel)) rfl
theorem w801 : Cond.code yX0_leastFrom cX0_leastFrom 8 (some .int) ∈ lw_g := lw_gin (List.mem_of_getElem? (i := 801) (by decide +kernel)) rfl
theorem w802 : Cond.methodLink "NecklaceSisters$Division" 85 ⟨"NecklaceSisters$Division", "gapOf", "(J)I"⟩ ∈ lw_g := lw_gin (List.mem_of_getElem? (i := 802) (by decide +kernel)) rfl
theorem w804 : Cond.instanceMethod ⟨"NecklaceSisters$Division", "gapOf", "(J)I"⟩ ∈ lw_g := lw_gin (List.mem_of_getElem? (i := 804) (by decide +kernel)) rfl
theorem w805 : Cond.code yX0_gapOf cX0_gapOf 9 (some .int) ∈ lw_g := lw_gin (List.mem_of_getElem? (i := 805) (by decide +kernel)) rfl
theorem w806 : Cond.constant "NecklaceSisters$Division" 89 (65535) ∈ lw_g := lw_gin (List.mem_of_getElem? (i := 806) (by decide +kernel)) rfl
theorem w807 : Cond.methodLink "NecklaceSisters$Division" 90 ⟨"java/lang/Math", "abs", "(I)I"⟩ ∈ lw_g := lw_gin (List.mem_of_getElem? (i := 807) (by decide +kernel)) rfl
theorem w808 : Cond.methodLink "NecklaceSistersLaw" 161 ⟨"NecklaceSistersLaw", "tryIf", "(LNecklaceSisters;II)I"⟩ ∈ lw_g := lw_gin (List.mem_of_getElem? (i := 808) (by decide +kernel)) rfl
theorem w811 : Cond.methodLink "NecklaceSistersLaw" 90 ⟨"NecklaceSisters", "ifGiven", "(II)I"⟩ ∈ lw_g := lw_gin (List.mem_of_getElem? (i := 811) (by decide +kernel)) rfl
theorem w812 : Cond.instanceMethod ⟨"NecklaceSisters", "ifGiven", "(II)I"⟩ ∈ lw_g := lw_gin (List.mem_of_getElem? (i := 812) (by decide +kernel)) rfl
theorem w813 : Cond.selects "NecklaceSisters" ⟨"NecklaceSisters", "ifGiven", "(II)I"⟩ ⟨"NecklaceSisters", "ifGiven", "(II)I"⟩ ∈ lw_g := lw_gin (List.mem_of_getElem? (i := 813) (by decide +kernel)) rfl
theorem w814 : Cond.code yX7_ifGiven cX7_ifGiven 3 (some .int) ∈ lw_g := lw_gin (List.mem_of_getElem? (i := 814) (by decide +kernel)) rfl
theorem w815 : Cond.methodLink "NecklaceSisters" 287 ⟨"NecklaceSisters", "gapWith", "(II)I"⟩ ∈ lw_g := lw_gin (List.mem_of_getElem? (i := 815) (by decide +kernel)) rfl
theorem w817 : Cond.instanceMethod ⟨"NecklaceSisters", "gapWith", "(II)I"⟩ ∈ lw_g := lw_gin (List.mem_of_getElem? (i := 817) (by decide +kernel)) rfl
theorem w818 : Cond.code yX7_gapWith cX7_gapWith 3 (some .int) ∈ lw_g := lw_gin (List.mem_of_getElem? (i := 818) (by decide +kernel)) rfl
theorem w819 : Cond.methodLink "NecklaceSisters" 300 ⟨"NecklaceSisters$Necklace", "becomeLike", "(LNecklaceSisters$Necklace;)V"⟩ ∈ lw_g := lw_gin (List.mem_of_getElem? (i := 819) (by decide +kernel)) rfl
theorem w820 : Cond.methodLink "NecklaceSistersLaw" 164 ⟨"NecklaceSistersLaw", "tryKeep", "(LNecklaceSisters;I)I"⟩ ∈ lw_g := lw_gin (List.mem_of_getElem? (i := 820) (by decide +kernel)) rfl
theorem w823 : Cond.methodLink "NecklaceSistersLaw" 93 ⟨"NecklaceSisters", "save", "(I)I"⟩ ∈ lw_g := lw_gin (List.mem_of_getElem? (i := 823) (by decide +kernel)) rfl
theorem w824 : Cond.instanceMethod ⟨"NecklaceSisters", "save", "(I)I"⟩ ∈ lw_g := lw_gin (List.mem_of_getElem? (i := 824) (by decide +kernel)) rfl
theorem w825 : Cond.selects "NecklaceSisters" ⟨"NecklaceSisters", "save", "(I)I"⟩ ⟨"NecklaceSisters", "save", "(I)I"⟩ ∈ lw_g := lw_gin (List.mem_of_getElem? (i := 825) (by decide +kernel)) rfl
theorem w826 : Cond.code yX7_save cX7_save 3 (some .int) ∈ lw_g := lw_gin (List.mem_of_getElem? (i := 826) (by decide +kernel)) rfl
theorem w828 : Cond.methodLink "NecklaceSistersLaw" 167 ⟨"NecklaceSistersLaw", "tryBack", "(LNecklaceSisters;I)I"⟩ ∈ lw_g := lw_gin (List.mem_of_getElem? (i := 828) (by decide +kernel)) rfl
theorem w831 : Cond.methodLink "NecklaceSistersLaw" 96 ⟨"NecklaceSisters", "restore", "(I)I"⟩ ∈ lw_g := lw_gin (List.mem_of_getElem? (i := 831) (by decide +kernel)) rfl
theorem w832 : Cond.instanceMethod ⟨"NecklaceSisters", "restore", "(I)I"⟩ ∈ lw_g := lw_gin (List.mem_of_getElem? (i := 832) (by decide +kernel)) rfl
theorem w833 : Cond.selects "NecklaceSisters" ⟨"NecklaceSisters", "restore", "(I)I"⟩ ⟨"NecklaceSisters", "restore", "(I)I"⟩ ∈ lw_g := lw_gin (List.mem_of_getElem? (i := 833) (by decide +kernel)) rfl
theorem w834 : Cond.code yX7_restore cX7_restore 3 (some .int) ∈ lw_g := lw_gin (List.mem_of_getElem? (i := 834) (by decide +kernel)) rfl
theorem w836 : Cond.methodLink "NecklaceSistersLaw" 197 ⟨"NecklaceSistersLaw", "cell", "([II)I"⟩ ∈ lw_g := lw_gin (List.mem_of_getElem? (i := 836) (by decide +kernel)) rfl
theorem w839 : Cond.constant "NecklaceSistersLaw" 170 (15519847) ∈ lw_g := lw_gin (List.mem_of_getElem? (i := 839) (by decide +kernel)) rfl
theorem w840 : Cond.constant "NecklaceSistersLaw" 171 (2147483647) ∈ lw_g := lw_gin (List.mem_of_getElem? (i := 840) (by decide +kernel)) rfl
theorem w841 : Cond.methodLink "NecklaceSistersLaw" 205 ⟨"NecklaceSistersLaw", "refuses", "(LNecklaceSisters;I)Z"⟩ ∈ lw_g := lw_gin (List.mem_of_getElem? (i := 841) (by decide +kernel)) rfl
theorem w844 : Cond.methodLink "NecklaceSistersLaw" 176 ⟨"NecklaceSistersLaw", "cuts", "(LNecklaceSisters;IZ)I"⟩ ∈ lw_g := lw_gin (List.mem_of_getElem? (i := 844) (by decide +kernel)) rfl
theorem w847 : Cond.methodLink "NecklaceSistersLaw" 7 ⟨"NecklaceSisters", "cut", "(IZ)I"⟩ ∈ lw_g := lw_gin (List.mem_of_getElem? (i := 847) (by decide +kernel)) rfl
theorem w848 : Cond.instanceMethod ⟨"NecklaceSisters", "cut", "(IZ)I"⟩ ∈ lw_g := lw_gin (List.mem_of_getElem? (i := 848) (by decide +kernel)) rfl
theorem w849 : Cond.selects "NecklaceSisters" ⟨"NecklaceSisters", "cut", "(IZ)I"⟩ ⟨"NecklaceSisters", "cut", "(IZ)I"⟩ ∈ lw_g := lw_gin (List.mem_of_getElem? (i := 849) (by decide +kernel)) rfl
theorem w850 : Cond.code yX7_cut cX7_cut 3 (some .int) ∈ lw_g := lw_gin (List.mem_of_getElem? (i := 850) (by decide +kernel)) rfl
theorem w851 : Cond.methodLink "NecklaceSisters" 215 ⟨"NecklaceSisters$Necklace", "canBeCutAt", "(I)Z"⟩ ∈ lw_g := lw_gin (List.mem_of_getElem? (i := 851) (by decide +kernel)) rfl
theorem w852 : Cond.methodLink "NecklaceSistersLaw" 180 ⟨"NecklaceSistersLaw", "doScript", "(LNecklaceSisters;IJ)I"⟩ ∈ lw_g := lw_gin (List.mem_of_getElem? (i := 852) (by decide +kernel)) rfl
theorem w855 : Cond.methodLink "NecklaceSistersLaw" 16 ⟨"NecklaceSisters", "runScript", "(IJ)I"⟩ ∈ lw_g := lw_gin (List.mem_of_getElem? (i := 855) (by decide +kernel)) rfl
theorem w856 : Cond.instanceMethod ⟨"NecklaceSisters", "runScript", "(IJ)I"⟩ ∈ lw_g := lw_gin (List.mem_of_getElem? (i := 856) (by decide +kernel)) rfl
theorem w857 : Cond.selects "NecklaceSisters" ⟨"NecklaceSisters", "runScript", "(IJ)I"⟩ ⟨"NecklaceSisters", "runScript", "(IJ)I"⟩ ∈ lw_g := lw_gin (List.mem_of_getElem? (i := 857) (by decide +kernel)) rfl
theorem w858 : Cond.code yX7_runScript cX7_runScript 6 (some .int) ∈ lw_g := lw_gin (List.mem_of_getElem? (i := 858) (by decide +kernel)) rfl
theorem w860 : Cond.methodLink "NecklaceSisters" 292 ⟨"NecklaceSisters$Script", "groupsAbove", "(JI)J"⟩ ∈ lw_g := lw_gin (List.mem_of_getElem? (i := 860) (by decide +kernel)) rfl
theorem w861 : Cond.static ⟨"NecklaceSisters$Script", "groupsAbove", "(JI)J"⟩ ∈ lw_g := lw_gin (List.mem_of_getElem? (i := 861) (by decide +kernel)) rfl
theorem w862 : Cond.code yX3_groupsAbove cX3_groupsAbove 6 (some .long) ∈ lw_g := lw_gin (List.mem_of_getElem? (i := 862) (by decide +kernel)) rfl
theorem w863 : Cond.constantLong "NecklaceSisters$Script" 9 (100000) ∈ lw_g := lw_gin (List.mem_of_getElem? (i := 863) (by decide +kernel)) rfl
theorem w865 : Cond.constantLong "NecklaceSisters" 303 (100000) ∈ lw_g := lw_gin (List.mem_of_getElem? (i := 865) (by decide +kernel)) rfl
theorem w866 : Cond.methodLink "NecklaceSisters" 305 ⟨"NecklaceSisters$Script", "succeeds", "(ILNecklaceSisters$Necklace;LNecklaceSisters$Division;)Z"⟩ ∈ lw_g := lw_gin (List.mem_of_getElem? (i := 866) (by decide +kernel)) rfl
theorem w867 : Cond.static ⟨"NecklaceSisters$Script", "succeeds", "(ILNecklaceSisters$Necklace;LNecklaceSisters$Division;)Z"⟩ ∈ lw_g := lw_gin (List.mem_of_getElem? (i := 867) (by decide +kernel)) rfl
theorem w868 : Cond.code yX3_succeeds cX3_succeeds 6 (some .boolean) ∈ lw_g := lw_gin (List.mem_of_getElem? (i := 868) (by decide +kernel)) rfl
theorem w869 : Cond.methodLink "NecklaceSisters$Script" 11 ⟨"NecklaceSisters$Necklace", "setCut", "(IZ)Z"⟩ ∈ lw_g := lw_gin (List.mem_of_getElem? (i := 869) (by decide +kernel)) rfl
theorem w871 : Cond.methodLink "NecklaceSisters$Script" 21 ⟨"NecklaceSisters$Necklace", "giveRun", "(II)Z"⟩ ∈ lw_g := lw_gin (List.mem_of_getElem? (i := 871) (by decide +kernel)) rfl
theorem w872 : Cond.methodLink "NecklaceSisters$Script" 25 ⟨"NecklaceSisters$Necklace", "takeRun", "(I)Z"⟩ ∈ lw_g := lw_gin (List.mem_of_getElem? (i := 872) (by decide +kernel)) rfl
theorem w873 : Cond.methodLink "NecklaceSisters$Script" 29 ⟨"NecklaceSisters$Necklace", "dealRuns", "(I)Z"⟩ ∈ lw_g := lw_gin (List.mem_of_getElem? (i := 873) (by decide +kernel)) rfl
theorem w874 : Cond.methodLink "NecklaceSisters$Script" 32 ⟨"NecklaceSisters$Necklace", "breakAhead", "(I)Z"⟩ ∈ lw_g := lw_gin (List.mem_of_getElem? (i := 874) (by decide +kernel)) rfl
theorem w875 : Cond.methodLink "NecklaceSisters$Script" 35 ⟨"NecklaceSisters$Necklace", "gap", "()I"⟩ ∈ lw_g := lw_gin (List.mem_of_getElem? (i := 875) (by decide +kernel)) rfl
theorem w876 : Cond.methodLink "NecklaceSisters$Script" 39 ⟨"NecklaceSisters$Script", "isDividedWithin", "(ILNecklaceSisters$Necklace;LNecklaceSisters$Division;)Z"⟩ ∈ lw_g := lw_gin (List.mem_of_getElem? (i := 876) (by decide +kernel)) rfl
theorem w877 : Cond.static ⟨"NecklaceSisters$Script", "isDividedWithin", "(ILNecklaceSisters$Necklace;LNecklaceSisters$Division;)Z"⟩ ∈ lw_g := lw_gin (List.mem_of_getElem? (i := 877) (by decide +kernel)) rfl
theorem w878 : Cond.code yX3_isDividedWithin cX3_isDividedWithin 3 (some .boolean) ∈ lw_g := lw_gin (List.mem_of_getElem? (i := 878) (by decide +kernel)) rfl
theorem w879 : Cond.methodLink "NecklaceSisters$Script" 65 ⟨"NecklaceSisters$Division", "weigh", "(LNecklaceSisters$Necklace;I)V"⟩ ∈ lw_g := lw_gin (List.mem_of_getElem? (i := 879) (by decide +kernel)) rfl
theorem w880 : Cond.methodLink "NecklaceSisters$Script" 71 ⟨"NecklaceSisters$Division", "fewestByCuts", "(I)I"⟩ ∈ lw_g := lw_gin (List.mem_of_getElem? (i := 880) (by decide +kernel)) rfl
theorem w881 : Cond.methodLink "NecklaceSisters$Script" 45 ⟨"NecklaceSisters$Necklace", "hasPlace", "(I)Z"⟩ ∈ lw_g := lw_gin (List.mem_of_getElem? (i := 881) (by decide +kernel)) rfl
theorem w882 : Cond.methodLink "NecklaceSisters$Script" 48 ⟨"NecklaceSisters$Necklace", "ownerAt", "(I)I"⟩ ∈ lw_g := lw_gin (List.mem_of_getElem? (i := 882) (by decide +kernel)) rfl
theorem w885 : Cond.methodLink "NecklaceSisters$Script" 57 ⟨"NecklaceSisters$Necklace", "holding", "(II)I"⟩ ∈ lw_g := lw_gin (List.mem_of_getElem? (i := 885) (by decide +kernel)) rfl
theorem w886 : Cond.constantLong "NecklaceSistersLaw" 184 (100000) ∈ lw_g := lw_gin (List.mem_of_getElem? (i := 886) (by decide +kernel)) rfl
theorem w887 : Cond.methodLink "NecklaceSistersLaw" 186 ⟨"NecklaceSistersLaw", "doSimulate", "(LNecklaceSisters;JI)I"⟩ ∈ lw_g := lw_gin (List.mem_of_getElem? (i := 887) (by decide +kernel)) rfl
theorem w890 : Cond.methodLink "NecklaceSistersLaw" 23 ⟨"NecklaceSisters", "simulate", "(JI)I"⟩ ∈ lw_g := lw_gin (List.mem_of_getElem? (i := 890) (by decide +kernel)) rfl
theorem w891 : Cond.instanceMethod ⟨"NecklaceSisters", "simulate", "(JI)I"⟩ ∈ lw_g := lw_gin (List.mem_of_getElem? (i := 891) (by decide +kernel)) rfl
theorem w892 : Cond.selects "NecklaceSisters" ⟨"NecklaceSisters", "simulate", "(JI)I"⟩ ⟨"NecklaceSisters", "simulate", "(JI)I"⟩ ∈ lw_g := lw_gin (List.mem_of_getElem? (i := 892) (by decide +kernel)) rfl
theorem w893 : Cond.code yX7_simulate cX7_simulate 4 (some .int) ∈ lw_g := lw_gin (List.mem_of_getElem? (i := 893) (by decide +kernel)) rfl
theorem w895 : Cond.methodLink "NecklaceSisters" 311 ⟨"NecklaceSisters$Simulation", "play", "(JILNecklaceSisters$Necklace;)V"⟩ ∈ lw_g := lw_gin (List.mem_of_getElem? (i := 895) (by decide +kernel)) rfl
theorem w896 : Cond.static ⟨"NecklaceSisters$Simulation", "play", "(JILNecklaceSisters$Necklace;)V"⟩ ∈ lw_g := lw_gin (List.mem_of_getElem? (i := 896) (by decide +kernel)) rfl
theorem w897 : Cond.code yX4_play cX4_play 7 none ∈ lw_g := lw_gin (List.mem_of_getElem? (i := 897) (by decide +kernel)) rfl
theorem w898 : Cond.constantLong "NecklaceSisters$Simulation" 7 (6364136223846793005) ∈ lw_g := lw_gin (List.mem_of_getElem? (i := 898) (by decide +kernel)) rfl
theorem w899 : Cond.constantLong "NecklaceSisters$Simulation" 9 (1442695040888963407) ∈ lw_g := lw_gin (List.mem_of_getElem? (i := 899) (by decide +kernel)) rfl
theorem w900 : Cond.methodLink "NecklaceSisters$Simulation" 11 ⟨"NecklaceSisters$Simulation", "turn", "(ILNecklaceSisters$Necklace;)V"⟩ ∈ lw_g := lw_gin (List.mem_of_getElem? (i := 900) (by decide +kernel)) rfl
theorem w901 : Cond.static ⟨"NecklaceSisters$Simulation", "turn", "(ILNecklaceSisters$Necklace;)V"⟩ ∈ lw_g := lw_gin (List.mem_of_getElem? (i := 901) (by decide +kernel)) rfl
theorem w902 : Cond.code yX4_turn cX4_turn 4 none ∈ lw_g := lw_gin (List.mem_of_getElem? (i := 902) (by decide +kernel)) rfl
theorem w903 : Cond.methodLink "NecklaceSisters$Simulation" 17 ⟨"NecklaceSisters$Necklace", "addJewel", "(II)Z"⟩ ∈ lw_g := lw_gin (List.mem_of_getElem? (i := 903) (by decide +kernel)) rfl
theorem w904 : Cond.methodLink "NecklaceSisters$Simulation" 23 ⟨"NecklaceSisters$Necklace", "setCut", "(IZ)Z"⟩ ∈ lw_g := lw_gin (List.mem_of_getElem? (i := 904) (by decide +kernel)) rfl
theorem w905 : Cond.methodLink "NecklaceSisters$Simulation" 27 ⟨"NecklaceSisters$Necklace", "giveRun", "(II)Z"⟩ ∈ lw_g := lw_gin (List.mem_of_getElem? (i := 905) (by decide +kernel)) rfl
theorem w906 : Cond.methodLink "NecklaceSisters$Simulation" 30 ⟨"NecklaceSisters$Necklace", "takeRun", "(I)Z"⟩ ∈ lw_g := lw_gin (List.mem_of_getElem? (i := 906) (by decide +kernel)) rfl
theorem w907 : Cond.methodLink "NecklaceSisters$Simulation" 34 ⟨"NecklaceSisters$Necklace", "dealRuns", "(I)Z"⟩ ∈ lw_g := lw_gin (List.mem_of_getElem? (i := 907) (by decide +kernel)) rfl
theorem w908 : Cond.methodLink "NecklaceSisters$Simulation" 37 ⟨"NecklaceSisters$Simulation", "moveJewels", "(ILNecklaceSisters$Necklace;)V"⟩ ∈ lw_g := lw_gin (List.mem_of_getElem? (i := 908) (by decide +kernel)) rfl
theorem w909 : Cond.static ⟨"NecklaceSisters$Simulation", "moveJewels", "(ILNecklaceSisters$Necklace;)V"⟩ ∈ lw_g := lw_gin (List.mem_of_getElem? (i := 909) (by decide +kernel)) rfl
theorem w910 : Cond.code yX4_moveJewels cX4_moveJewels 2 none ∈ lw_g := lw_gin (List.mem_of_getElem? (i := 910) (by decide +kernel)) rfl
theorem w911 : Cond.methodLink "NecklaceSisters$Simulation" 46 ⟨"NecklaceSisters$Necklace", "breakAhead", "(I)Z"⟩ ∈ lw_g := lw_gin (List.mem_of_getElem? (i := 911) (by decide +kernel)) rfl
theorem w912 : Cond.methodLink "NecklaceSisters$Simulation" 49 ⟨"NecklaceSisters$Necklace", "swapJewels", "(II)Z"⟩ ∈ lw_g := lw_gin (List.mem_of_getElem? (i := 912) (by decide +kernel)) rfl
theorem w913 : Cond.methodLink "NecklaceSisters$Simulation" 40 ⟨"NecklaceSisters$Necklace", "chooseSetting", "(I)Z"⟩ ∈ lw_g := lw_gin (List.mem_of_getElem? (i := 913) (by decide +kernel)) rfl
theorem w914 : Cond.methodLink "NecklaceSisters$Simulation" 43 ⟨"NecklaceSisters$Necklace", "reverseRing", "()V"⟩ ∈ lw_g := lw_gin (List.mem_of_getElem? (i := 914) (by decide +kernel)) rfl
theorem w915 : Cond.methodLink "NecklaceSisters" 317 ⟨"java/lang/Math", "min", "(II)I"⟩ ∈ lw_g := lw_gin (List.mem_of_getElem? (i := 915) (by decide +kernel)) rfl
theorem w916 : Cond.methodLink "NecklaceSistersLaw" 213 ⟨"NecklaceSistersLaw", "holds", "(LNecklaceSisters;)Z"⟩ ∈ lw_g := lw_gin (List.mem_of_getElem? (i := 916) (by decide +kernel)) rfl
theorem w919 : Cond.methodLink "NecklaceSistersLaw" 201 ⟨"NecklaceSistersLaw", "act", "(LNecklaceSisters;I)I"⟩ ∈ lw_g := lw_gin (List.mem_of_getElem? (i := 919) (by decide +kernel)) rfl
theorem w922 : Cond.methodLink "NecklaceSistersLaw" 190 ⟨"NecklaceSisters", "turnRound", "()I"⟩ ∈ lw_g := lw_gin (List.mem_of_getElem? (i := 922) (by decide +kernel)) rfl
theorem w923 : Cond.instanceMethod ⟨"NecklaceSisters", "turnRound", "()I"⟩ ∈ lw_g := lw_gin (List.mem_of_getElem? (i := 923) (by decide +kernel)) rfl
theorem w924 : Cond.selects "NecklaceSisters" ⟨"NecklaceSisters", "turnRound", "()I"⟩ ⟨"NecklaceSisters", "turnRound", "()I"⟩ ∈ lw_g := lw_gin (List.mem_of_getElem? (i := 924) (by decide +kernel)) rfl
theorem w925 : Cond.code yX7_turnRound cX7_turnRound 1 (some .int) ∈ lw_g := lw_gin (List.mem_of_getElem? (i := 925) (by decide +kernel)) rfl
theorem w926 : Cond.methodLink "NecklaceSisters" 212 ⟨"NecklaceSisters$Necklace", "reverseRing", "()V"⟩ ∈ lw_g := lw_gin (List.mem_of_getElem? (i := 926) (by decide +kernel)) rfl
theorem w927 : Cond.methodLink "NecklaceSistersLaw" 209 ⟨"NecklaceSistersLaw", "alike", "(LNecklaceSisters;LNecklaceSisters;I)Z"⟩ ∈ lw_g := lw_gin (List.mem_of_getElem? (i := 927) (by decide +kernel)) rfl
theorem w930 : Cond.methodLink "NecklaceSistersLaw" 193 ⟨"NecklaceSisters", "bestRun", "()I"⟩ ∈ lw_g := lw_gin (List.mem_of_getElem? (i := 930) (by decide +kernel)) rfl
theorem w931 : Cond.instanceMethod ⟨"NecklaceSisters", "bestRun", "()I"⟩ ∈ lw_g := lw_gin (List.mem_of_getElem? (i := 931) (by decide +kernel)) rfl
theorem w932 : Cond.selects "NecklaceSisters" ⟨"NecklaceSisters", "bestRun", "()I"⟩ ⟨"NecklaceSisters", "bestRun", "()I"⟩ ∈ lw_g := lw_gin (List.mem_of_getElem? (i := 932) (by decide +kernel)) rfl
theorem w933 : Cond.code yX7_bestRun cX7_bestRun 5 (some .int) ∈ lw_g := lw_gin (List.mem_of_getElem? (i := 933) (by decide +kernel)) rfl
theorem w934 : Cond.methodLink "NecklaceSistersLaw" 217 ⟨"NecklaceSistersLaw", "takes", "(LNecklaceSisters;LNecklaceSisters;I)Z"⟩ ∈ lw_g := lw_gin (List.mem_of_getElem? (i := 934) (by decide +kernel)) rfl
theorem w937 : Cond.methodLink "NecklaceSistersLaw" 223 ⟨"NecklaceSistersLaw", "thrown", "(I)Z"⟩ ∈ lw_g := lw_gin (List.mem_of_getElem? (i := 937) (by decide +kernel)) rfl
theorem w940 : Cond.methodLink "NecklaceSistersLaw" 220 ⟨"NecklaceSistersLaw", "divides", "(LNecklaceSisters;LNecklaceSisters;I)Z"⟩ ∈ lw_g := lw_gin (List.mem_of_getElem? (i := 940) (by decide +kernel)) rfl
theorem w943 : Cond.methodLink "NecklaceSistersLaw" 227 ⟨"NecklaceSisters", "bestBreak", "()I"⟩ ∈ lw_g := lw_gin (List.mem_of_getElem? (i := 943) (by decide +kernel)) rfl
theorem w944 : Cond.instanceMethod ⟨"NecklaceSisters", "bestBreak", "()I"⟩ ∈ lw_g := lw_gin (List.mem_of_getElem? (i := 944) (by decide +kernel)) rfl
theorem w945 : Cond.selects "NecklaceSisters" ⟨"NecklaceSisters", "bestBreak", "()I"⟩ ⟨"NecklaceSisters", "bestBreak", "()I"⟩ ∈ lw_g := lw_gin (List.mem_of_getElem? (i := 945) (by decide +kernel)) rfl
theorem w946 : Cond.code yX7_bestBreak cX7_bestBreak 5 (some .int) ∈ lw_g := lw_gin (List.mem_of_getElem? (i := 946) (by decide +kernel)) rfl
theorem w947 : Cond.constant "NecklaceSistersLaw" 204 (100000) ∈ lw_g := lw_gin (List.mem_of_getElem? (i := 947) (by decide +kernel)) rfl
theorem w949 : Cond.fieldLink "java/lang/String" 9 "java/lang/String" "value" "[B" ∈ lw_g := lw_gin (List.mem_of_getElem? (i := 949) (by decide +kernel)) rfl
theorem w950 : Cond.fieldLink "java/lang/String" 15 "java/lang/String" "coder" "B" ∈ lw_g := lw_gin (List.mem_of_getElem? (i := 950) (by decide +kernel)) rfl
theorem wst_min : Cond.static Lib.Math.min.name ∈ lw_g := lw_gin (List.mem_of_getElem? (i := 639) (by decide +kernel)) rfl
theorem wco_min : Cond.code Lib.Math.min.name Lib.Math.min.code 2 (some .int) ∈ lw_g := lw_gin (List.mem_of_getElem? (i := 640) (by decide +kernel)) rfl
theorem wst_abs : Cond.static Lib.Math.abs.name ∈ lw_g := lw_gin (List.mem_of_getElem? (i := 528) (by decide +kernel)) rfl
theorem wco_abs : Cond.code Lib.Math.abs.name Lib.Math.abs.code 1 (some .int) ∈ lw_g := lw_gin (List.mem_of_getElem? (i := 529) (by decide +kernel)) rfl
theorem w46 : Cond.methodLinkNest "NecklaceSisters" 9 ⟨"NecklaceSisters$Text", "<init>", "()V"⟩ "NecklaceSisters" ∈ lw_nest := List.mem_filter.mpr ⟨List.mem_of_getElem? (i := 46) (by decide +kernel), rfl⟩
theorem w61 : Cond.methodLinkNest "NecklaceSisters" 18 ⟨"NecklaceSisters$Necklace", "<init>", "()V"⟩ "NecklaceSisters" ∈ lw_nest := List.mem_filter.mpr ⟨List.mem_of_getElem? (i := 61) (by decide +kernel), rfl⟩
theorem w109 : Cond.methodLinkNest "NecklaceSisters$History" 17 ⟨"NecklaceSisters$Necklace", "<init>", "()V"⟩ "NecklaceSisters" ∈ lw_nest := List.mem_filter.mpr ⟨List.mem_of_getElem? (i := 109) (by decide +kernel), rfl⟩
theorem w123 : Cond.methodLinkNest "NecklaceSisters" 35 ⟨"NecklaceSisters$Division", "<init>", "()V"⟩ "NecklaceSisters" ∈ lw_nest := List.mem_filter.mpr ⟨List.mem_of_getElem? (i := 123) (by decide +kernel), rfl⟩
theorem w143 : Cond.methodLinkNest "NecklaceSisters" 42 ⟨"NecklaceSisters$Slot", "<init>", "()V"⟩ "NecklaceSisters" ∈ lw_nest := List.mem_filter.mpr ⟨List.mem_of_getElem? (i := 143) (by decide +kernel), rfl⟩
theorem w148 : Cond.methodLinkNest "NecklaceSisters$Slot" 9 ⟨"NecklaceSisters$Necklace", "<init>", "()V"⟩ "NecklaceSisters" ∈ lw_nest := List.mem_filter.mpr ⟨List.mem_of_getElem? (i := 148) (by decide +kernel), rfl⟩
theorem w389 : Cond.methodLinkNest "NecklaceSisters$Necklace" 97 ⟨"NecklaceSisters", "isKind", "(I)Z"⟩ "NecklaceSisters" ∈ lw_nest := List.mem_filter.mpr ⟨List.mem_of_getElem? (i := 389) (by decide +kernel), rfl⟩
theorem w392 : Cond.methodLinkNest "NecklaceSisters$Necklace" 101 ⟨"NecklaceSisters", "isWeight", "(I)Z"⟩ "NecklaceSisters" ∈ lw_nest := List.mem_filter.mpr ⟨List.mem_of_getElem? (i := 392) (by decide +kernel), rfl⟩
theorem w449 : Cond.methodLinkNest "NecklaceSisters$Necklace" 123 ⟨"NecklaceSisters", "isOwner", "(I)Z"⟩ "NecklaceSisters" ∈ lw_nest := List.mem_filter.mpr ⟨List.mem_of_getElem? (i := 449) (by decide +kernel), rfl⟩
theorem w455 : Cond.methodLinkNest "NecklaceSisters$Text" 76 ⟨"NecklaceSisters", "ownerFor", "(I)I"⟩ "NecklaceSisters" ∈ lw_nest := List.mem_filter.mpr ⟨List.mem_of_getElem? (i := 455) (by decide +kernel), rfl⟩
theorem w475 : Cond.methodLinkNest "NecklaceSisters$Necklace" 129 ⟨"NecklaceSisters", "isSister", "(I)Z"⟩ "NecklaceSisters" ∈ lw_nest := List.mem_filter.mpr ⟨List.mem_of_getElem? (i := 475) (by decide +kernel), rfl⟩
theorem w480 : Cond.methodLinkNest "NecklaceSisters$Necklace" 132 ⟨"NecklaceSisters", "isSetting", "(I)Z"⟩ "NecklaceSisters" ∈ lw_nest := List.mem_filter.mpr ⟨List.mem_of_getElem? (i := 480) (by decide +kernel), rfl⟩
theorem w870 : Cond.methodLinkNest "NecklaceSisters$Script" 17 ⟨"NecklaceSisters", "ownerFor", "(I)I"⟩ "NecklaceSisters" ∈ lw_nest := List.mem_filter.mpr ⟨List.mem_of_getElem? (i := 870) (by decide +kernel), rfl⟩
theorem w883 : Cond.methodLinkNest "NecklaceSisters$Script" 51 ⟨"NecklaceSisters", "isSister", "(I)Z"⟩ "NecklaceSisters" ∈ lw_nest := List.mem_filter.mpr ⟨List.mem_of_getElem? (i := 883) (by decide +kernel), rfl⟩
theorem w884 : Cond.methodLinkNest "NecklaceSisters$Script" 54 ⟨"NecklaceSisters", "isKind", "(I)Z"⟩ "NecklaceSisters" ∈ lw_nest := List.mem_filter.mpr ⟨List.mem_of_getElem? (i := 884) (by decide +kernel), rfl⟩
