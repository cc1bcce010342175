/-! THE CONSTRUCTORS -/
theorem wn33 : Cond.initialized "NecklaceSisters$Text" ∈ lw_g := lw_gin (List.mem_of_getElem? (i := 33) (by decide +kernel)) rfl
theorem wn34 : Cond.initialized "NecklaceSisters$Necklace" ∈ lw_g := lw_gin (List.mem_of_getElem? (i := 34) (by decide +kernel)) rfl
theorem wn35 : Cond.initialized "NecklaceSisters$History" ∈ lw_g := lw_gin (List.mem_of_getElem? (i := 35) (by decide +kernel)) rfl
theorem wn36 : Cond.initialized "NecklaceSisters$Division" ∈ lw_g := lw_gin (List.mem_of_getElem? (i := 36) (by decide +kernel)) rfl
theorem wn37 : Cond.initialized "NecklaceSisters$Slot" ∈ lw_g := lw_gin (List.mem_of_getElem? (i := 37) (by decide +kernel)) rfl
theorem wn38 : Cond.initialized "NecklaceSistersModel" ∈ lw_g := lw_gin (List.mem_of_getElem? (i := 38) (by decide +kernel)) rfl
theorem wn58 : Cond.methodLink "NecklaceSisters" 1 ⟨"java/lang/Object", "<init>", "()V"⟩ ∈ lw_g := lw_gin (List.mem_of_getElem? (i := 58) (by decide +kernel)) rfl
theorem wn59 : Cond.instanceMethod ⟨"java/lang/Object", "<init>", "()V"⟩ ∈ lw_g := lw_gin (List.mem_of_getElem? (i := 59) (by decide +kernel)) rfl
theorem wn60 : Cond.code ({ cls := "java/lang/Object", name := "<init>", desc := "()V" } : MethodName) object_method_1_code (1 : Nat) (Option.none : Option ClassFile.FieldType) ∈ lw_g := lw_gin (List.mem_of_getElem? (i := 60) (by decide +kernel)) rfl
theorem wn61 : Cond.classLink "NecklaceSisters" 7 "NecklaceSisters$Text" ∈ lw_g := lw_gin (List.mem_of_getElem? (i := 61) (by decide +kernel)) rfl
theorem wn62 : Cond.instantiable "NecklaceSisters$Text" (2 : Nat) ∈ lw_g := lw_gin (List.mem_of_getElem? (i := 62) (by decide +kernel)) rfl
theorem wn63 : Cond.methodLinkNest "NecklaceSisters" 9 ⟨"NecklaceSisters$Text", "<init>", "()V"⟩ "NecklaceSisters" ∈ lw_nest := List.mem_filter.mpr ⟨List.mem_of_getElem? (i := 63) (by decide +kernel), rfl⟩
theorem wn64 : Cond.instanceMethod ⟨"NecklaceSisters$Text", "<init>", "()V"⟩ ∈ lw_g := lw_gin (List.mem_of_getElem? (i := 64) (by decide +kernel)) rfl
theorem wn65 : Cond.code ({ cls := "NecklaceSisters$Text", name := "<init>", desc := "()V" } : MethodName) prog_8_method_1_code (1 : Nat) (Option.none : Option ClassFile.FieldType) ∈ lw_g := lw_gin (List.mem_of_getElem? (i := 65) (by decide +kernel)) rfl
theorem wn66 : Cond.methodLink "NecklaceSisters$Text" 3 ⟨"java/lang/Object", "<init>", "()V"⟩ ∈ lw_g := lw_gin (List.mem_of_getElem? (i := 66) (by decide +kernel)) rfl
theorem wn67 : Cond.fieldLink "NecklaceSisters$Text" 9 "NecklaceSisters$Text" "signs" "[C" ∈ lw_g := lw_gin (List.mem_of_getElem? (i := 67) (by decide +kernel)) rfl
theorem wn75 : Cond.arrayClass ClassFile.FieldType.char ∈ lw_g := lw_gin (List.mem_of_getElem? (i := 75) (by decide +kernel)) rfl
theorem wn76 : Cond.classLink "NecklaceSisters" 16 "NecklaceSisters$Necklace" ∈ lw_g := lw_gin (List.mem_of_getElem? (i := 76) (by decide +kernel)) rfl
theorem wn77 : Cond.instantiable "NecklaceSisters$Necklace" (9 : Nat) ∈ lw_g := lw_gin (List.mem_of_getElem? (i := 77) (by decide +kernel)) rfl
theorem wn78 : Cond.methodLinkNest "NecklaceSisters" 18 ⟨"NecklaceSisters$Necklace", "<init>", "()V"⟩ "NecklaceSisters" ∈ lw_nest := List.mem_filter.mpr ⟨List.mem_of_getElem? (i := 78) (by decide +kernel), rfl⟩
theorem wn79 : Cond.instanceMethod ⟨"NecklaceSisters$Necklace", "<init>", "()V"⟩ ∈ lw_g := lw_gin (List.mem_of_getElem? (i := 79) (by decide +kernel)) rfl
theorem wn80 : Cond.code ({ cls := "NecklaceSisters$Necklace", name := "<init>", desc := "()V" } : MethodName) prog_4_method_1_code (1 : Nat) (Option.none : Option ClassFile.FieldType) ∈ lw_g := lw_gin (List.mem_of_getElem? (i := 80) (by decide +kernel)) rfl
theorem wn81 : Cond.methodLink "NecklaceSisters$Necklace" 3 ⟨"java/lang/Object", "<init>", "()V"⟩ ∈ lw_g := lw_gin (List.mem_of_getElem? (i := 81) (by decide +kernel)) rfl
theorem wn95 : Cond.fieldLink "NecklaceSisters$Necklace" 9 "NecklaceSisters$Necklace" "kinds" "[I" ∈ lw_g := lw_gin (List.mem_of_getElem? (i := 95) (by decide +kernel)) rfl
theorem wn96 : Cond.fieldLink "NecklaceSisters$Necklace" 15 "NecklaceSisters$Necklace" "weights" "[I" ∈ lw_g := lw_gin (List.mem_of_getElem? (i := 96) (by decide +kernel)) rfl
theorem wn97 : Cond.fieldLink "NecklaceSisters$Necklace" 18 "NecklaceSisters$Necklace" "owners" "[I" ∈ lw_g := lw_gin (List.mem_of_getElem? (i := 97) (by decide +kernel)) rfl
theorem wn117 : Cond.arrayClass ClassFile.FieldType.int ∈ lw_g := lw_gin (List.mem_of_getElem? (i := 117) (by decide +kernel)) rfl
theorem wn118 : Cond.classLink "NecklaceSisters" 26 "NecklaceSisters$History" ∈ lw_g := lw_gin (List.mem_of_getElem? (i := 118) (by decide +kernel)) rfl
theorem wn119 : Cond.instantiable "NecklaceSisters$History" (3 : Nat) ∈ lw_g := lw_gin (List.mem_of_getElem? (i := 119) (by decide +kernel)) rfl
theorem wn120 : Cond.methodLink "NecklaceSisters" 28 ⟨"NecklaceSisters$History", "<init>", "()V"⟩ ∈ lw_g := lw_gin (List.mem_of_getElem? (i := 120) (by decide +kernel)) rfl
theorem wn121 : Cond.instanceMethod ⟨"NecklaceSisters$History", "<init>", "()V"⟩ ∈ lw_g := lw_gin (List.mem_of_getElem? (i := 121) (by decide +kernel)) rfl
theorem wn122 : Cond.code ({ cls := "NecklaceSisters$History", name := "<init>", desc := "()V" } : MethodName) prog_3_method_1_code (2 : Nat) (Option.none : Option ClassFile.FieldType) ∈ lw_g := lw_gin (List.mem_of_getElem? (i := 122) (by decide +kernel)) rfl
theorem wn123 : Cond.methodLink "NecklaceSisters$History" 3 ⟨"java/lang/Object", "<init>", "()V"⟩ ∈ lw_g := lw_gin (List.mem_of_getElem? (i := 123) (by decide +kernel)) rfl
theorem wn124 : Cond.classLink "NecklaceSisters$History" 9 "NecklaceSisters$Necklace" ∈ lw_g := lw_gin (List.mem_of_getElem? (i := 124) (by decide +kernel)) rfl
theorem wn126 : Cond.methodLinkNest "NecklaceSisters$History" 17 ⟨"NecklaceSisters$Necklace", "<init>", "()V"⟩ "NecklaceSisters" ∈ lw_nest := List.mem_filter.mpr ⟨List.mem_of_getElem? (i := 126) (by decide +kernel), rfl⟩
theorem wn127 : Cond.fieldLink "NecklaceSisters$History" 11 "NecklaceSisters$History" "states" "[LNecklaceSisters$Necklace;" ∈ lw_g := lw_gin (List.mem_of_getElem? (i := 127) (by decide +kernel)) rfl
theorem wn138 : Cond.classLink "NecklaceSisters" 33 "NecklaceSisters$Division" ∈ lw_g := lw_gin (List.mem_of_getElem? (i := 138) (by decide +kernel)) rfl
theorem wn139 : Cond.instantiable "NecklaceSisters$Division" (4 : Nat) ∈ lw_g := lw_gin (List.mem_of_getElem? (i := 139) (by decide +kernel)) rfl
theorem wn140 : Cond.methodLinkNest "NecklaceSisters" 35 ⟨"NecklaceSisters$Division", "<init>", "()V"⟩ "NecklaceSisters" ∈ lw_nest := List.mem_filter.mpr ⟨List.mem_of_getElem? (i := 140) (by decide +kernel), rfl⟩
theorem wn141 : Cond.instanceMethod ⟨"NecklaceSisters$Division", "<init>", "()V"⟩ ∈ lw_g := lw_gin (List.mem_of_getElem? (i := 141) (by decide +kernel)) rfl
theorem wn142 : Cond.code ({ cls := "NecklaceSisters$Division", name := "<init>", desc := "()V" } : MethodName) prog_2_method_1_code (1 : Nat) (Option.none : Option ClassFile.FieldType) ∈ lw_g := lw_gin (List.mem_of_getElem? (i := 142) (by decide +kernel)) rfl
theorem wn143 : Cond.methodLink "NecklaceSisters$Division" 3 ⟨"java/lang/Object", "<init>", "()V"⟩ ∈ lw_g := lw_gin (List.mem_of_getElem? (i := 143) (by decide +kernel)) rfl
theorem wn144 : Cond.fieldLink "NecklaceSisters$Division" 9 "NecklaceSisters$Division" "ahead" "[J" ∈ lw_g := lw_gin (List.mem_of_getElem? (i := 144) (by decide +kernel)) rfl
theorem wn145 : Cond.fieldLink "NecklaceSisters$Division" 15 "NecklaceSisters$Division" "found" "[I" ∈ lw_g := lw_gin (List.mem_of_getElem? (i := 145) (by decide +kernel)) rfl
theorem wn157 : Cond.arrayClass ClassFile.FieldType.long ∈ lw_g := lw_gin (List.mem_of_getElem? (i := 157) (by decide +kernel)) rfl
theorem wn158 : Cond.classLink "NecklaceSisters" 40 "NecklaceSisters$Slot" ∈ lw_g := lw_gin (List.mem_of_getElem? (i := 158) (by decide +kernel)) rfl
theorem wn159 : Cond.instantiable "NecklaceSisters$Slot" (2 : Nat) ∈ lw_g := lw_gin (List.mem_of_getElem? (i := 159) (by decide +kernel)) rfl
theorem wn160 : Cond.methodLinkNest "NecklaceSisters" 42 ⟨"NecklaceSisters$Slot", "<init>", "()V"⟩ "NecklaceSisters" ∈ lw_nest := List.mem_filter.mpr ⟨List.mem_of_getElem? (i := 160) (by decide +kernel), rfl⟩
theorem wn161 : Cond.instanceMethod ⟨"NecklaceSisters$Slot", "<init>", "()V"⟩ ∈ lw_g := lw_gin (List.mem_of_getElem? (i := 161) (by decide +kernel)) rfl
theorem wn162 : Cond.code ({ cls := "NecklaceSisters$Slot", name := "<init>", desc := "()V" } : MethodName) prog_7_method_1_code (1 : Nat) (Option.none : Option ClassFile.FieldType) ∈ lw_g := lw_gin (List.mem_of_getElem? (i := 162) (by decide +kernel)) rfl
theorem wn163 : Cond.methodLink "NecklaceSisters$Slot" 1 ⟨"java/lang/Object", "<init>", "()V"⟩ ∈ lw_g := lw_gin (List.mem_of_getElem? (i := 163) (by decide +kernel)) rfl
theorem wn164 : Cond.classLink "NecklaceSisters$Slot" 7 "NecklaceSisters$Necklace" ∈ lw_g := lw_gin (List.mem_of_getElem? (i := 164) (by decide +kernel)) rfl
theorem wn165 : Cond.methodLinkNest "NecklaceSisters$Slot" 9 ⟨"NecklaceSisters$Necklace", "<init>", "()V"⟩ "NecklaceSisters" ∈ lw_nest := List.mem_filter.mpr ⟨List.mem_of_getElem? (i := 165) (by decide +kernel), rfl⟩
theorem wn166 : Cond.fieldLink "NecklaceSisters$Slot" 10 "NecklaceSisters$Slot" "kept" "LNecklaceSisters$Necklace;" ∈ lw_g := lw_gin (List.mem_of_getElem? (i := 166) (by decide +kernel)) rfl
theorem wn174 : Cond.fieldLink "NecklaceSisters" 10 "NecklaceSisters" "text" "LNecklaceSisters$Text;" ∈ lw_g := lw_gin (List.mem_of_getElem? (i := 174) (by decide +kernel)) rfl
theorem wn175 : Cond.fieldLink "NecklaceSisters" 19 "NecklaceSisters" "necklace" "LNecklaceSisters$Necklace;" ∈ lw_g := lw_gin (List.mem_of_getElem? (i := 175) (by decide +kernel)) rfl
theorem wn176 : Cond.fieldLink "NecklaceSisters" 23 "NecklaceSisters" "trial" "LNecklaceSisters$Necklace;" ∈ lw_g := lw_gin (List.mem_of_getElem? (i := 176) (by decide +kernel)) rfl
theorem wn177 : Cond.fieldLink "NecklaceSisters" 29 "NecklaceSisters" "history" "LNecklaceSisters$History;" ∈ lw_g := lw_gin (List.mem_of_getElem? (i := 177) (by decide +kernel)) rfl
theorem wn178 : Cond.fieldLink "NecklaceSisters" 36 "NecklaceSisters" "division" "LNecklaceSisters$Division;" ∈ lw_g := lw_gin (List.mem_of_getElem? (i := 178) (by decide +kernel)) rfl
theorem wn179 : Cond.fieldLink "NecklaceSisters" 43 "NecklaceSisters" "firstSlot" "LNecklaceSisters$Slot;" ∈ lw_g := lw_gin (List.mem_of_getElem? (i := 179) (by decide +kernel)) rfl
theorem wn180 : Cond.fieldLink "NecklaceSisters" 47 "NecklaceSisters" "secondSlot" "LNecklaceSisters$Slot;" ∈ lw_g := lw_gin (List.mem_of_getElem? (i := 180) (by decide +kernel)) rfl
theorem wn944 : Cond.methodLink "NecklaceSistersModel" 1 ⟨"java/lang/Object", "<init>", "()V"⟩ ∈ lw_g := lw_gin (List.mem_of_getElem? (i := 944) (by decide +kernel)) rfl
theorem wn945 : Cond.methodLink "NecklaceSistersModel" 35 ⟨"NecklaceSistersModel", "clear", "([I)V"⟩ ∈ lw_g := lw_gin (List.mem_of_getElem? (i := 945) (by decide +kernel)) rfl
theorem wn946 : Cond.static ⟨"NecklaceSistersModel", "clear", "([I)V"⟩ ∈ lw_g := lw_gin (List.mem_of_getElem? (i := 946) (by decide +kernel)) rfl
theorem wn947 : Cond.code ({ cls := "NecklaceSistersModel", name := "clear", desc := "([I)V" } : MethodName) prog_10_method_6_code (2 : Nat) (Option.none : Option ClassFile.FieldType) ∈ lw_g := lw_gin (List.mem_of_getElem? (i := 947) (by decide +kernel)) rfl
theorem wn948 : Cond.methodLink "NecklaceSistersModel" 43 ⟨"NecklaceSistersModel", "free", "([I)V"⟩ ∈ lw_g := lw_gin (List.mem_of_getElem? (i := 948) (by decide +kernel)) rfl
theorem wn949 : Cond.static ⟨"NecklaceSistersModel", "free", "([I)V"⟩ ∈ lw_g := lw_gin (List.mem_of_getElem? (i := 949) (by decide +kernel)) rfl
theorem wn950 : Cond.code ({ cls := "NecklaceSistersModel", name := "free", desc := "([I)V" } : MethodName) prog_10_method_7_code (2 : Nat) (Option.none : Option ClassFile.FieldType) ∈ lw_g := lw_gin (List.mem_of_getElem? (i := 950) (by decide +kernel)) rfl
theorem wn952 : Cond.fieldLink "NecklaceSistersModel" 7 "NecklaceSistersModel" "text" "[I" ∈ lw_g := lw_gin (List.mem_of_getElem? (i := 952) (by decide +kernel)) rfl
theorem wn954 : Cond.fieldLink "NecklaceSistersModel" 13 "NecklaceSistersModel" "now" "[I" ∈ lw_g := lw_gin (List.mem_of_getElem? (i := 954) (by decide +kernel)) rfl
theorem wn955 : Cond.fieldLink "NecklaceSistersModel" 16 "NecklaceSistersModel" "trial" "[I" ∈ lw_g := lw_gin (List.mem_of_getElem? (i := 955) (by decide +kernel)) rfl
theorem wn956 : Cond.fieldLink "NecklaceSistersModel" 19 "NecklaceSistersModel" "diary" "[I" ∈ lw_g := lw_gin (List.mem_of_getElem? (i := 956) (by decide +kernel)) rfl
theorem wn958 : Cond.fieldLink "NecklaceSistersModel" 22 "NecklaceSistersModel" "kept" "[I" ∈ lw_g := lw_gin (List.mem_of_getElem? (i := 958) (by decide +kernel)) rfl
theorem wn959 : Cond.fieldLink "NecklaceSistersModel" 25 "NecklaceSistersModel" "isKept" "[Z" ∈ lw_g := lw_gin (List.mem_of_getElem? (i := 959) (by decide +kernel)) rfl
theorem wn960 : Cond.fieldLink "NecklaceSistersModel" 29 "NecklaceSistersModel" "ahead" "[I" ∈ lw_g := lw_gin (List.mem_of_getElem? (i := 960) (by decide +kernel)) rfl
theorem wn961 : Cond.fieldLink "NecklaceSistersModel" 32 "NecklaceSistersModel" "tried" "[I" ∈ lw_g := lw_gin (List.mem_of_getElem? (i := 961) (by decide +kernel)) rfl
theorem wn991 : Cond.arrayClass ClassFile.FieldType.boolean ∈ lw_g := lw_gin (List.mem_of_getElem? (i := 991) (by decide +kernel)) rfl
def txE (Y : gY) (E : nE) (a : Nat) : nE := fun q => if q = a then some (.inr (4, [.ref (a + 1), .int (iI 0)])) else if q = a + 1 then some (.inl (yC Y 1, 120, .inl fun _ => iI 0)) else E q
def nkE (Y : gY) (E : nE) (a : Nat) : nE := fun q => if q = a then some (.inr (2, [.int (iI 0), .int (iI 0), .int (iI 0), .int (iI 0), .int (iI 0), .int (iI 0), .ref (a + 1), .ref (a + 2), .ref (a + 3)])) else if q = a + 1 then some (.inl (yC Y 0, 16, .inl fun _ => iI 0)) else if q = a + 2 then some (.inl (yC Y 0, 16, .inl fun _ => iI 0)) else if q = a + 3 then some (.inl (yC Y 0, 16, .inl fun _ => iI 0)) else E q
def dvE (Y : gY) (E : nE) (a : Nat) : nE := fun q => if q = a then some (.inr (0, [.ref (a + 1), .ref (a + 2), .int (iI 0), .long (lI 0)])) else if q = a + 1 then some (.inl (yC Y 2, 17, .inr (.inl fun _ => lI 0))) else if q = a + 2 then some (.inl (yC Y 0, 6, .inl fun _ => iI 0)) else E q
def slE (Y : gY) (E : nE) (a : Nat) : nE := fun q => if q = a then some (.inr (3, [.ref (a + 1), .int (iI 0)])) else nkE Y E (a + 1) q
/-- the history with its first i states -/
def hyE (Y : gY) (E : nE) (a i : Nat) : nE := fun q => if q = a then some (.inr (1, [.ref (a + 1), .int (iI 0), .int (iI 0)])) else if q = a + 1 then some (.inl (yC Y 4, 14, .inr (.inr (.inr (.inr fun j => if j < i then some (a + 2 + 4 * j) else none))))) else if a + 2 ≤ q ∧ q < a + 2 + 4 * i then some (if (q - (a + 2)) % 4 = 0 then .inr (2, [.int (iI 0), .int (iI 0), .int (iI 0), .int (iI 0), .int (iI 0), .int (iI 0), .ref (q + 1), .ref (q + 2), .ref (q + 3)]) else .inl (yC Y 0, 16, .inl fun _ => iI 0)) else E q
theorem txE_o (Y : gY) (E : nE) {a q : Nat} (h : q < a) : txE Y E a q = E q := by unfold txE; rw [if_neg (by omega), if_neg (by omega)]
theorem nkE_o (Y : gY) (E : nE) {a q : Nat} (h : q < a) : nkE Y E a q = E q := by unfold nkE; rw [if_neg (by omega), if_neg (by omega), if_neg (by omega), if_neg (by omega)]
theorem dvE_o (Y : gY) (E : nE) {a q : Nat} (h : q < a) : dvE Y E a q = E q := by unfold dvE; rw [if_neg (by omega), if_neg (by omega), if_neg (by omega)]
theorem slE_o (Y : gY) (E : nE) {a q : Nat} (h : q < a) : slE Y E a q = E q := by unfold slE; rw [if_neg (by omega)]; exact nkE_o Y E (by omega)
theorem hyE_o (Y : gY) (E : nE) {a i q : Nat} (h : q < a) : hyE Y E a i q = E q := by unfold hyE; rw [if_neg (by omega), if_neg (by omega), if_neg (by omega)]
theorem n_x0 {Y : gY} {X : gX} {E : nE} {z pc : Nat} {L : List (Nat × Value)} {st : List Value} (h1 : xCells X = 0) (h2 : xSlots X = 0) (kk : nW Y (xAt X 0 0) E z pc L st) : nW Y X E z pc L st := by
  have e : X = xAt X (xCells X) (xSlots X) := rfl
  rw [e, h1, h2]
  exact kk
set_option maxHeartbeats 4000000 in
theorem n_X6 {Y : gY} {l : Launch} {E : nE} {a : Nat} (hya : yB Y ≤ a) : nM Y l yX6_init cX6_init 1 1 (ue E a (.inr (4, [.null, .int (iI 0)]))) (a + 1) [.ref a] (txE Y E a) (a + 2) 1 120 := by
  refine nM_of (by decide) (Nat.le_of_ble_eq_true rfl) ?_
  intro X hXl B hin hcap Z
  subst hXl
  have B0 : nB Y (xAt X 0 0) yX6_init.cls cX6_init 1 none 1 := nB_at B (Nat.zero_le _) (Nat.zero_le _)
  refine n_x0 hcap.1 hcap.2.1 ?_
  show nW Y (xAt X 0 0) (ue E a (.inr (4, [.null, .int (iI 0)]))) (a + 1) 0 [(0, .ref a)] []
  refine n_aload_n (q := 1) B0 dX6_init_0 rfl 0 rfl ?_
  refine n_obj (q := 4) B0 dX6_init_1 rfl wn66 wn59 wn60 (by decide) (Nat.le_of_ble_eq_true rfl) ?_
  refine n_aload_n (q := 5) B0 dX6_init_4 rfl 0 rfl ?_
  refine n_bipush (q := 7) B0 dX6_init_5 rfl (by decide) ?_
  refine m_newa (c' := 1) (n' := 120) (t0 := 1) (cA := yC Y 1) (N := 120) (a0 := (120, .inl fun _ => iI 0)) (q := 9) B0 dX6_init_7 rfl rfl rfl va_nm_char wn75 rfl (by decide) (by decide) rfl rfl (by rw [hcap.2.2.1]; decide) (by rw [hcap.2.2.2]; decide) (fun Bz1 => ?_)
  refine n_putF (q := 12) (fs := [.null, .int (iI 0)]) Bz1 dX6_init_9 rfl hya ((ue_ne _ _ (by omega)).trans (ue_eq _ _ _)) cls4 0 (by decide) wn67 rfl hin rfl rfl rfl (Nat.le_of_ble_eq_true rfl) ?_
  refine n_vret Bz1 Z dX6_init_12 (Nat.le_of_ble_eq_true rfl) (Nat.le_of_ble_eq_true rfl) (fun q e hq => ?_) (by omega)
  rw [← hq]
  simp only [ue, txE, nkE, dvE, slE]
  (repeat' split) <;> first | rfl | omega
set_option maxHeartbeats 4000000 in
theorem n_X2 {Y : gY} {l : Launch} {E : nE} {a : Nat} (hya : yB Y ≤ a) : nM Y l yX2_init cX2_init 1 1 (ue E a (.inr (2, [.int (iI 0), .int (iI 0), .int (iI 0), .int (iI 0), .int (iI 0), .int (iI 0), .null, .null, .null]))) (a + 1) [.ref a] (nkE Y E a) (a + 4) 3 48 := by
  refine nM_of (by decide) (Nat.le_of_ble_eq_true rfl) ?_
  intro X hXl B hin hcap Z
  subst hXl
  have B0 : nB Y (xAt X 0 0) yX2_init.cls cX2_init 1 none 1 := nB_at B (Nat.zero_le _) (Nat.zero_le _)
  refine n_x0 hcap.1 hcap.2.1 ?_
  show nW Y (xAt X 0 0) (ue E a (.inr (2, [.int (iI 0), .int (iI 0), .int (iI 0), .int (iI 0), .int (iI 0), .int (iI 0), .null, .null, .null]))) (a + 1) 0 [(0, .ref a)] []
  refine n_aload_n (q := 1) B0 dX2_init_0 rfl 0 rfl ?_
  refine n_obj (q := 4) B0 dX2_init_1 rfl wn81 wn59 wn60 (by decide) (Nat.le_of_ble_eq_true rfl) ?_
  refine n_aload_n (q := 5) B0 dX2_init_4 rfl 0 rfl ?_
  refine n_bipush (q := 7) B0 dX2_init_5 rfl (by decide) ?_
  refine m_newa (c' := 1) (n' := 16) (t0 := 0) (cA := yC Y 0) (N := 16) (a0 := (16, .inl fun _ => iI 0)) (q := 9) B0 dX2_init_7 rfl rfl rfl va_nm_int wn117 rfl (by decide) (by decide) rfl rfl (by rw [hcap.2.2.1]; decide) (by rw [hcap.2.2.2]; decide) (fun Bz1 => ?_)
  refine n_putF (q := 12) (fs := [.int (iI 0), .int (iI 0), .int (iI 0), .int (iI 0), .int (iI 0), .int (iI 0), .null, .null, .null]) Bz1 dX2_init_9 rfl hya ((ue_ne _ _ (by omega)).trans (ue_eq _ _ _)) cls2 6 (by decide) wn95 rfl hin rfl rfl rfl (Nat.le_of_ble_eq_true rfl) ?_
  refine n_aload_n (q := 13) Bz1 dX2_init_12 rfl 0 rfl ?_
  refine n_bipush (q := 15) Bz1 dX2_init_13 rfl (by decide) ?_
  refine m_newa (c' := 2) (n' := 32) (t0 := 0) (cA := yC Y 0) (N := 16) (a0 := (16, .inl fun _ => iI 0)) (q := 17) Bz1 dX2_init_15 rfl rfl rfl va_nm_int wn117 rfl (by decide) (by decide) rfl rfl (by rw [hcap.2.2.1]; decide) (by rw [hcap.2.2.2]; decide) (fun Bz2 => ?_)
  refine n_putF (q := 20) (fs := [.int (iI 0), .int (iI 0), .int (iI 0), .int (iI 0), .int (iI 0), .int (iI 0), .ref (a + 1), .null, .null]) Bz2 dX2_init_17 rfl hya ((ue_ne _ _ (by omega)).trans (ue_eq _ _ _)) cls2 7 (by decide) wn96 rfl hin rfl rfl rfl (Nat.le_of_ble_eq_true rfl) ?_
  refine n_aload_n (q := 21) Bz2 dX2_init_20 rfl 0 rfl ?_
  refine n_bipush (q := 23) Bz2 dX2_init_21 rfl (by decide) ?_
  refine m_newa (c' := 3) (n' := 48) (t0 := 0) (cA := yC Y 0) (N := 16) (a0 := (16, .inl fun _ => iI 0)) (q := 25) Bz2 dX2_init_23 rfl rfl rfl va_nm_int wn117 rfl (by decide) (by decide) rfl rfl (by rw [hcap.2.2.1]; decide) (by rw [hcap.2.2.2]; decide) (fun Bz3 => ?_)
  refine n_putF (q := 28) (fs := [.int (iI 0), .int (iI 0), .int (iI 0), .int (iI 0), .int (iI 0), .int (iI 0), .ref (a + 1), .ref (a + 2), .null]) Bz3 dX2_init_25 rfl hya ((ue_ne _ _ (by omega)).trans (ue_eq _ _ _)) cls2 8 (by decide) wn97 rfl hin rfl rfl rfl (Nat.le_of_ble_eq_true rfl) ?_
  refine n_vret Bz3 Z dX2_init_28 (Nat.le_of_ble_eq_true rfl) (Nat.le_of_ble_eq_true rfl) (fun q e hq => ?_) (by omega)
  rw [← hq]
  simp only [ue, txE, nkE, dvE, slE]
  (repeat' split) <;> first | rfl | omega
set_option maxHeartbeats 4000000 in
theorem n_X0 {Y : gY} {l : Launch} {E : nE} {a : Nat} (hya : yB Y ≤ a) : nM Y l yX0_init cX0_init 1 1 (ue E a (.inr (0, [.null, .null, .int (iI 0), .long (lI 0)]))) (a + 1) [.ref a] (dvE Y E a) (a + 3) 2 23 := by
  refine nM_of (by decide) (Nat.le_of_ble_eq_true rfl) ?_
  intro X hXl B hin hcap Z
  subst hXl
  have B0 : nB Y (xAt X 0 0) yX0_init.cls cX0_init 1 none 1 := nB_at B (Nat.zero_le _) (Nat.zero_le _)
  refine n_x0 hcap.1 hcap.2.1 ?_
  show nW Y (xAt X 0 0) (ue E a (.inr (0, [.null, .null, .int (iI 0), .long (lI 0)]))) (a + 1) 0 [(0, .ref a)] []
  refine n_aload_n (q := 1) B0 dX0_init_0 rfl 0 rfl ?_
  refine n_obj (q := 4) B0 dX0_init_1 rfl wn143 wn59 wn60 (by decide) (Nat.le_of_ble_eq_true rfl) ?_
  refine n_aload_n (q := 5) B0 dX0_init_4 rfl 0 rfl ?_
  refine n_bipush (q := 7) B0 dX0_init_5 rfl (by decide) ?_
  refine m_newa (c' := 1) (n' := 17) (t0 := 2) (cA := yC Y 2) (N := 17) (a0 := (17, .inr (.inl fun _ => lI 0))) (q := 9) B0 dX0_init_7 rfl rfl rfl va_nm_long wn157 rfl (by decide) (by decide) rfl rfl (by rw [hcap.2.2.1]; decide) (by rw [hcap.2.2.2]; decide) (fun Bz1 => ?_)
  refine n_putF (q := 12) (fs := [.null, .null, .int (iI 0), .long (lI 0)]) Bz1 dX0_init_9 rfl hya ((ue_ne _ _ (by omega)).trans (ue_eq _ _ _)) cls0 0 (by decide) wn144 rfl hin rfl rfl rfl (Nat.le_of_ble_eq_true rfl) ?_
  refine n_aload_n (q := 13) Bz1 dX0_init_12 rfl 0 rfl ?_
  refine n_bipush (q := 15) Bz1 dX0_init_13 rfl (by decide) ?_
  refine m_newa (c' := 2) (n' := 23) (t0 := 0) (cA := yC Y 0) (N := 6) (a0 := (6, .inl fun _ => iI 0)) (q := 17) Bz1 dX0_init_15 rfl rfl rfl va_nm_int wn117 rfl (by decide) (by decide) rfl rfl (by rw [hcap.2.2.1]; decide) (by rw [hcap.2.2.2]; decide) (fun Bz2 => ?_)
  refine n_putF (q := 20) (fs := [.ref (a + 1), .null, .int (iI 0), .long (lI 0)]) Bz2 dX0_init_17 rfl hya ((ue_ne _ _ (by omega)).trans (ue_eq _ _ _)) cls0 1 (by decide) wn145 rfl hin rfl rfl rfl (Nat.le_of_ble_eq_true rfl) ?_
  refine n_vret Bz2 Z dX0_init_20 (Nat.le_of_ble_eq_true rfl) (Nat.le_of_ble_eq_true rfl) (fun q e hq => ?_) (by omega)
  rw [← hq]
  simp only [ue, txE, nkE, dvE, slE]
  (repeat' split) <;> first | rfl | omega
set_option maxHeartbeats 4000000 in
theorem n_X5 {Y : gY} {l : Launch} {E : nE} {a : Nat} (hya : yB Y ≤ a) : nM Y l yX5_init cX5_init 1 2 (ue E a (.inr (3, [.null, .int (iI 0)]))) (a + 1) [.ref a] (slE Y E a) (a + 5) 4 57 := by
  refine nM_of (by decide) (Nat.le_of_ble_eq_true rfl) ?_
  intro X hXl B hin hcap Z
  subst hXl
  have B0 : nB Y (xAt X 0 0) yX5_init.cls cX5_init 1 none 2 := nB_at B (Nat.zero_le _) (Nat.zero_le _)
  refine n_x0 hcap.1 hcap.2.1 ?_
  show nW Y (xAt X 0 0) (ue E a (.inr (3, [.null, .int (iI 0)]))) (a + 1) 0 [(0, .ref a)] []
  refine n_aload_n (q := 1) B0 dX5_init_0 rfl 0 rfl ?_
  refine n_obj (q := 4) B0 dX5_init_1 rfl wn163 wn59 wn60 (by decide) (Nat.le_of_ble_eq_true rfl) ?_
  refine n_aload_n (q := 5) B0 dX5_init_4 rfl 0 rfl ?_
  refine m_new (c' := 1) (n' := 9) (q := 8) (fs := [.int (iI 0), .int (iI 0), .int (iI 0), .int (iI 0), .int (iI 0), .int (iI 0), .null, .null, .null]) B0 dX5_init_5 rfl cls2 wn164 wn77 wn34 (fun j hj => by rcases (show j = 0 ∨ j = 1 ∨ j = 2 ∨ j = 3 ∨ j = 4 ∨ j = 5 ∨ j = 6 ∨ j = 7 ∨ j = 8 by omega) with rfl | rfl | rfl | rfl | rfl | rfl | rfl | rfl | rfl <;> rfl) rfl rfl (by rw [hcap.2.2.1]; decide) (by rw [hcap.2.2.2]; decide) (fun Bz1 => ?_)
  refine n_dup (q := 9) Bz1 dX5_init_8 rfl rfl ?_
  refine m_ctorN (c' := 4) (n' := 57) (q := 12) Bz1 dX5_init_9 rfl (n_X2 (Y := Y) (l := xL X) (E := (ue E a (.inr (3, [.null, .int (iI 0)])))) (a := (a + 1)) (by omega)) wn80 wn79 wn34 wn165 rfl (by decide +kernel) (by decide) (by decide) (by omega) (Nat.le_of_ble_eq_true rfl) rfl rfl (by rw [hcap.2.2.1]; decide) (by rw [hcap.2.2.2]; decide) (fun Bz2 => ?_)
  refine n_putF (q := 15) (fs := [.null, .int (iI 0)]) Bz2 dX5_init_12 rfl hya ((nkE_o Y _ (by omega)).trans (ue_eq _ _ _)) cls3 0 (by decide) wn166 rfl hin rfl rfl rfl (Nat.le_of_ble_eq_true rfl) ?_
  refine n_vret Bz2 Z dX5_init_15 (Nat.le_of_ble_eq_true rfl) (Nat.le_of_ble_eq_true rfl) (fun q e hq => ?_) (by omega)
  rw [← hq]
  simp only [ue, txE, nkE, dvE, slE]
  (repeat' split) <;> first | rfl | omega
theorem n_eqE {Y : gY} {X : gX} {E E' : nE} {z pc : Nat} {L : List (Nat × Value)} {st : List Value} (h : E = E') (kk : nW Y X E' z pc L st) : nW Y X E z pc L st := h ▸ kk
theorem n_eqX {Y : gY} {X : gX} {E : nE} {z pc c n c' n' z' : Nat} {L : List (Nat × Value)} {st : List Value} (hc : c = c') (hn : n = n') (hz : z = z') (kk : nW Y (xAt X c' n') E z' pc L st) : nW Y (xAt X c n) E z pc L st := by
  subst hc; subst hn; subst hz; exact kk
def arQ (Y : gY) (f : Nat → Option Nat) : Option va_E := some (.inl (yC Y 4, 14, .inr (.inr (.inr (.inr f)))))
theorem ue_ue (E : nE) (a : Nat) (e f : va_E) : ue (ue E a e) a f = ue E a f := by
  funext q
  unfold ue
  split <;> rfl
theorem ue_self {E : nE} {a : Nat} {e : va_E} (h : E a = some e) : ue E a e = E := by
  funext q
  unfold ue
  split
  · next hq => rw [hq, h]
  · rfl
theorem uq_0 (i : Int) : uq (fun _ => 0) i 0 = fun _ => 0 := by
  funext c
  unfold uq
  split <;> rfl
theorem hyE_0 (Y : gY) (E : nE) (a : Nat) : ue (ue (ue E a (.inr (1, [.null, .int (iI 0), .int (iI 0)]))) (a + 1) (.inl (yC Y 4, 14, .inr (.inr (.inr (.inr fun _ => none)))))) a (.inr (1, [.ref (a + 1), .int (iI 0), .int (iI 0)])) = hyE Y E a 0 := by
  funext q
  by_cases h0 : q = a
  · subst h0
    rw [ue_eq]
    exact (if_pos rfl).symm
  · rw [ue_ne _ _ h0]
    by_cases h1 : q = a + 1
    · subst h1
      rw [ue_eq]
      unfold hyE
      rw [if_neg h0, if_pos rfl]
      refine (show arQ Y _ = arQ Y _ from congrArg (arQ Y) (funext fun j => ?_))
      exact (if_neg (Nat.not_lt_zero j)).symm
    · rw [ue_ne _ _ h1, ue_ne _ _ h0]
      unfold hyE
      rw [if_neg h0, if_neg h1, if_neg (by omega)]
theorem hyE_s (Y : gY) (E : nE) (a i : Nat) (hi : i < 14) : ue (nkE Y (hyE Y E a i) (a + 2 + 4 * i)) (a + 1) (.inl (yC Y 4, 14, .inr (.inr (.inr (.inr (va_up (fun j => if j < i then some (a + 2 + 4 * j) else none) i (some (a + 2 + 4 * i)))))))) = hyE Y E a (i + 1) := by
  funext q
  by_cases h1 : q = a + 1
  · subst h1
    rw [ue_eq]
    unfold hyE
    rw [if_neg (by omega), if_pos rfl]
    refine (show arQ Y _ = arQ Y _ from congrArg (arQ Y) (funext fun j => ?_))
    unfold va_up
    by_cases hj : j = i
    · subst hj
      simp
    · by_cases hj2 : j < i
      · simp [hj, hj2, Nat.lt_succ_of_lt hj2]
      · have : ¬ j < i + 1 := by omega
        simp [hj, hj2, this]
  · rw [ue_ne _ _ h1]
    unfold nkE
    by_cases c0 : q = a + 2 + 4 * i
    · rw [if_pos c0]; unfold hyE
      rw [if_neg (by omega), if_neg h1, if_pos (by omega), if_pos (by omega), c0]
    · rw [if_neg c0]
      by_cases c1 : q = a + 2 + 4 * i + 1
      · rw [if_pos c1]; unfold hyE
        rw [if_neg (by omega), if_neg h1, if_pos (by omega), if_neg (by omega)]
      · rw [if_neg c1]
        by_cases c2 : q = a + 2 + 4 * i + 2
        · rw [if_pos c2]; unfold hyE
          rw [if_neg (by omega), if_neg h1, if_pos (by omega), if_neg (by omega)]
        · rw [if_neg c2]
          by_cases c3 : q = a + 2 + 4 * i + 3
          · rw [if_pos c3]; unfold hyE
            rw [if_neg (by omega), if_neg h1, if_pos (by omega), if_neg (by omega)]
          · rw [if_neg c3]; unfold hyE
            by_cases d0 : q = a
            · rw [if_pos d0, if_pos d0]
            · rw [if_neg d0, if_neg d0, if_neg h1, if_neg h1]
              by_cases d1 : a + 2 ≤ q ∧ q < a + 2 + 4 * i
              · rw [if_pos d1, if_pos (show a + 2 ≤ q ∧ q < a + 2 + 4 * (i + 1) by omega)]
              · rw [if_neg d1, if_neg (by omega)]
set_option maxHeartbeats 4000000 in
theorem n_X1 {Y : gY} {l : Launch} {E : nE} {a : Nat} (hya : yB Y ≤ a) : nM Y l yX1_init cX1_init 2 2 (ue E a (.inr (1, [.null, .int (iI 0), .int (iI 0)]))) (a + 1) [.ref a] (hyE Y E a 14) (a + 58) 57 (14+14*57) := by
  refine nM_of (by decide) (Nat.le_of_ble_eq_true rfl) ?_
  intro X hXl B hin hcap Z
  subst hXl
  have lp15 : ∀ (fu i : Nat), i ≤ 14 → nB Y (xAt X (1 + 4 * i) (14 + 57 * i)) "NecklaceSisters$History" cX1_init 2 none 2 → 14 - i < fu → nW Y (xAt X (1 + 4 * i) (14 + 57 * i)) (hyE Y E a i) (a + 2 + 4 * i) 15 [(1, .int (iI (i : Int))), (0, .ref a)] [] := by
    intro fu
    induction fu with
    | zero =>
      intro i _ _ hfu
      exact absurd hfu (Nat.not_lt_zero _)
    | succ fu ih =>
      intro i hi B hfu
      have he0 : hyE Y E a i a = some (.inr (1, [.ref (a + 1), .int (iI 0), .int (iI 0)])) := if_pos rfl
      have he1 : hyE Y E a i (a + 1) = some (.inl (yC Y 4, 14, .inr (.inr (.inr (.inr fun j => if j < i then some (a + 2 + 4 * j) else none))))) := (if_neg (by omega)).trans (if_pos rfl)
      refine n_iload_n (q := 16) B dX1_init_15 rfl 0 rfl ?_
      refine n_aload_n (q := 17) B dX1_init_16 rfl 1 rfl ?_
      refine n_get (q := 20) B dX1_init_17 rfl he0 cls1 0 (by decide) wn127 rfl ?_
      refine n_alen (q := 21) (zl := 14) B dX1_init_20 rfl he1 4 rfl rfl ?_
      refine n_icmp_ge (t := 43) (q := 24) B dX1_init_21 (by decide) rfl ⟨by omega, by omega⟩ ⟨by omega, by omega⟩ (fun cq => ?_) (fun cq => ?_)
      · have ei : i = 14 := by omega
        subst ei
        exact n_vret B Z dX1_init_43 (Nat.le_refl _) (Nat.le_of_ble_eq_true rfl) (fun _ _ h => h) rfl
      · obtain ⟨k1, k2, k3, k4⟩ := hcap
        have g1 : xCells (xAt X (1 + 4 * i) (14 + 57 * i)) + 1 ≤ (xR (xAt X (1 + 4 * i) (14 + 57 * i))).cells := by show 1 + 4 * i + 1 ≤ (xR X).cells; omega
        have g2 : xSlots (xAt X (1 + 4 * i) (14 + 57 * i)) + 9 ≤ (xR (xAt X (1 + 4 * i) (14 + 57 * i))).slots := by show 14 + 57 * i + 9 ≤ (xR X).slots; omega
        refine n_aload_n (q := 25) B dX1_init_24 rfl 1 rfl ?_
        refine n_get (q := 28) B dX1_init_25 rfl he0 cls1 0 (by decide) wn127 rfl ?_
        refine n_iload_n (q := 29) B dX1_init_28 rfl 0 rfl ?_
        refine n_new (q := 32) (fs := [.int (iI 0), .int (iI 0), .int (iI 0), .int (iI 0), .int (iI 0), .int (iI 0), .null, .null, .null]) B dX1_init_29 rfl cls2 wn124 wn77 wn34 (fun j hj => by rcases (show j = 0 ∨ j = 1 ∨ j = 2 ∨ j = 3 ∨ j = 4 ∨ j = 5 ∨ j = 6 ∨ j = 7 ∨ j = 8 by omega) with rfl | rfl | rfl | rfl | rfl | rfl | rfl | rfl | rfl <;> rfl) g1 g2 (fun B1 => ?_)
        refine n_dup (q := 33) B1 dX1_init_32 rfl rfl ?_
        refine n_ctorN (q := 36) B1 dX1_init_33 rfl (n_X2 (Y := Y) (l := xL X) (E := hyE Y E a i) (a := a + 2 + 4 * i) (by omega)) wn80 wn79 wn34 wn126 rfl (by decide +kernel) (by decide) (by decide) (by omega) (Nat.le_of_ble_eq_true rfl) (by show 1 + 4 * i + 1 + 3 ≤ (xR X).cells; omega) (by show 14 + 57 * i + 9 + 48 ≤ (xR X).slots; omega) (fun B2 => ?_)
        have hf1 : nkE Y (hyE Y E a i) (a + 2 + 4 * i) (a + 1) = some (.inl (yC Y 4, 14, .inr (.inr (.inr (.inr fun j => if j < i then some (a + 2 + 4 * j) else none))))) := by
          unfold nkE
          rw [if_neg (by omega), if_neg (by omega), if_neg (by omega), if_neg (by omega)]
          exact he1
        refine n_aast (q := 37) (n := a + 1) (v := a + 2 + 4 * i) (N := 14) B2 dX1_init_36 rfl (by omega) hf1 (if_pos rfl) (by decide) (by omega) (by omega) ?_
        refine n_iinc (n := 0) (q := 40) B2 dX1_init_37 rfl rfl (by decide) (L' := [(1, .int (iI ((i : Int) + 1))), (0, .ref a)]) rfl ?_
        refine n_goto (q := 15) B2 dX1_init_40 (by decide) ?_
        rw [show (i : Int).toNat = i from Int.toNat_natCast i]
        refine n_eqE (hyE_s Y E a i (by omega)) ?_
        have B3 : nB Y (xAt X (1 + 4 * (i + 1)) (14 + 57 * (i + 1))) "NecklaceSisters$History" cX1_init 2 none 2 := nB_at (X := xAt X (1 + 4 * i) (14 + 57 * i)) B (by show 1 + 4 * (i + 1) ≤ (xR X).cells; omega) (by show 14 + 57 * (i + 1) ≤ (xR X).slots; omega)
        refine n_eqX (X := X) (c := 1 + 4 * i + 1 + 3) (n := 14 + 57 * i + 9 + 48) (c' := 1 + 4 * (i + 1)) (n' := 14 + 57 * (i + 1)) (z' := a + 2 + 4 * (i + 1)) (by omega) (by omega) (by omega) ?_
        exact ih (i + 1) (by omega) B3 (by omega)
  have B0 : nB Y (xAt X 0 0) yX1_init.cls cX1_init 2 none 2 := nB_at B (Nat.zero_le _) (Nat.zero_le _)
  refine n_x0 hcap.1 hcap.2.1 ?_
  show nW Y (xAt X 0 0) (ue E a (.inr (1, [.null, .int (iI 0), .int (iI 0)]))) (a + 1) 0 [(0, .ref a)] []
  refine n_aload_n (q := 1) B0 dX1_init_0 rfl 0 rfl ?_
  refine n_obj (q := 4) B0 dX1_init_1 rfl wn123 wn59 wn60 (by decide) (Nat.le_of_ble_eq_true rfl) ?_
  refine n_aload_n (q := 5) B0 dX1_init_4 rfl 0 rfl ?_
  refine n_bipush (q := 7) B0 dX1_init_5 rfl (by decide) ?_
  refine m_anewa (c' := 1) (n' := 14) (N := 14) (q := 10) B0 dX1_init_7 rfl wn124 (by decide) rfl rfl (by rw [hcap.2.2.1]; decide) (by rw [hcap.2.2.2]; decide) (fun Bz1 => ?_)
  refine n_putF (q := 13) (fs := [.null, .int (iI 0), .int (iI 0)]) Bz1 dX1_init_10 rfl hya ((ue_ne _ _ (by omega)).trans (ue_eq _ _ _)) cls1 0 (by decide) wn127 rfl hin rfl rfl rfl (Nat.le_of_ble_eq_true rfl) ?_
  refine n_iconst (q := 14) Bz1 dX1_init_13 rfl ?_
  refine n_istore_n (q := 15) Bz1 dX1_init_14 rfl (by decide) (L' := [(1, .int (iI 0)), (0, .ref a)]) rfl ?_
  refine n_eqE (hyE_0 Y E a) ?_
  have B9 : nB Y (xAt X (1 + 4 * 0) (14 + 57 * 0)) "NecklaceSisters$History" cX1_init 2 none 2 := nB_at B (by obtain ⟨k1, k2, k3, k4⟩ := hcap; show 1 ≤ (xR X).cells; omega) (by obtain ⟨k1, k2, k3, k4⟩ := hcap; show 14 ≤ (xR X).slots; omega)
  refine n_eqX (X := X) (c := 1) (n := 14) (c' := 1 + 4 * 0) (n' := 14 + 57 * 0) (z' := a + 2 + 4 * 0) rfl rfl (by omega) ?_
  exact lp15 _ 0 (by decide) B9 (Nat.lt_succ_self _)
def clE (Y : gY) (E : nE) (a : Nat) : nE := (ue (slE Y (ue (slE Y (ue (dvE Y (ue (hyE Y (ue (nkE Y (ue (nkE Y (ue (txE Y (ue E a (.inr (5, [.null, .null, .null, .null, .null, .null, .null]))) (a + 1)) a (.inr (5, [.ref (a + 1), .null, .null, .null, .null, .null, .null]))) (a + 3)) a (.inr (5, [.ref (a + 1), .ref (a + 3), .null, .null, .null, .null, .null]))) (a + 7)) a (.inr (5, [.ref (a + 1), .ref (a + 3), .ref (a + 7), .null, .null, .null, .null]))) (a + 11) 14) a (.inr (5, [.ref (a + 1), .ref (a + 3), .ref (a + 7), .ref (a + 11), .null, .null, .null]))) (a + 69)) a (.inr (5, [.ref (a + 1), .ref (a + 3), .ref (a + 7), .ref (a + 11), .ref (a + 69), .null, .null]))) (a + 72)) a (.inr (5, [.ref (a + 1), .ref (a + 3), .ref (a + 7), .ref (a + 11), .ref (a + 69), .ref (a + 72), .null]))) (a + 77)) a (.inr (5, [.ref (a + 1), .ref (a + 3), .ref (a + 7), .ref (a + 11), .ref (a + 69), .ref (a + 72), .ref (a + 77)])))
set_option maxHeartbeats 4000000 in
theorem n_X7 {Y : gY} {l : Launch} {E : nE} {a : Nat} (hya : yB Y ≤ a) : nM Y l yX7_init cX7_init 1 3 (ue E a (.inr (5, [.null, .null, .null, .null, .null, .null, .null]))) (a + 1) [.ref a] (clE Y E a) (a + 82) 81 1196 := by
  refine nM_of (by decide) (Nat.le_of_ble_eq_true rfl) ?_
  intro X hXl B hin hcap Z
  subst hXl
  have B0 : nB Y (xAt X 0 0) yX7_init.cls cX7_init 1 none 3 := nB_at B (Nat.zero_le _) (Nat.zero_le _)
  refine n_x0 hcap.1 hcap.2.1 ?_
  show nW Y (xAt X 0 0) (ue E a (.inr (5, [.null, .null, .null, .null, .null, .null, .null]))) (a + 1) 0 [(0, .ref a)] []
  refine n_aload_n (q := 1) B0 dX7_init_0 rfl 0 rfl ?_
  refine n_obj (q := 4) B0 dX7_init_1 rfl wn58 wn59 wn60 (by decide) (Nat.le_of_ble_eq_true rfl) ?_
  refine n_aload_n (q := 5) B0 dX7_init_4 rfl 0 rfl ?_
  refine m_new (c' := 1) (n' := 2) (q := 8) (fs := [.null, .int (iI 0)]) B0 dX7_init_5 rfl cls4 wn61 wn62 wn33 (fun j hj => by rcases (show j = 0 ∨ j = 1 by omega) with rfl | rfl <;> rfl) rfl rfl (by rw [hcap.2.2.1]; decide) (by rw [hcap.2.2.2]; decide) (fun Bz1 => ?_)
  refine n_dup (q := 9) Bz1 dX7_init_8 rfl rfl ?_
  refine m_ctorN (c' := 2) (n' := 122) (q := 12) Bz1 dX7_init_9 rfl (n_X6 (Y := Y) (l := xL X) (E := (ue E a (.inr (5, [.null, .null, .null, .null, .null, .null, .null])))) (a := (a + 1)) (by omega)) wn65 wn64 wn33 wn63 rfl (by decide +kernel) (by decide) (by decide) (by omega) (Nat.le_of_ble_eq_true rfl) rfl rfl (by rw [hcap.2.2.1]; decide) (by rw [hcap.2.2.2]; decide) (fun Bz2 => ?_)
  refine n_putF (q := 15) (fs := [.null, .null, .null, .null, .null, .null, .null]) Bz2 dX7_init_12 rfl hya ((txE_o Y _ (by omega)).trans (ue_eq _ _ _)) cls5 0 (by decide) wn174 rfl hin rfl rfl rfl (Nat.le_of_ble_eq_true rfl) ?_
  refine n_aload_n (q := 16) Bz2 dX7_init_15 rfl 0 rfl ?_
  refine m_new (c' := 3) (n' := 131) (q := 19) (fs := [.int (iI 0), .int (iI 0), .int (iI 0), .int (iI 0), .int (iI 0), .int (iI 0), .null, .null, .null]) Bz2 dX7_init_16 rfl cls2 wn76 wn77 wn34 (fun j hj => by rcases (show j = 0 ∨ j = 1 ∨ j = 2 ∨ j = 3 ∨ j = 4 ∨ j = 5 ∨ j = 6 ∨ j = 7 ∨ j = 8 by omega) with rfl | rfl | rfl | rfl | rfl | rfl | rfl | rfl | rfl <;> rfl) rfl rfl (by rw [hcap.2.2.1]; decide) (by rw [hcap.2.2.2]; decide) (fun Bz3 => ?_)
  refine n_dup (q := 20) Bz3 dX7_init_19 rfl rfl ?_
  refine m_ctorN (c' := 6) (n' := 179) (q := 23) Bz3 dX7_init_20 rfl (n_X2 (Y := Y) (l := xL X) (E := (ue (txE Y (ue E a (.inr (5, [.null, .null, .null, .null, .null, .null, .null]))) (a + 1)) a (.inr (5, [.ref (a + 1), .null, .null, .null, .null, .null, .null])))) (a := (a + 3)) (by omega)) wn80 wn79 wn34 wn78 rfl (by decide +kernel) (by decide) (by decide) (by omega) (Nat.le_of_ble_eq_true rfl) rfl rfl (by rw [hcap.2.2.1]; decide) (by rw [hcap.2.2.2]; decide) (fun Bz4 => ?_)
  refine n_putF (q := 26) (fs := [.ref (a + 1), .null, .null, .null, .null, .null, .null]) Bz4 dX7_init_23 rfl hya ((nkE_o Y _ (by omega)).trans (ue_eq _ _ _)) cls5 1 (by decide) wn175 rfl hin rfl rfl rfl (Nat.le_of_ble_eq_true rfl) ?_
  refine n_aload_n (q := 27) Bz4 dX7_init_26 rfl 0 rfl ?_
  refine m_new (c' := 7) (n' := 188) (q := 30) (fs := [.int (iI 0), .int (iI 0), .int (iI 0), .int (iI 0), .int (iI 0), .int (iI 0), .null, .null, .null]) Bz4 dX7_init_27 rfl cls2 wn76 wn77 wn34 (fun j hj => by rcases (show j = 0 ∨ j = 1 ∨ j = 2 ∨ j = 3 ∨ j = 4 ∨ j = 5 ∨ j = 6 ∨ j = 7 ∨ j = 8 by omega) with rfl | rfl | rfl | rfl | rfl | rfl | rfl | rfl | rfl <;> rfl) rfl rfl (by rw [hcap.2.2.1]; decide) (by rw [hcap.2.2.2]; decide) (fun Bz5 => ?_)
  refine n_dup (q := 31) Bz5 dX7_init_30 rfl rfl ?_
  refine m_ctorN (c' := 10) (n' := 236) (q := 34) Bz5 dX7_init_31 rfl (n_X2 (Y := Y) (l := xL X) (E := (ue (nkE Y (ue (txE Y (ue E a (.inr (5, [.null, .null, .null, .null, .null, .null, .null]))) (a + 1)) a (.inr (5, [.ref (a + 1), .null, .null, .null, .null, .null, .null]))) (a + 3)) a (.inr (5, [.ref (a + 1), .ref (a + 3), .null, .null, .null, .null, .null])))) (a := (a + 7)) (by omega)) wn80 wn79 wn34 wn78 rfl (by decide +kernel) (by decide) (by decide) (by omega) (Nat.le_of_ble_eq_true rfl) rfl rfl (by rw [hcap.2.2.1]; decide) (by rw [hcap.2.2.2]; decide) (fun Bz6 => ?_)
  refine n_putF (q := 37) (fs := [.ref (a + 1), .ref (a + 3), .null, .null, .null, .null, .null]) Bz6 dX7_init_34 rfl hya ((nkE_o Y _ (by omega)).trans (ue_eq _ _ _)) cls5 2 (by decide) wn176 rfl hin rfl rfl rfl (Nat.le_of_ble_eq_true rfl) ?_
  refine n_aload_n (q := 38) Bz6 dX7_init_37 rfl 0 rfl ?_
  refine m_new (c' := 11) (n' := 239) (q := 41) (fs := [.null, .int (iI 0), .int (iI 0)]) Bz6 dX7_init_38 rfl cls1 wn118 wn119 wn35 (fun j hj => by rcases (show j = 0 ∨ j = 1 ∨ j = 2 by omega) with rfl | rfl | rfl <;> rfl) rfl rfl (by rw [hcap.2.2.1]; decide) (by rw [hcap.2.2.2]; decide) (fun Bz7 => ?_)
  refine n_dup (q := 42) Bz7 dX7_init_41 rfl rfl ?_
  refine m_ctor (c' := 68) (n' := 1051) (q := 45) Bz7 dX7_init_42 rfl (n_X1 (Y := Y) (l := xL X) (E := (ue (nkE Y (ue (nkE Y (ue (txE Y (ue E a (.inr (5, [.null, .null, .null, .null, .null, .null, .null]))) (a + 1)) a (.inr (5, [.ref (a + 1), .null, .null, .null, .null, .null, .null]))) (a + 3)) a (.inr (5, [.ref (a + 1), .ref (a + 3), .null, .null, .null, .null, .null]))) (a + 7)) a (.inr (5, [.ref (a + 1), .ref (a + 3), .ref (a + 7), .null, .null, .null, .null])))) (a := (a + 11)) (by omega)) wn122 wn121 wn35 wn120 rfl (by decide +kernel) (by decide) (by decide) (by omega) (Nat.le_of_ble_eq_true rfl) rfl rfl (by rw [hcap.2.2.1]; decide) (by rw [hcap.2.2.2]; decide) (fun Bz8 => ?_)
  refine n_putF (q := 48) (fs := [.ref (a + 1), .ref (a + 3), .ref (a + 7), .null, .null, .null, .null]) Bz8 dX7_init_45 rfl hya ((hyE_o Y _ (by omega)).trans (ue_eq _ _ _)) cls5 3 (by decide) wn177 rfl hin rfl rfl rfl (Nat.le_of_ble_eq_true rfl) ?_
  refine n_aload_n (q := 49) Bz8 dX7_init_48 rfl 0 rfl ?_
  refine m_new (c' := 69) (n' := 1055) (q := 52) (fs := [.null, .null, .int (iI 0), .long (lI 0)]) Bz8 dX7_init_49 rfl cls0 wn138 wn139 wn36 (fun j hj => by rcases (show j = 0 ∨ j = 1 ∨ j = 2 ∨ j = 3 by omega) with rfl | rfl | rfl | rfl <;> rfl) rfl rfl (by rw [hcap.2.2.1]; decide) (by rw [hcap.2.2.2]; decide) (fun Bz9 => ?_)
  refine n_dup (q := 53) Bz9 dX7_init_52 rfl rfl ?_
  refine m_ctorN (c' := 71) (n' := 1078) (q := 56) Bz9 dX7_init_53 rfl (n_X0 (Y := Y) (l := xL X) (E := (ue (hyE Y (ue (nkE Y (ue (nkE Y (ue (txE Y (ue E a (.inr (5, [.null, .null, .null, .null, .null, .null, .null]))) (a + 1)) a (.inr (5, [.ref (a + 1), .null, .null, .null, .null, .null, .null]))) (a + 3)) a (.inr (5, [.ref (a + 1), .ref (a + 3), .null, .null, .null, .null, .null]))) (a + 7)) a (.inr (5, [.ref (a + 1), .ref (a + 3), .ref (a + 7), .null, .null, .null, .null]))) (a + 11) 14) a (.inr (5, [.ref (a + 1), .ref (a + 3), .ref (a + 7), .ref (a + 11), .null, .null, .null])))) (a := (a + 69)) (by omega)) wn142 wn141 wn36 wn140 rfl (by decide +kernel) (by decide) (by decide) (by omega) (Nat.le_of_ble_eq_true rfl) rfl rfl (by rw [hcap.2.2.1]; decide) (by rw [hcap.2.2.2]; decide) (fun Bz10 => ?_)
  refine n_putF (q := 59) (fs := [.ref (a + 1), .ref (a + 3), .ref (a + 7), .ref (a + 11), .null, .null, .null]) Bz10 dX7_init_56 rfl hya ((dvE_o Y _ (by omega)).trans (ue_eq _ _ _)) cls5 4 (by decide) wn178 rfl hin rfl rfl rfl (Nat.le_of_ble_eq_true rfl) ?_
  refine n_aload_n (q := 60) Bz10 dX7_init_59 rfl 0 rfl ?_
  refine m_new (c' := 72) (n' := 1080) (q := 63) (fs := [.null, .int (iI 0)]) Bz10 dX7_init_60 rfl cls3 wn158 wn159 wn37 (fun j hj => by rcases (show j = 0 ∨ j = 1 by omega) with rfl | rfl <;> rfl) rfl rfl (by rw [hcap.2.2.1]; decide) (by rw [hcap.2.2.2]; decide) (fun Bz11 => ?_)
  refine n_dup (q := 64) Bz11 dX7_init_63 rfl rfl ?_
  refine m_ctorN (c' := 76) (n' := 1137) (q := 67) Bz11 dX7_init_64 rfl (n_X5 (Y := Y) (l := xL X) (E := (ue (dvE Y (ue (hyE Y (ue (nkE Y (ue (nkE Y (ue (txE Y (ue E a (.inr (5, [.null, .null, .null, .null, .null, .null, .null]))) (a + 1)) a (.inr (5, [.ref (a + 1), .null, .null, .null, .null, .null, .null]))) (a + 3)) a (.inr (5, [.ref (a + 1), .ref (a + 3), .null, .null, .null, .null, .null]))) (a + 7)) a (.inr (5, [.ref (a + 1), .ref (a + 3), .ref (a + 7), .null, .null, .null, .null]))) (a + 11) 14) a (.inr (5, [.ref (a + 1), .ref (a + 3), .ref (a + 7), .ref (a + 11), .null, .null, .null]))) (a + 69)) a (.inr (5, [.ref (a + 1), .ref (a + 3), .ref (a + 7), .ref (a + 11), .ref (a + 69), .null, .null])))) (a := (a + 72)) (by omega)) wn162 wn161 wn37 wn160 rfl (by decide +kernel) (by decide) (by decide) (by omega) (Nat.le_of_ble_eq_true rfl) rfl rfl (by rw [hcap.2.2.1]; decide) (by rw [hcap.2.2.2]; decide) (fun Bz12 => ?_)
  refine n_putF (q := 70) (fs := [.ref (a + 1), .ref (a + 3), .ref (a + 7), .ref (a + 11), .ref (a + 69), .null, .null]) Bz12 dX7_init_67 rfl hya ((slE_o Y _ (by omega)).trans (ue_eq _ _ _)) cls5 5 (by decide) wn179 rfl hin rfl rfl rfl (Nat.le_of_ble_eq_true rfl) ?_
  refine n_aload_n (q := 71) Bz12 dX7_init_70 rfl 0 rfl ?_
  refine m_new (c' := 77) (n' := 1139) (q := 74) (fs := [.null, .int (iI 0)]) Bz12 dX7_init_71 rfl cls3 wn158 wn159 wn37 (fun j hj => by rcases (show j = 0 ∨ j = 1 by omega) with rfl | rfl <;> rfl) rfl rfl (by rw [hcap.2.2.1]; decide) (by rw [hcap.2.2.2]; decide) (fun Bz13 => ?_)
  refine n_dup (q := 75) Bz13 dX7_init_74 rfl rfl ?_
  refine m_ctorN (c' := 81) (n' := 1196) (q := 78) Bz13 dX7_init_75 rfl (n_X5 (Y := Y) (l := xL X) (E := (ue (slE Y (ue (dvE Y (ue (hyE Y (ue (nkE Y (ue (nkE Y (ue (txE Y (ue E a (.inr (5, [.null, .null, .null, .null, .null, .null, .null]))) (a + 1)) a (.inr (5, [.ref (a + 1), .null, .null, .null, .null, .null, .null]))) (a + 3)) a (.inr (5, [.ref (a + 1), .ref (a + 3), .null, .null, .null, .null, .null]))) (a + 7)) a (.inr (5, [.ref (a + 1), .ref (a + 3), .ref (a + 7), .null, .null, .null, .null]))) (a + 11) 14) a (.inr (5, [.ref (a + 1), .ref (a + 3), .ref (a + 7), .ref (a + 11), .null, .null, .null]))) (a + 69)) a (.inr (5, [.ref (a + 1), .ref (a + 3), .ref (a + 7), .ref (a + 11), .ref (a + 69), .null, .null]))) (a + 72)) a (.inr (5, [.ref (a + 1), .ref (a + 3), .ref (a + 7), .ref (a + 11), .ref (a + 69), .ref (a + 72), .null])))) (a := (a + 77)) (by omega)) wn162 wn161 wn37 wn160 rfl (by decide +kernel) (by decide) (by decide) (by omega) (Nat.le_of_ble_eq_true rfl) rfl rfl (by rw [hcap.2.2.1]; decide) (by rw [hcap.2.2.2]; decide) (fun Bz14 => ?_)
  refine n_putF (q := 81) (fs := [.ref (a + 1), .ref (a + 3), .ref (a + 7), .ref (a + 11), .ref (a + 69), .ref (a + 72), .null]) Bz14 dX7_init_78 rfl hya ((slE_o Y _ (by omega)).trans (ue_eq _ _ _)) cls5 6 (by decide) wn180 rfl hin rfl rfl rfl (Nat.le_of_ble_eq_true rfl) ?_
  exact n_vret Bz14 Z dX7_init_81 (Nat.le_of_ble_eq_true rfl) (Nat.le_of_ble_eq_true rfl) (fun _ _ h => h) (by omega)
def mRw (i : Nat) : Int → Int := fun c => if 38 ≤ c ∧ c < 38 + i then -1 else 0
theorem mRw_0 : (fun _ => 0 : Int → Int) = mRw 0 := by
  funext c
  unfold mRw
  rw [if_neg (by omega)]
theorem mRw_s (i : Nat) : uq (mRw i) (38 + (i : Int)) (-1) = mRw (i + 1) := by
  funext c
  unfold uq mRw
  by_cases h : c = 38 + (i : Int)
  · rw [if_pos h, if_pos (by omega)]
  · rw [if_neg h]
    by_cases h2 : 38 ≤ c ∧ c < 38 + (i : Int)
    · rw [if_pos h2, if_pos (by omega)]
    · rw [if_neg h2, if_neg (by omega)]
set_option maxHeartbeats 4000000 in
theorem n_free {Y : gY} {l : Launch} {E : nE} {n z : Nat} (hya : yB Y ≤ n) (he : E n = some (cI Y 54 (fun _ => 0))) : nM Y l yX8_free cX8_free 2 0 E z [.ref n] (ue E n (cI Y 54 (mRw 16))) z 0 0 := by
  refine nM_of (by decide) (Nat.le_of_ble_eq_true rfl) ?_
  intro X hXl B hin hcap Z
  subst hXl
  have lp6 : ∀ (fu i : Nat), i ≤ 16 → 16 - i < fu → nW Y X (ue E n (cI Y 54 (mRw i))) z 6 [(1, .int (iI (i : Int))), (0, .ref n)] [] := by
    intro fu
    induction fu with
    | zero =>
      intro i _ hfu
      exact absurd hfu (Nat.not_lt_zero _)
    | succ fu ih =>
      intro i hi hfu
      refine n_iload_n (q := 7) B dX8_free_6 rfl 0 rfl ?_
      refine n_bipush (q := 9) B dX8_free_7 rfl (by decide) ?_
      refine n_icmp_ge (t := 25) (q := 12) B dX8_free_9 (by decide) rfl ⟨by omega, by omega⟩ ⟨by omega, by omega⟩ (fun cq => ?_) (fun cq => ?_)
      · have ei : i = 16 := by omega
        subst ei
        exact n_vret B Z dX8_free_25 (by rw [hcap.1]; exact Nat.le_refl _) (by rw [hcap.2.1]; exact Nat.le_refl _) (fun _ _ h => h) rfl
      · refine n_aload_n (q := 13) B dX8_free_12 rfl 1 rfl ?_
        refine n_bipush (q := 15) B dX8_free_13 rfl (by decide) ?_
        refine n_iload_n (q := 16) B dX8_free_15 rfl 0 rfl ?_
        refine n_iadd (q := 17) B dX8_free_16 rfl ?_
        refine n_iconst (q := 18) B dX8_free_17 rfl ?_
        refine n_iast (q := 19) (n := n) (N := 54) (g := mRw i) B dX8_free_18 rfl hya (ue_eq _ _ _) (by decide) (by omega) (by omega) ?_
        refine n_iinc (n := 0) (q := 22) B dX8_free_19 rfl rfl (by decide) (L' := [(1, .int (iI ((i : Int) + 1))), (0, .ref n)]) rfl ?_
        refine n_goto (q := 6) B dX8_free_22 (by decide) ?_
        refine n_eqE ((ue_ue _ _ _ _).trans (congrArg (fun g => ue E n (cI Y 54 g)) (mRw_s i))) ?_
        exact ih (i + 1) (by omega) (by omega)
  show nW Y X E z 0 [(0, .ref n)] []
  refine n_aload_n (q := 1) B dX8_free_0 rfl 0 rfl ?_
  refine n_iconst (q := 2) B dX8_free_1 rfl ?_
  refine n_iconst (q := 3) B dX8_free_2 rfl ?_
  refine n_iast (q := 4) (n := n) (N := 54) (g := fun _ => 0) B dX8_free_3 rfl hya he (by decide) (by decide) (by decide) ?_
  refine n_iconst (q := 5) B dX8_free_4 rfl ?_
  refine n_istore_n (q := 6) B dX8_free_5 rfl (by decide) (L' := [(1, .int (iI 0)), (0, .ref n)]) rfl ?_
  refine n_eqE (congrArg (fun g => ue E n (cI Y 54 g)) ((uq_0 5).trans mRw_0)) ?_
  exact lp6 _ 0 (by decide) (Nat.lt_succ_self _)
set_option maxHeartbeats 4000000 in
theorem n_clear {Y : gY} {l : Launch} {E : nE} {n z : Nat} (hya : yB Y ≤ n) (he : E n = some (cI Y 54 (fun _ => 0))) : nM Y l yX8_clear cX8_clear 2 1 E z [.ref n] (ue E n (cI Y 54 (mRw 16))) z 0 0 := by
  refine nM_of (by decide) (Nat.le_of_ble_eq_true rfl) ?_
  intro X hXl B hin hcap Z
  subst hXl
  have lp2 : ∀ (fu i : Nat), i ≤ 54 → 54 - i < fu → nW Y X E z 2 [(1, .int (iI (i : Int))), (0, .ref n)] [] := by
    intro fu
    induction fu with
    | zero =>
      intro i _ hfu
      exact absurd hfu (Nat.not_lt_zero _)
    | succ fu ih =>
      intro i hi hfu
      refine n_iload_n (q := 3) B dX8_clear_2 rfl 0 rfl ?_
      refine n_bipush (q := 5) B dX8_clear_3 rfl (by decide) ?_
      refine n_icmp_ge (t := 18) (q := 8) B dX8_clear_5 (by decide) rfl ⟨by omega, by omega⟩ ⟨by omega, by omega⟩ (fun cq => ?_) (fun cq => ?_)
      · refine n_aload_n (q := 19) B dX8_clear_18 rfl 1 rfl ?_
        refine n_callS (q := 22) B dX8_clear_19 rfl (n_free (Y := Y) (l := xL X) (E := E) (n := n) hya he) wn950 wn949 wn38 wn948 (by decide +kernel) (by decide) (by decide) (Nat.le_refl _) (Nat.le_of_ble_eq_true rfl) (by obtain ⟨k1, k2, k3, k4⟩ := hcap; omega) (by obtain ⟨k1, k2, k3, k4⟩ := hcap; omega) (fun B2 => ?_)
        exact n_vret B2 Z dX8_clear_22 (by show xCells X + 0 ≤ 0; rw [hcap.1]; exact Nat.le_refl _) (by show xSlots X + 0 ≤ 0; rw [hcap.2.1]; exact Nat.le_refl _) (fun _ _ h => h) rfl
      · refine n_aload_n (q := 9) B dX8_clear_8 rfl 1 rfl ?_
        refine n_iload_n (q := 10) B dX8_clear_9 rfl 0 rfl ?_
        refine n_iconst (q := 11) B dX8_clear_10 rfl ?_
        refine n_iast (q := 12) (n := n) (N := 54) (g := fun _ => 0) B dX8_clear_11 rfl hya he (by decide) (by omega) (by omega) ?_
        refine n_iinc (n := 0) (q := 15) B dX8_clear_12 rfl rfl (by decide) (L' := [(1, .int (iI ((i : Int) + 1))), (0, .ref n)]) rfl ?_
        refine n_goto (q := 2) B dX8_clear_15 (by decide) ?_
        refine n_eqE ((congrArg (fun g => ue E n (cI Y 54 g)) (uq_0 (i : Int))).trans (ue_self he)) ?_
        exact ih (i + 1) (by omega) (by omega)
  show nW Y X E z 0 [(0, .ref n)] []
  refine n_iconst (q := 1) B dX8_clear_0 rfl ?_
  refine n_istore_n (q := 2) B dX8_clear_1 rfl (by decide) (L' := [(1, .int (iI 0)), (0, .ref n)]) rfl ?_
  exact lp2 _ 0 (by decide) (Nat.lt_succ_self _)
def moE (Y : gY) (E : nE) (a : Nat) : nE := ue (ue (ue (ue (ue (ue (ue (ue (ue (ue (ue (ue (ue (ue (ue (ue (ue (ue E a (.inr (6, [.int (iI 0), .null, .int (iI 0), .null, .null, .null, .int (iI 0), .null, .null, .null, .null, .int (iI 0), .int (iI 0)]))) (a + 1) (.inl (yC Y 0, 120, .inl fun _ => iI 0))) a (.inr (6, [.int (iI 0), .ref (a + 1), .int (iI 0), .null, .null, .null, .int (iI 0), .null, .null, .null, .null, .int (iI 0), .int (iI 0)]))) (a + 2) (.inl (yC Y 0, 54, .inl fun _ => iI 0))) a (.inr (6, [.int (iI 0), .ref (a + 1), .int (iI 0), .ref (a + 2), .null, .null, .int (iI 0), .null, .null, .null, .null, .int (iI 0), .int (iI 0)]))) (a + 3) (.inl (yC Y 0, 54, .inl fun _ => iI 0))) a (.inr (6, [.int (iI 0), .ref (a + 1), .int (iI 0), .ref (a + 2), .ref (a + 3), .null, .int (iI 0), .null, .null, .null, .null, .int (iI 0), .int (iI 0)]))) (a + 4) (.inl (yC Y 0, 756, .inl fun _ => iI 0))) a (.inr (6, [.int (iI 0), .ref (a + 1), .int (iI 0), .ref (a + 2), .ref (a + 3), .ref (a + 4), .int (iI 0), .null, .null, .null, .null, .int (iI 0), .int (iI 0)]))) (a + 5) (.inl (yC Y 0, 108, .inl fun _ => iI 0))) a (.inr (6, [.int (iI 0), .ref (a + 1), .int (iI 0), .ref (a + 2), .ref (a + 3), .ref (a + 4), .int (iI 0), .ref (a + 5), .null, .null, .null, .int (iI 0), .int (iI 0)]))) (a + 6) (.inl (yC Y 3, 2, .inl fun _ => iI 0))) a (.inr (6, [.int (iI 0), .ref (a + 1), .int (iI 0), .ref (a + 2), .ref (a + 3), .ref (a + 4), .int (iI 0), .ref (a + 5), .ref (a + 6), .null, .null, .int (iI 0), .int (iI 0)]))) (a + 7) (.inl (yC Y 0, 68, .inl fun _ => iI 0))) a (.inr (6, [.int (iI 0), .ref (a + 1), .int (iI 0), .ref (a + 2), .ref (a + 3), .ref (a + 4), .int (iI 0), .ref (a + 5), .ref (a + 6), .ref (a + 7), .null, .int (iI 0), .int (iI 0)]))) (a + 8) (.inl (yC Y 0, 8, .inl fun _ => iI 0))) a (.inr (6, [.int (iI 0), .ref (a + 1), .int (iI 0), .ref (a + 2), .ref (a + 3), .ref (a + 4), .int (iI 0), .ref (a + 5), .ref (a + 6), .ref (a + 7), .ref (a + 8), .int (iI 0), .int (iI 0)]))) (a + 2) (cI Y 54 (mRw 16))
set_option maxHeartbeats 4000000 in
theorem n_X8 {Y : gY} {l : Launch} {E : nE} {a : Nat} (hya : yB Y ≤ a) : nM Y l yX8_init cX8_init 1 2 (ue E a (.inr (6, [.int (iI 0), .null, .int (iI 0), .null, .null, .null, .int (iI 0), .null, .null, .null, .null, .int (iI 0), .int (iI 0)]))) (a + 1) [.ref a] (moE Y E a) (a + 9) 8 1170 := by
  refine nM_of (by decide) (Nat.le_of_ble_eq_true rfl) ?_
  intro X hXl B hin hcap Z
  subst hXl
  have B0 : nB Y (xAt X 0 0) yX8_init.cls cX8_init 1 none 2 := nB_at B (Nat.zero_le _) (Nat.zero_le _)
  refine n_x0 hcap.1 hcap.2.1 ?_
  show nW Y (xAt X 0 0) (ue E a (.inr (6, [.int (iI 0), .null, .int (iI 0), .null, .null, .null, .int (iI 0), .null, .null, .null, .null, .int (iI 0), .int (iI 0)]))) (a + 1) 0 [(0, .ref a)] []
  refine n_aload_n (q := 1) B0 dX8_init_0 rfl 0 rfl ?_
  refine n_obj (q := 4) B0 dX8_init_1 rfl wn944 wn59 wn60 (by decide) (Nat.le_of_ble_eq_true rfl) ?_
  refine n_aload_n (q := 5) B0 dX8_init_4 rfl 0 rfl ?_
  refine n_bipush (q := 7) B0 dX8_init_5 rfl (by decide) ?_
  refine m_newa (c' := 1) (n' := 120) (t0 := 0) (cA := yC Y 0) (N := 120) (a0 := (120, .inl fun _ => iI 0)) (q := 9) B0 dX8_init_7 rfl rfl rfl va_nm_int wn117 rfl (by decide) (by decide) rfl rfl (by rw [hcap.2.2.1]; decide) (by rw [hcap.2.2.2]; decide) (fun Bz1 => ?_)
  refine n_putF (q := 12) (fs := [.int (iI 0), .null, .int (iI 0), .null, .null, .null, .int (iI 0), .null, .null, .null, .null, .int (iI 0), .int (iI 0)]) Bz1 dX8_init_9 rfl hya ((ue_ne _ _ (by omega)).trans (ue_eq _ _ _)) cls6 1 (by decide) wn952 rfl hin rfl rfl rfl (Nat.le_of_ble_eq_true rfl) ?_
  refine n_aload_n (q := 13) Bz1 dX8_init_12 rfl 0 rfl ?_
  refine n_bipush (q := 15) Bz1 dX8_init_13 rfl (by decide) ?_
  refine m_newa (c' := 2) (n' := 174) (t0 := 0) (cA := yC Y 0) (N := 54) (a0 := (54, .inl fun _ => iI 0)) (q := 17) Bz1 dX8_init_15 rfl rfl rfl va_nm_int wn117 rfl (by decide) (by decide) rfl rfl (by rw [hcap.2.2.1]; decide) (by rw [hcap.2.2.2]; decide) (fun Bz2 => ?_)
  refine n_putF (q := 20) (fs := [.int (iI 0), .ref (a + 1), .int (iI 0), .null, .null, .null, .int (iI 0), .null, .null, .null, .null, .int (iI 0), .int (iI 0)]) Bz2 dX8_init_17 rfl hya ((ue_ne _ _ (by omega)).trans (ue_eq _ _ _)) cls6 3 (by decide) wn954 rfl hin rfl rfl rfl (Nat.le_of_ble_eq_true rfl) ?_
  refine n_aload_n (q := 21) Bz2 dX8_init_20 rfl 0 rfl ?_
  refine n_bipush (q := 23) Bz2 dX8_init_21 rfl (by decide) ?_
  refine m_newa (c' := 3) (n' := 228) (t0 := 0) (cA := yC Y 0) (N := 54) (a0 := (54, .inl fun _ => iI 0)) (q := 25) Bz2 dX8_init_23 rfl rfl rfl va_nm_int wn117 rfl (by decide) (by decide) rfl rfl (by rw [hcap.2.2.1]; decide) (by rw [hcap.2.2.2]; decide) (fun Bz3 => ?_)
  refine n_putF (q := 28) (fs := [.int (iI 0), .ref (a + 1), .int (iI 0), .ref (a + 2), .null, .null, .int (iI 0), .null, .null, .null, .null, .int (iI 0), .int (iI 0)]) Bz3 dX8_init_25 rfl hya ((ue_ne _ _ (by omega)).trans (ue_eq _ _ _)) cls6 4 (by decide) wn955 rfl hin rfl rfl rfl (Nat.le_of_ble_eq_true rfl) ?_
  refine n_aload_n (q := 29) Bz3 dX8_init_28 rfl 0 rfl ?_
  refine n_sipush (q := 32) Bz3 dX8_init_29 rfl (by decide) ?_
  refine m_newa (c' := 4) (n' := 984) (t0 := 0) (cA := yC Y 0) (N := 756) (a0 := (756, .inl fun _ => iI 0)) (q := 34) Bz3 dX8_init_32 rfl rfl rfl va_nm_int wn117 rfl (by decide) (by decide) rfl rfl (by rw [hcap.2.2.1]; decide) (by rw [hcap.2.2.2]; decide) (fun Bz4 => ?_)
  refine n_putF (q := 37) (fs := [.int (iI 0), .ref (a + 1), .int (iI 0), .ref (a + 2), .ref (a + 3), .null, .int (iI 0), .null, .null, .null, .null, .int (iI 0), .int (iI 0)]) Bz4 dX8_init_34 rfl hya ((ue_ne _ _ (by omega)).trans (ue_eq _ _ _)) cls6 5 (by decide) wn956 rfl hin rfl rfl rfl (Nat.le_of_ble_eq_true rfl) ?_
  refine n_aload_n (q := 38) Bz4 dX8_init_37 rfl 0 rfl ?_
  refine n_bipush (q := 40) Bz4 dX8_init_38 rfl (by decide) ?_
  refine m_newa (c' := 5) (n' := 1092) (t0 := 0) (cA := yC Y 0) (N := 108) (a0 := (108, .inl fun _ => iI 0)) (q := 42) Bz4 dX8_init_40 rfl rfl rfl va_nm_int wn117 rfl (by decide) (by decide) rfl rfl (by rw [hcap.2.2.1]; decide) (by rw [hcap.2.2.2]; decide) (fun Bz5 => ?_)
  refine n_putF (q := 45) (fs := [.int (iI 0), .ref (a + 1), .int (iI 0), .ref (a + 2), .ref (a + 3), .ref (a + 4), .int (iI 0), .null, .null, .null, .null, .int (iI 0), .int (iI 0)]) Bz5 dX8_init_42 rfl hya ((ue_ne _ _ (by omega)).trans (ue_eq _ _ _)) cls6 7 (by decide) wn958 rfl hin rfl rfl rfl (Nat.le_of_ble_eq_true rfl) ?_
  refine n_aload_n (q := 46) Bz5 dX8_init_45 rfl 0 rfl ?_
  refine n_iconst (q := 47) Bz5 dX8_init_46 rfl ?_
  refine m_newa (c' := 6) (n' := 1094) (t0 := 3) (cA := yC Y 3) (N := 2) (a0 := (2, .inl fun _ => iI 0)) (q := 49) Bz5 dX8_init_47 rfl rfl rfl va_nm_boolean wn991 rfl (by decide) (by decide) rfl rfl (by rw [hcap.2.2.1]; decide) (by rw [hcap.2.2.2]; decide) (fun Bz6 => ?_)
  refine n_putF (q := 52) (fs := [.int (iI 0), .ref (a + 1), .int (iI 0), .ref (a + 2), .ref (a + 3), .ref (a + 4), .int (iI 0), .ref (a + 5), .null, .null, .null, .int (iI 0), .int (iI 0)]) Bz6 dX8_init_49 rfl hya ((ue_ne _ _ (by omega)).trans (ue_eq _ _ _)) cls6 8 (by decide) wn959 rfl hin rfl rfl rfl (Nat.le_of_ble_eq_true rfl) ?_
  refine n_aload_n (q := 53) Bz6 dX8_init_52 rfl 0 rfl ?_
  refine n_bipush (q := 55) Bz6 dX8_init_53 rfl (by decide) ?_
  refine m_newa (c' := 7) (n' := 1162) (t0 := 0) (cA := yC Y 0) (N := 68) (a0 := (68, .inl fun _ => iI 0)) (q := 57) Bz6 dX8_init_55 rfl rfl rfl va_nm_int wn117 rfl (by decide) (by decide) rfl rfl (by rw [hcap.2.2.1]; decide) (by rw [hcap.2.2.2]; decide) (fun Bz7 => ?_)
  refine n_putF (q := 60) (fs := [.int (iI 0), .ref (a + 1), .int (iI 0), .ref (a + 2), .ref (a + 3), .ref (a + 4), .int (iI 0), .ref (a + 5), .ref (a + 6), .null, .null, .int (iI 0), .int (iI 0)]) Bz7 dX8_init_57 rfl hya ((ue_ne _ _ (by omega)).trans (ue_eq _ _ _)) cls6 9 (by decide) wn960 rfl hin rfl rfl rfl (Nat.le_of_ble_eq_true rfl) ?_
  refine n_aload_n (q := 61) Bz7 dX8_init_60 rfl 0 rfl ?_
  refine n_bipush (q := 63) Bz7 dX8_init_61 rfl (by decide) ?_
  refine m_newa (c' := 8) (n' := 1170) (t0 := 0) (cA := yC Y 0) (N := 8) (a0 := (8, .inl fun _ => iI 0)) (q := 65) Bz7 dX8_init_63 rfl rfl rfl va_nm_int wn117 rfl (by decide) (by decide) rfl rfl (by rw [hcap.2.2.1]; decide) (by rw [hcap.2.2.2]; decide) (fun Bz8 => ?_)
  refine n_putF (q := 68) (fs := [.int (iI 0), .ref (a + 1), .int (iI 0), .ref (a + 2), .ref (a + 3), .ref (a + 4), .int (iI 0), .ref (a + 5), .ref (a + 6), .ref (a + 7), .null, .int (iI 0), .int (iI 0)]) Bz8 dX8_init_65 rfl hya ((ue_ne _ _ (by omega)).trans (ue_eq _ _ _)) cls6 10 (by decide) wn961 rfl hin rfl rfl rfl (Nat.le_of_ble_eq_true rfl) ?_
  refine n_aload_n (q := 69) Bz8 dX8_init_68 rfl 0 rfl ?_
  refine n_get (q := 72) (fs := [.int (iI 0), .ref (a + 1), .int (iI 0), .ref (a + 2), .ref (a + 3), .ref (a + 4), .int (iI 0), .ref (a + 5), .ref (a + 6), .ref (a + 7), .ref (a + 8), .int (iI 0), .int (iI 0)]) Bz8 dX8_init_69 rfl (ue_eq _ _ _) cls6 3 (by decide) wn954 rfl ?_
  refine m_callS (c' := 8) (n' := 1170) (q := 75) Bz8 dX8_init_72 rfl (n_clear (Y := Y) (l := xL X) (E := (ue (ue (ue (ue (ue (ue (ue (ue (ue (ue (ue (ue (ue (ue (ue (ue (ue E a (.inr (6, [.int (iI 0), .null, .int (iI 0), .null, .null, .null, .int (iI 0), .null, .null, .null, .null, .int (iI 0), .int (iI 0)]))) (a + 1) (.inl (yC Y 0, 120, .inl fun _ => iI 0))) a (.inr (6, [.int (iI 0), .ref (a + 1), .int (iI 0), .null, .null, .null, .int (iI 0), .null, .null, .null, .null, .int (iI 0), .int (iI 0)]))) (a + 2) (.inl (yC Y 0, 54, .inl fun _ => iI 0))) a (.inr (6, [.int (iI 0), .ref (a + 1), .int (iI 0), .ref (a + 2), .null, .null, .int (iI 0), .null, .null, .null, .null, .int (iI 0), .int (iI 0)]))) (a + 3) (.inl (yC Y 0, 54, .inl fun _ => iI 0))) a (.inr (6, [.int (iI 0), .ref (a + 1), .int (iI 0), .ref (a + 2), .ref (a + 3), .null, .int (iI 0), .null, .null, .null, .null, .int (iI 0), .int (iI 0)]))) (a + 4) (.inl (yC Y 0, 756, .inl fun _ => iI 0))) a (.inr (6, [.int (iI 0), .ref (a + 1), .int (iI 0), .ref (a + 2), .ref (a + 3), .ref (a + 4), .int (iI 0), .null, .null, .null, .null, .int (iI 0), .int (iI 0)]))) (a + 5) (.inl (yC Y 0, 108, .inl fun _ => iI 0))) a (.inr (6, [.int (iI 0), .ref (a + 1), .int (iI 0), .ref (a + 2), .ref (a + 3), .ref (a + 4), .int (iI 0), .ref (a + 5), .null, .null, .null, .int (iI 0), .int (iI 0)]))) (a + 6) (.inl (yC Y 3, 2, .inl fun _ => iI 0))) a (.inr (6, [.int (iI 0), .ref (a + 1), .int (iI 0), .ref (a + 2), .ref (a + 3), .ref (a + 4), .int (iI 0), .ref (a + 5), .ref (a + 6), .null, .null, .int (iI 0), .int (iI 0)]))) (a + 7) (.inl (yC Y 0, 68, .inl fun _ => iI 0))) a (.inr (6, [.int (iI 0), .ref (a + 1), .int (iI 0), .ref (a + 2), .ref (a + 3), .ref (a + 4), .int (iI 0), .ref (a + 5), .ref (a + 6), .ref (a + 7), .null, .int (iI 0), .int (iI 0)]))) (a + 8) (.inl (yC Y 0, 8, .inl fun _ => iI 0))) a (.inr (6, [.int (iI 0), .ref (a + 1), .int (iI 0), .ref (a + 2), .ref (a + 3), .ref (a + 4), .int (iI 0), .ref (a + 5), .ref (a + 6), .ref (a + 7), .ref (a + 8), .int (iI 0), .int (iI 0)])))) (n := a + 2) (by omega) ((ue_ne _ _ (by omega)).trans ((ue_ne _ _ (by omega)).trans ((ue_ne _ _ (by omega)).trans ((ue_ne _ _ (by omega)).trans ((ue_ne _ _ (by omega)).trans ((ue_ne _ _ (by omega)).trans ((ue_ne _ _ (by omega)).trans ((ue_ne _ _ (by omega)).trans ((ue_ne _ _ (by omega)).trans ((ue_ne _ _ (by omega)).trans ((ue_ne _ _ (by omega)).trans ((ue_ne _ _ (by omega)).trans ((ue_ne _ _ (by omega)).trans (ue_eq _ _ _))))))))))))))) wn947 wn946 wn38 wn945 (by decide +kernel) (by decide) (by decide) (Nat.le_refl _) (Nat.le_of_ble_eq_true rfl) rfl rfl (by rw [hcap.2.2.1]; decide) (by rw [hcap.2.2.2]; decide) (fun Bc => ?_)
  exact n_vret Bc Z dX8_init_75 (Nat.le_of_ble_eq_true rfl) (Nat.le_of_ble_eq_true rfl) (fun _ _ h => h) (by omega)
