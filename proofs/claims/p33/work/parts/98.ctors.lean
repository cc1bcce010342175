/-! THE CONSTRUCTORS -/
theorem wn17 : Cond.initialized "NecklaceSisters$Text" ∈ lw_g := lw_gin (List.mem_of_getElem? (i := 17) (by decide +kernel)) rfl
theorem wn18 : Cond.initialized "NecklaceSisters$Necklace" ∈ lw_g := lw_gin (List.mem_of_getElem? (i := 18) (by decide +kernel)) rfl
theorem wn19 : Cond.initialized "NecklaceSisters$History" ∈ lw_g := lw_gin (List.mem_of_getElem? (i := 19) (by decide +kernel)) rfl
theorem wn20 : Cond.initialized "NecklaceSisters$Division" ∈ lw_g := lw_gin (List.mem_of_getElem? (i := 20) (by decide +kernel)) rfl
theorem wn21 : Cond.initialized "NecklaceSisters$Slot" ∈ lw_g := lw_gin (List.mem_of_getElem? (i := 21) (by decide +kernel)) rfl
theorem wn41 : Cond.methodLink "NecklaceSisters" 1 ⟨"java/lang/Object", "<init>", "()V"⟩ ∈ lw_g := lw_gin (List.mem_of_getElem? (i := 41) (by decide +kernel)) rfl
theorem wn42 : Cond.instanceMethod ⟨"java/lang/Object", "<init>", "()V"⟩ ∈ lw_g := lw_gin (List.mem_of_getElem? (i := 42) (by decide +kernel)) rfl
theorem wn43 : Cond.code ({ cls := "java/lang/Object", name := "<init>", desc := "()V" } : MethodName) object_method_1_code (1 : Nat) (Option.none : Option ClassFile.FieldType) ∈ lw_g := lw_gin (List.mem_of_getElem? (i := 43) (by decide +kernel)) rfl
theorem wn44 : Cond.classLink "NecklaceSisters" 7 "NecklaceSisters$Text" ∈ lw_g := lw_gin (List.mem_of_getElem? (i := 44) (by decide +kernel)) rfl
theorem wn45 : Cond.instantiable "NecklaceSisters$Text" (2 : Nat) ∈ lw_g := lw_gin (List.mem_of_getElem? (i := 45) (by decide +kernel)) rfl
theorem wn46 : Cond.methodLinkNest "NecklaceSisters" 9 ⟨"NecklaceSisters$Text", "<init>", "()V"⟩ "NecklaceSisters" ∈ lw_nest := List.mem_filter.mpr ⟨List.mem_of_getElem? (i := 46) (by decide +kernel), rfl⟩
theorem wn47 : Cond.instanceMethod ⟨"NecklaceSisters$Text", "<init>", "()V"⟩ ∈ lw_g := lw_gin (List.mem_of_getElem? (i := 47) (by decide +kernel)) rfl
theorem wn48 : Cond.code ({ cls := "NecklaceSisters$Text", name := "<init>", desc := "()V" } : MethodName) prog_8_method_1_code (1 : Nat) (Option.none : Option ClassFile.FieldType) ∈ lw_g := lw_gin (List.mem_of_getElem? (i := 48) (by decide +kernel)) rfl
theorem wn49 : Cond.methodLink "NecklaceSisters$Text" 3 ⟨"java/lang/Object", "<init>", "()V"⟩ ∈ lw_g := lw_gin (List.mem_of_getElem? (i := 49) (by decide +kernel)) rfl
theorem wn50 : Cond.fieldLink "NecklaceSisters$Text" 9 "NecklaceSisters$Text" "signs" "[C" ∈ lw_g := lw_gin (List.mem_of_getElem? (i := 50) (by decide +kernel)) rfl
theorem wn58 : Cond.arrayClass ClassFile.FieldType.char ∈ lw_g := lw_gin (List.mem_of_getElem? (i := 58) (by decide +kernel)) rfl
theorem wn59 : Cond.classLink "NecklaceSisters" 16 "NecklaceSisters$Necklace" ∈ lw_g := lw_gin (List.mem_of_getElem? (i := 59) (by decide +kernel)) rfl
theorem wn60 : Cond.instantiable "NecklaceSisters$Necklace" (9 : Nat) ∈ lw_g := lw_gin (List.mem_of_getElem? (i := 60) (by decide +kernel)) rfl
theorem wn61 : Cond.methodLinkNest "NecklaceSisters" 18 ⟨"NecklaceSisters$Necklace", "<init>", "()V"⟩ "NecklaceSisters" ∈ lw_nest := List.mem_filter.mpr ⟨List.mem_of_getElem? (i := 61) (by decide +kernel), rfl⟩
theorem wn62 : Cond.instanceMethod ⟨"NecklaceSisters$Necklace", "<init>", "()V"⟩ ∈ lw_g := lw_gin (List.mem_of_getElem? (i := 62) (by decide +kernel)) rfl
theorem wn63 : Cond.code ({ cls := "NecklaceSisters$Necklace", name := "<init>", desc := "()V" } : MethodName) prog_4_method_1_code (1 : Nat) (Option.none : Option ClassFile.FieldType) ∈ lw_g := lw_gin (List.mem_of_getElem? (i := 63) (by decide +kernel)) rfl
theorem wn64 : Cond.methodLink "NecklaceSisters$Necklace" 3 ⟨"java/lang/Object", "<init>", "()V"⟩ ∈ lw_g := lw_gin (List.mem_of_getElem? (i := 64) (by decide +kernel)) rfl
theorem wn78 : Cond.fieldLink "NecklaceSisters$Necklace" 9 "NecklaceSisters$Necklace" "kinds" "[I" ∈ lw_g := lw_gin (List.mem_of_getElem? (i := 78) (by decide +kernel)) rfl
theorem wn79 : Cond.fieldLink "NecklaceSisters$Necklace" 15 "NecklaceSisters$Necklace" "weights" "[I" ∈ lw_g := lw_gin (List.mem_of_getElem? (i := 79) (by decide +kernel)) rfl
theorem wn80 : Cond.fieldLink "NecklaceSisters$Necklace" 18 "NecklaceSisters$Necklace" "owners" "[I" ∈ lw_g := lw_gin (List.mem_of_getElem? (i := 80) (by decide +kernel)) rfl
theorem wn100 : Cond.arrayClass ClassFile.FieldType.int ∈ lw_g := lw_gin (List.mem_of_getElem? (i := 100) (by decide +kernel)) rfl
theorem wn101 : Cond.classLink "NecklaceSisters" 26 "NecklaceSisters$History" ∈ lw_g := lw_gin (List.mem_of_getElem? (i := 101) (by decide +kernel)) rfl
theorem wn102 : Cond.instantiable "NecklaceSisters$History" (3 : Nat) ∈ lw_g := lw_gin (List.mem_of_getElem? (i := 102) (by decide +kernel)) rfl
theorem wn103 : Cond.methodLink "NecklaceSisters" 28 ⟨"NecklaceSisters$History", "<init>", "()V"⟩ ∈ lw_g := lw_gin (List.mem_of_getElem? (i := 103) (by decide +kernel)) rfl
theorem wn104 : Cond.instanceMethod ⟨"NecklaceSisters$History", "<init>", "()V"⟩ ∈ lw_g := lw_gin (List.mem_of_getElem? (i := 104) (by decide +kernel)) rfl
theorem wn105 : Cond.code ({ cls := "NecklaceSisters$History", name := "<init>", desc := "()V" } : MethodName) prog_3_method_1_code (2 : Nat) (Option.none : Option ClassFile.FieldType) ∈ lw_g := lw_gin (List.mem_of_getElem? (i := 105) (by decide +kernel)) rfl
theorem wn106 : Cond.methodLink "NecklaceSisters$History" 3 ⟨"java/lang/Object", "<init>", "()V"⟩ ∈ lw_g := lw_gin (List.mem_of_getElem? (i := 106) (by decide +kernel)) rfl
theorem wn107 : Cond.classLink "NecklaceSisters$History" 9 "NecklaceSisters$Necklace" ∈ lw_g := lw_gin (List.mem_of_getElem? (i := 107) (by decide +kernel)) rfl
theorem wn109 : Cond.methodLinkNest "NecklaceSisters$History" 17 ⟨"NecklaceSisters$Necklace", "<init>", "()V"⟩ "NecklaceSisters" ∈ lw_nest := List.mem_filter.mpr ⟨List.mem_of_getElem? (i := 109) (by decide +kernel), rfl⟩
theorem wn110 : Cond.fieldLink "NecklaceSisters$History" 11 "NecklaceSisters$History" "states" "[LNecklaceSisters$Necklace;" ∈ lw_g := lw_gin (List.mem_of_getElem? (i := 110) (by decide +kernel)) rfl
theorem wn121 : Cond.classLink "NecklaceSisters" 33 "NecklaceSisters$Division" ∈ lw_g := lw_gin (List.mem_of_getElem? (i := 121) (by decide +kernel)) rfl
theorem wn122 : Cond.instantiable "NecklaceSisters$Division" (4 : Nat) ∈ lw_g := lw_gin (List.mem_of_getElem? (i := 122) (by decide +kernel)) rfl
theorem wn123 : Cond.methodLinkNest "NecklaceSisters" 35 ⟨"NecklaceSisters$Division", "<init>", "()V"⟩ "NecklaceSisters" ∈ lw_nest := List.mem_filter.mpr ⟨List.mem_of_getElem? (i := 123) (by decide +kernel), rfl⟩
theorem wn124 : Cond.instanceMethod ⟨"NecklaceSisters$Division", "<init>", "()V"⟩ ∈ lw_g := lw_gin (List.mem_of_getElem? (i := 124) (by decide +kernel)) rfl
theorem wn125 : Cond.code ({ cls := "NecklaceSisters$Division", name := "<init>", desc := "()V" } : MethodName) prog_2_method_1_code (1 : Nat) (Option.none : Option ClassFile.FieldType) ∈ lw_g := lw_gin (List.mem_of_getElem? (i := 125) (by decide +kernel)) rfl
theorem wn126 : Cond.methodLink "NecklaceSisters$Division" 3 ⟨"java/lang/Object", "<init>", "()V"⟩ ∈ lw_g := lw_gin (List.mem_of_getElem? (i := 126) (by decide +kernel)) rfl
theorem wn127 : Cond.fieldLink "NecklaceSisters$Division" 9 "NecklaceSisters$Division" "ahead" "[J" ∈ lw_g := lw_gin (List.mem_of_getElem? (i := 127) (by decide +kernel)) rfl
theorem wn128 : Cond.fieldLink "NecklaceSisters$Division" 15 "NecklaceSisters$Division" "found" "[I" ∈ lw_g := lw_gin (List.mem_of_getElem? (i := 128) (by decide +kernel)) rfl
theorem wn140 : Cond.arrayClass ClassFile.FieldType.long ∈ lw_g := lw_gin (List.mem_of_getElem? (i := 140) (by decide +kernel)) rfl
theorem wn141 : Cond.classLink "NecklaceSisters" 40 "NecklaceSisters$Slot" ∈ lw_g := lw_gin (List.mem_of_getElem? (i := 141) (by decide +kernel)) rfl
theorem wn142 : Cond.instantiable "NecklaceSisters$Slot" (2 : Nat) ∈ lw_g := lw_gin (List.mem_of_getElem? (i := 142) (by decide +kernel)) rfl
theorem wn143 : Cond.methodLinkNest "NecklaceSisters" 42 ⟨"NecklaceSisters$Slot", "<init>", "()V"⟩ "NecklaceSisters" ∈ lw_nest := List.mem_filter.mpr ⟨List.mem_of_getElem? (i := 143) (by decide +kernel), rfl⟩
theorem wn144 : Cond.instanceMethod ⟨"NecklaceSisters$Slot", "<init>", "()V"⟩ ∈ lw_g := lw_gin (List.mem_of_getElem? (i := 144) (by decide +kernel)) rfl
theorem wn145 : Cond.code ({ cls := "NecklaceSisters$Slot", name := "<init>", desc := "()V" } : MethodName) prog_7_method_1_code (1 : Nat) (Option.none : Option ClassFile.FieldType) ∈ lw_g := lw_gin (List.mem_of_getElem? (i := 145) (by decide +kernel)) rfl
theorem wn146 : Cond.methodLink "NecklaceSisters$Slot" 1 ⟨"java/lang/Object", "<init>", "()V"⟩ ∈ lw_g := lw_gin (List.mem_of_getElem? (i := 146) (by decide +kernel)) rfl
theorem wn147 : Cond.classLink "NecklaceSisters$Slot" 7 "NecklaceSisters$Necklace" ∈ lw_g := lw_gin (List.mem_of_getElem? (i := 147) (by decide +kernel)) rfl
theorem wn148 : Cond.methodLinkNest "NecklaceSisters$Slot" 9 ⟨"NecklaceSisters$Necklace", "<init>", "()V"⟩ "NecklaceSisters" ∈ lw_nest := List.mem_filter.mpr ⟨List.mem_of_getElem? (i := 148) (by decide +kernel), rfl⟩
theorem wn149 : Cond.fieldLink "NecklaceSisters$Slot" 10 "NecklaceSisters$Slot" "kept" "LNecklaceSisters$Necklace;" ∈ lw_g := lw_gin (List.mem_of_getElem? (i := 149) (by decide +kernel)) rfl
theorem wn157 : Cond.fieldLink "NecklaceSisters" 10 "NecklaceSisters" "text" "LNecklaceSisters$Text;" ∈ lw_g := lw_gin (List.mem_of_getElem? (i := 157) (by decide +kernel)) rfl
theorem wn158 : Cond.fieldLink "NecklaceSisters" 19 "NecklaceSisters" "necklace" "LNecklaceSisters$Necklace;" ∈ lw_g := lw_gin (List.mem_of_getElem? (i := 158) (by decide +kernel)) rfl
theorem wn159 : Cond.fieldLink "NecklaceSisters" 23 "NecklaceSisters" "trial" "LNecklaceSisters$Necklace;" ∈ lw_g := lw_gin (List.mem_of_getElem? (i := 159) (by decide +kernel)) rfl
theorem wn160 : Cond.fieldLink "NecklaceSisters" 29 "NecklaceSisters" "history" "LNecklaceSisters$History;" ∈ lw_g := lw_gin (List.mem_of_getElem? (i := 160) (by decide +kernel)) rfl
theorem wn161 : Cond.fieldLink "NecklaceSisters" 36 "NecklaceSisters" "division" "LNecklaceSisters$Division;" ∈ lw_g := lw_gin (List.mem_of_getElem? (i := 161) (by decide +kernel)) rfl
theorem wn162 : Cond.fieldLink "NecklaceSisters" 43 "NecklaceSisters" "firstSlot" "LNecklaceSisters$Slot;" ∈ lw_g := lw_gin (List.mem_of_getElem? (i := 162) (by decide +kernel)) rfl
theorem wn163 : Cond.fieldLink "NecklaceSisters" 47 "NecklaceSisters" "secondSlot" "LNecklaceSisters$Slot;" ∈ lw_g := lw_gin (List.mem_of_getElem? (i := 163) (by decide +kernel)) rfl
def txE (Y : gY) (E : nE) (a : Nat) : nE := fun q => if q = a then some (.inr (4, [.ref (a + 1), .int (iI 0)])) else if q = a + 1 then some (.inl (yC Y 1, 120, .inl fun _ => iI 0)) else E q
def nkE (Y : gY) (E : nE) (a : Nat) : nE := fun q => if q = a then some (.inr (2, [.int (iI 0), .int (iI 0), .int (iI 0), .int (iI 0), .int (iI 0), .int (iI 0), .ref (a + 1), .ref (a + 2), .ref (a + 3)])) else if q = a + 1 then some (.inl (yC Y 0, 16, .inl fun _ => iI 0)) else if q = a + 2 then some (.inl (yC Y 0, 16, .inl fun _ => iI 0)) else if q = a + 3 then some (.inl (yC Y 0, 16, .inl fun _ => iI 0)) else E q
def dvE (Y : gY) (E : nE) (a : Nat) : nE := fun q => if q = a then some (.inr (0, [.ref (a + 1), .ref (a + 2), .int (iI 0), .long (lI 0)])) else if q = a + 1 then some (.inl (yC Y 2, 17, .inr (.inl fun _ => lI 0))) else if q = a + 2 then some (.inl (yC Y 0, 6, .inl fun _ => iI 0)) else E q
def slE (Y : gY) (E : nE) (a : Nat) : nE := fun q => if q = a then some (.inr (3, [.ref (a + 1), .int (iI 0)])) else nkE Y E (a + 1) q
/-- the history with its first i states -/
def hyE (Y : gY) (E : nE) (a i : Nat) : nE := fun q => if q = a then some (.inr (1, [.ref (a + 1), .int (iI 0), .int (iI 0)])) else if q = a + 1 then some (.inl (yC Y 4, 14, .inr (.inr (.inr (.inr fun j => if j < i then some (a + 2 + 4 * j) else none))))) else if a + 2 ≤ q ∧ q < a + 2 + 4 * i then some (if (q - (a + 2)) % 4 = 0 then .inr (2, [.int (iI 0), .int (iI 0), .int (iI 0), .int (iI 0), .int (iI 0), .int (iI 0), .ref (q + 1), .ref (q + 2), .ref (q + 3)]) else .inl (yC Y 0, 16, .inl fun _ => iI 0)) else E q
theorem txE_o (Y : gY) (E : nE) {a q : Nat} (h : q < a) : txE Y E a q = E q := by unfold txE; rw [if_neg (by omega), if_neg (by omega)]
theorem nkE_o (Y : gY) (E : nE) {a q : Nat} (h : q < a) : nkE Y E a q = E q := by unfold nkE; rw [if_neg (by omega), if_neg (by omega), if_neg (by omega), if_neg (by omega)]
theorem dvE_o (Y : gY) (E : nE) {a q : Nat} (h : q < a) : dvE Y E a q = E q := by unfold dvE; rw [if_neg (by omega), if_neg (by omega), if_neg (by omega)]
theorem slE_o (Y : gY) (E : nE) {a q : Nat} (h : q < a) : slE Y E a q = E q := by unfold slE; rw [if_neg (by omega)]; exact nkE_o Y E (by omega)
theorem hyE_o (Y : gY) (E : nE) {a i q : Nat} (h : q < a) : hyE Y E a i q = E q := by unfold hyE; rw [if_neg (by omega), if_neg (by omega), if_neg (by omega)]
theorem n_x0 {Y : gY} {X : gX} {E : nE} {z pc : Nat} {L : List (Nat × Value)} {st : List Value} (h1 : xCells X = 0) (h2 : xSlots X = 0) (kk : nW Y (xAt X 0 0) E z pc L st) : nW Y X E z pc L st := by
  have e : X = xAt X (xCells X) (xSlots X) := rfl
  rw [e, h1, h2]
  exact kk
set_option maxHeartbeats 4000000 in
theorem n_X6 {Y : gY} {l : Launch} {E : nE} {a : Nat} (hya : yB Y ≤ a) : nM Y l yX6_init cX6_init 1 1 (ue E a (.inr (4, [.null, .int (iI 0)]))) (a + 1) [.ref a] (txE Y E a) (a + 2) 1 120 := by
  refine nM_of (by decide) (Nat.le_of_ble_eq_true rfl) ?_
  intro X hXl B hin hcap Z
  subst hXl
  have B0 : nB Y (xAt X 0 0) yX6_init.cls cX6_init 1 none 1 := nB_at B (Nat.zero_le _) (Nat.zero_le _)
  refine n_x0 hcap.1 hcap.2.1 ?_
  show nW Y (xAt X 0 0) (ue E a (.inr (4, [.null, .int (iI 0)]))) (a + 1) 0 [(0, .ref a)] []
  refine n_aload_n (q := 1) B0 dX6_init_0 rfl 0 rfl ?_
  refine n_obj (q := 4) B0 dX6_init_1 rfl wn49 wn42 wn43 (by decide) (Nat.le_of_ble_eq_true rfl) ?_
  refine n_aload_n (q := 5) B0 dX6_init_4 rfl 0 rfl ?_
  refine n_bipush (q := 7) B0 dX6_init_5 rfl (by decide) ?_
  refine m_newa (c' := 1) (n' := 120) (t0 := 1) (cA := yC Y 1) (N := 120) (a0 := (120, .inl fun _ => iI 0)) (q := 9) B0 dX6_init_7 rfl rfl rfl va_nm_char wn58 rfl (by decide) (by decide) rfl rfl (by rw [hcap.2.2.1]; decide) (by rw [hcap.2.2.2]; decide) (fun Bz1 => ?_)
  refine n_putF (q := 12) (fs := [.null, .int (iI 0)]) Bz1 dX6_init_9 rfl hya ((ue_ne _ _ (by omega)).trans (ue_eq _ _ _)) cls4 0 (by decide) wn50 rfl hin rfl rfl rfl (Nat.le_of_ble_eq_true rfl) ?_
  refine n_vret Bz1 Z dX6_init_12 (Nat.le_of_ble_eq_true rfl) (Nat.le_of_ble_eq_true rfl) (fun q e hq => ?_) (by omega)
  rw [← hq]
  simp only [ue, txE, nkE, dvE, slE]
  (repeat' split) <;> first | rfl | omega
set_option maxHeartbeats 4000000 in
theorem n_X2 {Y : gY} {l : Launch} {E : nE} {a : Nat} (hya : yB Y ≤ a) : nM Y l yX2_init cX2_init 1 1 (ue E a (.inr (2, [.int (iI 0), .int (iI 0), .int (iI 0), .int (iI 0), .int (iI 0), .int (iI 0), .null, .null, .null]))) (a + 1) [.ref a] (nkE Y E a) (a + 4) 3 48 := by
  refine nM_of (by decide) (Nat.le_of_ble_eq_true rfl) ?_
  intro X hXl B hin hcap Z
  subst hXl
  have B0 : nB Y (xAt X 0 0) yX2_init.cls cX2_init 1 none 1 := nB_at B (Nat.zero_le _) (Nat.zero_le _)
  refine n_x0 hcap.1 hcap.2.1 ?_
  show nW Y (xAt X 0 0) (ue E a (.inr (2, [.int (iI 0), .int (iI 0), .int (iI 0), .int (iI 0), .int (iI 0), .int (iI 0), .null, .null, .null]))) (a + 1) 0 [(0, .ref a)] []
  refine n_aload_n (q := 1) B0 dX2_init_0 rfl 0 rfl ?_
  refine n_obj (q := 4) B0 dX2_init_1 rfl wn64 wn42 wn43 (by decide) (Nat.le_of_ble_eq_true rfl) ?_
  refine n_aload_n (q := 5) B0 dX2_init_4 rfl 0 rfl ?_
  refine n_bipush (q := 7) B0 dX2_init_5 rfl (by decide) ?_
  refine m_newa (c' := 1) (n' := 16) (t0 := 0) (cA := yC Y 0) (N := 16) (a0 := (16, .inl fun _ => iI 0)) (q := 9) B0 dX2_init_7 rfl rfl rfl va_nm_int wn100 rfl (by decide) (by decide) rfl rfl (by rw [hcap.2.2.1]; decide) (by rw [hcap.2.2.2]; decide) (fun Bz1 => ?_)
  refine n_putF (q := 12) (fs := [.int (iI 0), .int (iI 0), .int (iI 0), .int (iI 0), .int (iI 0), .int (iI 0), .null, .null, .null]) Bz1 dX2_init_9 rfl hya ((ue_ne _ _ (by omega)).trans (ue_eq _ _ _)) cls2 6 (by decide) wn78 rfl hin rfl rfl rfl (Nat.le_of_ble_eq_true rfl) ?_
  refine n_aload_n (q := 13) Bz1 dX2_init_12 rfl 0 rfl ?_
  refine n_bipush (q := 15) Bz1 dX2_init_13 rfl (by decide) ?_
  refine m_newa (c' := 2) (n' := 32) (t0 := 0) (cA := yC Y 0) (N := 16) (a0 := (16, .inl fun _ => iI 0)) (q := 17) Bz1 dX2_init_15 rfl rfl rfl va_nm_int wn100 rfl (by decide) (by decide) rfl rfl (by rw [hcap.2.2.1]; decide) (by rw [hcap.2.2.2]; decide) (fun Bz2 => ?_)
  refine n_putF (q := 20) (fs := [.int (iI 0), .int (iI 0), .int (iI 0), .int (iI 0), .int (iI 0), .int (iI 0), .ref (a + 1), .null, .null]) Bz2 dX2_init_17 rfl hya ((ue_ne _ _ (by omega)).trans (ue_eq _ _ _)) cls2 7 (by decide) wn79 rfl hin rfl rfl rfl (Nat.le_of_ble_eq_true rfl) ?_
  refine n_aload_n (q := 21) Bz2 dX2_init_20 rfl 0 rfl ?_
  refine n_bipush (q := 23) Bz2 dX2_init_21 rfl (by decide) ?_
  refine m_newa (c' := 3) (n' := 48) (t0 := 0) (cA := yC Y 0) (N := 16) (a0 := (16, .inl fun _ => iI 0)) (q := 25) Bz2 dX2_init_23 rfl rfl rfl va_nm_int wn100 rfl (by decide) (by decide) rfl rfl (by rw [hcap.2.2.1]; decide) (by rw [hcap.2.2.2]; decide) (fun Bz3 => ?_)
  refine n_putF (q := 28) (fs := [.int (iI 0), .int (iI 0), .int (iI 0), .int (iI 0), .int (iI 0), .int (iI 0), .ref (a + 1), .ref (a + 2), .null]) Bz3 dX2_init_25 rfl hya ((ue_ne _ _ (by omega)).trans (ue_eq _ _ _)) cls2 8 (by decide) wn80 rfl hin rfl rfl rfl (Nat.le_of_ble_eq_true rfl) ?_
  refine n_vret Bz3 Z dX2_init_28 (Nat.le_of_ble_eq_true rfl) (Nat.le_of_ble_eq_true rfl) (fun q e hq => ?_) (by omega)
  rw [← hq]
  simp only [ue, txE, nkE, dvE, slE]
  (repeat' split) <;> first | rfl | omega
set_option maxHeartbeats 4000000 in
theorem n_X0 {Y : gY} {l : Launch} {E : nE} {a : Nat} (hya : yB Y ≤ a) : nM Y l yX0_init cX0_init 1 1 (ue E a (.inr (0, [.null, .null, .int (iI 0), .long (lI 0)]))) (a + 1) [.ref a] (dvE Y E a) (a + 3) 2 23 := by
  refine nM_of (by decide) (Nat.le_of_ble_eq_true rfl) ?_
  intro X hXl B hin hcap Z
  subst hXl
  have B0 : nB Y (xAt X 0 0) yX0_init.cls cX0_init 1 none 1 := nB_at B (Nat.zero_le _) (Nat.zero_le _)
  refine n_x0 hcap.1 hcap.2.1 ?_
  show nW Y (xAt X 0 0) (ue E a (.inr (0, [.null, .null, .int (iI 0), .long (lI 0)]))) (a + 1) 0 [(0, .ref a)] []
  refine n_aload_n (q := 1) B0 dX0_init_0 rfl 0 rfl ?_
  refine n_obj (q := 4) B0 dX0_init_1 rfl wn126 wn42 wn43 (by decide) (Nat.le_of_ble_eq_true rfl) ?_
  refine n_aload_n (q := 5) B0 dX0_init_4 rfl 0 rfl ?_
  refine n_bipush (q := 7) B0 dX0_init_5 rfl (by decide) ?_
  refine m_newa (c' := 1) (n' := 17) (t0 := 2) (cA := yC Y 2) (N := 17) (a0 := (17, .inr (.inl fun _ => lI 0))) (q := 9) B0 dX0_init_7 rfl rfl rfl va_nm_long wn140 rfl (by decide) (by decide) rfl rfl (by rw [hcap.2.2.1]; decide) (by rw [hcap.2.2.2]; decide) (fun Bz1 => ?_)
  refine n_putF (q := 12) (fs := [.null, .null, .int (iI 0), .long (lI 0)]) Bz1 dX0_init_9 rfl hya ((ue_ne _ _ (by omega)).trans (ue_eq _ _ _)) cls0 0 (by decide) wn127 rfl hin rfl rfl rfl (Nat.le_of_ble_eq_true rfl) ?_
  refine n_aload_n (q := 13) Bz1 dX0_init_12 rfl 0 rfl ?_
  refine n_bipush (q := 15) Bz1 dX0_init_13 rfl (by decide) ?_
  refine m_newa (c' := 2) (n' := 23) (t0 := 0) (cA := yC Y 0) (N := 6) (a0 := (6, .inl fun _ => iI 0)) (q := 17) Bz1 dX0_init_15 rfl rfl rfl va_nm_int wn100 rfl (by decide) (by decide) rfl rfl (by rw [hcap.2.2.1]; decide) (by rw [hcap.2.2.2]; decide) (fun Bz2 => ?_)
  refine n_putF (q := 20) (fs := [.ref (a + 1), .null, .int (iI 0), .long (lI 0)]) Bz2 dX0_init_17 rfl hya ((ue_ne _ _ (by omega)).trans (ue_eq _ _ _)) cls0 1 (by decide) wn128 rfl hin rfl rfl rfl (Nat.le_of_ble_eq_true rfl) ?_
  refine n_vret Bz2 Z dX0_init_20 (Nat.le_of_ble_eq_true rfl) (Nat.le_of_ble_eq_true rfl) (fun q e hq => ?_) (by omega)
  rw [← hq]
  simp only [ue, txE, nkE, dvE, slE]
  (repeat' split) <;> first | rfl | omega
set_option maxHeartbeats 4000000 in
theorem n_X5 {Y : gY} {l : Launch} {E : nE} {a : Nat} (hya : yB Y ≤ a) : nM Y l yX5_init cX5_init 1 2 (ue E a (.inr (3, [.null, .int (iI 0)]))) (a + 1) [.ref a] (slE Y E a) (a + 5) 4 57 := by
  refine nM_of (by decide) (Nat.le_of_ble_eq_true rfl) ?_
  intro X hXl B hin hcap Z
  subst hXl
  have B0 : nB Y (xAt X 0 0) yX5_init.cls cX5_init 1 none 2 := nB_at B (Nat.zero_le _) (Nat.zero_le _)
  refine n_x0 hcap.1 hcap.2.1 ?_
  show nW Y (xAt X 0 0) (ue E a (.inr (3, [.null, .int (iI 0)]))) (a + 1) 0 [(0, .ref a)] []
  refine n_aload_n (q := 1) B0 dX5_init_0 rfl 0 rfl ?_
  refine n_obj (q := 4) B0 dX5_init_1 rfl wn146 wn42 wn43 (by decide) (Nat.le_of_ble_eq_true rfl) ?_
  refine n_aload_n (q := 5) B0 dX5_init_4 rfl 0 rfl ?_
  refine m_new (c' := 1) (n' := 9) (q := 8) (fs := [.int (iI 0), .int (iI 0), .int (iI 0), .int (iI 0), .int (iI 0), .int (iI 0), .null, .null, .null]) B0 dX5_init_5 rfl cls2 wn147 wn60 wn18 (fun j hj => by rcases (show j = 0 ∨ j = 1 ∨ j = 2 ∨ j = 3 ∨ j = 4 ∨ j = 5 ∨ j = 6 ∨ j = 7 ∨ j = 8 by omega) with rfl | rfl | rfl | rfl | rfl | rfl | rfl | rfl | rfl <;> rfl) rfl rfl (by rw [hcap.2.2.1]; decide) (by rw [hcap.2.2.2]; decide) (fun Bz1 => ?_)
  refine n_dup (q := 9) Bz1 dX5_init_8 rfl rfl ?_
  refine m_ctorN (c' := 4) (n' := 57) (q := 12) Bz1 dX5_init_9 rfl (n_X2 (Y := Y) (l := xL X) (E := (ue E a (.inr (3, [.null, .int (iI 0)])))) (a := (a + 1)) (by omega)) wn63 wn62 wn18 wn148 rfl (by decide +kernel) (by decide) (by decide) (by omega) (Nat.le_of_ble_eq_true rfl) rfl rfl (by rw [hcap.2.2.1]; decide) (by rw [hcap.2.2.2]; decide) (fun Bz2 => ?_)
  refine n_putF (q := 15) (fs := [.null, .int (iI 0)]) Bz2 dX5_init_12 rfl hya ((nkE_o Y _ (by omega)).trans (ue_eq _ _ _)) cls3 0 (by decide) wn149 rfl hin rfl rfl rfl (Nat.le_of_ble_eq_true rfl) ?_
  refine n_vret Bz2 Z dX5_init_15 (Nat.le_of_ble_eq_true rfl) (Nat.le_of_ble_eq_true rfl) (fun q e hq => ?_) (by omega)
  rw [← hq]
  simp only [ue, txE, nkE, dvE, slE]
  (repeat' split) <;> first | rfl | omega
theorem n_eqE {Y : gY} {X : gX} {E E' : nE} {z pc : Nat} {L : List (Nat × Value)} {st : List Value} (h : E = E') (kk : nW Y X E' z pc L st) : nW Y X E z pc L st := h ▸ kk
theorem n_eqX {Y : gY} {X : gX} {E : nE} {z pc c n c' n' z' : Nat} {L : List (Nat × Value)} {st : List Value} (hc : c = c') (hn : n = n') (hz : z = z') (kk : nW Y (xAt X c' n') E z' pc L st) : nW Y (xAt X c n) E z pc L st := by
  subst hc; subst hn; subst hz; exact kk
def arQ (Y : gY) (f : Nat → Option Nat) : Option va_E := some (.inl (yC Y 4, 14, .inr (.inr (.inr (.inr f)))))
theorem ue_ue (E : nE) (a : Nat) (e f : va_E) : ue (ue E a e) a f = ue E a f := by
  funext q
  unfold ue
  split <;> rfl
theorem ue_self {E : nE} {a : Nat} {e : va_E} (h : E a = some e) : ue E a e = E := by
  funext q
  unfold ue
  split
  · next hq => rw [hq, h]
  · rfl
theorem uq_0 (i : Int) : uq (fun _ => 0) i 0 = fun _ => 0 := by
  funext c
  unfold uq
  split <;> rfl
theorem hyE_0 (Y : gY) (E : nE) (a : Nat) : ue (ue (ue E a (.inr (1, [.null, .int (iI 0), .int (iI 0)]))) (a + 1) (.inl (yC Y 4, 14, .inr (.inr (.inr (.inr fun _ => none)))))) a (.inr (1, [.ref (a + 1), .int (iI 0), .int (iI 0)])) = hyE Y E a 0 := by
  funext q
  by_cases h0 : q = a
  · subst h0
    rw [ue_eq]
    exact (if_pos rfl).symm
  · rw [ue_ne _ _ h0]
    by_cases h1 : q = a + 1
    · subst h1
      rw [ue_eq]
      unfold hyE
      rw [if_neg h0, if_pos rfl]
      refine (show arQ Y _ = arQ Y _ from congrArg (arQ Y) (funext fun j => ?_))
      exact (if_neg (Nat.not_lt_zero j)).symm
    · rw [ue_ne _ _ h1, ue_ne _ _ h0]
      unfold hyE
      rw [if_neg h0, if_neg h1, if_neg (by omega)]
theorem hyE_s (Y : gY) (E : nE) (a i : Nat) (hi : i < 14) : ue (nkE Y (hyE Y E a i) (a + 2 + 4 * i)) (a + 1) (.inl (yC Y 4, 14, .inr (.inr (.inr (.inr (va_up (fun j => if j < i then some (a + 2 + 4 * j) else none) i (some (a + 2 + 4 * i)))))))) = hyE Y E a (i + 1) := by
  funext q
  by_cases h1 : q = a + 1
  · subst h1
    rw [ue_eq]
    unfold hyE
    rw [if_neg (by omega), if_pos rfl]
    refine (show arQ Y _ = arQ Y _ from congrArg (arQ Y) (funext fun j => ?_))
    unfold va_up
    by_cases hj : j = i
    · subst hj
      simp
    · by_cases hj2 : j < i
      · simp [hj, hj2, Nat.lt_succ_of_lt hj2]
      · have : ¬ j < i + 1 := by omega
        simp [hj, hj2, this]
  · rw [ue_ne _ _ h1]
    unfold nkE
    by_cases c0 : q = a + 2 + 4 * i
    · rw [if_pos c0]; unfold hyE
      rw [if_neg (by omega), if_neg h1, if_pos (by omega), if_pos (by omega), c0]
    · rw [if_neg c0]
      by_cases c1 : q = a + 2 + 4 * i + 1
      · rw [if_pos c1]; unfold hyE
        rw [if_neg (by omega), if_neg h1, if_pos (by omega), if_neg (by omega)]
      · rw [if_neg c1]
        by_cases c2 : q = a + 2 + 4 * i + 2
        · rw [if_pos c2]; unfold hyE
          rw [if_neg (by omega), if_neg h1, if_pos (by omega), if_neg (by omega)]
        · rw [if_neg c2]
          by_cases c3 : q = a + 2 + 4 * i + 3
          · rw [if_pos c3]; unfold hyE
            rw [if_neg (by omega), if_neg h1, if_pos (by omega), if_neg (by omega)]
          · rw [if_neg c3]; unfold hyE
            by_cases d0 : q = a
            · rw [if_pos d0, if_pos d0]
            · rw [if_neg d0, if_neg d0, if_neg h1, if_neg h1]
              by_cases d1 : a + 2 ≤ q ∧ q < a + 2 + 4 * i
              · rw [if_pos d1, if_pos (show a + 2 ≤ q ∧ q < a + 2 + 4 * (i + 1) by omega)]
              · rw [if_neg d1, if_neg (by omega)]
set_option maxHeartbeats 4000000 in
theorem n_X1 {Y : gY} {l : Launch} {E : nE} {a : Nat} (hya : yB Y ≤ a) : nM Y l yX1_init cX1_init 2 2 (ue E a (.inr (1, [.null, .int (iI 0), .int (iI 0)]))) (a + 1) [.ref a] (hyE Y E a 14) (a + 58) 57 (14+14*57) := by
  refine nM_of (by decide) (Nat.le_of_ble_eq_true rfl) ?_
  intro X hXl B hin hcap Z
  subst hXl
  have lp15 : ∀ (fu i : Nat), i ≤ 14 → nB Y (xAt X (1 + 4 * i) (14 + 57 * i)) "NecklaceSisters$History" cX1_init 2 none 2 → 14 - i < fu → nW Y (xAt X (1 + 4 * i) (14 + 57 * i)) (hyE Y E a i) (a + 2 + 4 * i) 15 [(1, .int (iI (i : Int))), (0, .ref a)] [] := by
    intro fu
    induction fu with
    | zero =>
      intro i _ _ hfu
      exact absurd hfu (Nat.not_lt_zero _)
    | succ fu ih =>
      intro i hi B hfu
      have he0 : hyE Y E a i a = some (.inr (1, [.ref (a + 1), .int (iI 0), .int (iI 0)])) := if_pos rfl
      have he1 : hyE Y E a i (a + 1) = some (.inl (yC Y 4, 14, .inr (.inr (.inr (.inr fun j => if j < i then some (a + 2 + 4 * j) else none))))) := (if_neg (by omega)).trans (if_pos rfl)
      refine n_iload_n (q := 16) B dX1_init_15 rfl 0 rfl ?_
      refine n_aload_n (q := 17) B dX1_init_16 rfl 1 rfl ?_
      refine n_get (q := 20) B dX1_init_17 rfl he0 cls1 0 (by decide) wn110 rfl ?_
      refine n_alen (q := 21) (zl := 14) B dX1_init_20 rfl he1 4 rfl rfl ?_
      refine n_icmp_ge (t := 43) (q := 24) B dX1_init_21 (by decide) rfl ⟨by omega, by omega⟩ ⟨by omega, by omega⟩ (fun cq => ?_) (fun cq => ?_)
      · have ei : i = 14 := by omega
        subst ei
        exact n_vret B Z dX1_init_43 (Nat.le_refl _) (Nat.le_of_ble_eq_true rfl) (fun _ _ h => h) rfl
      · obtain ⟨k1, k2, k3, k4⟩ := hcap
        have g1 : xCells (xAt X (1 + 4 * i) (14 + 57 * i)) + 1 ≤ (xR (xAt X (1 + 4 * i) (14 + 57 * i))).cells := by show 1 + 4 * i + 1 ≤ (xR X).cells; omega
        have g2 : xSlots (xAt X (1 + 4 * i) (14 + 57 * i)) + 9 ≤ (xR (xAt X (1 + 4 * i) (14 + 57 * i))).slots := by show 14 + 57 * i + 9 ≤ (xR X).slots; omega
        refine n_aload_n (q := 25) B dX1_init_24 rfl 1 rfl ?_
        refine n_get (q := 28) B dX1_init_25 rfl he0 cls1 0 (by decide) wn110 rfl ?_
        refine n_iload_n (q := 29) B dX1_init_28 rfl 0 rfl ?_
        refine n_new (q := 32) (fs := [.int (iI 0), .int (iI 0), .int (iI 0), .int (iI 0), .int (iI 0), .int (iI 0), .null, .null, .null]) B dX1_init_29 rfl cls2 wn107 wn60 wn18 (fun j hj => by rcases (show j = 0 ∨ j = 1 ∨ j = 2 ∨ j = 3 ∨ j = 4 ∨ j = 5 ∨ j = 6 ∨ j = 7 ∨ j = 8 by omega) with rfl | rfl | rfl | rfl | rfl | rfl | rfl | rfl | rfl <;> rfl) g1 g2 (fun B1 => ?_)
        refine n_dup (q := 33) B1 dX1_init_32 rfl rfl ?_
        refine n_ctorN (q := 36) B1 dX1_init_33 rfl (n_X2 (Y := Y) (l := xL X) (E := hyE Y E a i) (a := a + 2 + 4 * i) (by omega)) wn63 wn62 wn18 wn109 rfl (by decide +kernel) (by decide) (by decide) (by omega) (Nat.le_of_ble_eq_true rfl) (by show 1 + 4 * i + 1 + 3 ≤ (xR X).cells; omega) (by show 14 + 57 * i + 9 + 48 ≤ (xR X).slots; omega) (fun B2 => ?_)
        have hf1 : nkE Y (hyE Y E a i) (a + 2 + 4 * i) (a + 1) = some (.inl (yC Y 4, 14, .inr (.inr (.inr (.inr fun j => if j < i then some (a + 2 + 4 * j) else none))))) := by
          unfold nkE
          rw [if_neg (by omega), if_neg (by omega), if_neg (by omega), if_neg (by omega)]
          exact he1
        refine n_aast (q := 37) (n := a + 1) (v := a + 2 + 4 * i) (N := 14) B2 dX1_init_36 rfl (by omega) hf1 (if_pos rfl) (by decide) (by omega) (by omega) ?_
        refine n_iinc (n := 0) (q := 40) B2 dX1_init_37 rfl rfl (by decide) (L' := [(1, .int (iI ((i : Int) + 1))), (0, .ref a)]) rfl ?_
        refine n_goto (q := 15) B2 dX1_init_40 (by decide) ?_
        rw [show (i : Int).toNat = i from Int.toNat_natCast i]
        refine n_eqE (hyE_s Y E a i (by omega)) ?_
        have B3 : nB Y (xAt X (1 + 4 * (i + 1)) (14 + 57 * (i + 1))) "NecklaceSisters$History" cX1_init 2 none 2 := nB_at (X := xAt X (1 + 4 * i) (14 + 57 * i)) B (by show 1 + 4 * (i + 1) ≤ (xR X).cells; omega) (by show 14 + 57 * (i + 1) ≤ (xR X).slots; omega)
        refine n_eqX (X := X) (c := 1 + 4 * i + 1 + 3) (n := 14 + 57 * i + 9 + 48) (c' := 1 + 4 * (i + 1)) (n' := 14 + 57 * (i + 1)) (z' := a + 2 + 4 * (i + 1)) (by omega) (by omega) (by omega) ?_
        exact ih (i + 1) (by omega) B3 (by omega)
  have B0 : nB Y (xAt X 0 0) yX1_init.cls cX1_init 2 none 2 := nB_at B (Nat.zero_le _) (Nat.zero_le _)
  refine n_x0 hcap.1 hcap.2.1 ?_
  show nW Y (xAt X 0 0) (ue E a (.inr (1, [.null, .int (iI 0), .int (iI 0)]))) (a + 1) 0 [(0, .ref a)] []
  refine n_aload_n (q := 1) B0 dX1_init_0 rfl 0 rfl ?_
  refine n_obj (q := 4) B0 dX1_init_1 rfl wn106 wn42 wn43 (by decide) (Nat.le_of_ble_eq_true rfl) ?_
  refine n_aload_n (q := 5) B0 dX1_init_4 rfl 0 rfl ?_
  refine n_bipush (q := 7) B0 dX1_init_5 rfl (by decide) ?_
  refine m_anewa (c' := 1) (n' := 14) (N := 14) (q := 10) B0 dX1_init_7 rfl wn107 (by decide) rfl rfl (by rw [hcap.2.2.1]; decide) (by rw [hcap.2.2.2]; decide) (fun Bz1 => ?_)
  refine n_putF (q := 13) (fs := [.null, .int (iI 0), .int (iI 0)]) Bz1 dX1_init_10 rfl hya ((ue_ne _ _ (by omega)).trans (ue_eq _ _ _)) cls1 0 (by decide) wn110 rfl hin rfl rfl rfl (Nat.le_of_ble_eq_true rfl) ?_
  refine n_iconst (q := 14) Bz1 dX1_init_13 rfl ?_
  refine n_istore_n (q := 15) Bz1 dX1_init_14 rfl (by decide) (L' := [(1, .int (iI 0)), (0, .ref a)]) rfl ?_
  refine n_eqE (hyE_0 Y E a) ?_
  have B9 : nB Y (xAt X (1 + 4 * 0) (14 + 57 * 0)) "NecklaceSisters$History" cX1_init 2 none 2 := nB_at B (by obtain ⟨k1, k2, k3, k4⟩ := hcap; show 1 ≤ (xR X).cells; omega) (by obtain ⟨k1, k2, k3, k4⟩ := hcap; show 14 ≤ (xR X).slots; omega)
  refine n_eqX (X := X) (c := 1) (n := 14) (c' := 1 + 4 * 0) (n' := 14 + 57 * 0) (z' := a + 2 + 4 * 0) rfl rfl (by omega) ?_
  exact lp15 _ 0 (by decide) B9 (Nat.lt_succ_self _)
def clE (Y : gY) (E : nE) (a : Nat) : nE := (ue (slE Y (ue (slE Y (ue (dvE Y (ue (hyE Y (ue (nkE Y (ue (nkE Y (ue (txE Y (ue E a (.inr (5, [.null, .null, .null, .null, .null, .null, .null]))) (a + 1)) a (.inr (5, [.ref (a + 1), .null, .null, .null, .null, .null, .null]))) (a + 3)) a (.inr (5, [.ref (a + 1), .ref (a + 3), .null, .null, .null, .null, .null]))) (a + 7)) a (.inr (5, [.ref (a + 1), .ref (a + 3), .ref (a + 7), .null, .null, .null, .null]))) (a + 11) 14) a (.inr (5, [.ref (a + 1), .ref (a + 3), .ref (a + 7), .ref (a + 11), .null, .null, .null]))) (a + 69)) a (.inr (5, [.ref (a + 1), .ref (a + 3), .ref (a + 7), .ref (a + 11), .ref (a + 69), .null, .null]))) (a + 72)) a (.inr (5, [.ref (a + 1), .ref (a + 3), .ref (a + 7), .ref (a + 11), .ref (a + 69), .ref (a + 72), .null]))) (a + 77)) a (.inr (5, [.ref (a + 1), .ref (a + 3), .ref (a + 7), .ref (a + 11), .ref (a + 69), .ref (a + 72), .ref (a + 77)])))
set_option maxHeartbeats 4000000 in
theorem n_X7 {Y : gY} {l : Launch} {E : nE} {a : Nat} (hya : yB Y ≤ a) : nM Y l yX7_init cX7_init 1 3 (ue E a (.inr (5, [.null, .null, .null, .null, .null, .null, .null]))) (a + 1) [.ref a] (clE Y E a) (a + 82) 81 1196 := by
  refine nM_of (by decide) (Nat.le_of_ble_eq_true rfl) ?_
  intro X hXl B hin hcap Z
  subst hXl
  have B0 : nB Y (xAt X 0 0) yX7_init.cls cX7_init 1 none 3 := nB_at B (Nat.zero_le _) (Nat.zero_le _)
  refine n_x0 hcap.1 hcap.2.1 ?_
  show nW Y (xAt X 0 0) (ue E a (.inr (5, [.null, .null, .null, .null, .null, .null, .null]))) (a + 1) 0 [(0, .ref a)] []
  refine n_aload_n (q := 1) B0 dX7_init_0 rfl 0 rfl ?_
  refine n_obj (q := 4) B0 dX7_init_1 rfl wn41 wn42 wn43 (by decide) (Nat.le_of_ble_eq_true rfl) ?_
  refine n_aload_n (q := 5) B0 dX7_init_4 rfl 0 rfl ?_
  refine m_new (c' := 1) (n' := 2) (q := 8) (fs := [.null, .int (iI 0)]) B0 dX7_init_5 rfl cls4 wn44 wn45 wn17 (fun j hj => by rcases (show j = 0 ∨ j = 1 by omega) with rfl | rfl <;> rfl) rfl rfl (by rw [hcap.2.2.1]; decide) (by rw [hcap.2.2.2]; decide) (fun Bz1 => ?_)
  refine n_dup (q := 9) Bz1 dX7_init_8 rfl rfl ?_
  refine m_ctorN (c' := 2) (n' := 122) (q := 12) Bz1 dX7_init_9 rfl (n_X6 (Y := Y) (l := xL X) (E := (ue E a (.inr (5, [.null, .null, .null, .null, .null, .null, .null])))) (a := (a + 1)) (by omega)) wn48 wn47 wn17 wn46 rfl (by decide +kernel) (by decide) (by decide) (by omega) (Nat.le_of_ble_eq_true rfl) rfl rfl (by rw [hcap.2.2.1]; decide) (by rw [hcap.2.2.2]; decide) (fun Bz2 => ?_)
  refine n_putF (q := 15) (fs := [.null, .null, .null, .null, .null, .null, .null]) Bz2 dX7_init_12 rfl hya ((txE_o Y _ (by omega)).trans (ue_eq _ _ _)) cls5 0 (by decide) wn157 rfl hin rfl rfl rfl (Nat.le_of_ble_eq_true rfl) ?_
  refine n_aload_n (q := 16) Bz2 dX7_init_15 rfl 0 rfl ?_
  refine m_new (c' := 3) (n' := 131) (q := 19) (fs := [.int (iI 0), .int (iI 0), .int (iI 0), .int (iI 0), .int (iI 0), .int (iI 0), .null, .null, .null]) Bz2 dX7_init_16 rfl cls2 wn59 wn60 wn18 (fun j hj => by rcases (show j = 0 ∨ j = 1 ∨ j = 2 ∨ j = 3 ∨ j = 4 ∨ j = 5 ∨ j = 6 ∨ j = 7 ∨ j = 8 by omega) with rfl | rfl | rfl | rfl | rfl | rfl | rfl | rfl | rfl <;> rfl) rfl rfl (by rw [hcap.2.2.1]; decide) (by rw [hcap.2.2.2]; decide) (fun Bz3 => ?_)
  refine n_dup (q := 20) Bz3 dX7_init_19 rfl rfl ?_
  refine m_ctorN (c' := 6) (n' := 179) (q := 23) Bz3 dX7_init_20 rfl (n_X2 (Y := Y) (l := xL X) (E := (ue (txE Y (ue E a (.inr (5, [.null, .null, .null, .null, .null, .null, .null]))) (a + 1)) a (.inr (5, [.ref (a + 1), .null, .null, .null, .null, .null, .null])))) (a := (a + 3)) (by omega)) wn63 wn62 wn18 wn61 rfl (by decide +kernel) (by decide) (by decide) (by omega) (Nat.le_of_ble_eq_true rfl) rfl rfl (by rw [hcap.2.2.1]; decide) (by rw [hcap.2.2.2]; decide) (fun Bz4 => ?_)
  refine n_putF (q := 26) (fs := [.ref (a + 1), .null, .null, .null, .null, .null, .null]) Bz4 dX7_init_23 rfl hya ((nkE_o Y _ (by omega)).trans (ue_eq _ _ _)) cls5 1 (by decide) wn158 rfl hin rfl rfl rfl (Nat.le_of_ble_eq_true rfl) ?_
  refine n_aload_n (q := 27) Bz4 dX7_init_26 rfl 0 rfl ?_
  refine m_new (c' := 7) (n' := 188) (q := 30) (fs := [.int (iI 0), .int (iI 0), .int (iI 0), .int (iI 0), .int (iI 0), .int (iI 0), .null, .null, .null]) Bz4 dX7_init_27 rfl cls2 wn59 wn60 wn18 (fun j hj => by rcases (show j = 0 ∨ j = 1 ∨ j = 2 ∨ j = 3 ∨ j = 4 ∨ j = 5 ∨ j = 6 ∨ j = 7 ∨ j = 8 by omega) with rfl | rfl | rfl | rfl | rfl | rfl | rfl | rfl | rfl <;> rfl) rfl rfl (by rw [hcap.2.2.1]; decide) (by rw [hcap.2.2.2]; decide) (fun Bz5 => ?_)
  refine n_dup (q := 31) Bz5 dX7_init_30 rfl rfl ?_
  refine m_ctorN (c' := 10) (n' := 236) (q := 34) Bz5 dX7_init_31 rfl (n_X2 (Y := Y) (l := xL X) (E := (ue (nkE Y (ue (txE Y (ue E a (.inr (5, [.null, .null, .null, .null, .null, .null, .null]))) (a + 1)) a (.inr (5, [.ref (a + 1), .null, .null, .null, .null, .null, .null]))) (a + 3)) a (.inr (5, [.ref (a + 1), .ref (a + 3), .null, .null, .null, .null, .null])))) (a := (a + 7)) (by omega)) wn63 wn62 wn18 wn61 rfl (by decide +kernel) (by decide) (by decide) (by omega) (Nat.le_of_ble_eq_true rfl) rfl rfl (by rw [hcap.2.2.1]; decide) (by rw [hcap.2.2.2]; decide) (fun Bz6 => ?_)
  refine n_putF (q := 37) (fs := [.ref (a + 1), .ref (a + 3), .null, .null, .null, .null, .null]) Bz6 dX7_init_34 rfl hya ((nkE_o Y _ (by omega)).trans (ue_eq _ _ _)) cls5 2 (by decide) wn159 rfl hin rfl rfl rfl (Nat.le_of_ble_eq_true rfl) ?_
  refine n_aload_n (q := 38) Bz6 dX7_init_37 rfl 0 rfl ?_
  refine m_new (c' := 11) (n' := 239) (q := 41) (fs := [.null, .int (iI 0), .int (iI 0)]) Bz6 dX7_init_38 rfl cls1 wn101 wn102 wn19 (fun j hj => by rcases (show j = 0 ∨ j = 1 ∨ j = 2 by omega) with rfl | rfl | rfl <;> rfl) rfl rfl (by rw [hcap.2.2.1]; decide) (by rw [hcap.2.2.2]; decide) (fun Bz7 => ?_)
  refine n_dup (q := 42) Bz7 dX7_init_41 rfl rfl ?_
  refine m_ctor (c' := 68) (n' := 1051) (q := 45) Bz7 dX7_init_42 rfl (n_X1 (Y := Y) (l := xL X) (E := (ue (nkE Y (ue (nkE Y (ue (txE Y (ue E a (.inr (5, [.null, .null, .null, .null, .null, .null, .null]))) (a + 1)) a (.inr (5, [.ref (a + 1), .null, .null, .null, .null, .null, .null]))) (a + 3)) a (.inr (5, [.ref (a + 1), .ref (a + 3), .null, .null, .null, .null, .null]))) (a + 7)) a (.inr (5, [.ref (a + 1), .ref (a + 3), .ref (a + 7), .null, .null, .null, .null])))) (a := (a + 11)) (by omega)) wn105 wn104 wn19 wn103 rfl (by decide +kernel) (by decide) (by decide) (by omega) (Nat.le_of_ble_eq_true rfl) rfl rfl (by rw [hcap.2.2.1]; decide) (by rw [hcap.2.2.2]; decide) (fun Bz8 => ?_)
  refine n_putF (q := 48) (fs := [.ref (a + 1), .ref (a + 3), .ref (a + 7), .null, .null, .null, .null]) Bz8 dX7_init_45 rfl hya ((hyE_o Y _ (by omega)).trans (ue_eq _ _ _)) cls5 3 (by decide) wn160 rfl hin rfl rfl rfl (Nat.le_of_ble_eq_true rfl) ?_
  refine n_aload_n (q := 49) Bz8 dX7_init_48 rfl 0 rfl ?_
  refine m_new (c' := 69) (n' := 1055) (q := 52) (fs := [.null, .null, .int (iI 0), .long (lI 0)]) Bz8 dX7_init_49 rfl cls0 wn121 wn122 wn20 (fun j hj => by rcases (show j = 0 ∨ j = 1 ∨ j = 2 ∨ j = 3 by omega) with rfl | rfl | rfl | rfl <;> rfl) rfl rfl (by rw [hcap.2.2.1]; decide) (by rw [hcap.2.2.2]; decide) (fun Bz9 => ?_)
  refine n_dup (q := 53) Bz9 dX7_init_52 rfl rfl ?_
  refine m_ctorN (c' := 71) (n' := 1078) (q := 56) Bz9 dX7_init_53 rfl (n_X0 (Y := Y) (l := xL X) (E := (ue (hyE Y (ue (nkE Y (ue (nkE Y (ue (txE Y (ue E a (.inr (5, [.null, .null, .null, .null, .null, .null, .null]))) (a + 1)) a (.inr (5, [.ref (a + 1), .null, .null, .null, .null, .null, .null]))) (a + 3)) a (.inr (5, [.ref (a + 1), .ref (a + 3), .null, .null, .null, .null, .null]))) (a + 7)) a (.inr (5, [.ref (a + 1), .ref (a + 3), .ref (a + 7), .null, .null, .null, .null]))) (a + 11) 14) a (.inr (5, [.ref (a + 1), .ref (a + 3), .ref (a + 7), .ref (a + 11), .null, .null, .null])))) (a := (a + 69)) (by omega)) wn125 wn124 wn20 wn123 rfl (by decide +kernel) (by decide) (by decide) (by omega) (Nat.le_of_ble_eq_true rfl) rfl rfl (by rw [hcap.2.2.1]; decide) (by rw [hcap.2.2.2]; decide) (fun Bz10 => ?_)
  refine n_putF (q := 59) (fs := [.ref (a + 1), .ref (a + 3), .ref (a + 7), .ref (a + 11), .null, .null, .null]) Bz10 dX7_init_56 rfl hya ((dvE_o Y _ (by omega)).trans (ue_eq _ _ _)) cls5 4 (by decide) wn161 rfl hin rfl rfl rfl (Nat.le_of_ble_eq_true rfl) ?_
  refine n_aload_n (q := 60) Bz10 dX7_init_59 rfl 0 rfl ?_
  refine m_new (c' := 72) (n' := 1080) (q := 63) (fs := [.null, .int (iI 0)]) Bz10 dX7_init_60 rfl cls3 wn141 wn142 wn21 (fun j hj => by rcases (show j = 0 ∨ j = 1 by omega) with rfl | rfl <;> rfl) rfl rfl (by rw [hcap.2.2.1]; decide) (by rw [hcap.2.2.2]; decide) (fun Bz11 => ?_)
  refine n_dup (q := 64) Bz11 dX7_init_63 rfl rfl ?_
  refine m_ctorN (c' := 76) (n' := 1137) (q := 67) Bz11 dX7_init_64 rfl (n_X5 (Y := Y) (l := xL X) (E := (ue (dvE Y (ue (hyE Y (ue (nkE Y (ue (nkE Y (ue (txE Y (ue E a (.inr (5, [.null, .null, .null, .null, .null, .null, .null]))) (a + 1)) a (.inr (5, [.ref (a + 1), .null, .null, .null, .null, .null, .null]))) (a + 3)) a (.inr (5, [.ref (a + 1), .ref (a + 3), .null, .null, .null, .null, .null]))) (a + 7)) a (.inr (5, [.ref (a + 1), .ref (a + 3), .ref (a + 7), .null, .null, .null, .null]))) (a + 11) 14) a (.inr (5, [.ref (a + 1), .ref (a + 3), .ref (a + 7), .ref (a + 11), .null, .null, .null]))) (a + 69)) a (.inr (5, [.ref (a + 1), .ref (a + 3), .ref (a + 7), .ref (a + 11), .ref (a + 69), .null, .null])))) (a := (a + 72)) (by omega)) wn145 wn144 wn21 wn143 rfl (by decide +kernel) (by decide) (by decide) (by omega) (Nat.le_of_ble_eq_true rfl) rfl rfl (by rw [hcap.2.2.1]; decide) (by rw [hcap.2.2.2]; decide) (fun Bz12 => ?_)
  refine n_putF (q := 70) (fs := [.ref (a + 1), .ref (a + 3), .ref (a + 7), .ref (a + 11), .ref (a + 69), .null, .null]) Bz12 dX7_init_67 rfl hya ((slE_o Y _ (by omega)).trans (ue_eq _ _ _)) cls5 5 (by decide) wn162 rfl hin rfl rfl rfl (Nat.le_of_ble_eq_true rfl) ?_
  refine n_aload_n (q := 71) Bz12 dX7_init_70 rfl 0 rfl ?_
  refine m_new (c' := 77) (n' := 1139) (q := 74) (fs := [.null, .int (iI 0)]) Bz12 dX7_init_71 rfl cls3 wn141 wn142 wn21 (fun j hj => by rcases (show j = 0 ∨ j = 1 by omega) with rfl | rfl <;> rfl) rfl rfl (by rw [hcap.2.2.1]; decide) (by rw [hcap.2.2.2]; decide) (fun Bz13 => ?_)
  refine n_dup (q := 75) Bz13 dX7_init_74 rfl rfl ?_
  refine m_ctorN (c' := 81) (n' := 1196) (q := 78) Bz13 dX7_init_75 rfl (n_X5 (Y := Y) (l := xL X) (E := (ue (slE Y (ue (dvE Y (ue (hyE Y (ue (nkE Y (ue (nkE Y (ue (txE Y (ue E a (.inr (5, [.null, .null, .null, .null, .null, .null, .null]))) (a + 1)) a (.inr (5, [.ref (a + 1), .null, .null, .null, .null, .null, .null]))) (a + 3)) a (.inr (5, [.ref (a + 1), .ref (a + 3), .null, .null, .null, .null, .null]))) (a + 7)) a (.inr (5, [.ref (a + 1), .ref (a + 3), .ref (a + 7), .null, .null, .null, .null]))) (a + 11) 14) a (.inr (5, [.ref (a + 1), .ref (a + 3), .ref (a + 7), .ref (a + 11), .null, .null, .null]))) (a + 69)) a (.inr (5, [.ref (a + 1), .ref (a + 3), .ref (a + 7), .ref (a + 11), .ref (a + 69), .null, .null]))) (a + 72)) a (.inr (5, [.ref (a + 1), .ref (a + 3), .ref (a + 7), .ref (a + 11), .ref (a + 69), .ref (a + 72), .null])))) (a := (a + 77)) (by omega)) wn145 wn144 wn21 wn143 rfl (by decide +kernel) (by decide) (by decide) (by omega) (Nat.le_of_ble_eq_true rfl) rfl rfl (by rw [hcap.2.2.1]; decide) (by rw [hcap.2.2.2]; decide) (fun Bz14 => ?_)
  refine n_putF (q := 81) (fs := [.ref (a + 1), .ref (a + 3), .ref (a + 7), .ref (a + 11), .ref (a + 69), .ref (a + 72), .null]) Bz14 dX7_init_78 rfl hya ((slE_o Y _ (by omega)).trans (ue_eq _ _ _)) cls5 6 (by decide) wn163 rfl hin rfl rfl rfl (Nat.le_of_ble_eq_true rfl) ?_
  exact n_vret Bz14 Z dX7_init_81 (Nat.le_of_ble_eq_true rfl) (Nat.le_of_ble_eq_true rfl) (fun _ _ h => h) (by omega)
