/-! THE CONSTRUCTORS -/
theorem wn34 : Cond.initialized "NecklaceSisters$Necklace" ∈ lw_g := lw_gin (List.mem_of_getElem? (i := 34) (by decide +kernel)) rfl
theorem wn59 : Cond.instanceMethod ⟨"java/lang/Object", "<init>", "()V"⟩ ∈ lw_g := lw_gin (List.mem_of_getElem? (i := 59) (by decide +kernel)) rfl
theorem wn60 : Cond.code ({ cls := "java/lang/Object", name := "<init>", desc := "()V" } : MethodName) object_method_1_code (1 : Nat) (Option.none : Option ClassFile.FieldType) ∈ lw_g := lw_gin (List.mem_of_getElem? (i := 60) (by decide +kernel)) rfl
theorem wn66 : Cond.methodLink "NecklaceSisters$Text" 3 ⟨"java/lang/Object", "<init>", "()V"⟩ ∈ lw_g := lw_gin (List.mem_of_getElem? (i := 66) (by decide +kernel)) rfl
theorem wn67 : Cond.fieldLink "NecklaceSisters$Text" 9 "NecklaceSisters$Text" "signs" "[C" ∈ lw_g := lw_gin (List.mem_of_getElem? (i := 67) (by decide +kernel)) rfl
theorem wn75 : Cond.arrayClass ClassFile.FieldType.char ∈ lw_g := lw_gin (List.mem_of_getElem? (i := 75) (by decide +kernel)) rfl
theorem wn77 : Cond.instantiable "NecklaceSisters$Necklace" (9 : Nat) ∈ lw_g := lw_gin (List.mem_of_getElem? (i := 77) (by decide +kernel)) rfl
theorem wn79 : Cond.instanceMethod ⟨"NecklaceSisters$Necklace", "<init>", "()V"⟩ ∈ lw_g := lw_gin (List.mem_of_getElem? (i := 79) (by decide +kernel)) rfl
theorem wn80 : Cond.code ({ cls := "NecklaceSisters$Necklace", name := "<init>", desc := "()V" } : MethodName) prog_4_method_1_code (1 : Nat) (Option.none : Option ClassFile.FieldType) ∈ lw_g := lw_gin (List.mem_of_getElem? (i := 80) (by decide +kernel)) rfl
theorem wn81 : Cond.methodLink "NecklaceSisters$Necklace" 3 ⟨"java/lang/Object", "<init>", "()V"⟩ ∈ lw_g := lw_gin (List.mem_of_getElem? (i := 81) (by decide +kernel)) rfl
theorem wn95 : Cond.fieldLink "NecklaceSisters$Necklace" 9 "NecklaceSisters$Necklace" "kinds" "[I" ∈ lw_g := lw_gin (List.mem_of_getElem? (i := 95) (by decide +kernel)) rfl
theorem wn96 : Cond.fieldLink "NecklaceSisters$Necklace" 15 "NecklaceSisters$Necklace" "weights" "[I" ∈ lw_g := lw_gin (List.mem_of_getElem? (i := 96) (by decide +kernel)) rfl
theorem wn97 : Cond.fieldLink "NecklaceSisters$Necklace" 18 "NecklaceSisters$Necklace" "owners" "[I" ∈ lw_g := lw_gin (List.mem_of_getElem? (i := 97) (by decide +kernel)) rfl
theorem wn117 : Cond.arrayClass ClassFile.FieldType.int ∈ lw_g := lw_gin (List.mem_of_getElem? (i := 117) (by decide +kernel)) rfl
theorem wn143 : Cond.methodLink "NecklaceSisters$Division" 3 ⟨"java/lang/Object", "<init>", "()V"⟩ ∈ lw_g := lw_gin (List.mem_of_getElem? (i := 143) (by decide +kernel)) rfl
theorem wn144 : Cond.fieldLink "NecklaceSisters$Division" 9 "NecklaceSisters$Division" "ahead" "[J" ∈ lw_g := lw_gin (List.mem_of_getElem? (i := 144) (by decide +kernel)) rfl
theorem wn145 : Cond.fieldLink "NecklaceSisters$Division" 15 "NecklaceSisters$Division" "found" "[I" ∈ lw_g := lw_gin (List.mem_of_getElem? (i := 145) (by decide +kernel)) rfl
theorem wn157 : Cond.arrayClass ClassFile.FieldType.long ∈ lw_g := lw_gin (List.mem_of_getElem? (i := 157) (by decide +kernel)) rfl
theorem wn163 : Cond.methodLink "NecklaceSisters$Slot" 1 ⟨"java/lang/Object", "<init>", "()V"⟩ ∈ lw_g := lw_gin (List.mem_of_getElem? (i := 163) (by decide +kernel)) rfl
theorem wn164 : Cond.classLink "NecklaceSisters$Slot" 7 "NecklaceSisters$Necklace" ∈ lw_g := lw_gin (List.mem_of_getElem? (i := 164) (by decide +kernel)) rfl
theorem wn165 : Cond.methodLinkNest "NecklaceSisters$Slot" 9 ⟨"NecklaceSisters$Necklace", "<init>", "()V"⟩ "NecklaceSisters" ∈ lw_nest := List.mem_filter.mpr ⟨List.mem_of_getElem? (i := 165) (by decide +kernel), rfl⟩
theorem wn166 : Cond.fieldLink "NecklaceSisters$Slot" 10 "NecklaceSisters$Slot" "kept" "LNecklaceSisters$Necklace;" ∈ lw_g := lw_gin (List.mem_of_getElem? (i := 166) (by decide +kernel)) rfl
def txE (Y : gY) (E : nE) (a : Nat) : nE := fun q => if q = a then some (.inr (4, [.ref (a + 1), .int (iI 0)])) else if q = a + 1 then some (.inl (yC Y 1, 120, .inl fun _ => iI 0)) else E q
def nkE (Y : gY) (E : nE) (a : Nat) : nE := fun q => if q = a then some (.inr (2, [.int (iI 0), .int (iI 0), .int (iI 0), .int (iI 0), .int (iI 0), .int (iI 0), .ref (a + 1), .ref (a + 2), .ref (a + 3)])) else if q = a + 1 then some (.inl (yC Y 0, 16, .inl fun _ => iI 0)) else if q = a + 2 then some (.inl (yC Y 0, 16, .inl fun _ => iI 0)) else if q = a + 3 then some (.inl (yC Y 0, 16, .inl fun _ => iI 0)) else E q
def dvE (Y : gY) (E : nE) (a : Nat) : nE := fun q => if q = a then some (.inr (0, [.ref (a + 1), .ref (a + 2), .int (iI 0), .long (lI 0)])) else if q = a + 1 then some (.inl (yC Y 2, 17, .inr (.inl fun _ => lI 0))) else if q = a + 2 then some (.inl (yC Y 0, 6, .inl fun _ => iI 0)) else E q
def slE (Y : gY) (E : nE) (a : Nat) : nE := fun q => if q = a then some (.inr (3, [.ref (a + 1), .int (iI 0)])) else nkE Y E (a + 1) q
/-- the history with its first i states -/
def hyE (Y : gY) (E : nE) (a i : Nat) : nE := fun q => if q = a then some (.inr (1, [.ref (a + 1), .int (iI 0), .int (iI 0)])) else if q = a + 1 then some (.inl (yC Y 4, 14, .inr (.inr (.inr (.inr fun j => if j < i then some (a + 2 + 4 * j) else none))))) else if a + 2 ≤ q ∧ q < a + 2 + 4 * i then some (if (q - (a + 2)) % 4 = 0 then .inr (2, [.int (iI 0), .int (iI 0), .int (iI 0), .int (iI 0), .int (iI 0), .int (iI 0), .ref (q + 1), .ref (q + 2), .ref (q + 3)]) else .inl (yC Y 0, 16, .inl fun _ => iI 0)) else E q
set_option maxHeartbeats 4000000 in
theorem n_X6 {Y : gY} {l : Launch} {E : nE} {a : Nat} (hya : yB Y ≤ a) : nM Y l yX6_init cX6_init 1 1 (ue E a (.inr (4, [.null, .int (iI 0)]))) (a + 1) [.ref a] (txE Y E a) (a + 2) 1 120 := by
  refine nM_of (by decide) (Nat.le_of_ble_eq_true rfl) ?_
  intro X hXl B hin hcap Z
  subst hXl
  show nW Y X (ue E a (.inr (4, [.null, .int (iI 0)]))) (a + 1) 0 [(0, .ref a)] []
  refine n_aload_n (q := 1) B dX6_init_0 rfl 0 rfl ?_
  refine n_obj (q := 4) B dX6_init_1 rfl wn66 wn59 wn60 (by decide) (Nat.le_of_ble_eq_true rfl) ?_
  refine n_aload_n (q := 5) B dX6_init_4 rfl 0 rfl ?_
  refine n_bipush (q := 7) B dX6_init_5 rfl (by decide) ?_
  refine n_newa (t0 := 1) (cA := yC Y 1) (N := 120) (a0 := (120, .inl fun _ => iI 0)) (q := 9) B dX6_init_7 rfl rfl rfl va_nm_char wn75 rfl (by decide) (by decide) (by obtain ⟨k1, k2, k3, k4⟩ := hcap; show xCells X + 1 ≤ (xR X).cells; omega) (by obtain ⟨k1, k2, k3, k4⟩ := hcap; show xSlots X + 120 ≤ (xR X).slots; omega) (fun Bz1 => ?_)
  refine n_putF (q := 12) (fs := [.null, .int (iI 0)]) Bz1 dX6_init_9 rfl hya (by first | (simp (disch := omega) only [ue, txE, nkE, dvE, slE, hyE, if_pos, if_neg]; done) | (simp (disch := omega) only [ue, txE, nkE, dvE, slE, hyE, if_pos, if_neg]; rfl)) cls4 0 (by decide) wn67 rfl hin rfl rfl rfl (Nat.le_of_ble_eq_true rfl) ?_
  refine n_vret Bz1 Z dX6_init_12 (by obtain ⟨k1, k2, k3, k4⟩ := hcap; show xCells X + 1 ≤ _; omega) (by obtain ⟨k1, k2, k3, k4⟩ := hcap; show xSlots X + 120 ≤ _; omega) (fun q e hq => ?_) (by omega)
  rw [← hq]
  simp only [ue, txE, nkE, dvE, slE]
  (repeat' split) <;> first | rfl | omega
set_option maxHeartbeats 4000000 in
theorem n_X2 {Y : gY} {l : Launch} {E : nE} {a : Nat} (hya : yB Y ≤ a) : nM Y l yX2_init cX2_init 1 1 (ue E a (.inr (2, [.int (iI 0), .int (iI 0), .int (iI 0), .int (iI 0), .int (iI 0), .int (iI 0), .null, .null, .null]))) (a + 1) [.ref a] (nkE Y E a) (a + 4) 3 48 := by
  refine nM_of (by decide) (Nat.le_of_ble_eq_true rfl) ?_
  intro X hXl B hin hcap Z
  subst hXl
  show nW Y X (ue E a (.inr (2, [.int (iI 0), .int (iI 0), .int (iI 0), .int (iI 0), .int (iI 0), .int (iI 0), .null, .null, .null]))) (a + 1) 0 [(0, .ref a)] []
  refine n_aload_n (q := 1) B dX2_init_0 rfl 0 rfl ?_
  refine n_obj (q := 4) B dX2_init_1 rfl wn81 wn59 wn60 (by decide) (Nat.le_of_ble_eq_true rfl) ?_
  refine n_aload_n (q := 5) B dX2_init_4 rfl 0 rfl ?_
  refine n_bipush (q := 7) B dX2_init_5 rfl (by decide) ?_
  refine n_newa (t0 := 0) (cA := yC Y 0) (N := 16) (a0 := (16, .inl fun _ => iI 0)) (q := 9) B dX2_init_7 rfl rfl rfl va_nm_int wn117 rfl (by decide) (by decide) (by obtain ⟨k1, k2, k3, k4⟩ := hcap; show xCells X + 1 ≤ (xR X).cells; omega) (by obtain ⟨k1, k2, k3, k4⟩ := hcap; show xSlots X + 16 ≤ (xR X).slots; omega) (fun Bz1 => ?_)
  refine n_putF (q := 12) (fs := [.int (iI 0), .int (iI 0), .int (iI 0), .int (iI 0), .int (iI 0), .int (iI 0), .null, .null, .null]) Bz1 dX2_init_9 rfl hya (by first | (simp (disch := omega) only [ue, txE, nkE, dvE, slE, hyE, if_pos, if_neg]; done) | (simp (disch := omega) only [ue, txE, nkE, dvE, slE, hyE, if_pos, if_neg]; rfl)) cls2 6 (by decide) wn95 rfl hin rfl rfl rfl (Nat.le_of_ble_eq_true rfl) ?_
  refine n_aload_n (q := 13) Bz1 dX2_init_12 rfl 0 rfl ?_
  refine n_bipush (q := 15) Bz1 dX2_init_13 rfl (by decide) ?_
  refine n_newa (t0 := 0) (cA := yC Y 0) (N := 16) (a0 := (16, .inl fun _ => iI 0)) (q := 17) Bz1 dX2_init_15 rfl rfl rfl va_nm_int wn117 rfl (by decide) (by decide) (by obtain ⟨k1, k2, k3, k4⟩ := hcap; show xCells X + 1 + 1 ≤ (xR X).cells; omega) (by obtain ⟨k1, k2, k3, k4⟩ := hcap; show xSlots X + 16 + 16 ≤ (xR X).slots; omega) (fun Bz2 => ?_)
  refine n_putF (q := 20) (fs := [.int (iI 0), .int (iI 0), .int (iI 0), .int (iI 0), .int (iI 0), .int (iI 0), .ref (a + 1), .null, .null]) Bz2 dX2_init_17 rfl hya (by first | (simp (disch := omega) only [ue, txE, nkE, dvE, slE, hyE, if_pos, if_neg]; done) | (simp (disch := omega) only [ue, txE, nkE, dvE, slE, hyE, if_pos, if_neg]; rfl)) cls2 7 (by decide) wn96 rfl hin rfl rfl rfl (Nat.le_of_ble_eq_true rfl) ?_
  refine n_aload_n (q := 21) Bz2 dX2_init_20 rfl 0 rfl ?_
  refine n_bipush (q := 23) Bz2 dX2_init_21 rfl (by decide) ?_
  refine n_newa (t0 := 0) (cA := yC Y 0) (N := 16) (a0 := (16, .inl fun _ => iI 0)) (q := 25) Bz2 dX2_init_23 rfl rfl rfl va_nm_int wn117 rfl (by decide) (by decide) (by obtain ⟨k1, k2, k3, k4⟩ := hcap; show xCells X + 1 + 1 + 1 ≤ (xR X).cells; omega) (by obtain ⟨k1, k2, k3, k4⟩ := hcap; show xSlots X + 16 + 16 + 16 ≤ (xR X).slots; omega) (fun Bz3 => ?_)
  refine n_putF (q := 28) (fs := [.int (iI 0), .int (iI 0), .int (iI 0), .int (iI 0), .int (iI 0), .int (iI 0), .ref (a + 1), .ref (a + 2), .null]) Bz3 dX2_init_25 rfl hya (by first | (simp (disch := omega) only [ue, txE, nkE, dvE, slE, hyE, if_pos, if_neg]; done) | (simp (disch := omega) only [ue, txE, nkE, dvE, slE, hyE, if_pos, if_neg]; rfl)) cls2 8 (by decide) wn97 rfl hin rfl rfl rfl (Nat.le_of_ble_eq_true rfl) ?_
  refine n_vret Bz3 Z dX2_init_28 (by obtain ⟨k1, k2, k3, k4⟩ := hcap; show xCells X + 1 + 1 + 1 ≤ _; omega) (by obtain ⟨k1, k2, k3, k4⟩ := hcap; show xSlots X + 16 + 16 + 16 ≤ _; omega) (fun q e hq => ?_) (by omega)
  rw [← hq]
  simp only [ue, txE, nkE, dvE, slE]
  (repeat' split) <;> first | rfl | omega
set_option maxHeartbeats 4000000 in
theorem n_X0 {Y : gY} {l : Launch} {E : nE} {a : Nat} (hya : yB Y ≤ a) : nM Y l yX0_init cX0_init 1 1 (ue E a (.inr (0, [.null, .null, .int (iI 0), .long (lI 0)]))) (a + 1) [.ref a] (dvE Y E a) (a + 3) 2 23 := by
  refine nM_of (by decide) (Nat.le_of_ble_eq_true rfl) ?_
  intro X hXl B hin hcap Z
  subst hXl
  show nW Y X (ue E a (.inr (0, [.null, .null, .int (iI 0), .long (lI 0)]))) (a + 1) 0 [(0, .ref a)] []
  refine n_aload_n (q := 1) B dX0_init_0 rfl 0 rfl ?_
  refine n_obj (q := 4) B dX0_init_1 rfl wn143 wn59 wn60 (by decide) (Nat.le_of_ble_eq_true rfl) ?_
  refine n_aload_n (q := 5) B dX0_init_4 rfl 0 rfl ?_
  refine n_bipush (q := 7) B dX0_init_5 rfl (by decide) ?_
  refine n_newa (t0 := 2) (cA := yC Y 2) (N := 17) (a0 := (17, .inr (.inl fun _ => lI 0))) (q := 9) B dX0_init_7 rfl rfl rfl va_nm_long wn157 rfl (by decide) (by decide) (by obtain ⟨k1, k2, k3, k4⟩ := hcap; show xCells X + 1 ≤ (xR X).cells; omega) (by obtain ⟨k1, k2, k3, k4⟩ := hcap; show xSlots X + 17 ≤ (xR X).slots; omega) (fun Bz1 => ?_)
  refine n_putF (q := 12) (fs := [.null, .null, .int (iI 0), .long (lI 0)]) Bz1 dX0_init_9 rfl hya (by first | (simp (disch := omega) only [ue, txE, nkE, dvE, slE, hyE, if_pos, if_neg]; done) | (simp (disch := omega) only [ue, txE, nkE, dvE, slE, hyE, if_pos, if_neg]; rfl)) cls0 0 (by decide) wn144 rfl hin rfl rfl rfl (Nat.le_of_ble_eq_true rfl) ?_
  refine n_aload_n (q := 13) Bz1 dX0_init_12 rfl 0 rfl ?_
  refine n_bipush (q := 15) Bz1 dX0_init_13 rfl (by decide) ?_
  refine n_newa (t0 := 0) (cA := yC Y 0) (N := 6) (a0 := (6, .inl fun _ => iI 0)) (q := 17) Bz1 dX0_init_15 rfl rfl rfl va_nm_int wn117 rfl (by decide) (by decide) (by obtain ⟨k1, k2, k3, k4⟩ := hcap; show xCells X + 1 + 1 ≤ (xR X).cells; omega) (by obtain ⟨k1, k2, k3, k4⟩ := hcap; show xSlots X + 17 + 6 ≤ (xR X).slots; omega) (fun Bz2 => ?_)
  refine n_putF (q := 20) (fs := [.ref (a + 1), .null, .int (iI 0), .long (lI 0)]) Bz2 dX0_init_17 rfl hya (by first | (simp (disch := omega) only [ue, txE, nkE, dvE, slE, hyE, if_pos, if_neg]; done) | (simp (disch := omega) only [ue, txE, nkE, dvE, slE, hyE, if_pos, if_neg]; rfl)) cls0 1 (by decide) wn145 rfl hin rfl rfl rfl (Nat.le_of_ble_eq_true rfl) ?_
  refine n_vret Bz2 Z dX0_init_20 (by obtain ⟨k1, k2, k3, k4⟩ := hcap; show xCells X + 1 + 1 ≤ _; omega) (by obtain ⟨k1, k2, k3, k4⟩ := hcap; show xSlots X + 17 + 6 ≤ _; omega) (fun q e hq => ?_) (by omega)
  rw [← hq]
  simp only [ue, txE, nkE, dvE, slE]
  (repeat' split) <;> first | rfl | omega
set_option maxHeartbeats 4000000 in
theorem n_X5 {Y : gY} {l : Launch} {E : nE} {a : Nat} (hya : yB Y ≤ a) : nM Y l yX5_init cX5_init 1 2 (ue E a (.inr (3, [.null, .int (iI 0)]))) (a + 1) [.ref a] (slE Y E a) (a + 5) 4 57 := by
  refine nM_of (by decide) (Nat.le_of_ble_eq_true rfl) ?_
  intro X hXl B hin hcap Z
  subst hXl
  show nW Y X (ue E a (.inr (3, [.null, .int (iI 0)]))) (a + 1) 0 [(0, .ref a)] []
  refine n_aload_n (q := 1) B dX5_init_0 rfl 0 rfl ?_
  refine n_obj (q := 4) B dX5_init_1 rfl wn163 wn59 wn60 (by decide) (Nat.le_of_ble_eq_true rfl) ?_
  refine n_aload_n (q := 5) B dX5_init_4 rfl 0 rfl ?_
  refine n_new (q := 8) (fs := [.int (iI 0), .int (iI 0), .int (iI 0), .int (iI 0), .int (iI 0), .int (iI 0), .null, .null, .null]) B dX5_init_5 rfl cls2 wn164 wn77 wn34 (fun j hj => by rcases (show j = 0 ∨ j = 1 ∨ j = 2 ∨ j = 3 ∨ j = 4 ∨ j = 5 ∨ j = 6 ∨ j = 7 ∨ j = 8 by omega) with rfl | rfl | rfl | rfl | rfl | rfl | rfl | rfl | rfl <;> rfl) (by obtain ⟨k1, k2, k3, k4⟩ := hcap; show xCells X + 1 ≤ (xR X).cells; omega) (by obtain ⟨k1, k2, k3, k4⟩ := hcap; show xSlots X + 9 ≤ (xR X).slots; omega) (fun Bz1 => ?_)
  refine n_dup (q := 9) Bz1 dX5_init_8 rfl rfl ?_
  refine n_ctorN (q := 12) Bz1 dX5_init_9 rfl (n_X2 (Y := Y) (l := xL X) (E := (ue E a (.inr (3, [.null, .int (iI 0)])))) (a := (a + 1)) (by omega)) wn80 wn79 wn34 wn165 rfl (by decide +kernel) (by decide) (by decide) (by omega) (Nat.le_of_ble_eq_true rfl) (by obtain ⟨k1, k2, k3, k4⟩ := hcap; show xCells X + 1 + 3 ≤ (xR X).cells; omega) (by obtain ⟨k1, k2, k3, k4⟩ := hcap; show xSlots X + 9 + 48 ≤ (xR X).slots; omega) (fun Bz2 => ?_)
  refine n_putF (q := 15) (fs := [.null, .int (iI 0)]) Bz2 dX5_init_12 rfl hya (by first | (simp (disch := omega) only [ue, txE, nkE, dvE, slE, hyE, if_pos, if_neg]; done) | (simp (disch := omega) only [ue, txE, nkE, dvE, slE, hyE, if_pos, if_neg]; rfl)) cls3 0 (by decide) wn166 rfl hin rfl rfl rfl (Nat.le_of_ble_eq_true rfl) ?_
  refine n_vret Bz2 Z dX5_init_15 (by obtain ⟨k1, k2, k3, k4⟩ := hcap; show xCells X + 1 + 3 ≤ _; omega) (by obtain ⟨k1, k2, k3, k4⟩ := hcap; show xSlots X + 9 + 48 ≤ _; omega) (fun q e hq => ?_) (by omega)
  rw [← hq]
  simp only [ue, txE, nkE, dvE, slE]
  (repeat' split) <;> first | rfl | omega
