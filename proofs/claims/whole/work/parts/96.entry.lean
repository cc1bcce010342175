/-! THE LAW FROM ITS ENTRY -/
theorem wo53 : Cond.classLink "NecklaceSistersLaw" 8 "NecklaceSisters" ∈ lw_g := lw_gin (List.mem_of_getElem? (i := 53) (by decide +kernel)) rfl
theorem wo939 : Cond.classLink "NecklaceSistersLaw" 97 "NecklaceSistersModel" ∈ lw_g := lw_gin (List.mem_of_getElem? (i := 939) (by decide +kernel)) rfl
theorem wo55 : Cond.methodLink "NecklaceSistersLaw" 96 ⟨"NecklaceSisters", "<init>", "()V"⟩ ∈ lw_g := lw_gin (List.mem_of_getElem? (i := 55) (by decide +kernel)) rfl
theorem wo941 : Cond.methodLink "NecklaceSistersLaw" 99 ⟨"NecklaceSistersModel", "<init>", "()V"⟩ ∈ lw_g := lw_gin (List.mem_of_getElem? (i := 941) (by decide +kernel)) rfl
theorem wo56 : Cond.instanceMethod ⟨"NecklaceSisters", "<init>", "()V"⟩ ∈ lw_g := lw_gin (List.mem_of_getElem? (i := 56) (by decide +kernel)) rfl
theorem wo57 : Cond.code ({ cls := "NecklaceSisters", name := "<init>", desc := "()V" } : MethodName) prog_1_method_1_code (1 : Nat) (Option.none : Option ClassFile.FieldType) ∈ lw_g := lw_gin (List.mem_of_getElem? (i := 57) (by decide +kernel)) rfl
theorem wo942 : Cond.instanceMethod ⟨"NecklaceSistersModel", "<init>", "()V"⟩ ∈ lw_g := lw_gin (List.mem_of_getElem? (i := 942) (by decide +kernel)) rfl
theorem wo943 : Cond.code ({ cls := "NecklaceSistersModel", name := "<init>", desc := "()V" } : MethodName) prog_10_method_1_code (1 : Nat) (Option.none : Option ClassFile.FieldType) ∈ lw_g := lw_gin (List.mem_of_getElem? (i := 943) (by decide +kernel)) rfl
theorem wo32 : Cond.initialized "NecklaceSisters" ∈ lw_g := lw_gin (List.mem_of_getElem? (i := 32) (by decide +kernel)) rfl
theorem wo38 : Cond.initialized "NecklaceSistersModel" ∈ lw_g := lw_gin (List.mem_of_getElem? (i := 38) (by decide +kernel)) rfl
theorem wo54 : Cond.instantiable "NecklaceSisters" (7 : Nat) ∈ lw_g := lw_gin (List.mem_of_getElem? (i := 54) (by decide +kernel)) rfl
theorem wo940 : Cond.instantiable "NecklaceSistersModel" (13 : Nat) ∈ lw_g := lw_gin (List.mem_of_getElem? (i := 940) (by decide +kernel)) rfl
theorem wo157 : Cond.arrayClass ClassFile.FieldType.long ∈ lw_g := lw_gin (List.mem_of_getElem? (i := 157) (by decide +kernel)) rfl
theorem S0_z {n : Nat} (h : n ≠ 84) : S0 n = fun _ => 0 := if_neg h
theorem vw_S0 {i : Nat} (hi : i < 18) : vw S0 i = fun _ => 0 := by
  funext c
  unfold vw
  rw [S0_z (show 4 * i ≠ 84 by omega), S0_z (show 4 * i + 1 ≠ 84 by omega), S0_z (show 4 * i + 2 ≠ 84 by omega), S0_z (show 4 * i + 3 ≠ 84 by omega)]
  (repeat' split) <;> rfl
theorem mw_S0 : mw S0 84 = newM := by
  funext c
  show (if 0 ≤ c ∧ c < 54 then (if 38 ≤ c ∧ c < 38 + ((16 : Nat) : Int) then (-1 : Int) else 0) else 0) = if c = 5 then 0 else if 38 ≤ c ∧ c < 54 then -1 else 0
  by_cases h : 38 ≤ c ∧ c < 54
  · rw [if_pos (show 0 ≤ c ∧ c < 54 by omega), if_pos (show 38 ≤ c ∧ c < 38 + ((16 : Nat) : Int) by omega), if_neg (show ¬ c = 5 by omega), if_pos h]
  · rw [if_neg (show ¬ (38 ≤ c ∧ c < 38 + ((16 : Nat) : Int)) by omega), if_neg h]
    (repeat' split) <;> rfl
theorem wf_z : wf (fun _ => 0) := by
  refine ⟨⟨by decide, by decide⟩, ⟨by decide, Or.inr ⟨rfl, rfl⟩⟩, ⟨by decide, by decide⟩, ⟨by decide, by decide⟩, ⟨by decide, by decide⟩, fun p hp => ?_, fun j h0 h1 => ?_, fun p _ _ => ⟨(by decide : (-1 : Int) ≤ 0), (by decide : (0 : Int) ≤ 1)⟩, fun p h0 h1 _ => ?_⟩
  · have h2 : (0 : Nat).testBit p = true := hp
    rw [Nat.zero_testBit] at h2
    cases h2
  · have h2 : j < 0 := h1
    omega
  · have h2 : p < 0 := h1
    omega
theorem RR_0 : RR S0 := by
  refine ⟨⟨⟨⟨⟨?_, ?_, ?_, ?_, ?_⟩, fun j h0 h1 => ?_⟩, ?_⟩, ?_, ?_⟩, ⟨rfl, rfl, ⟨by decide, by decide⟩, fun c _ _ => ⟨(by decide : (0 : Int) ≤ 0), (by decide : (0 : Int) ≤ 255)⟩⟩, ⟨⟨by decide, by decide⟩, ⟨by decide, by decide⟩, rfl, fun k hk => ?_⟩, rfl, ⟨Or.inl rfl, Or.inl rfl, rfl, rfl, fun z => ?_, fun z => ?_⟩⟩
  · rw [vw_S0 (by decide), mw_S0]; rfl
  · rw [vw_S0 (by decide), mw_S0]; rfl
  · rw [vw_S0 (by decide), mw_S0]; rfl
  · rw [vw_S0 (by decide), mw_S0]; rfl
  · rw [vw_S0 (by decide), mw_S0]; rfl
  · rw [vw_S0 (by decide)] at h1
    have h2 : j < 0 := h1
    omega
  · rw [vw_S0 (by decide), mw_S0]; rfl
  · rw [vw_S0 (by decide)]; exact wf_z
  · rw [mw_S0]; exact wf_newM
  · have h2 : (k : Int) < 0 := hk
    omega
  · have h2 : (0 : Int) = 1 := z
    exact absurd h2 (by decide)
  · have h2 : (0 : Int) = 1 := z
    exact absurd h2 (by decide)
theorem n_to_g {Y : gY} {X : gX} {E : nE} {S : SS} {z pc : Nat} {L : List (Nat × Value)} {st : List Value} (hE : ∀ H : Heap, nP Y E H → gP Y S H) (kk : gW Y X S pc L st) : nW Y X E z pc L st := fun H locs ls hH hl => kk H locs ls ⟨hE H hH.1, hH.2.2.1, hH.2.2.2.1, hH.2.2.2.2⟩ hl
set_option maxHeartbeats 4000000 in
theorem law_entry {Y : gY} {X : gX} {b N : Nat} {xs : Nat → Int32} {ret : Option FieldType} (hA : yA Y = fun n => yB Y + adN n) (B : nB Y (xAt X 0 0) "NecklaceSistersLaw" cL_law 7 ret 100) (G : gC Y (xS X)) (hst : (xL X).stackTraces = false) (hX : gSc Y X b N xs) (hro : 601024 ≤ (xR X).cells ∧ 7293034 ≤ (xR X).slots)
    (hfin : ∀ (c n : Nat) (S : SS) (L : List (Nat × Value)), c ≤ 601024 → n ≤ 7293034 → gW Y (xAt X c n) S 1820 L [.int (iI 1)]) : nW Y (xAt X 0 0) nE0 (yB Y) 0 [(0, .ref b)] [] := by
  refine m_new (c' := 1) (n' := 7) (q := 3) (fs := [.null, .null, .null, .null, .null, .null, .null]) B dL_law_0 rfl cls5 wo53 wo54 wo32 (fun j hj => by rcases (show j = 0 ∨ j = 1 ∨ j = 2 ∨ j = 3 ∨ j = 4 ∨ j = 5 ∨ j = 6 by omega) with rfl | rfl | rfl | rfl | rfl | rfl | rfl <;> rfl) rfl rfl (Nat.le_trans (by decide) hro.1) (Nat.le_trans (by decide) hro.2) (fun B1 => ?_)
  refine n_dup (q := 4) B1 dL_law_3 rfl rfl ?_
  refine m_ctor (c' := 82) (n' := 1203) (q := 7) B1 dL_law_4 rfl (n_X7 (Y := Y) (l := xL X) (E := nE0) (a := yB Y) (Nat.le_refl _)) wo57 wo56 wo32 wo55 rfl (by decide +kernel) (by decide) (by decide) (by omega) (Nat.le_of_ble_eq_true rfl) rfl rfl (Nat.le_trans (by decide) hro.1) (Nat.le_trans (by decide) hro.2) (fun B2 => ?_)
  refine n_astore_n (q := 8) B2 dL_law_7 rfl (by decide) (L' := [(1, .ref (yB Y)), (0, .ref b)]) rfl ?_
  refine m_new (c' := 83) (n' := 1216) (q := 11) (fs := [.int (iI 0), .null, .int (iI 0), .null, .null, .null, .int (iI 0), .null, .null, .null, .null, .int (iI 0), .int (iI 0)]) B2 dL_law_8 rfl cls6 wo939 wo940 wo38 (fun j hj => by rcases (show j = 0 ∨ j = 1 ∨ j = 2 ∨ j = 3 ∨ j = 4 ∨ j = 5 ∨ j = 6 ∨ j = 7 ∨ j = 8 ∨ j = 9 ∨ j = 10 ∨ j = 11 ∨ j = 12 by omega) with rfl | rfl | rfl | rfl | rfl | rfl | rfl | rfl | rfl | rfl | rfl | rfl | rfl <;> rfl) rfl rfl (Nat.le_trans (by decide) hro.1) (Nat.le_trans (by decide) hro.2) (fun B3 => ?_)
  refine n_dup (q := 12) B3 dL_law_11 rfl rfl ?_
  refine m_ctor (c' := 91) (n' := 2386) (q := 15) B3 dL_law_12 rfl (n_X8 (Y := Y) (l := xL X) (E := clE Y nE0 (yB Y)) (a := yB Y + 82) (by omega)) wo943 wo942 wo38 wo941 rfl (by decide +kernel) (by decide) (by decide) (by omega) (Nat.le_of_ble_eq_true rfl) rfl rfl (Nat.le_trans (by decide) hro.1) (Nat.le_trans (by decide) hro.2) (fun B4 => ?_)
  refine n_astore_n (q := 16) B4 dL_law_15 rfl (by decide) (L' := [(2, .ref (yB Y + 82)), (1, .ref (yB Y)), (0, .ref b)]) rfl ?_
  refine n_iconst (q := 17) B4 dL_law_16 rfl ?_
  refine m_newa (c' := 92) (n' := 2387) (t0 := 2) (cA := yC Y 2) (N := 1) (a0 := (1, .inr (.inl fun _ => lI 0))) (q := 19) B4 dL_law_17 rfl rfl rfl va_nm_long wo157 rfl (by decide) (by decide) rfl rfl (Nat.le_trans (by decide) hro.1) (Nat.le_trans (by decide) hro.2) (fun B5 => ?_)
  refine n_astore_n (q := 20) B5 dL_law_19 rfl (by decide) (L' := [(3, .ref (yB Y + 91)), (2, .ref (yB Y + 82)), (1, .ref (yB Y)), (0, .ref b)]) rfl ?_
  refine n_iconst (q := 21) B5 dL_law_20 rfl ?_
  refine n_istore (q := 23) B5 dL_law_21 rfl (by decide) (L' := [(4, .int (iI 0)), (3, .ref (yB Y + 91)), (2, .ref (yB Y + 82)), (1, .ref (yB Y)), (0, .ref b)]) rfl ?_
  refine n_eqE (E' := fiE Y (yB Y)) rfl ?_
  refine n_to_g (fun H hP => fi_all hA hP) ?_
  refine g_sub [4, 3, 2, 1, 0] rfl ?_
  have e72 : yA Y 72 = yB Y := by rw [hA]; rfl
  have e82 : yA Y 82 = yB Y + 82 := by rw [hA]; rfl
  have e91 : yA Y 91 = yB Y + 91 := by rw [hA]; rfl
  have BG : gB Y (xAt X 92 2387) "NecklaceSistersLaw" cL_law 7 ret 100 := by
    obtain ⟨a1, a2, a3, a4, a5, a6, a7, a8, a9, b1, b2, b3, b4⟩ := B5
    exact ⟨a1, a2, a3, a4, a5, a6, G, a8, a9, b1, b2, b3⟩
  have key := law_loop hst hX hro hfin _ 0 92 2387 S0 BG RR_0 (by decide) (by decide) (by decide) (by omega) (Nat.lt_succ_self _)
  rw [e72, e82, e91] at key
  exact key
