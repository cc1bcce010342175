/-! TEXTS of the class's own file: rows of their instructions -/
def txL (i : Nat) : Nat := (gTxB i).length
def txC (i k : Nat) : Int := ((gTxB i).getD k 0).toInt
theorem gSv {Y : gY} {s : State} {H : Heap} {locs : List Loc} {S : SS} (hH : gH Y s H locs S) : va_S (gF Y) s.heap H locs := ⟨hH.2.1, fun q _ hn => hH.2.2.1 q (Nat.lt_of_not_le hn), hH.2.2.2⟩
section GT
variable {Y : gY} {X : gX} {S : SS} {own : String} {cc : ByteArray} {nL : Nat} {ret : Option FieldType} {k : Nat} {pc q : Nat} {L L' : List (Nat × Value)} {st : List Value}
theorem gB.xs (B : gB Y X own cc nL ret k) : gXS Y (xS X) := B.2.2.2.2.2.2.1.2.2.2.2
theorem g_ldcS (i : Nat) (hi : i < 6) (B : gB Y X "NecklaceSisters$Text" cc nL ret k) (d : decode cc pc = .ok (.ldc (gTxI i).1, 2)) (hq : pc + 2 = q) (kk : gW Y X S q L (.ref (yK Y i) :: st)) : gW Y X S pc L st := by
  subst hq
  intro H locs ls hH hl
  exact va_ldcS B.1 B.2.1 B.2.2.2.2.1 (B.xs.2.2.2.2.2.1 i hi).1 d (kk H locs ls hH hl)
theorem g_strV (i : Nat) (hi : i < 6) (B : gB Y X "java/lang/String" cc nL ret k) (d : decode cc pc = .ok (.getfield 9, 3)) (hq : pc + 3 = q) (hw : Cond.fieldLink "java/lang/String" 9 "java/lang/String" "value" "[B" ∈ lw_g) (kk : gW Y X S q L (.ref (yV Y i) :: st)) : gW Y X S pc L (.ref (yK Y i) :: st) := by
  subst hq
  intro H locs ls hH hl
  exact vk_getf B.1 B.2.1 (B.xs.2.2.2.2.2.1 i hi).2.2.2.1 (gSv hH) B.2.2.2.2.1 (B.2.2.2.2.2.1 _ hw) (fun _ h => h) d (kk H locs ls hH hl)
theorem g_strK (i : Nat) (hi : i < 6) (B : gB Y X "java/lang/String" cc nL ret k) (d : decode cc pc = .ok (.getfield 15, 3)) (hq : pc + 3 = q) (hw : Cond.fieldLink "java/lang/String" 15 "java/lang/String" "coder" "B" ∈ lw_g) (kk : gW Y X S q L (.int (iI 0) :: st)) : gW Y X S pc L (.ref (yK Y i) :: st) := by
  subst hq
  intro H locs ls hH hl
  exact vk_getf B.1 B.2.1 (B.xs.2.2.2.2.2.1 i hi).2.2.1 (gSv hH) B.2.2.2.2.1 (B.2.2.2.2.2.1 _ hw) (fun _ h => h) d (kk H locs ls hH hl)
theorem g_compact (B : gB Y X "java/lang/String" cc nL ret k) (d : decode cc pc = .ok (.getstatic 38, 3)) (hq : pc + 3 = q) (hw : Cond.fieldLink "java/lang/String" 38 "java/lang/String" "COMPACT_STRINGS" "Z" ∈ lw_g) (kk : gW Y X S q L (.int (iI 1) :: st)) : gW Y X S pc L st := by
  subst hq
  intro H locs ls hH hl
  exact va_gets B.1 B.2.1 B.xs.2.2.1 (gSv hH) B.2.2.2.2.1 (B.2.2.2.2.2.1 _ hw) (fun _ h => h) d (kk H locs ls hH hl)
theorem g_sioobe (B : gB Y X "java/lang/String" cc nL ret k) (d : decode cc pc = .ok (.getstatic 1053, 3)) (hq : pc + 3 = q) (hw : Cond.fieldLink "java/lang/String" 1053 "jdk/internal/util/Preconditions" "SIOOBE_FORMATTER" "Ljava/util/function/BiFunction;" ∈ lw_g) (kn : gW Y X S q L (.null :: st)) (kr : ∀ tq : Nat, gW Y X S q L (.ref tq :: st)) : gW Y X S pc L st := by
  subst hq
  intro H locs ls hH hl
  rcases B.xs.2.2.2.1 with h | ⟨t, h⟩
  · exact va_gets B.1 B.2.1 h (gSv hH) B.2.2.2.2.1 (B.2.2.2.2.2.1 _ hw) (fun _ h => h) d (kn H locs ls hH hl)
  · exact va_gets B.1 B.2.1 h (gSv hH) B.2.2.2.2.1 (B.2.2.2.2.2.1 _ hw) (fun _ h => h) d (kr t H locs ls hH hl)
theorem g_blen (i : Nat) (hi : i < 6) (B : gB Y X own cc nL ret k) (d : decode cc pc = .ok (.arraylength, 1)) (hq : pc + 1 = q) (kk : gW Y X S q L (.int (iI (txL i : Nat)) :: st)) : gW Y X S pc L (.ref (yV Y i) :: st) := by
  subst hq
  intro H locs ls hH hl
  exact va_tlen B.1 B.2.1 (B.xs.2.2.2.2.2.1 i hi).2.2.2.2 (gSv hH) (iI_nat _).symm d (kk H locs ls hH hl)
theorem txL_in (i : Nat) : txL i ≤ 3 := by
  unfold txL
  match i with
  | 0 => decide
  | 1 => decide
  | 2 => decide
  | 3 => decide
  | 4 => decide
  | n + 5 => exact (by decide : [122].length ≤ 3)
theorem g_bald (i j : Nat) (hi : i < 6) (hj : j < txL i) (B : gB Y X own cc nL ret k) (d : decode cc pc = .ok (.baload, 1)) (hq : pc + 1 = q) (kk : gW Y X S q L (.int (iI (txC i j)) :: st)) : gW Y X S pc L (.int (iI (j : Int)) :: .ref (yV Y i) :: st) := by
  subst hq
  intro H locs ls hH hl
  have h3 := txL_in i
  obtain ⟨hin, hc, hn⟩ := g_in (a := (j : Int)) (N := txL i) (by omega) (by omega) (by omega)
  exact va_tb B.1 B.2.1 (B.xs.2.2.2.2.2.1 i hi).2.2.2.2 (gSv hH) hin (v := .int (iI (txC i j))) (by rw [hc, txC, iI_self]; rfl) d (kk H locs ls hH hl)
theorem txC_in {i j : Nat} (hi : i < 6) (hj : j < txL i) : 0 ≤ txC i j ∧ txC i j < 128 := by
  have key : ∀ i : Fin 6, ∀ j : Fin 3, j.val < txL i.val → 0 ≤ txC i.val j.val ∧ txC i.val j.val < 128 := by decide
  have h3 := txL_in i
  exact key ⟨i, hi⟩ ⟨j, by omega⟩ hj
theorem i2c_id {a : Int} (h0 : 0 ≤ a) (h1 : a < 65536) : ((iI a).toUInt32 % 65536).toInt32 = iI a := by
  obtain ⟨n, rfl⟩ := Int.eq_ofNat_of_zero_le h0
  rw [iI_nat, pk_char]
  congr 1
  show (BitVec.ofNat 32 n).toNat % 65536 = n
  rw [BitVec.toNat_ofNat]
  omega
theorem g_callT (i0 : Nat) (hi0 : i0 < 6) (B : gB Y X own cc nL ret k) {md : gMd} {i np : Nat} {As st0 : List Value} {Post : Option Value → SS → Prop} (d : decode cc pc = .ok (.invokevirtual i, 3)) (hq : pc + 3 = q) (hM : gM Y (xL X) md S (.ref (yK Y i0) :: As) Post) (hE : gEV md "java/lang/String" np) (hw : Cond.methodLink own i md.1 ∈ lw_g) (hkk : md.2.2.2.2 + 1 ≤ k) (hn : As.length = np) (hst : st0 = As.reverse ++ .ref (yK Y i0) :: st) (hrest : (st.map fun v => v.category).sum ≤ 8) (kk : ∀ (v : Option Value) (S' : SS), Post v S' → gW Y X S' q L (v.toList ++ st)) : gW Y X S pc L st0 := by
  subst hq
  intro H locs ls hH hl
  have hrecv : ∃ cell : Cell, H[yK Y i0]? = some cell ∧ cell.vm.isStatics = false ∧ (xS X).vm.findClass "java/lang/String" = some cell.cls := by
    obtain ⟨cell, h1, h2, h3, -⟩ := (B.xs.2.2.2.2.2.1 i0 hi0).2.1.kept (gSv hH).2.1
    exact ⟨cell, h1, h2, h3⟩
  obtain ⟨e1, e2, e3, e4, e5, e6, e7⟩ := hE
  obtain ⟨y, bytes, mL, rt, kc⟩ := md
  dsimp only at e1 e2 e3 e4 e5 e6 e7 hw hkk
  have hG : GoodIn lw_g (wsV own i "java/lang/String" y (Cond.code y bytes mL rt :: lw_g)) := goodIn_app (fun w hw' => by
    simp only [List.mem_cons, List.not_mem_nil, or_false] at hw'
    rcases hw' with rfl | rfl | rfl | rfl
    · exact lw_gg _ hw
    · exact lw_gg _ e3
    · exact lw_gg _ e4
    · exact lw_gg _ e5) (lw_gc e2)
  refine g_fin hH hl (va_runV (As := As) (rest := st) ⟨B.1, B.2.1, B.2.2.1, B.2.2.2.2.1, B.2.2.2.2.2.1⟩ hM (cwV np B.2.2.2.2.2.1 hG rfl rfl rfl ⟨e1, e6⟩ (g_room B.2.2.2.2.2.2.2.2.1 B.2.2.2.2.2.2.2.2.2.1 hkk e7)) ⟨gPc_blind, hrecv, gPc_pre B.2.2.2.2.2.2.1 hH⟩ rfl hn (hl.1.trans B.2.2.1) hst (lv_room hrest) d ⟨B.2.2.2.2.2.2.2.2.2.2.1, B.2.2.2.2.2.2.2.2.2.2.2⟩) kk
theorem g_null (B : gB Y X own cc nL ret k) (d : decode cc pc = .ok (.aconst_null, 1)) (hq : pc + 1 = q) (kk : gW Y X S q L (.null :: st)) : gW Y X S pc L st := by
  subst hq
  intro H locs ls hH hl
  exact lv_null B.1 B.2.1 d (kk H locs ls hH hl)
theorem g_ifnull0 (B : gB Y X own cc nL ret k) {off : Int} (d : decode cc pc = .ok (.ifnull off, 3)) (ht : (pc : Int) + off = (q : Int)) (kk : gW Y X S q L st) : gW Y X S pc L (.null :: st) := by
  intro H locs ls hH hl
  exact lv_ifnullN B.1 B.2.1 d ht (kk H locs ls hH hl)
theorem g_ifnonnull0 (B : gB Y X own cc nL ret k) {off : Int} (d : decode cc pc = .ok (.ifnonnull off, 3)) (hq : pc + 3 = q) (kk : gW Y X S q L st) : gW Y X S pc L (.null :: st) := by
  subst hq
  intro H locs ls hH hl
  exact lv_ifnonnullN B.1 B.2.1 d (kk H locs ls hH hl)
theorem g_astore_nN (B : gB Y X own cc nL ret k) {j : Fin 4} (d : decode cc pc = .ok (.astore_n j, 1)) (hq : pc + 1 = q) (hn : (j : Nat) < nL) (hL : ((j : Nat), Value.null) :: L.filter (fun q => !(q.1 == (j : Nat)) && !(q.1 + 1 == (j : Nat) && q.2.category == 2)) = L') (kk : gW Y X S q L' st) : gW Y X S pc L (Value.null :: st) := by
  subst hq
  intro H locs ls hH hl
  rw [B.2.2.1] at hl
  exact lv_astore_nN B.1 B.2.1 d rfl hl hn hL (fun ls' hl' => kk H locs ls' hH (by rw [B.2.2.1]; exact hl'))
theorem g_astoreN (B : gB Y X own cc nL ret k) {j : Nat} (d : decode cc pc = .ok (.astore j, 2)) (hq : pc + 2 = q) (hn : j < nL) (hL : (j, Value.null) :: L.filter (fun q => !(q.1 == j) && !(q.1 + 1 == j && q.2.category == 2)) = L') (kk : gW Y X S q L' st) : gW Y X S pc L (Value.null :: st) := by
  subst hq
  intro H locs ls hH hl
  rw [B.2.2.1] at hl
  exact lv_astoreN B.1 B.2.1 d hl hn hL (fun ls' hl' => kk H locs ls' hH (by rw [B.2.2.1]; exact hl'))
theorem g_aload_nN (B : gB Y X own cc nL ret k) {j : Fin 4} (d : decode cc pc = .ok (.aload_n j, 1)) (hq : pc + 1 = q) (n : Nat) (hk : L[n]? = some ((j : Nat), .null)) (kk : gW Y X S q L (.null :: st)) : gW Y X S pc L st := by
  subst hq
  intro H locs ls hH hl
  exact lv_aload_nN B.1 B.2.1 d rfl (lv_at hl n hk) (kk H locs ls hH hl)
theorem g_aloadN (B : gB Y X own cc nL ret k) {j : Nat} (d : decode cc pc = .ok (.aload j, 2)) (hq : pc + 2 = q) (n : Nat) (hk : L[n]? = some (j, .null)) (kk : gW Y X S q L (.null :: st)) : gW Y X S pc L st := by
  subst hq
  intro H locs ls hH hl
  exact lv_aloadN B.1 B.2.1 d (lv_at hl n hk) (kk H locs ls hH hl)
end GT
theorem nz_i {x : Int} (h : 0 ≤ x ∧ x ≤ 1) : narrow .boolean (.int (iI x)) = .int (iI x) := nz_01 h
theorem tx_and {i j : Nat} (hi : i < 6) (hj : j < txL i) : iI (txC i j) &&& iI 255 = iI (txC i j) := by
  have key : ∀ i : Fin 6, ∀ j : Fin 3, j.val < txL i.val → iI (txC i.val j.val) &&& iI 255 = iI (txC i.val j.val) := by decide
  have h3 := txL_in i
  exact key ⟨i, hi⟩ ⟨j, by omega⟩ hj
