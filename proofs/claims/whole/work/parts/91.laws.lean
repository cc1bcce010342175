set_option maxHeartbeats 4000000 in
theorem lc_append {Y : gY} {X : gX} {S : SS} {b N : Nat} {xs : Nat → Int32} {i : Int} {ret : Option FieldType} (B : gB Y X "NecklaceSistersLaw" cL_law 7 ret 100) (hst : (xL X).stackTraces = false) (hX : gSc Y X b N xs) (h : RR S) (hi0 : 0 ≤ i) (hi4 : i + 4 ≤ N) (h1 : xCells X + 1 ≤ (xR X).cells) (h2 : xSlots X + 6 ≤ (xR X).slots) (kk : ∀ S9 : SS, RR S9 → gW Y (xUp X) S9 1813 [(0, .ref b), (1, .ref (yA Y 72)), (2, .ref (yA Y 82)), (3, .ref (yA Y 91)), (4, .int (iI i))] []) : gW Y X S 172 [(0, .ref b), (1, .ref (yA Y 72)), (2, .ref (yA Y 82)), (3, .ref (yA Y 91)), (4, .int (iI i))] [] := by
  refine g_aload_n (q := 173) B dL_law_172 rfl 1 rfl ?_
  refine g_aload_n (q := 174) B dL_law_173 rfl 0 rfl ?_
  refine g_iload (q := 176) B dL_law_174 rfl 4 rfl ?_
  refine g_iconst (q := 177) B dL_law_176 rfl ?_
  refine g_iadd (q := 178) B dL_law_177 rfl ?_
  refine g_sld (q := 179) B hX dL_law_178 rfl (by omega) (by omega) ?_
  refine g_aload_n (q := 180) B dL_law_179 rfl 3 rfl ?_
  refine g_callW (As := [.ref (yA Y 72), .int (iI (sI xs (i + 1))), .ref (yA Y 91)]) (st := []) B dL_law_180 (c_L_append (Y := Y) (l := xL X) (S := S) hst h.2.1.2.2.1 h.2.1.2.2.2 (sI xs (i + 1)) (sI_in _ _)) eL_append w428 (by decide) rfl rfl (Nat.le_of_ble_eq_true rfl) h1 h2 (fun v S1 hv => ?_)
  have hk : keep S S1 := wP_keepc hv (fun S' _ z m m8 _ => by rw [z, us_a (by omega), us_a (by omega)]) (fun S' _ z => q_keep (by rw [z]; exact q_id h.2.2.2.1))
  have Pq := pre_of h hk
  have hvv := hv.1
  subst hvv
  have B2 := gB_up B h1 h2
  have hX2 : gSc Y (xUp X) b N xs := hX
  show gW Y (xUp X) S1 183 [(0, .ref b), (1, .ref (yA Y 72)), (2, .ref (yA Y 82)), (3, .ref (yA Y 91)), (4, .int (iI i))] [.int (iI (cd_len (S 73 0) (sI xs (i + 1))))]
  refine g_istore (q := 185) B2 dL_law_183 rfl (by decide) (L' := [(5, .int (iI (cd_len (S 73 0) (sI xs (i + 1))))), (0, .ref b), (1, .ref (yA Y 72)), (2, .ref (yA Y 82)), (3, .ref (yA Y 91)), (4, .int (iI i))]) rfl ?_
  refine g_aload_n (q := 186) B2 dL_law_185 rfl 3 rfl ?_
  refine g_aload_n (q := 187) B2 dL_law_186 rfl 1 rfl ?_
  refine g_iload (q := 189) B2 dL_law_187 rfl 5 rfl ?_
  refine g_iconst (q := 190) B2 dL_law_189 rfl ?_
  refine g_iadd (q := 191) B2 dL_law_190 rfl ?_
  refine g_sld (q := 192) B2 hX2 dL_law_191 rfl (by omega) (by omega) ?_
  refine g_callV (n := 82) (ty := tyX8) (q := 195) (As := [.int (iI (sI xs (i + 1)))]) (st := []) B2 dL_law_192 rfl (c_X8_append (Y := Y) (l := xL X) (S := S1) (sI xs (i + 1)) (sI_in _ _) Pq.2.2.1) eX8_append w996 (by decide) rfl rfl cls6 rfl rfl (Nat.le_of_ble_eq_true rfl) (fun w9 S2 hw9 => ?_)
  obtain ⟨c9, x9, y9, ec, ew, hR2, ht9, hc9, hx9⟩ := stp_q (st_append h _ hv hw9)
  subst ew
  show gW Y (xUp X) S2 195 [(5, .int (iI (cd_len (S 73 0) (sI xs (i + 1))))), (0, .ref b), (1, .ref (yA Y 72)), (2, .ref (yA Y 82)), (3, .ref (yA Y 91)), (4, .int (iI i))] [.int (iI y9)]
  rw [ec]
  refine g_istore (q := 197) B2 dL_law_195 rfl (by decide) (L' := [(6, .int (iI y9)), (5, .int (iI c9)), (0, .ref b), (1, .ref (yA Y 72)), (2, .ref (yA Y 82)), (3, .ref (yA Y 91)), (4, .int (iI i))]) rfl ?_
  refine g_aload_n (q := 198) B2 dL_law_197 rfl 4 rfl ?_
  refine g_callV (n := 82) (ty := tyX8) (q := 201) (As := []) (st := []) B2 dL_law_198 rfl (c_X8_thrown (Y := Y) (l := xL X) (S := S2)) eX8_thrown w992 (by decide) rfl rfl cls6 rfl rfl (Nat.le_of_ble_eq_true rfl) (g_kE ?_)
  rw [ht9]
  refine g_iload (q := 203) B2 dL_law_201 rfl 1 rfl ?_
  refine g_icmp_eq (t := 208) (q := 206) B2 dL_law_203 (by decide) rfl ⟨by omega, by omega⟩ ⟨by omega, by omega⟩ (fun _ => ?_) (fun z => absurd rfl z)
  refine g_iload (q := 210) B2 dL_law_208 rfl 1 rfl ?_
  refine g_if_ne (t := 225) (q := 213) B2 dL_law_210 (by decide) rfl ⟨by omega, by omega⟩ (fun _ => ?_) (fun cq => ?_)
  · refine g_goto (q := 1813) B2 dL_law_225 (by decide) ?_
    refine g_sub [2, 3, 4, 5, 6] rfl ?_
    exact kk S2 hR2
  · refine g_aload_n (q := 214) B2 dL_law_213 rfl 5 rfl ?_
    refine g_iconst (q := 215) B2 dL_law_214 rfl ?_
    refine g_lald (n := 91) (q := 216) B2 dL_law_215 rfl rfl rfl (by decide) (by decide) (by decide) ?_
    refine g_iload (q := 218) B2 dL_law_216 rfl 0 rfl ?_
    refine g_i2lN (q := 219) B2 dL_law_218 rfl ?_
    refine g_lcmp_eq (t := 225) (q := 223) B2 dL_law_219 dL_law_220 (by decide) rfl (by rw [(hx9 cq).1]; exact oI_rL _) (oI_rL _) (fun _ => ?_) (fun z => absurd (by rw [(hx9 cq).1, (hx9 cq).2]) z)
    refine g_goto (q := 1813) B2 dL_law_225 (by decide) ?_
    refine g_sub [2, 3, 4, 5, 6] rfl ?_
    exact kk S2 hR2
set_option maxHeartbeats 4000000 in
theorem lc_clearText {Y : gY} {X : gX} {S : SS} {b N : Nat} {xs : Nat → Int32} {i : Int} {ret : Option FieldType} (B : gB Y X "NecklaceSistersLaw" cL_law 7 ret 100) (hst : (xL X).stackTraces = false) (hX : gSc Y X b N xs) (h : RR S) (hi0 : 0 ≤ i) (hi4 : i + 4 ≤ N) (h1 : xCells X + 1 ≤ (xR X).cells) (h2 : xSlots X + 6 ≤ (xR X).slots) (kk : ∀ S9 : SS, RR S9 → gW Y X S9 1813 [(0, .ref b), (1, .ref (yA Y 72)), (2, .ref (yA Y 82)), (3, .ref (yA Y 91)), (4, .int (iI i))] []) : gW Y X S 228 [(0, .ref b), (1, .ref (yA Y 72)), (2, .ref (yA Y 82)), (3, .ref (yA Y 91)), (4, .int (iI i))] [] := by
  refine g_aload_n (q := 229) B dL_law_228 rfl 1 rfl ?_
  refine g_callV (n := 72) (ty := tyX7) (q := 232) (As := []) (st := []) B dL_law_229 rfl (c_X7_clearText (Y := Y) (l := xL X) (S := S) ) eX7_clearText w196 (by decide) rfl rfl cls5 rfl rfl (Nat.le_of_ble_eq_true rfl) (fun v S1 hv => ?_)
  have hk : keep S S1 := (fun m m8 _ => by rw [hv.2, us_a (by omega)])
  have Pq := pre_of h hk
  have hvv := hv.1
  subst hvv
  show gW Y X S1 232 [(0, .ref b), (1, .ref (yA Y 72)), (2, .ref (yA Y 82)), (3, .ref (yA Y 91)), (4, .int (iI i))] [.int (iI (S 73 0))]
  refine g_aload_n (q := 233) B dL_law_232 rfl 2 rfl ?_
  refine g_callV (n := 82) (ty := tyX8) (q := 236) (As := []) (st := [.int (iI (S 73 0))]) B dL_law_233 rfl (c_X8_clearText (Y := Y) (l := xL X) (S := S1) ) eX8_clearText w1008 (by decide) rfl rfl cls6 rfl rfl (Nat.le_of_ble_eq_true rfl) (fun w9 S2 hw9 => ?_)
  obtain ⟨x9, e1, e2, hR2⟩ := stq_clearText h hv hw9
  subst e2
  have ec : iI (S 73 0) = iI x9 := by injection (Option.some.inj e1)
  show gW Y X S2 236 [(0, .ref b), (1, .ref (yA Y 72)), (2, .ref (yA Y 82)), (3, .ref (yA Y 91)), (4, .int (iI i))] [.int (iI x9), .int (iI (S 73 0))]
  rw [ec, ← oI_iI x9]
  refine g_icmp_eq (t := 1813) (q := 239) B dL_law_236 (by decide) rfl (oI_in x9) (oI_in x9) (fun _ => ?_) (fun z => absurd rfl z)
  exact kk S2 hR2
set_option maxHeartbeats 4000000 in
theorem lc_errorPosition {Y : gY} {X : gX} {S : SS} {b N : Nat} {xs : Nat → Int32} {i : Int} {ret : Option FieldType} (B : gB Y X "NecklaceSistersLaw" cL_law 7 ret 100) (hst : (xL X).stackTraces = false) (hX : gSc Y X b N xs) (h : RR S) (hi0 : 0 ≤ i) (hi4 : i + 4 ≤ N) (h1 : xCells X + 1 ≤ (xR X).cells) (h2 : xSlots X + 6 ≤ (xR X).slots) (kk : ∀ S9 : SS, RR S9 → gW Y X S9 1813 [(0, .ref b), (1, .ref (yA Y 72)), (2, .ref (yA Y 82)), (3, .ref (yA Y 91)), (4, .int (iI i))] []) : gW Y X S 241 [(0, .ref b), (1, .ref (yA Y 72)), (2, .ref (yA Y 82)), (3, .ref (yA Y 91)), (4, .int (iI i))] [] := by
  refine g_aload_n (q := 242) B dL_law_241 rfl 1 rfl ?_
  refine g_callV (n := 72) (ty := tyX7) (q := 245) (As := []) (st := []) B dL_law_242 rfl (c_X7_errorPosition (Y := Y) (l := xL X) (S := S) h.2.1.2.2.1 h.2.1.2.2.2) eX7_errorPosition w200 (by decide) rfl rfl cls5 rfl rfl (Nat.le_of_ble_eq_true rfl) (fun v S1 hv => ?_)
  have hk : keep S S1 := (fun m _ _ => by rw [hv.2])
  have Pq := pre_of h hk
  have hvv := hv.1
  subst hvv
  show gW Y X S1 245 [(0, .ref b), (1, .ref (yA Y 72)), (2, .ref (yA Y 82)), (3, .ref (yA Y 91)), (4, .int (iI i))] [.int (iI (errF (S 74) (S 73 0)))]
  refine g_aload_n (q := 246) B dL_law_245 rfl 2 rfl ?_
  refine g_callV (n := 82) (ty := tyX8) (q := 249) (As := []) (st := [.int (iI (errF (S 74) (S 73 0)))]) B dL_law_246 rfl (c_X8_errorPosition (Y := Y) (l := xL X) (S := S1) Pq.2.2.1 Pq.2.2.2.1) eX8_errorPosition w1012 (by decide) rfl rfl cls6 rfl rfl (Nat.le_of_ble_eq_true rfl) (fun w9 S2 hw9 => ?_)
  obtain ⟨x9, e1, e2, hR2⟩ := stq_errorPosition h hv hw9
  subst e2
  have ec : iI (errF (S 74) (S 73 0)) = iI x9 := by injection (Option.some.inj e1)
  show gW Y X S2 249 [(0, .ref b), (1, .ref (yA Y 72)), (2, .ref (yA Y 82)), (3, .ref (yA Y 91)), (4, .int (iI i))] [.int (iI x9), .int (iI (errF (S 74) (S 73 0)))]
  rw [ec, ← oI_iI x9]
  refine g_icmp_eq (t := 1813) (q := 252) B dL_law_249 (by decide) rfl (oI_in x9) (oI_in x9) (fun _ => ?_) (fun z => absurd rfl z)
  exact kk S2 hR2
set_option maxHeartbeats 4000000 in
theorem lc_load {Y : gY} {X : gX} {S : SS} {b N : Nat} {xs : Nat → Int32} {i : Int} {ret : Option FieldType} (B : gB Y X "NecklaceSistersLaw" cL_law 7 ret 100) (hst : (xL X).stackTraces = false) (hX : gSc Y X b N xs) (h : RR S) (hi0 : 0 ≤ i) (hi4 : i + 4 ≤ N) (h1 : xCells X + 1 ≤ (xR X).cells) (h2 : xSlots X + 6 ≤ (xR X).slots) (kk : ∀ S9 : SS, RR S9 → gW Y (xUp X) S9 1813 [(0, .ref b), (1, .ref (yA Y 72)), (2, .ref (yA Y 82)), (3, .ref (yA Y 91)), (4, .int (iI i))] []) : gW Y X S 254 [(0, .ref b), (1, .ref (yA Y 72)), (2, .ref (yA Y 82)), (3, .ref (yA Y 91)), (4, .int (iI i))] [] := by
  refine g_aload_n (q := 255) B dL_law_254 rfl 1 rfl ?_
  refine g_aload_n (q := 256) B dL_law_255 rfl 3 rfl ?_
  refine g_callW (As := [.ref (yA Y 72), .ref (yA Y 91)]) (st := []) B dL_law_256 (c_L_load (Y := Y) (l := xL X) (S := S) hst h.2.1.2.2.1 h.2.1.2.2.2 h.1.2.1 rfl) eL_load w524 (by decide) rfl rfl (Nat.le_of_ble_eq_true rfl) h1 h2 (fun v S1 hv => ?_)
  have hk : keep S S1 := wP_keepc hv (fun S' _ z m m8 _ => z.2.2.2 m (by omega) (by omega) (by omega) (by omega)) (fun S' _ z => q_keep (by rw [z]; exact q_id h.2.2.2.1))
  have Pq := pre_of h hk
  have hvv := hv.1
  subst hvv
  have B2 := gB_up B h1 h2
  have hX2 : gSc Y (xUp X) b N xs := hX
  show gW Y (xUp X) S1 259 [(0, .ref b), (1, .ref (yA Y 72)), (2, .ref (yA Y 82)), (3, .ref (yA Y 91)), (4, .int (iI i))] [.int (iI (cd_e (errF (S 74) (S 73 0))))]
  refine g_istore (q := 261) B2 dL_law_259 rfl (by decide) (L' := [(5, .int (iI (cd_e (errF (S 74) (S 73 0))))), (0, .ref b), (1, .ref (yA Y 72)), (2, .ref (yA Y 82)), (3, .ref (yA Y 91)), (4, .int (iI i))]) rfl ?_
  refine g_aload_n (q := 262) B2 dL_law_261 rfl 3 rfl ?_
  refine g_callV (n := 82) (ty := tyX8) (q := 265) (As := []) (st := []) B2 dL_law_262 rfl (c_X8_load (Y := Y) (l := xL X) (S := S1) Pq.2.2.1 Pq.2.2.2.1) eX8_load w1101 (by decide) rfl rfl cls6 rfl rfl (Nat.le_of_ble_eq_true rfl) (fun w9 S2 hw9 => ?_)
  obtain ⟨c9, x9, y9, ec, ew, hR2, ht9, hc9, hx9⟩ := stp_q (st_load h  hv hw9)
  subst ew
  show gW Y (xUp X) S2 265 [(5, .int (iI (cd_e (errF (S 74) (S 73 0))))), (0, .ref b), (1, .ref (yA Y 72)), (2, .ref (yA Y 82)), (3, .ref (yA Y 91)), (4, .int (iI i))] [.int (iI y9)]
  rw [ec]
  refine g_istore (q := 267) B2 dL_law_265 rfl (by decide) (L' := [(6, .int (iI y9)), (5, .int (iI c9)), (0, .ref b), (1, .ref (yA Y 72)), (2, .ref (yA Y 82)), (3, .ref (yA Y 91)), (4, .int (iI i))]) rfl ?_
  refine g_aload_n (q := 268) B2 dL_law_267 rfl 4 rfl ?_
  refine g_callV (n := 82) (ty := tyX8) (q := 271) (As := []) (st := []) B2 dL_law_268 rfl (c_X8_thrown (Y := Y) (l := xL X) (S := S2)) eX8_thrown w992 (by decide) rfl rfl cls6 rfl rfl (Nat.le_of_ble_eq_true rfl) (g_kE ?_)
  rw [ht9]
  refine g_iload (q := 273) B2 dL_law_271 rfl 1 rfl ?_
  refine g_icmp_eq (t := 278) (q := 276) B2 dL_law_273 (by decide) rfl ⟨by omega, by omega⟩ ⟨by omega, by omega⟩ (fun _ => ?_) (fun z => absurd rfl z)
  refine g_iload (q := 280) B2 dL_law_278 rfl 1 rfl ?_
  refine g_if_ne (t := 295) (q := 283) B2 dL_law_280 (by decide) rfl ⟨by omega, by omega⟩ (fun _ => ?_) (fun cq => ?_)
  · refine g_goto (q := 1813) B2 dL_law_295 (by decide) ?_
    refine g_sub [2, 3, 4, 5, 6] rfl ?_
    exact kk S2 hR2
  · refine g_aload_n (q := 284) B2 dL_law_283 rfl 5 rfl ?_
    refine g_iconst (q := 285) B2 dL_law_284 rfl ?_
    refine g_lald (n := 91) (q := 286) B2 dL_law_285 rfl rfl rfl (by decide) (by decide) (by decide) ?_
    refine g_iload (q := 288) B2 dL_law_286 rfl 0 rfl ?_
    refine g_i2lN (q := 289) B2 dL_law_288 rfl ?_
    refine g_lcmp_eq (t := 295) (q := 293) B2 dL_law_289 dL_law_290 (by decide) rfl (by rw [(hx9 cq).1]; exact oI_rL _) (oI_rL _) (fun _ => ?_) (fun z => absurd (by rw [(hx9 cq).1, (hx9 cq).2]) z)
    refine g_goto (q := 1813) B2 dL_law_295 (by decide) ?_
    refine g_sub [2, 3, 4, 5, 6] rfl ?_
    exact kk S2 hR2
set_option maxHeartbeats 4000000 in
theorem lc_about {Y : gY} {X : gX} {S : SS} {b N : Nat} {xs : Nat → Int32} {i : Int} {ret : Option FieldType} (B : gB Y X "NecklaceSistersLaw" cL_law 7 ret 100) (hst : (xL X).stackTraces = false) (hX : gSc Y X b N xs) (h : RR S) (hi0 : 0 ≤ i) (hi4 : i + 4 ≤ N) (h1 : xCells X + 1 ≤ (xR X).cells) (h2 : xSlots X + 6 ≤ (xR X).slots) (kk : ∀ S9 : SS, RR S9 → gW Y (xUp X) S9 1813 [(0, .ref b), (1, .ref (yA Y 72)), (2, .ref (yA Y 82)), (3, .ref (yA Y 91)), (4, .int (iI i))] []) : gW Y X S 298 [(0, .ref b), (1, .ref (yA Y 72)), (2, .ref (yA Y 82)), (3, .ref (yA Y 91)), (4, .int (iI i))] [] := by
  refine g_aload_n (q := 299) B dL_law_298 rfl 1 rfl ?_
  refine g_aload_n (q := 300) B dL_law_299 rfl 0 rfl ?_
  refine g_iload (q := 302) B dL_law_300 rfl 4 rfl ?_
  refine g_iconst (q := 303) B dL_law_302 rfl ?_
  refine g_iadd (q := 304) B dL_law_303 rfl ?_
  refine g_sld (q := 305) B hX dL_law_304 rfl (by omega) (by omega) ?_
  refine g_aload_n (q := 306) B dL_law_305 rfl 3 rfl ?_
  refine g_callW (As := [.ref (yA Y 72), .int (iI (sI xs (i + 1))), .ref (yA Y 91)]) (st := []) B dL_law_306 (c_L_about (Y := Y) (l := xL X) (S := S) hst h.1.2.1 (sI xs (i + 1)) (sI_in _ _)) eL_about w605 (by decide) rfl rfl (Nat.le_of_ble_eq_true rfl) h1 h2 (fun v S1 hv => ?_)
  have hk : keep S S1 := wP_keepc hv (fun S' _ z => q_keep (by rw [z]; exact q_id h.2.2.2.1)) (fun S' _ z => q_keep (by rw [z]; exact q_id h.2.2.2.1))
  have Pq := pre_of h hk
  have hvv := hv.1
  subst hvv
  have B2 := gB_up B h1 h2
  have hX2 : gSc Y (xUp X) b N xs := hX
  show gW Y (xUp X) S1 309 [(0, .ref b), (1, .ref (yA Y 72)), (2, .ref (yA Y 82)), (3, .ref (yA Y 91)), (4, .int (iI i))] [.int (iI (cd_about (sI xs (i + 1))))]
  refine g_istore (q := 311) B2 dL_law_309 rfl (by decide) (L' := [(5, .int (iI (cd_about (sI xs (i + 1))))), (0, .ref b), (1, .ref (yA Y 72)), (2, .ref (yA Y 82)), (3, .ref (yA Y 91)), (4, .int (iI i))]) rfl ?_
  refine g_aload_n (q := 312) B2 dL_law_311 rfl 3 rfl ?_
  refine g_aload_n (q := 313) B2 dL_law_312 rfl 1 rfl ?_
  refine g_iload (q := 315) B2 dL_law_313 rfl 5 rfl ?_
  refine g_iconst (q := 316) B2 dL_law_315 rfl ?_
  refine g_iadd (q := 317) B2 dL_law_316 rfl ?_
  refine g_sld (q := 318) B2 hX2 dL_law_317 rfl (by omega) (by omega) ?_
  refine g_callV (n := 82) (ty := tyX8) (q := 321) (As := [.int (iI (sI xs (i + 1)))]) (st := []) B2 dL_law_318 rfl (c_X8_about (Y := Y) (l := xL X) (S := S1) Pq.1 (sI xs (i + 1)) (sI_in _ _)) eX8_about w1108 (by decide) rfl rfl cls6 rfl rfl (Nat.le_of_ble_eq_true rfl) (fun w9 S2 hw9 => ?_)
  obtain ⟨c9, x9, y9, ec, ew, hR2, ht9, hc9, hx9⟩ := stp_q (st_about h _ hv hw9)
  subst ew
  show gW Y (xUp X) S2 321 [(5, .int (iI (cd_about (sI xs (i + 1))))), (0, .ref b), (1, .ref (yA Y 72)), (2, .ref (yA Y 82)), (3, .ref (yA Y 91)), (4, .int (iI i))] [.int (iI y9)]
  rw [ec]
  refine g_istore (q := 323) B2 dL_law_321 rfl (by decide) (L' := [(6, .int (iI y9)), (5, .int (iI c9)), (0, .ref b), (1, .ref (yA Y 72)), (2, .ref (yA Y 82)), (3, .ref (yA Y 91)), (4, .int (iI i))]) rfl ?_
  refine g_aload_n (q := 324) B2 dL_law_323 rfl 4 rfl ?_
  refine g_callV (n := 82) (ty := tyX8) (q := 327) (As := []) (st := []) B2 dL_law_324 rfl (c_X8_thrown (Y := Y) (l := xL X) (S := S2)) eX8_thrown w992 (by decide) rfl rfl cls6 rfl rfl (Nat.le_of_ble_eq_true rfl) (g_kE ?_)
  rw [ht9]
  refine g_iload (q := 329) B2 dL_law_327 rfl 1 rfl ?_
  refine g_icmp_eq (t := 334) (q := 332) B2 dL_law_329 (by decide) rfl ⟨by omega, by omega⟩ ⟨by omega, by omega⟩ (fun _ => ?_) (fun z => absurd rfl z)
  refine g_iload (q := 336) B2 dL_law_334 rfl 1 rfl ?_
  refine g_if_ne (t := 351) (q := 339) B2 dL_law_336 (by decide) rfl ⟨by omega, by omega⟩ (fun _ => ?_) (fun cq => ?_)
  · refine g_goto (q := 1813) B2 dL_law_351 (by decide) ?_
    refine g_sub [2, 3, 4, 5, 6] rfl ?_
    exact kk S2 hR2
  · refine g_aload_n (q := 340) B2 dL_law_339 rfl 5 rfl ?_
    refine g_iconst (q := 341) B2 dL_law_340 rfl ?_
    refine g_lald (n := 91) (q := 342) B2 dL_law_341 rfl rfl rfl (by decide) (by decide) (by decide) ?_
    refine g_iload (q := 344) B2 dL_law_342 rfl 0 rfl ?_
    refine g_i2lN (q := 345) B2 dL_law_344 rfl ?_
    refine g_lcmp_eq (t := 351) (q := 349) B2 dL_law_345 dL_law_346 (by decide) rfl (by rw [(hx9 cq).1]; exact oI_rL _) (oI_rL _) (fun _ => ?_) (fun z => absurd (by rw [(hx9 cq).1, (hx9 cq).2]) z)
    refine g_goto (q := 1813) B2 dL_law_351 (by decide) ?_
    refine g_sub [2, 3, 4, 5, 6] rfl ?_
    exact kk S2 hR2
set_option maxHeartbeats 4000000 in
theorem lc_jewelOf {Y : gY} {X : gX} {S : SS} {b N : Nat} {xs : Nat → Int32} {i : Int} {ret : Option FieldType} (B : gB Y X "NecklaceSistersLaw" cL_law 7 ret 100) (hst : (xL X).stackTraces = false) (hX : gSc Y X b N xs) (h : RR S) (hi0 : 0 ≤ i) (hi4 : i + 4 ≤ N) (h1 : xCells X + 1 ≤ (xR X).cells) (h2 : xSlots X + 6 ≤ (xR X).slots) (kk : ∀ S9 : SS, RR S9 → gW Y (xUp X) S9 1813 [(0, .ref b), (1, .ref (yA Y 72)), (2, .ref (yA Y 82)), (3, .ref (yA Y 91)), (4, .int (iI i))] []) : gW Y X S 354 [(0, .ref b), (1, .ref (yA Y 72)), (2, .ref (yA Y 82)), (3, .ref (yA Y 91)), (4, .int (iI i))] [] := by
  refine g_aload_n (q := 355) B dL_law_354 rfl 1 rfl ?_
  refine g_aload_n (q := 356) B dL_law_355 rfl 0 rfl ?_
  refine g_iload (q := 358) B dL_law_356 rfl 4 rfl ?_
  refine g_iconst (q := 359) B dL_law_358 rfl ?_
  refine g_iadd (q := 360) B dL_law_359 rfl ?_
  refine g_sld (q := 361) B hX dL_law_360 rfl (by omega) (by omega) ?_
  refine g_aload_n (q := 362) B dL_law_361 rfl 0 rfl ?_
  refine g_iload (q := 364) B dL_law_362 rfl 4 rfl ?_
  refine g_iconst (q := 365) B dL_law_364 rfl ?_
  refine g_iadd (q := 366) B dL_law_365 rfl ?_
  refine g_sld (q := 367) B hX dL_law_366 rfl (by omega) (by omega) ?_
  refine g_aload_n (q := 368) B dL_law_367 rfl 3 rfl ?_
  refine g_callW (As := [.ref (yA Y 72), .int (iI (sI xs (i + 1))), .int (iI (sI xs (i + 2))), .ref (yA Y 91)]) (st := []) B dL_law_368 (c_L_jewelOf (Y := Y) (l := xL X) (S := S) hst h.1.2.1 (sI xs (i + 1)) (sI_in _ _) (sI xs (i + 2)) (sI_in _ _)) eL_jewelOf w627 (by decide) rfl rfl (Nat.le_of_ble_eq_true rfl) h1 h2 (fun v S1 hv => ?_)
  have hk : keep S S1 := wP_keepc hv (fun S' _ z => q_keep (by rw [z]; exact q_id h.2.2.2.1)) (fun S' _ z => q_keep (by rw [z]; exact q_id h.2.2.2.1))
  have Pq := pre_of h hk
  have hvv := hv.1
  subst hvv
  have B2 := gB_up B h1 h2
  have hX2 : gSc Y (xUp X) b N xs := hX
  show gW Y (xUp X) S1 371 [(0, .ref b), (1, .ref (yA Y 72)), (2, .ref (yA Y 82)), (3, .ref (yA Y 91)), (4, .int (iI i))] [.int (iI (cd_jewelOf (vw S 0) (sI xs (i + 1)) (sI xs (i + 2))))]
  refine g_istore (q := 373) B2 dL_law_371 rfl (by decide) (L' := [(5, .int (iI (cd_jewelOf (vw S 0) (sI xs (i + 1)) (sI xs (i + 2))))), (0, .ref b), (1, .ref (yA Y 72)), (2, .ref (yA Y 82)), (3, .ref (yA Y 91)), (4, .int (iI i))]) rfl ?_
  refine g_aload_n (q := 374) B2 dL_law_373 rfl 3 rfl ?_
  refine g_aload_n (q := 375) B2 dL_law_374 rfl 1 rfl ?_
  refine g_iload (q := 377) B2 dL_law_375 rfl 5 rfl ?_
  refine g_iconst (q := 378) B2 dL_law_377 rfl ?_
  refine g_iadd (q := 379) B2 dL_law_378 rfl ?_
  refine g_sld (q := 380) B2 hX2 dL_law_379 rfl (by omega) (by omega) ?_
  refine g_aload_n (q := 381) B2 dL_law_380 rfl 1 rfl ?_
  refine g_iload (q := 383) B2 dL_law_381 rfl 5 rfl ?_
  refine g_iconst (q := 384) B2 dL_law_383 rfl ?_
  refine g_iadd (q := 385) B2 dL_law_384 rfl ?_
  refine g_sld (q := 386) B2 hX2 dL_law_385 rfl (by omega) (by omega) ?_
  refine g_callV (n := 82) (ty := tyX8) (q := 389) (As := [.int (iI (sI xs (i + 1))), .int (iI (sI xs (i + 2)))]) (st := []) B2 dL_law_386 rfl (c_X8_jewelOf (Y := Y) (l := xL X) (S := S1) Pq.1 (sI xs (i + 1)) (sI_in _ _) (sI xs (i + 2)) (sI_in _ _)) eX8_jewelOf w1115 (by decide) rfl rfl cls6 rfl rfl (Nat.le_of_ble_eq_true rfl) (fun w9 S2 hw9 => ?_)
  obtain ⟨c9, x9, y9, ec, ew, hR2, ht9, hc9, hx9⟩ := stp_q (st_jewelOf h _ _ hv hw9)
  subst ew
  show gW Y (xUp X) S2 389 [(5, .int (iI (cd_jewelOf (vw S 0) (sI xs (i + 1)) (sI xs (i + 2))))), (0, .ref b), (1, .ref (yA Y 72)), (2, .ref (yA Y 82)), (3, .ref (yA Y 91)), (4, .int (iI i))] [.int (iI y9)]
  rw [ec]
  refine g_istore (q := 391) B2 dL_law_389 rfl (by decide) (L' := [(6, .int (iI y9)), (5, .int (iI c9)), (0, .ref b), (1, .ref (yA Y 72)), (2, .ref (yA Y 82)), (3, .ref (yA Y 91)), (4, .int (iI i))]) rfl ?_
  refine g_aload_n (q := 392) B2 dL_law_391 rfl 4 rfl ?_
  refine g_callV (n := 82) (ty := tyX8) (q := 395) (As := []) (st := []) B2 dL_law_392 rfl (c_X8_thrown (Y := Y) (l := xL X) (S := S2)) eX8_thrown w992 (by decide) rfl rfl cls6 rfl rfl (Nat.le_of_ble_eq_true rfl) (g_kE ?_)
  rw [ht9]
  refine g_iload (q := 397) B2 dL_law_395 rfl 1 rfl ?_
  refine g_icmp_eq (t := 402) (q := 400) B2 dL_law_397 (by decide) rfl ⟨by omega, by omega⟩ ⟨by omega, by omega⟩ (fun _ => ?_) (fun z => absurd rfl z)
  refine g_iload (q := 404) B2 dL_law_402 rfl 1 rfl ?_
  refine g_if_ne (t := 419) (q := 407) B2 dL_law_404 (by decide) rfl ⟨by omega, by omega⟩ (fun _ => ?_) (fun cq => ?_)
  · refine g_goto (q := 1813) B2 dL_law_419 (by decide) ?_
    refine g_sub [2, 3, 4, 5, 6] rfl ?_
    exact kk S2 hR2
  · refine g_aload_n (q := 408) B2 dL_law_407 rfl 5 rfl ?_
    refine g_iconst (q := 409) B2 dL_law_408 rfl ?_
    refine g_lald (n := 91) (q := 410) B2 dL_law_409 rfl rfl rfl (by decide) (by decide) (by decide) ?_
    refine g_iload (q := 412) B2 dL_law_410 rfl 0 rfl ?_
    refine g_i2lN (q := 413) B2 dL_law_412 rfl ?_
    refine g_lcmp_eq (t := 419) (q := 417) B2 dL_law_413 dL_law_414 (by decide) rfl (by rw [(hx9 cq).1]; exact oI_rL _) (oI_rL _) (fun _ => ?_) (fun z => absurd (by rw [(hx9 cq).1, (hx9 cq).2]) z)
    refine g_goto (q := 1813) B2 dL_law_419 (by decide) ?_
    refine g_sub [2, 3, 4, 5, 6] rfl ?_
    exact kk S2 hR2
set_option maxHeartbeats 4000000 in
theorem lc_placeOf {Y : gY} {X : gX} {S : SS} {b N : Nat} {xs : Nat → Int32} {i : Int} {ret : Option FieldType} (B : gB Y X "NecklaceSistersLaw" cL_law 7 ret 100) (hst : (xL X).stackTraces = false) (hX : gSc Y X b N xs) (h : RR S) (hi0 : 0 ≤ i) (hi4 : i + 4 ≤ N) (h1 : xCells X + 1 ≤ (xR X).cells) (h2 : xSlots X + 6 ≤ (xR X).slots) (kk : ∀ S9 : SS, RR S9 → gW Y (xUp X) S9 1813 [(0, .ref b), (1, .ref (yA Y 72)), (2, .ref (yA Y 82)), (3, .ref (yA Y 91)), (4, .int (iI i))] []) : gW Y X S 422 [(0, .ref b), (1, .ref (yA Y 72)), (2, .ref (yA Y 82)), (3, .ref (yA Y 91)), (4, .int (iI i))] [] := by
  refine g_aload_n (q := 423) B dL_law_422 rfl 1 rfl ?_
  refine g_aload_n (q := 424) B dL_law_423 rfl 0 rfl ?_
  refine g_iload (q := 426) B dL_law_424 rfl 4 rfl ?_
  refine g_iconst (q := 427) B dL_law_426 rfl ?_
  refine g_iadd (q := 428) B dL_law_427 rfl ?_
  refine g_sld (q := 429) B hX dL_law_428 rfl (by omega) (by omega) ?_
  refine g_aload_n (q := 430) B dL_law_429 rfl 0 rfl ?_
  refine g_iload (q := 432) B dL_law_430 rfl 4 rfl ?_
  refine g_iconst (q := 433) B dL_law_432 rfl ?_
  refine g_iadd (q := 434) B dL_law_433 rfl ?_
  refine g_sld (q := 435) B hX dL_law_434 rfl (by omega) (by omega) ?_
  refine g_aload_n (q := 436) B dL_law_435 rfl 3 rfl ?_
  refine g_callW (As := [.ref (yA Y 72), .int (iI (sI xs (i + 1))), .int (iI (sI xs (i + 2))), .ref (yA Y 91)]) (st := []) B dL_law_436 (c_L_placeOf (Y := Y) (l := xL X) (S := S) hst h.1.2.1 (sI xs (i + 1)) (sI_in _ _) (sI xs (i + 2)) (sI_in _ _)) eL_placeOf w659 (by decide) rfl rfl (Nat.le_of_ble_eq_true rfl) h1 h2 (fun v S1 hv => ?_)
  have hk : keep S S1 := wP_keepc hv (fun S' _ z => q_keep (by rw [z]; exact q_id h.2.2.2.1)) (fun S' _ z => q_keep (by rw [z]; exact q_id h.2.2.2.1))
  have Pq := pre_of h hk
  have hvv := hv.1
  subst hvv
  have B2 := gB_up B h1 h2
  have hX2 : gSc Y (xUp X) b N xs := hX
  show gW Y (xUp X) S1 439 [(0, .ref b), (1, .ref (yA Y 72)), (2, .ref (yA Y 82)), (3, .ref (yA Y 91)), (4, .int (iI i))] [.int (iI (cd_placeOf (vw S 0) (sI xs (i + 1)) (sI xs (i + 2))))]
  refine g_istore (q := 441) B2 dL_law_439 rfl (by decide) (L' := [(5, .int (iI (cd_placeOf (vw S 0) (sI xs (i + 1)) (sI xs (i + 2))))), (0, .ref b), (1, .ref (yA Y 72)), (2, .ref (yA Y 82)), (3, .ref (yA Y 91)), (4, .int (iI i))]) rfl ?_
  refine g_aload_n (q := 442) B2 dL_law_441 rfl 3 rfl ?_
  refine g_aload_n (q := 443) B2 dL_law_442 rfl 1 rfl ?_
  refine g_iload (q := 445) B2 dL_law_443 rfl 5 rfl ?_
  refine g_iconst (q := 446) B2 dL_law_445 rfl ?_
  refine g_iadd (q := 447) B2 dL_law_446 rfl ?_
  refine g_sld (q := 448) B2 hX2 dL_law_447 rfl (by omega) (by omega) ?_
  refine g_aload_n (q := 449) B2 dL_law_448 rfl 1 rfl ?_
  refine g_iload (q := 451) B2 dL_law_449 rfl 5 rfl ?_
  refine g_iconst (q := 452) B2 dL_law_451 rfl ?_
  refine g_iadd (q := 453) B2 dL_law_452 rfl ?_
  refine g_sld (q := 454) B2 hX2 dL_law_453 rfl (by omega) (by omega) ?_
  refine g_callV (n := 82) (ty := tyX8) (q := 457) (As := [.int (iI (sI xs (i + 1))), .int (iI (sI xs (i + 2)))]) (st := []) B2 dL_law_454 rfl (c_X8_placeOf (Y := Y) (l := xL X) (S := S1) Pq.1 (sI xs (i + 1)) (sI_in _ _) (sI xs (i + 2)) (sI_in _ _)) eX8_placeOf w1123 (by decide) rfl rfl cls6 rfl rfl (Nat.le_of_ble_eq_true rfl) (fun w9 S2 hw9 => ?_)
  obtain ⟨c9, x9, y9, ec, ew, hR2, ht9, hc9, hx9⟩ := stp_q (st_placeOf h _ _ hv hw9)
  subst ew
  show gW Y (xUp X) S2 457 [(5, .int (iI (cd_placeOf (vw S 0) (sI xs (i + 1)) (sI xs (i + 2))))), (0, .ref b), (1, .ref (yA Y 72)), (2, .ref (yA Y 82)), (3, .ref (yA Y 91)), (4, .int (iI i))] [.int (iI y9)]
  rw [ec]
  refine g_istore (q := 459) B2 dL_law_457 rfl (by decide) (L' := [(6, .int (iI y9)), (5, .int (iI c9)), (0, .ref b), (1, .ref (yA Y 72)), (2, .ref (yA Y 82)), (3, .ref (yA Y 91)), (4, .int (iI i))]) rfl ?_
  refine g_aload_n (q := 460) B2 dL_law_459 rfl 4 rfl ?_
  refine g_callV (n := 82) (ty := tyX8) (q := 463) (As := []) (st := []) B2 dL_law_460 rfl (c_X8_thrown (Y := Y) (l := xL X) (S := S2)) eX8_thrown w992 (by decide) rfl rfl cls6 rfl rfl (Nat.le_of_ble_eq_true rfl) (g_kE ?_)
  rw [ht9]
  refine g_iload (q := 465) B2 dL_law_463 rfl 1 rfl ?_
  refine g_icmp_eq (t := 470) (q := 468) B2 dL_law_465 (by decide) rfl ⟨by omega, by omega⟩ ⟨by omega, by omega⟩ (fun _ => ?_) (fun z => absurd rfl z)
  refine g_iload (q := 472) B2 dL_law_470 rfl 1 rfl ?_
  refine g_if_ne (t := 487) (q := 475) B2 dL_law_472 (by decide) rfl ⟨by omega, by omega⟩ (fun _ => ?_) (fun cq => ?_)
  · refine g_goto (q := 1813) B2 dL_law_487 (by decide) ?_
    refine g_sub [2, 3, 4, 5, 6] rfl ?_
    exact kk S2 hR2
  · refine g_aload_n (q := 476) B2 dL_law_475 rfl 5 rfl ?_
    refine g_iconst (q := 477) B2 dL_law_476 rfl ?_
    refine g_lald (n := 91) (q := 478) B2 dL_law_477 rfl rfl rfl (by decide) (by decide) (by decide) ?_
    refine g_iload (q := 480) B2 dL_law_478 rfl 0 rfl ?_
    refine g_i2lN (q := 481) B2 dL_law_480 rfl ?_
    refine g_lcmp_eq (t := 487) (q := 485) B2 dL_law_481 dL_law_482 (by decide) rfl (by rw [(hx9 cq).1]; exact oI_rL _) (oI_rL _) (fun _ => ?_) (fun z => absurd (by rw [(hx9 cq).1, (hx9 cq).2]) z)
    refine g_goto (q := 1813) B2 dL_law_487 (by decide) ?_
    refine g_sub [2, 3, 4, 5, 6] rfl ?_
    exact kk S2 hR2
set_option maxHeartbeats 4000000 in
theorem lc_runOf {Y : gY} {X : gX} {S : SS} {b N : Nat} {xs : Nat → Int32} {i : Int} {ret : Option FieldType} (B : gB Y X "NecklaceSistersLaw" cL_law 7 ret 100) (hst : (xL X).stackTraces = false) (hX : gSc Y X b N xs) (h : RR S) (hi0 : 0 ≤ i) (hi4 : i + 4 ≤ N) (h1 : xCells X + 1 ≤ (xR X).cells) (h2 : xSlots X + 6 ≤ (xR X).slots) (kk : ∀ S9 : SS, RR S9 → gW Y (xUp X) S9 1813 [(0, .ref b), (1, .ref (yA Y 72)), (2, .ref (yA Y 82)), (3, .ref (yA Y 91)), (4, .int (iI i))] []) : gW Y X S 490 [(0, .ref b), (1, .ref (yA Y 72)), (2, .ref (yA Y 82)), (3, .ref (yA Y 91)), (4, .int (iI i))] [] := by
  refine g_aload_n (q := 491) B dL_law_490 rfl 1 rfl ?_
  refine g_aload_n (q := 492) B dL_law_491 rfl 0 rfl ?_
  refine g_iload (q := 494) B dL_law_492 rfl 4 rfl ?_
  refine g_iconst (q := 495) B dL_law_494 rfl ?_
  refine g_iadd (q := 496) B dL_law_495 rfl ?_
  refine g_sld (q := 497) B hX dL_law_496 rfl (by omega) (by omega) ?_
  refine g_aload_n (q := 498) B dL_law_497 rfl 0 rfl ?_
  refine g_iload (q := 500) B dL_law_498 rfl 4 rfl ?_
  refine g_iconst (q := 501) B dL_law_500 rfl ?_
  refine g_iadd (q := 502) B dL_law_501 rfl ?_
  refine g_sld (q := 503) B hX dL_law_502 rfl (by omega) (by omega) ?_
  refine g_aload_n (q := 504) B dL_law_503 rfl 3 rfl ?_
  refine g_callW (As := [.ref (yA Y 72), .int (iI (sI xs (i + 1))), .int (iI (sI xs (i + 2))), .ref (yA Y 91)]) (st := []) B dL_law_504 (c_L_runOf (Y := Y) (l := xL X) (S := S) hst h.1.2.1 (sI xs (i + 1)) (sI_in _ _) (sI xs (i + 2)) (sI_in _ _)) eL_runOf w676 (by decide) rfl rfl (Nat.le_of_ble_eq_true rfl) h1 h2 (fun v S1 hv => ?_)
  have hk : keep S S1 := wP_keepc hv (fun S' _ z => q_keep (by rw [z]; exact q_id h.2.2.2.1)) (fun S' _ z => q_keep (by rw [z]; exact q_id h.2.2.2.1))
  have Pq := pre_of h hk
  have hvv := hv.1
  subst hvv
  have B2 := gB_up B h1 h2
  have hX2 : gSc Y (xUp X) b N xs := hX
  show gW Y (xUp X) S1 507 [(0, .ref b), (1, .ref (yA Y 72)), (2, .ref (yA Y 82)), (3, .ref (yA Y 91)), (4, .int (iI i))] [.int (iI (cd_runOf (vw S 0) (sI xs (i + 1)) (sI xs (i + 2))))]
  refine g_istore (q := 509) B2 dL_law_507 rfl (by decide) (L' := [(5, .int (iI (cd_runOf (vw S 0) (sI xs (i + 1)) (sI xs (i + 2))))), (0, .ref b), (1, .ref (yA Y 72)), (2, .ref (yA Y 82)), (3, .ref (yA Y 91)), (4, .int (iI i))]) rfl ?_
  refine g_aload_n (q := 510) B2 dL_law_509 rfl 3 rfl ?_
  refine g_aload_n (q := 511) B2 dL_law_510 rfl 1 rfl ?_
  refine g_iload (q := 513) B2 dL_law_511 rfl 5 rfl ?_
  refine g_iconst (q := 514) B2 dL_law_513 rfl ?_
  refine g_iadd (q := 515) B2 dL_law_514 rfl ?_
  refine g_sld (q := 516) B2 hX2 dL_law_515 rfl (by omega) (by omega) ?_
  refine g_aload_n (q := 517) B2 dL_law_516 rfl 1 rfl ?_
  refine g_iload (q := 519) B2 dL_law_517 rfl 5 rfl ?_
  refine g_iconst (q := 520) B2 dL_law_519 rfl ?_
  refine g_iadd (q := 521) B2 dL_law_520 rfl ?_
  refine g_sld (q := 522) B2 hX2 dL_law_521 rfl (by omega) (by omega) ?_
  refine g_callV (n := 82) (ty := tyX8) (q := 525) (As := [.int (iI (sI xs (i + 1))), .int (iI (sI xs (i + 2)))]) (st := []) B2 dL_law_522 rfl (c_X8_runOf (Y := Y) (l := xL X) (S := S1) Pq.1 (sI xs (i + 1)) (sI_in _ _) (sI xs (i + 2)) (sI_in _ _)) eX8_runOf w1127 (by decide) rfl rfl cls6 rfl rfl (Nat.le_of_ble_eq_true rfl) (fun w9 S2 hw9 => ?_)
  obtain ⟨c9, x9, y9, ec, ew, hR2, ht9, hc9, hx9⟩ := stp_q (st_runOf h _ _ hv hw9)
  subst ew
  show gW Y (xUp X) S2 525 [(5, .int (iI (cd_runOf (vw S 0) (sI xs (i + 1)) (sI xs (i + 2))))), (0, .ref b), (1, .ref (yA Y 72)), (2, .ref (yA Y 82)), (3, .ref (yA Y 91)), (4, .int (iI i))] [.int (iI y9)]
  rw [ec]
  refine g_istore (q := 527) B2 dL_law_525 rfl (by decide) (L' := [(6, .int (iI y9)), (5, .int (iI c9)), (0, .ref b), (1, .ref (yA Y 72)), (2, .ref (yA Y 82)), (3, .ref (yA Y 91)), (4, .int (iI i))]) rfl ?_
  refine g_aload_n (q := 528) B2 dL_law_527 rfl 4 rfl ?_
  refine g_callV (n := 82) (ty := tyX8) (q := 531) (As := []) (st := []) B2 dL_law_528 rfl (c_X8_thrown (Y := Y) (l := xL X) (S := S2)) eX8_thrown w992 (by decide) rfl rfl cls6 rfl rfl (Nat.le_of_ble_eq_true rfl) (g_kE ?_)
  rw [ht9]
  refine g_iload (q := 533) B2 dL_law_531 rfl 1 rfl ?_
  refine g_icmp_eq (t := 538) (q := 536) B2 dL_law_533 (by decide) rfl ⟨by omega, by omega⟩ ⟨by omega, by omega⟩ (fun _ => ?_) (fun z => absurd rfl z)
  refine g_iload (q := 540) B2 dL_law_538 rfl 1 rfl ?_
  refine g_if_ne (t := 555) (q := 543) B2 dL_law_540 (by decide) rfl ⟨by omega, by omega⟩ (fun _ => ?_) (fun cq => ?_)
  · refine g_goto (q := 1813) B2 dL_law_555 (by decide) ?_
    refine g_sub [2, 3, 4, 5, 6] rfl ?_
    exact kk S2 hR2
  · refine g_aload_n (q := 544) B2 dL_law_543 rfl 5 rfl ?_
    refine g_iconst (q := 545) B2 dL_law_544 rfl ?_
    refine g_lald (n := 91) (q := 546) B2 dL_law_545 rfl rfl rfl (by decide) (by decide) (by decide) ?_
    refine g_iload (q := 548) B2 dL_law_546 rfl 0 rfl ?_
    refine g_i2lN (q := 549) B2 dL_law_548 rfl ?_
    refine g_lcmp_eq (t := 555) (q := 553) B2 dL_law_549 dL_law_550 (by decide) rfl (by rw [(hx9 cq).1]; exact oI_rL _) (oI_rL _) (fun _ => ?_) (fun z => absurd (by rw [(hx9 cq).1, (hx9 cq).2]) z)
    refine g_goto (q := 1813) B2 dL_law_555 (by decide) ?_
    refine g_sub [2, 3, 4, 5, 6] rfl ?_
    exact kk S2 hR2
set_option maxHeartbeats 4000000 in
theorem lc_has {Y : gY} {X : gX} {S : SS} {b N : Nat} {xs : Nat → Int32} {i : Int} {ret : Option FieldType} (B : gB Y X "NecklaceSistersLaw" cL_law 7 ret 100) (hst : (xL X).stackTraces = false) (hX : gSc Y X b N xs) (h : RR S) (hi0 : 0 ≤ i) (hi4 : i + 4 ≤ N) (h1 : xCells X + 1 ≤ (xR X).cells) (h2 : xSlots X + 6 ≤ (xR X).slots) (kk : ∀ S9 : SS, RR S9 → gW Y (xUp X) S9 1813 [(0, .ref b), (1, .ref (yA Y 72)), (2, .ref (yA Y 82)), (3, .ref (yA Y 91)), (4, .int (iI i))] []) : gW Y X S 558 [(0, .ref b), (1, .ref (yA Y 72)), (2, .ref (yA Y 82)), (3, .ref (yA Y 91)), (4, .int (iI i))] [] := by
  refine g_aload_n (q := 559) B dL_law_558 rfl 1 rfl ?_
  refine g_aload_n (q := 560) B dL_law_559 rfl 0 rfl ?_
  refine g_iload (q := 562) B dL_law_560 rfl 4 rfl ?_
  refine g_iconst (q := 563) B dL_law_562 rfl ?_
  refine g_iadd (q := 564) B dL_law_563 rfl ?_
  refine g_sld (q := 565) B hX dL_law_564 rfl (by omega) (by omega) ?_
  refine g_aload_n (q := 566) B dL_law_565 rfl 0 rfl ?_
  refine g_iload (q := 568) B dL_law_566 rfl 4 rfl ?_
  refine g_iconst (q := 569) B dL_law_568 rfl ?_
  refine g_iadd (q := 570) B dL_law_569 rfl ?_
  refine g_sld (q := 571) B hX dL_law_570 rfl (by omega) (by omega) ?_
  refine g_aload_n (q := 572) B dL_law_571 rfl 3 rfl ?_
  refine g_callW (As := [.ref (yA Y 72), .int (iI (sI xs (i + 1))), .int (iI (sI xs (i + 2))), .ref (yA Y 91)]) (st := []) B dL_law_572 (c_L_has (Y := Y) (l := xL X) (S := S) hst h.1.2.1 (sI xs (i + 1)) (sI_in _ _) (sI xs (i + 2)) (sI_in _ _)) eL_has w694 (by decide) rfl rfl (Nat.le_of_ble_eq_true rfl) h1 h2 (fun v S1 hv => ?_)
  have hk : keep S S1 := wP_keepc hv (fun S' _ z => q_keep (by rw [z]; exact q_id h.2.2.2.1)) (fun S' _ z => q_keep (by rw [z]; exact q_id h.2.2.2.1))
  have Pq := pre_of h hk
  have hvv := hv.1
  subst hvv
  have B2 := gB_up B h1 h2
  have hX2 : gSc Y (xUp X) b N xs := hX
  show gW Y (xUp X) S1 575 [(0, .ref b), (1, .ref (yA Y 72)), (2, .ref (yA Y 82)), (3, .ref (yA Y 91)), (4, .int (iI i))] [.int (iI (cd_has (sI xs (i + 1)) (sI xs (i + 2))))]
  refine g_istore (q := 577) B2 dL_law_575 rfl (by decide) (L' := [(5, .int (iI (cd_has (sI xs (i + 1)) (sI xs (i + 2))))), (0, .ref b), (1, .ref (yA Y 72)), (2, .ref (yA Y 82)), (3, .ref (yA Y 91)), (4, .int (iI i))]) rfl ?_
  refine g_aload_n (q := 578) B2 dL_law_577 rfl 3 rfl ?_
  refine g_aload_n (q := 579) B2 dL_law_578 rfl 1 rfl ?_
  refine g_iload (q := 581) B2 dL_law_579 rfl 5 rfl ?_
  refine g_iconst (q := 582) B2 dL_law_581 rfl ?_
  refine g_iadd (q := 583) B2 dL_law_582 rfl ?_
  refine g_sld (q := 584) B2 hX2 dL_law_583 rfl (by omega) (by omega) ?_
  refine g_aload_n (q := 585) B2 dL_law_584 rfl 1 rfl ?_
  refine g_iload (q := 587) B2 dL_law_585 rfl 5 rfl ?_
  refine g_iconst (q := 588) B2 dL_law_587 rfl ?_
  refine g_iadd (q := 589) B2 dL_law_588 rfl ?_
  refine g_sld (q := 590) B2 hX2 dL_law_589 rfl (by omega) (by omega) ?_
  refine g_callV (n := 82) (ty := tyX8) (q := 593) (As := [.int (iI (sI xs (i + 1))), .int (iI (sI xs (i + 2)))]) (st := []) B2 dL_law_590 rfl (c_X8_has (Y := Y) (l := xL X) (S := S1) Pq.1 (sI xs (i + 1)) (sI_in _ _) (sI xs (i + 2)) (sI_in _ _)) eX8_has w1134 (by decide) rfl rfl cls6 rfl rfl (Nat.le_of_ble_eq_true rfl) (fun w9 S2 hw9 => ?_)
  obtain ⟨c9, x9, y9, ec, ew, hR2, ht9, hc9, hx9⟩ := stp_q (st_has h _ _ hv hw9)
  subst ew
  show gW Y (xUp X) S2 593 [(5, .int (iI (cd_has (sI xs (i + 1)) (sI xs (i + 2))))), (0, .ref b), (1, .ref (yA Y 72)), (2, .ref (yA Y 82)), (3, .ref (yA Y 91)), (4, .int (iI i))] [.int (iI y9)]
  rw [ec]
  refine g_istore (q := 595) B2 dL_law_593 rfl (by decide) (L' := [(6, .int (iI y9)), (5, .int (iI c9)), (0, .ref b), (1, .ref (yA Y 72)), (2, .ref (yA Y 82)), (3, .ref (yA Y 91)), (4, .int (iI i))]) rfl ?_
  refine g_aload_n (q := 596) B2 dL_law_595 rfl 4 rfl ?_
  refine g_callV (n := 82) (ty := tyX8) (q := 599) (As := []) (st := []) B2 dL_law_596 rfl (c_X8_thrown (Y := Y) (l := xL X) (S := S2)) eX8_thrown w992 (by decide) rfl rfl cls6 rfl rfl (Nat.le_of_ble_eq_true rfl) (g_kE ?_)
  rw [ht9]
  refine g_iload (q := 601) B2 dL_law_599 rfl 1 rfl ?_
  refine g_icmp_eq (t := 606) (q := 604) B2 dL_law_601 (by decide) rfl ⟨by omega, by omega⟩ ⟨by omega, by omega⟩ (fun _ => ?_) (fun z => absurd rfl z)
  refine g_iload (q := 608) B2 dL_law_606 rfl 1 rfl ?_
  refine g_if_ne (t := 623) (q := 611) B2 dL_law_608 (by decide) rfl ⟨by omega, by omega⟩ (fun _ => ?_) (fun cq => ?_)
  · refine g_goto (q := 1813) B2 dL_law_623 (by decide) ?_
    refine g_sub [2, 3, 4, 5, 6] rfl ?_
    exact kk S2 hR2
  · refine g_aload_n (q := 612) B2 dL_law_611 rfl 5 rfl ?_
    refine g_iconst (q := 613) B2 dL_law_612 rfl ?_
    refine g_lald (n := 91) (q := 614) B2 dL_law_613 rfl rfl rfl (by decide) (by decide) (by decide) ?_
    refine g_iload (q := 616) B2 dL_law_614 rfl 0 rfl ?_
    refine g_i2lN (q := 617) B2 dL_law_616 rfl ?_
    refine g_lcmp_eq (t := 623) (q := 621) B2 dL_law_617 dL_law_618 (by decide) rfl (by rw [(hx9 cq).1]; exact oI_rL _) (oI_rL _) (fun _ => ?_) (fun z => absurd (by rw [(hx9 cq).1, (hx9 cq).2]) z)
    refine g_goto (q := 1813) B2 dL_law_623 (by decide) ?_
    refine g_sub [2, 3, 4, 5, 6] rfl ?_
    exact kk S2 hR2
set_option maxHeartbeats 4000000 in
theorem lc_jewel {Y : gY} {X : gX} {S : SS} {b N : Nat} {xs : Nat → Int32} {i : Int} {ret : Option FieldType} (B : gB Y X "NecklaceSistersLaw" cL_law 7 ret 100) (hst : (xL X).stackTraces = false) (hX : gSc Y X b N xs) (h : RR S) (hi0 : 0 ≤ i) (hi4 : i + 4 ≤ N) (h1 : xCells X + 1 ≤ (xR X).cells) (h2 : xSlots X + 6 ≤ (xR X).slots) (kk : ∀ S9 : SS, RR S9 → gW Y (xUp X) S9 1813 [(0, .ref b), (1, .ref (yA Y 72)), (2, .ref (yA Y 82)), (3, .ref (yA Y 91)), (4, .int (iI i))] []) : gW Y X S 626 [(0, .ref b), (1, .ref (yA Y 72)), (2, .ref (yA Y 82)), (3, .ref (yA Y 91)), (4, .int (iI i))] [] := by
  refine g_aload_n (q := 627) B dL_law_626 rfl 1 rfl ?_
  refine g_aload_n (q := 628) B dL_law_627 rfl 0 rfl ?_
  refine g_iload (q := 630) B dL_law_628 rfl 4 rfl ?_
  refine g_iconst (q := 631) B dL_law_630 rfl ?_
  refine g_iadd (q := 632) B dL_law_631 rfl ?_
  refine g_sld (q := 633) B hX dL_law_632 rfl (by omega) (by omega) ?_
  refine g_aload_n (q := 634) B dL_law_633 rfl 0 rfl ?_
  refine g_iload (q := 636) B dL_law_634 rfl 4 rfl ?_
  refine g_iconst (q := 637) B dL_law_636 rfl ?_
  refine g_iadd (q := 638) B dL_law_637 rfl ?_
  refine g_sld (q := 639) B hX dL_law_638 rfl (by omega) (by omega) ?_
  refine g_aload_n (q := 640) B dL_law_639 rfl 3 rfl ?_
  refine g_callW (As := [.ref (yA Y 72), .int (iI (sI xs (i + 1))), .int (iI (sI xs (i + 2))), .ref (yA Y 91)]) (st := []) B dL_law_640 (c_L_jewel (Y := Y) (l := xL X) (S := S) hst h.1.2.1 h.2.2.1.1 h.2.2.1.2.1 (sI xs (i + 1)) (sI_in _ _) (sI xs (i + 2)) (sI_in _ _)) eL_jewel w704 (by decide) rfl rfl (Nat.le_of_ble_eq_true rfl) h1 h2 (fun v S1 hv => ?_)
  have hk : keep S S1 := wP_keepc hv (fun S' _ z => h_keep (h_ch z h.2.2.2.1 h.2.2.1.1)) (fun S' _ z => q_keep (by rw [z]; exact q_id h.2.2.2.1))
  have Pq := pre_of h hk
  have hvv := hv.1
  subst hvv
  have B2 := gB_up B h1 h2
  have hX2 : gSc Y (xUp X) b N xs := hX
  show gW Y (xUp X) S1 643 [(0, .ref b), (1, .ref (yA Y 72)), (2, .ref (yA Y 82)), (3, .ref (yA Y 91)), (4, .int (iI i))] [.int (iI (cd_jewel (vw S 0) (sI xs (i + 1)) (sI xs (i + 2))))]
  refine g_istore (q := 645) B2 dL_law_643 rfl (by decide) (L' := [(5, .int (iI (cd_jewel (vw S 0) (sI xs (i + 1)) (sI xs (i + 2))))), (0, .ref b), (1, .ref (yA Y 72)), (2, .ref (yA Y 82)), (3, .ref (yA Y 91)), (4, .int (iI i))]) rfl ?_
  refine g_aload_n (q := 646) B2 dL_law_645 rfl 3 rfl ?_
  refine g_aload_n (q := 647) B2 dL_law_646 rfl 1 rfl ?_
  refine g_iload (q := 649) B2 dL_law_647 rfl 5 rfl ?_
  refine g_iconst (q := 650) B2 dL_law_649 rfl ?_
  refine g_iadd (q := 651) B2 dL_law_650 rfl ?_
  refine g_sld (q := 652) B2 hX2 dL_law_651 rfl (by omega) (by omega) ?_
  refine g_aload_n (q := 653) B2 dL_law_652 rfl 1 rfl ?_
  refine g_iload (q := 655) B2 dL_law_653 rfl 5 rfl ?_
  refine g_iconst (q := 656) B2 dL_law_655 rfl ?_
  refine g_iadd (q := 657) B2 dL_law_656 rfl ?_
  refine g_sld (q := 658) B2 hX2 dL_law_657 rfl (by omega) (by omega) ?_
  refine g_callV (n := 82) (ty := tyX8) (q := 661) (As := [.int (iI (sI xs (i + 1))), .int (iI (sI xs (i + 2)))]) (st := []) B2 dL_law_658 rfl (c_X8_jewel (Y := Y) (l := xL X) (S := S1) Pq.1 Pq.2.1 (sI xs (i + 1)) (sI_in _ _) (sI xs (i + 2)) (sI_in _ _)) eX8_jewel w1138 (by decide) rfl rfl cls6 rfl rfl (Nat.le_of_ble_eq_true rfl) (fun w9 S2 hw9 => ?_)
  obtain ⟨c9, x9, y9, ec, ew, hR2, ht9, hc9, hx9⟩ := stp_q (st_jewel h _ _ hv hw9)
  subst ew
  show gW Y (xUp X) S2 661 [(5, .int (iI (cd_jewel (vw S 0) (sI xs (i + 1)) (sI xs (i + 2))))), (0, .ref b), (1, .ref (yA Y 72)), (2, .ref (yA Y 82)), (3, .ref (yA Y 91)), (4, .int (iI i))] [.int (iI y9)]
  rw [ec]
  refine g_istore (q := 663) B2 dL_law_661 rfl (by decide) (L' := [(6, .int (iI y9)), (5, .int (iI c9)), (0, .ref b), (1, .ref (yA Y 72)), (2, .ref (yA Y 82)), (3, .ref (yA Y 91)), (4, .int (iI i))]) rfl ?_
  refine g_aload_n (q := 664) B2 dL_law_663 rfl 4 rfl ?_
  refine g_callV (n := 82) (ty := tyX8) (q := 667) (As := []) (st := []) B2 dL_law_664 rfl (c_X8_thrown (Y := Y) (l := xL X) (S := S2)) eX8_thrown w992 (by decide) rfl rfl cls6 rfl rfl (Nat.le_of_ble_eq_true rfl) (g_kE ?_)
  rw [ht9]
  refine g_iload (q := 669) B2 dL_law_667 rfl 1 rfl ?_
  refine g_icmp_eq (t := 674) (q := 672) B2 dL_law_669 (by decide) rfl ⟨by omega, by omega⟩ ⟨by omega, by omega⟩ (fun _ => ?_) (fun z => absurd rfl z)
  refine g_iload (q := 676) B2 dL_law_674 rfl 1 rfl ?_
  refine g_if_ne (t := 691) (q := 679) B2 dL_law_676 (by decide) rfl ⟨by omega, by omega⟩ (fun _ => ?_) (fun cq => ?_)
  · refine g_goto (q := 1813) B2 dL_law_691 (by decide) ?_
    refine g_sub [2, 3, 4, 5, 6] rfl ?_
    exact kk S2 hR2
  · refine g_aload_n (q := 680) B2 dL_law_679 rfl 5 rfl ?_
    refine g_iconst (q := 681) B2 dL_law_680 rfl ?_
    refine g_lald (n := 91) (q := 682) B2 dL_law_681 rfl rfl rfl (by decide) (by decide) (by decide) ?_
    refine g_iload (q := 684) B2 dL_law_682 rfl 0 rfl ?_
    refine g_i2lN (q := 685) B2 dL_law_684 rfl ?_
    refine g_lcmp_eq (t := 691) (q := 689) B2 dL_law_685 dL_law_686 (by decide) rfl (by rw [(hx9 cq).1]; exact oI_rL _) (oI_rL _) (fun _ => ?_) (fun z => absurd (by rw [(hx9 cq).1, (hx9 cq).2]) z)
    refine g_goto (q := 1813) B2 dL_law_691 (by decide) ?_
    refine g_sub [2, 3, 4, 5, 6] rfl ?_
    exact kk S2 hR2
set_option maxHeartbeats 4000000 in
theorem lc_exchange {Y : gY} {X : gX} {S : SS} {b N : Nat} {xs : Nat → Int32} {i : Int} {ret : Option FieldType} (B : gB Y X "NecklaceSistersLaw" cL_law 7 ret 100) (hst : (xL X).stackTraces = false) (hX : gSc Y X b N xs) (h : RR S) (hi0 : 0 ≤ i) (hi4 : i + 4 ≤ N) (h1 : xCells X + 1 ≤ (xR X).cells) (h2 : xSlots X + 6 ≤ (xR X).slots) (kk : ∀ S9 : SS, RR S9 → gW Y (xUp X) S9 1813 [(0, .ref b), (1, .ref (yA Y 72)), (2, .ref (yA Y 82)), (3, .ref (yA Y 91)), (4, .int (iI i))] []) : gW Y X S 694 [(0, .ref b), (1, .ref (yA Y 72)), (2, .ref (yA Y 82)), (3, .ref (yA Y 91)), (4, .int (iI i))] [] := by
  refine g_aload_n (q := 695) B dL_law_694 rfl 1 rfl ?_
  refine g_aload_n (q := 696) B dL_law_695 rfl 0 rfl ?_
  refine g_iload (q := 698) B dL_law_696 rfl 4 rfl ?_
  refine g_iconst (q := 699) B dL_law_698 rfl ?_
  refine g_iadd (q := 700) B dL_law_699 rfl ?_
  refine g_sld (q := 701) B hX dL_law_700 rfl (by omega) (by omega) ?_
  refine g_aload_n (q := 702) B dL_law_701 rfl 0 rfl ?_
  refine g_iload (q := 704) B dL_law_702 rfl 4 rfl ?_
  refine g_iconst (q := 705) B dL_law_704 rfl ?_
  refine g_iadd (q := 706) B dL_law_705 rfl ?_
  refine g_sld (q := 707) B hX dL_law_706 rfl (by omega) (by omega) ?_
  refine g_aload_n (q := 708) B dL_law_707 rfl 3 rfl ?_
  refine g_callW (As := [.ref (yA Y 72), .int (iI (sI xs (i + 1))), .int (iI (sI xs (i + 2))), .ref (yA Y 91)]) (st := []) B dL_law_708 (c_L_exchange (Y := Y) (l := xL X) (S := S) hst h.1.2.1 h.2.2.1.1 h.2.2.1.2.1 (sI xs (i + 1)) (sI_in _ _) (sI xs (i + 2)) (sI_in _ _)) eL_exchange w716 (by decide) rfl rfl (Nat.le_of_ble_eq_true rfl) h1 h2 (fun v S1 hv => ?_)
  have hk : keep S S1 := wP_keepc hv (fun S' _ z => h_keep (h_ch z h.2.2.2.1 h.2.2.1.1)) (fun S' _ z => q_keep (by rw [z]; exact q_id h.2.2.2.1))
  have Pq := pre_of h hk
  have hvv := hv.1
  subst hvv
  have B2 := gB_up B h1 h2
  have hX2 : gSc Y (xUp X) b N xs := hX
  show gW Y (xUp X) S1 711 [(0, .ref b), (1, .ref (yA Y 72)), (2, .ref (yA Y 82)), (3, .ref (yA Y 91)), (4, .int (iI i))] [.int (iI (cd_exchange (vw S 0) (sI xs (i + 1)) (sI xs (i + 2))))]
  refine g_istore (q := 713) B2 dL_law_711 rfl (by decide) (L' := [(5, .int (iI (cd_exchange (vw S 0) (sI xs (i + 1)) (sI xs (i + 2))))), (0, .ref b), (1, .ref (yA Y 72)), (2, .ref (yA Y 82)), (3, .ref (yA Y 91)), (4, .int (iI i))]) rfl ?_
  refine g_aload_n (q := 714) B2 dL_law_713 rfl 3 rfl ?_
  refine g_aload_n (q := 715) B2 dL_law_714 rfl 1 rfl ?_
  refine g_iload (q := 717) B2 dL_law_715 rfl 5 rfl ?_
  refine g_iconst (q := 718) B2 dL_law_717 rfl ?_
  refine g_iadd (q := 719) B2 dL_law_718 rfl ?_
  refine g_sld (q := 720) B2 hX2 dL_law_719 rfl (by omega) (by omega) ?_
  refine g_aload_n (q := 721) B2 dL_law_720 rfl 1 rfl ?_
  refine g_iload (q := 723) B2 dL_law_721 rfl 5 rfl ?_
  refine g_iconst (q := 724) B2 dL_law_723 rfl ?_
  refine g_iadd (q := 725) B2 dL_law_724 rfl ?_
  refine g_sld (q := 726) B2 hX2 dL_law_725 rfl (by omega) (by omega) ?_
  refine g_callV (n := 82) (ty := tyX8) (q := 729) (As := [.int (iI (sI xs (i + 1))), .int (iI (sI xs (i + 2)))]) (st := []) B2 dL_law_726 rfl (c_X8_exchange (Y := Y) (l := xL X) (S := S1) Pq.1 Pq.2.1 (sI xs (i + 1)) (sI_in _ _) (sI xs (i + 2)) (sI_in _ _)) eX8_exchange w1146 (by decide) rfl rfl cls6 rfl rfl (Nat.le_of_ble_eq_true rfl) (fun w9 S2 hw9 => ?_)
  obtain ⟨c9, x9, y9, ec, ew, hR2, ht9, hc9, hx9⟩ := stp_q (st_exchange h _ _ hv hw9)
  subst ew
  show gW Y (xUp X) S2 729 [(5, .int (iI (cd_exchange (vw S 0) (sI xs (i + 1)) (sI xs (i + 2))))), (0, .ref b), (1, .ref (yA Y 72)), (2, .ref (yA Y 82)), (3, .ref (yA Y 91)), (4, .int (iI i))] [.int (iI y9)]
  rw [ec]
  refine g_istore (q := 731) B2 dL_law_729 rfl (by decide) (L' := [(6, .int (iI y9)), (5, .int (iI c9)), (0, .ref b), (1, .ref (yA Y 72)), (2, .ref (yA Y 82)), (3, .ref (yA Y 91)), (4, .int (iI i))]) rfl ?_
  refine g_aload_n (q := 732) B2 dL_law_731 rfl 4 rfl ?_
  refine g_callV (n := 82) (ty := tyX8) (q := 735) (As := []) (st := []) B2 dL_law_732 rfl (c_X8_thrown (Y := Y) (l := xL X) (S := S2)) eX8_thrown w992 (by decide) rfl rfl cls6 rfl rfl (Nat.le_of_ble_eq_true rfl) (g_kE ?_)
  rw [ht9]
  refine g_iload (q := 737) B2 dL_law_735 rfl 1 rfl ?_
  refine g_icmp_eq (t := 742) (q := 740) B2 dL_law_737 (by decide) rfl ⟨by omega, by omega⟩ ⟨by omega, by omega⟩ (fun _ => ?_) (fun z => absurd rfl z)
  refine g_iload (q := 744) B2 dL_law_742 rfl 1 rfl ?_
  refine g_if_ne (t := 759) (q := 747) B2 dL_law_744 (by decide) rfl ⟨by omega, by omega⟩ (fun _ => ?_) (fun cq => ?_)
  · refine g_goto (q := 1813) B2 dL_law_759 (by decide) ?_
    refine g_sub [2, 3, 4, 5, 6] rfl ?_
    exact kk S2 hR2
  · refine g_aload_n (q := 748) B2 dL_law_747 rfl 5 rfl ?_
    refine g_iconst (q := 749) B2 dL_law_748 rfl ?_
    refine g_lald (n := 91) (q := 750) B2 dL_law_749 rfl rfl rfl (by decide) (by decide) (by decide) ?_
    refine g_iload (q := 752) B2 dL_law_750 rfl 0 rfl ?_
    refine g_i2lN (q := 753) B2 dL_law_752 rfl ?_
    refine g_lcmp_eq (t := 759) (q := 757) B2 dL_law_753 dL_law_754 (by decide) rfl (by rw [(hx9 cq).1]; exact oI_rL _) (oI_rL _) (fun _ => ?_) (fun z => absurd (by rw [(hx9 cq).1, (hx9 cq).2]) z)
    refine g_goto (q := 1813) B2 dL_law_759 (by decide) ?_
    refine g_sub [2, 3, 4, 5, 6] rfl ?_
    exact kk S2 hR2
set_option maxHeartbeats 4000000 in
theorem lc_breakAt {Y : gY} {X : gX} {S : SS} {b N : Nat} {xs : Nat → Int32} {i : Int} {ret : Option FieldType} (B : gB Y X "NecklaceSistersLaw" cL_law 7 ret 100) (hst : (xL X).stackTraces = false) (hX : gSc Y X b N xs) (h : RR S) (hi0 : 0 ≤ i) (hi4 : i + 4 ≤ N) (h1 : xCells X + 1 ≤ (xR X).cells) (h2 : xSlots X + 6 ≤ (xR X).slots) (kk : ∀ S9 : SS, RR S9 → gW Y (xUp X) S9 1813 [(0, .ref b), (1, .ref (yA Y 72)), (2, .ref (yA Y 82)), (3, .ref (yA Y 91)), (4, .int (iI i))] []) : gW Y X S 762 [(0, .ref b), (1, .ref (yA Y 72)), (2, .ref (yA Y 82)), (3, .ref (yA Y 91)), (4, .int (iI i))] [] := by
  refine g_aload_n (q := 763) B dL_law_762 rfl 1 rfl ?_
  refine g_aload_n (q := 764) B dL_law_763 rfl 0 rfl ?_
  refine g_iload (q := 766) B dL_law_764 rfl 4 rfl ?_
  refine g_iconst (q := 767) B dL_law_766 rfl ?_
  refine g_iadd (q := 768) B dL_law_767 rfl ?_
  refine g_sld (q := 769) B hX dL_law_768 rfl (by omega) (by omega) ?_
  refine g_aload_n (q := 770) B dL_law_769 rfl 3 rfl ?_
  refine g_callW (As := [.ref (yA Y 72), .int (iI (sI xs (i + 1))), .ref (yA Y 91)]) (st := []) B dL_law_770 (c_L_breakAt (Y := Y) (l := xL X) (S := S) hst h.1.2.1 h.2.2.1.1 h.2.2.1.2.1 (sI xs (i + 1)) (sI_in _ _)) eL_breakAt w724 (by decide) rfl rfl (Nat.le_of_ble_eq_true rfl) h1 h2 (fun v S1 hv => ?_)
  have hk : keep S S1 := wP_keepc hv (fun S' _ z => h_keep (h_ch z h.2.2.2.1 h.2.2.1.1)) (fun S' _ z => q_keep (by rw [z]; exact q_id h.2.2.2.1))
  have Pq := pre_of h hk
  have hvv := hv.1
  subst hvv
  have B2 := gB_up B h1 h2
  have hX2 : gSc Y (xUp X) b N xs := hX
  show gW Y (xUp X) S1 773 [(0, .ref b), (1, .ref (yA Y 72)), (2, .ref (yA Y 82)), (3, .ref (yA Y 91)), (4, .int (iI i))] [.int (iI (cd_breakAt (vw S 0) (sI xs (i + 1))))]
  refine g_istore (q := 775) B2 dL_law_773 rfl (by decide) (L' := [(5, .int (iI (cd_breakAt (vw S 0) (sI xs (i + 1))))), (0, .ref b), (1, .ref (yA Y 72)), (2, .ref (yA Y 82)), (3, .ref (yA Y 91)), (4, .int (iI i))]) rfl ?_
  refine g_aload_n (q := 776) B2 dL_law_775 rfl 3 rfl ?_
  refine g_aload_n (q := 777) B2 dL_law_776 rfl 1 rfl ?_
  refine g_iload (q := 779) B2 dL_law_777 rfl 5 rfl ?_
  refine g_iconst (q := 780) B2 dL_law_779 rfl ?_
  refine g_iadd (q := 781) B2 dL_law_780 rfl ?_
  refine g_sld (q := 782) B2 hX2 dL_law_781 rfl (by omega) (by omega) ?_
  refine g_callV (n := 82) (ty := tyX8) (q := 785) (As := [.int (iI (sI xs (i + 1)))]) (st := []) B2 dL_law_782 rfl (c_X8_breakAt (Y := Y) (l := xL X) (S := S1) Pq.1 Pq.2.1 (sI xs (i + 1)) (sI_in _ _)) eX8_breakAt w1150 (by decide) rfl rfl cls6 rfl rfl (Nat.le_of_ble_eq_true rfl) (fun w9 S2 hw9 => ?_)
  obtain ⟨c9, x9, y9, ec, ew, hR2, ht9, hc9, hx9⟩ := stp_q (st_breakAt h _ hv hw9)
  subst ew
  show gW Y (xUp X) S2 785 [(5, .int (iI (cd_breakAt (vw S 0) (sI xs (i + 1))))), (0, .ref b), (1, .ref (yA Y 72)), (2, .ref (yA Y 82)), (3, .ref (yA Y 91)), (4, .int (iI i))] [.int (iI y9)]
  rw [ec]
  refine g_istore (q := 787) B2 dL_law_785 rfl (by decide) (L' := [(6, .int (iI y9)), (5, .int (iI c9)), (0, .ref b), (1, .ref (yA Y 72)), (2, .ref (yA Y 82)), (3, .ref (yA Y 91)), (4, .int (iI i))]) rfl ?_
  refine g_aload_n (q := 788) B2 dL_law_787 rfl 4 rfl ?_
  refine g_callV (n := 82) (ty := tyX8) (q := 791) (As := []) (st := []) B2 dL_law_788 rfl (c_X8_thrown (Y := Y) (l := xL X) (S := S2)) eX8_thrown w992 (by decide) rfl rfl cls6 rfl rfl (Nat.le_of_ble_eq_true rfl) (g_kE ?_)
  rw [ht9]
  refine g_iload (q := 793) B2 dL_law_791 rfl 1 rfl ?_
  refine g_icmp_eq (t := 798) (q := 796) B2 dL_law_793 (by decide) rfl ⟨by omega, by omega⟩ ⟨by omega, by omega⟩ (fun _ => ?_) (fun z => absurd rfl z)
  refine g_iload (q := 800) B2 dL_law_798 rfl 1 rfl ?_
  refine g_if_ne (t := 815) (q := 803) B2 dL_law_800 (by decide) rfl ⟨by omega, by omega⟩ (fun _ => ?_) (fun cq => ?_)
  · refine g_goto (q := 1813) B2 dL_law_815 (by decide) ?_
    refine g_sub [2, 3, 4, 5, 6] rfl ?_
    exact kk S2 hR2
  · refine g_aload_n (q := 804) B2 dL_law_803 rfl 5 rfl ?_
    refine g_iconst (q := 805) B2 dL_law_804 rfl ?_
    refine g_lald (n := 91) (q := 806) B2 dL_law_805 rfl rfl rfl (by decide) (by decide) (by decide) ?_
    refine g_iload (q := 808) B2 dL_law_806 rfl 0 rfl ?_
    refine g_i2lN (q := 809) B2 dL_law_808 rfl ?_
    refine g_lcmp_eq (t := 815) (q := 813) B2 dL_law_809 dL_law_810 (by decide) rfl (by rw [(hx9 cq).1]; exact oI_rL _) (oI_rL _) (fun _ => ?_) (fun z => absurd (by rw [(hx9 cq).1, (hx9 cq).2]) z)
    refine g_goto (q := 1813) B2 dL_law_815 (by decide) ?_
    refine g_sub [2, 3, 4, 5, 6] rfl ?_
    exact kk S2 hR2
set_option maxHeartbeats 4000000 in
theorem lc_turnRound {Y : gY} {X : gX} {S : SS} {b N : Nat} {xs : Nat → Int32} {i : Int} {ret : Option FieldType} (B : gB Y X "NecklaceSistersLaw" cL_law 7 ret 100) (hst : (xL X).stackTraces = false) (hX : gSc Y X b N xs) (h : RR S) (hi0 : 0 ≤ i) (hi4 : i + 4 ≤ N) (h1 : xCells X + 1 ≤ (xR X).cells) (h2 : xSlots X + 6 ≤ (xR X).slots) (kk : ∀ S9 : SS, RR S9 → gW Y X S9 1813 [(0, .ref b), (1, .ref (yA Y 72)), (2, .ref (yA Y 82)), (3, .ref (yA Y 91)), (4, .int (iI i))] []) : gW Y X S 818 [(0, .ref b), (1, .ref (yA Y 72)), (2, .ref (yA Y 82)), (3, .ref (yA Y 91)), (4, .int (iI i))] [] := by
  refine g_aload_n (q := 819) B dL_law_818 rfl 1 rfl ?_
  refine g_callV (n := 72) (ty := tyX7) (q := 822) (As := []) (st := []) B dL_law_819 rfl (c_X7_turnRound (Y := Y) (l := xL X) (S := S) h.1.2.1 h.2.2.1.1 h.2.2.1.2.1) eX7_turnRound w273 (by decide) rfl rfl cls5 rfl rfl (Nat.le_of_ble_eq_true rfl) (fun v S1 hv => ?_)
  have hk : keep S S1 := (h_keep (h_ch hv.2 h.2.2.2.1 h.2.2.1.1))
  have Pq := pre_of h hk
  have hvv := hv.1
  subst hvv
  show gW Y X S1 822 [(0, .ref b), (1, .ref (yA Y 72)), (2, .ref (yA Y 82)), (3, .ref (yA Y 91)), (4, .int (iI i))] [.int (iI (S (4 * 0) 0))]
  refine g_aload_n (q := 823) B dL_law_822 rfl 2 rfl ?_
  refine g_callV (n := 82) (ty := tyX8) (q := 826) (As := []) (st := [.int (iI (S (4 * 0) 0))]) B dL_law_823 rfl (c_X8_turnRound (Y := Y) (l := xL X) (S := S1) Pq.1 Pq.2.1) eX8_turnRound w1154 (by decide) rfl rfl cls6 rfl rfl (Nat.le_of_ble_eq_true rfl) (fun w9 S2 hw9 => ?_)
  obtain ⟨x9, e1, e2, hR2⟩ := stq_turnRound h hv hw9
  subst e2
  have ec : iI (S (4 * 0) 0) = iI x9 := by injection (Option.some.inj e1)
  show gW Y X S2 826 [(0, .ref b), (1, .ref (yA Y 72)), (2, .ref (yA Y 82)), (3, .ref (yA Y 91)), (4, .int (iI i))] [.int (iI x9), .int (iI (S (4 * 0) 0))]
  rw [ec, ← oI_iI x9]
  refine g_icmp_eq (t := 1813) (q := 829) B dL_law_826 (by decide) rfl (oI_in x9) (oI_in x9) (fun _ => ?_) (fun z => absurd rfl z)
  exact kk S2 hR2
set_option maxHeartbeats 4000000 in
theorem lc_cut {Y : gY} {X : gX} {S : SS} {b N : Nat} {xs : Nat → Int32} {i : Int} {ret : Option FieldType} (B : gB Y X "NecklaceSistersLaw" cL_law 7 ret 100) (hst : (xL X).stackTraces = false) (hX : gSc Y X b N xs) (h : RR S) (hi0 : 0 ≤ i) (hi4 : i + 4 ≤ N) (h1 : xCells X + 1 ≤ (xR X).cells) (h2 : xSlots X + 6 ≤ (xR X).slots) (kk : ∀ S9 : SS, RR S9 → gW Y (xUp X) S9 1813 [(0, .ref b), (1, .ref (yA Y 72)), (2, .ref (yA Y 82)), (3, .ref (yA Y 91)), (4, .int (iI i))] []) : gW Y X S 831 [(0, .ref b), (1, .ref (yA Y 72)), (2, .ref (yA Y 82)), (3, .ref (yA Y 91)), (4, .int (iI i))] [] := by
  refine g_aload_n (q := 832) B dL_law_831 rfl 1 rfl ?_
  refine g_aload_n (q := 833) B dL_law_832 rfl 0 rfl ?_
  refine g_iload (q := 835) B dL_law_833 rfl 4 rfl ?_
  refine g_iconst (q := 836) B dL_law_835 rfl ?_
  refine g_iadd (q := 837) B dL_law_836 rfl ?_
  refine g_sld (q := 838) B hX dL_law_837 rfl (by omega) (by omega) ?_
  refine g_aload_n (q := 839) B dL_law_838 rfl 0 rfl ?_
  refine g_iload (q := 841) B dL_law_839 rfl 4 rfl ?_
  refine g_iconst (q := 842) B dL_law_841 rfl ?_
  refine g_iadd (q := 843) B dL_law_842 rfl ?_
  refine g_sld (q := 844) B hX dL_law_843 rfl (by omega) (by omega) ?_
  refine g_if_eq (t := 851) (q := 847) B dL_law_844 (by decide) rfl (sI_in _ _) (fun cz => ?_) (fun cz => ?_)
  · refine g_iconst (q := 852) B dL_law_851 rfl ?_
    refine g_aload_n (q := 853) B dL_law_852 rfl 3 rfl ?_
    refine g_callW (As := [.ref (yA Y 72), .int (iI (sI xs (i + 1))), .int (iI 0), .ref (yA Y 91)]) (st := []) B dL_law_853 (c_L_cut (Y := Y) (l := xL X) (S := S) hst h.1.2.1 h.2.2.1.1 h.2.2.1.2.1 0 (Or.inl rfl) (sI xs (i + 1)) (sI_in _ _)) eL_cut w732 (by decide) rfl rfl (Nat.le_of_ble_eq_true rfl) h1 h2 (fun v S1 hv => ?_)
    have hk : keep S S1 := wP_keepc hv (fun S' _ z => h_keep (h_ch z h.2.2.2.1 h.2.2.1.1)) (fun S' _ z => q_keep (by rw [z]; exact q_id h.2.2.2.1))
    have Pq := pre_of h hk
    have hvv := hv.1
    subst hvv
    have B2 := gB_up B h1 h2
    have hX2 : gSc Y (xUp X) b N xs := hX
    show gW Y (xUp X) S1 856 [(0, .ref b), (1, .ref (yA Y 72)), (2, .ref (yA Y 82)), (3, .ref (yA Y 91)), (4, .int (iI i))] [.int (iI (cd_cut (vw S 0) (sI xs (i + 1))))]
    refine g_istore (q := 858) B2 dL_law_856 rfl (by decide) (L' := [(5, .int (iI (cd_cut (vw S 0) (sI xs (i + 1))))), (0, .ref b), (1, .ref (yA Y 72)), (2, .ref (yA Y 82)), (3, .ref (yA Y 91)), (4, .int (iI i))]) rfl ?_
    refine g_aload_n (q := 859) B2 dL_law_858 rfl 3 rfl ?_
    refine g_aload_n (q := 860) B2 dL_law_859 rfl 1 rfl ?_
    refine g_iload (q := 862) B2 dL_law_860 rfl 5 rfl ?_
    refine g_iconst (q := 863) B2 dL_law_862 rfl ?_
    refine g_iadd (q := 864) B2 dL_law_863 rfl ?_
    refine g_sld (q := 865) B2 hX2 dL_law_864 rfl (by omega) (by omega) ?_
    refine g_aload_n (q := 866) B2 dL_law_865 rfl 1 rfl ?_
    refine g_iload (q := 868) B2 dL_law_866 rfl 5 rfl ?_
    refine g_iconst (q := 869) B2 dL_law_868 rfl ?_
    refine g_iadd (q := 870) B2 dL_law_869 rfl ?_
    refine g_sld (q := 871) B2 hX2 dL_law_870 rfl (by omega) (by omega) ?_
    refine g_if_eq (t := 878) (q := 874) B2 dL_law_871 (by decide) rfl (sI_in _ _) (fun cz2 => ?_) (fun cz2 => ?_)
    · refine g_iconst (q := 879) B2 dL_law_878 rfl ?_
      refine g_callV (n := 82) (ty := tyX8) (q := 882) (As := [.int (iI (sI xs (i + 1))), .int (iI 0)]) (st := []) B2 dL_law_879 rfl (c_X8_cut (Y := Y) (l := xL X) (S := S1) Pq.1 Pq.2.1 (sI xs (i + 1)) (sI_in _ _) 0 (Or.inl rfl)) eX8_cut w1158 (by decide) rfl rfl cls6 rfl rfl (Nat.le_of_ble_eq_true rfl) (fun w9 S2 hw9 => ?_)
      obtain ⟨c9, x9, y9, ec, ew, hR2, ht9, hc9, hx9⟩ := stp_q (st_cut h _ _ hv hw9)
      subst ew
      show gW Y (xUp X) S2 882 [(5, .int (iI (cd_cut (vw S 0) (sI xs (i + 1))))), (0, .ref b), (1, .ref (yA Y 72)), (2, .ref (yA Y 82)), (3, .ref (yA Y 91)), (4, .int (iI i))] [.int (iI y9)]
      rw [ec]
      refine g_istore (q := 884) B2 dL_law_882 rfl (by decide) (L' := [(6, .int (iI y9)), (5, .int (iI c9)), (0, .ref b), (1, .ref (yA Y 72)), (2, .ref (yA Y 82)), (3, .ref (yA Y 91)), (4, .int (iI i))]) rfl ?_
      refine g_aload_n (q := 885) B2 dL_law_884 rfl 4 rfl ?_
      refine g_callV (n := 82) (ty := tyX8) (q := 888) (As := []) (st := []) B2 dL_law_885 rfl (c_X8_thrown (Y := Y) (l := xL X) (S := S2)) eX8_thrown w992 (by decide) rfl rfl cls6 rfl rfl (Nat.le_of_ble_eq_true rfl) (g_kE ?_)
      rw [ht9]
      refine g_iload (q := 890) B2 dL_law_888 rfl 1 rfl ?_
      refine g_icmp_eq (t := 895) (q := 893) B2 dL_law_890 (by decide) rfl ⟨by omega, by omega⟩ ⟨by omega, by omega⟩ (fun _ => ?_) (fun z => absurd rfl z)
      refine g_iload (q := 897) B2 dL_law_895 rfl 1 rfl ?_
      refine g_if_ne (t := 912) (q := 900) B2 dL_law_897 (by decide) rfl ⟨by omega, by omega⟩ (fun _ => ?_) (fun cq => ?_)
      · refine g_goto (q := 1813) B2 dL_law_912 (by decide) ?_
        refine g_sub [2, 3, 4, 5, 6] rfl ?_
        exact kk S2 hR2
      · refine g_aload_n (q := 901) B2 dL_law_900 rfl 5 rfl ?_
        refine g_iconst (q := 902) B2 dL_law_901 rfl ?_
        refine g_lald (n := 91) (q := 903) B2 dL_law_902 rfl rfl rfl (by decide) (by decide) (by decide) ?_
        refine g_iload (q := 905) B2 dL_law_903 rfl 0 rfl ?_
        refine g_i2lN (q := 906) B2 dL_law_905 rfl ?_
        refine g_lcmp_eq (t := 912) (q := 910) B2 dL_law_906 dL_law_907 (by decide) rfl (by rw [(hx9 cq).1]; exact oI_rL _) (oI_rL _) (fun _ => ?_) (fun z => absurd (by rw [(hx9 cq).1, (hx9 cq).2]) z)
        refine g_goto (q := 1813) B2 dL_law_912 (by decide) ?_
        refine g_sub [2, 3, 4, 5, 6] rfl ?_
        exact kk S2 hR2
    · exact absurd cz cz2
  · refine g_iconst (q := 848) B dL_law_847 rfl ?_
    refine g_goto (q := 852) B dL_law_848 (by decide) ?_
    refine g_aload_n (q := 853) B dL_law_852 rfl 3 rfl ?_
    refine g_callW (As := [.ref (yA Y 72), .int (iI (sI xs (i + 1))), .int (iI 1), .ref (yA Y 91)]) (st := []) B dL_law_853 (c_L_cut (Y := Y) (l := xL X) (S := S) hst h.1.2.1 h.2.2.1.1 h.2.2.1.2.1 1 (Or.inr rfl) (sI xs (i + 1)) (sI_in _ _)) eL_cut w732 (by decide) rfl rfl (Nat.le_of_ble_eq_true rfl) h1 h2 (fun v S1 hv => ?_)
    have hk : keep S S1 := wP_keepc hv (fun S' _ z => h_keep (h_ch z h.2.2.2.1 h.2.2.1.1)) (fun S' _ z => q_keep (by rw [z]; exact q_id h.2.2.2.1))
    have Pq := pre_of h hk
    have hvv := hv.1
    subst hvv
    have B2 := gB_up B h1 h2
    have hX2 : gSc Y (xUp X) b N xs := hX
    show gW Y (xUp X) S1 856 [(0, .ref b), (1, .ref (yA Y 72)), (2, .ref (yA Y 82)), (3, .ref (yA Y 91)), (4, .int (iI i))] [.int (iI (cd_cut (vw S 0) (sI xs (i + 1))))]
    refine g_istore (q := 858) B2 dL_law_856 rfl (by decide) (L' := [(5, .int (iI (cd_cut (vw S 0) (sI xs (i + 1))))), (0, .ref b), (1, .ref (yA Y 72)), (2, .ref (yA Y 82)), (3, .ref (yA Y 91)), (4, .int (iI i))]) rfl ?_
    refine g_aload_n (q := 859) B2 dL_law_858 rfl 3 rfl ?_
    refine g_aload_n (q := 860) B2 dL_law_859 rfl 1 rfl ?_
    refine g_iload (q := 862) B2 dL_law_860 rfl 5 rfl ?_
    refine g_iconst (q := 863) B2 dL_law_862 rfl ?_
    refine g_iadd (q := 864) B2 dL_law_863 rfl ?_
    refine g_sld (q := 865) B2 hX2 dL_law_864 rfl (by omega) (by omega) ?_
    refine g_aload_n (q := 866) B2 dL_law_865 rfl 1 rfl ?_
    refine g_iload (q := 868) B2 dL_law_866 rfl 5 rfl ?_
    refine g_iconst (q := 869) B2 dL_law_868 rfl ?_
    refine g_iadd (q := 870) B2 dL_law_869 rfl ?_
    refine g_sld (q := 871) B2 hX2 dL_law_870 rfl (by omega) (by omega) ?_
    refine g_if_eq (t := 878) (q := 874) B2 dL_law_871 (by decide) rfl (sI_in _ _) (fun cz2 => ?_) (fun cz2 => ?_)
    · exact absurd cz2 cz
    · refine g_iconst (q := 875) B2 dL_law_874 rfl ?_
      refine g_goto (q := 879) B2 dL_law_875 (by decide) ?_
      refine g_callV (n := 82) (ty := tyX8) (q := 882) (As := [.int (iI (sI xs (i + 1))), .int (iI 1)]) (st := []) B2 dL_law_879 rfl (c_X8_cut (Y := Y) (l := xL X) (S := S1) Pq.1 Pq.2.1 (sI xs (i + 1)) (sI_in _ _) 1 (Or.inr rfl)) eX8_cut w1158 (by decide) rfl rfl cls6 rfl rfl (Nat.le_of_ble_eq_true rfl) (fun w9 S2 hw9 => ?_)
      obtain ⟨c9, x9, y9, ec, ew, hR2, ht9, hc9, hx9⟩ := stp_q (st_cut h _ _ hv hw9)
      subst ew
      show gW Y (xUp X) S2 882 [(5, .int (iI (cd_cut (vw S 0) (sI xs (i + 1))))), (0, .ref b), (1, .ref (yA Y 72)), (2, .ref (yA Y 82)), (3, .ref (yA Y 91)), (4, .int (iI i))] [.int (iI y9)]
      rw [ec]
      refine g_istore (q := 884) B2 dL_law_882 rfl (by decide) (L' := [(6, .int (iI y9)), (5, .int (iI c9)), (0, .ref b), (1, .ref (yA Y 72)), (2, .ref (yA Y 82)), (3, .ref (yA Y 91)), (4, .int (iI i))]) rfl ?_
      refine g_aload_n (q := 885) B2 dL_law_884 rfl 4 rfl ?_
      refine g_callV (n := 82) (ty := tyX8) (q := 888) (As := []) (st := []) B2 dL_law_885 rfl (c_X8_thrown (Y := Y) (l := xL X) (S := S2)) eX8_thrown w992 (by decide) rfl rfl cls6 rfl rfl (Nat.le_of_ble_eq_true rfl) (g_kE ?_)
      rw [ht9]
      refine g_iload (q := 890) B2 dL_law_888 rfl 1 rfl ?_
      refine g_icmp_eq (t := 895) (q := 893) B2 dL_law_890 (by decide) rfl ⟨by omega, by omega⟩ ⟨by omega, by omega⟩ (fun _ => ?_) (fun z => absurd rfl z)
      refine g_iload (q := 897) B2 dL_law_895 rfl 1 rfl ?_
      refine g_if_ne (t := 912) (q := 900) B2 dL_law_897 (by decide) rfl ⟨by omega, by omega⟩ (fun _ => ?_) (fun cq => ?_)
      · refine g_goto (q := 1813) B2 dL_law_912 (by decide) ?_
        refine g_sub [2, 3, 4, 5, 6] rfl ?_
        exact kk S2 hR2
      · refine g_aload_n (q := 901) B2 dL_law_900 rfl 5 rfl ?_
        refine g_iconst (q := 902) B2 dL_law_901 rfl ?_
        refine g_lald (n := 91) (q := 903) B2 dL_law_902 rfl rfl rfl (by decide) (by decide) (by decide) ?_
        refine g_iload (q := 905) B2 dL_law_903 rfl 0 rfl ?_
        refine g_i2lN (q := 906) B2 dL_law_905 rfl ?_
        refine g_lcmp_eq (t := 912) (q := 910) B2 dL_law_906 dL_law_907 (by decide) rfl (by rw [(hx9 cq).1]; exact oI_rL _) (oI_rL _) (fun _ => ?_) (fun z => absurd (by rw [(hx9 cq).1, (hx9 cq).2]) z)
        refine g_goto (q := 1813) B2 dL_law_912 (by decide) ?_
        refine g_sub [2, 3, 4, 5, 6] rfl ?_
        exact kk S2 hR2
set_option maxHeartbeats 4000000 in
theorem lc_give {Y : gY} {X : gX} {S : SS} {b N : Nat} {xs : Nat → Int32} {i : Int} {ret : Option FieldType} (B : gB Y X "NecklaceSistersLaw" cL_law 7 ret 100) (hst : (xL X).stackTraces = false) (hX : gSc Y X b N xs) (h : RR S) (hi0 : 0 ≤ i) (hi4 : i + 4 ≤ N) (h1 : xCells X + 1 ≤ (xR X).cells) (h2 : xSlots X + 6 ≤ (xR X).slots) (kk : ∀ S9 : SS, RR S9 → gW Y (xUp X) S9 1813 [(0, .ref b), (1, .ref (yA Y 72)), (2, .ref (yA Y 82)), (3, .ref (yA Y 91)), (4, .int (iI i))] []) : gW Y X S 915 [(0, .ref b), (1, .ref (yA Y 72)), (2, .ref (yA Y 82)), (3, .ref (yA Y 91)), (4, .int (iI i))] [] := by
  refine g_aload_n (q := 916) B dL_law_915 rfl 1 rfl ?_
  refine g_aload_n (q := 917) B dL_law_916 rfl 0 rfl ?_
  refine g_iload (q := 919) B dL_law_917 rfl 4 rfl ?_
  refine g_iconst (q := 920) B dL_law_919 rfl ?_
  refine g_iadd (q := 921) B dL_law_920 rfl ?_
  refine g_sld (q := 922) B hX dL_law_921 rfl (by omega) (by omega) ?_
  refine g_aload_n (q := 923) B dL_law_922 rfl 0 rfl ?_
  refine g_iload (q := 925) B dL_law_923 rfl 4 rfl ?_
  refine g_iconst (q := 926) B dL_law_925 rfl ?_
  refine g_iadd (q := 927) B dL_law_926 rfl ?_
  refine g_sld (q := 928) B hX dL_law_927 rfl (by omega) (by omega) ?_
  refine g_aload_n (q := 929) B dL_law_928 rfl 3 rfl ?_
  refine g_callW (As := [.ref (yA Y 72), .int (iI (sI xs (i + 1))), .int (iI (sI xs (i + 2))), .ref (yA Y 91)]) (st := []) B dL_law_929 (c_L_give (Y := Y) (l := xL X) (S := S) hst h.1.2.1 h.2.2.1.1 h.2.2.1.2.1 (sI xs (i + 1)) (sI_in _ _) (sI xs (i + 2)) (sI_in _ _)) eL_give w741 (by decide) rfl rfl (Nat.le_of_ble_eq_true rfl) h1 h2 (fun v S1 hv => ?_)
  have hk : keep S S1 := wP_keepc hv (fun S' _ z => h_keep (h_ch z h.2.2.2.1 h.2.2.1.1)) (fun S' _ z => q_keep (by rw [z]; exact q_id h.2.2.2.1))
  have Pq := pre_of h hk
  have hvv := hv.1
  subst hvv
  have B2 := gB_up B h1 h2
  have hX2 : gSc Y (xUp X) b N xs := hX
  show gW Y (xUp X) S1 932 [(0, .ref b), (1, .ref (yA Y 72)), (2, .ref (yA Y 82)), (3, .ref (yA Y 91)), (4, .int (iI i))] [.int (iI (cd_give (vw S 0) (sI xs (i + 1)) (sI xs (i + 2))))]
  refine g_istore (q := 934) B2 dL_law_932 rfl (by decide) (L' := [(5, .int (iI (cd_give (vw S 0) (sI xs (i + 1)) (sI xs (i + 2))))), (0, .ref b), (1, .ref (yA Y 72)), (2, .ref (yA Y 82)), (3, .ref (yA Y 91)), (4, .int (iI i))]) rfl ?_
  refine g_aload_n (q := 935) B2 dL_law_934 rfl 3 rfl ?_
  refine g_aload_n (q := 936) B2 dL_law_935 rfl 1 rfl ?_
  refine g_iload (q := 938) B2 dL_law_936 rfl 5 rfl ?_
  refine g_iconst (q := 939) B2 dL_law_938 rfl ?_
  refine g_iadd (q := 940) B2 dL_law_939 rfl ?_
  refine g_sld (q := 941) B2 hX2 dL_law_940 rfl (by omega) (by omega) ?_
  refine g_aload_n (q := 942) B2 dL_law_941 rfl 1 rfl ?_
  refine g_iload (q := 944) B2 dL_law_942 rfl 5 rfl ?_
  refine g_iconst (q := 945) B2 dL_law_944 rfl ?_
  refine g_iadd (q := 946) B2 dL_law_945 rfl ?_
  refine g_sld (q := 947) B2 hX2 dL_law_946 rfl (by omega) (by omega) ?_
  refine g_callV (n := 82) (ty := tyX8) (q := 950) (As := [.int (iI (sI xs (i + 1))), .int (iI (sI xs (i + 2)))]) (st := []) B2 dL_law_947 rfl (c_X8_give (Y := Y) (l := xL X) (S := S1) Pq.1 Pq.2.1 (sI xs (i + 1)) (sI_in _ _) (sI xs (i + 2)) (sI_in _ _)) eX8_give w1162 (by decide) rfl rfl cls6 rfl rfl (Nat.le_of_ble_eq_true rfl) (fun w9 S2 hw9 => ?_)
  obtain ⟨c9, x9, y9, ec, ew, hR2, ht9, hc9, hx9⟩ := stp_q (st_give h _ _ hv hw9)
  subst ew
  show gW Y (xUp X) S2 950 [(5, .int (iI (cd_give (vw S 0) (sI xs (i + 1)) (sI xs (i + 2))))), (0, .ref b), (1, .ref (yA Y 72)), (2, .ref (yA Y 82)), (3, .ref (yA Y 91)), (4, .int (iI i))] [.int (iI y9)]
  rw [ec]
  refine g_istore (q := 952) B2 dL_law_950 rfl (by decide) (L' := [(6, .int (iI y9)), (5, .int (iI c9)), (0, .ref b), (1, .ref (yA Y 72)), (2, .ref (yA Y 82)), (3, .ref (yA Y 91)), (4, .int (iI i))]) rfl ?_
  refine g_aload_n (q := 953) B2 dL_law_952 rfl 4 rfl ?_
  refine g_callV (n := 82) (ty := tyX8) (q := 956) (As := []) (st := []) B2 dL_law_953 rfl (c_X8_thrown (Y := Y) (l := xL X) (S := S2)) eX8_thrown w992 (by decide) rfl rfl cls6 rfl rfl (Nat.le_of_ble_eq_true rfl) (g_kE ?_)
  rw [ht9]
  refine g_iload (q := 958) B2 dL_law_956 rfl 1 rfl ?_
  refine g_icmp_eq (t := 963) (q := 961) B2 dL_law_958 (by decide) rfl ⟨by omega, by omega⟩ ⟨by omega, by omega⟩ (fun _ => ?_) (fun z => absurd rfl z)
  refine g_iload (q := 965) B2 dL_law_963 rfl 1 rfl ?_
  refine g_if_ne (t := 980) (q := 968) B2 dL_law_965 (by decide) rfl ⟨by omega, by omega⟩ (fun _ => ?_) (fun cq => ?_)
  · refine g_goto (q := 1813) B2 dL_law_980 (by decide) ?_
    refine g_sub [2, 3, 4, 5, 6] rfl ?_
    exact kk S2 hR2
  · refine g_aload_n (q := 969) B2 dL_law_968 rfl 5 rfl ?_
    refine g_iconst (q := 970) B2 dL_law_969 rfl ?_
    refine g_lald (n := 91) (q := 971) B2 dL_law_970 rfl rfl rfl (by decide) (by decide) (by decide) ?_
    refine g_iload (q := 973) B2 dL_law_971 rfl 0 rfl ?_
    refine g_i2lN (q := 974) B2 dL_law_973 rfl ?_
    refine g_lcmp_eq (t := 980) (q := 978) B2 dL_law_974 dL_law_975 (by decide) rfl (by rw [(hx9 cq).1]; exact oI_rL _) (oI_rL _) (fun _ => ?_) (fun z => absurd (by rw [(hx9 cq).1, (hx9 cq).2]) z)
    refine g_goto (q := 1813) B2 dL_law_980 (by decide) ?_
    refine g_sub [2, 3, 4, 5, 6] rfl ?_
    exact kk S2 hR2
set_option maxHeartbeats 4000000 in
theorem lc_take {Y : gY} {X : gX} {S : SS} {b N : Nat} {xs : Nat → Int32} {i : Int} {ret : Option FieldType} (B : gB Y X "NecklaceSistersLaw" cL_law 7 ret 100) (hst : (xL X).stackTraces = false) (hX : gSc Y X b N xs) (h : RR S) (hi0 : 0 ≤ i) (hi4 : i + 4 ≤ N) (h1 : xCells X + 1 ≤ (xR X).cells) (h2 : xSlots X + 6 ≤ (xR X).slots) (kk : ∀ S9 : SS, RR S9 → gW Y (xUp X) S9 1813 [(0, .ref b), (1, .ref (yA Y 72)), (2, .ref (yA Y 82)), (3, .ref (yA Y 91)), (4, .int (iI i))] []) : gW Y X S 983 [(0, .ref b), (1, .ref (yA Y 72)), (2, .ref (yA Y 82)), (3, .ref (yA Y 91)), (4, .int (iI i))] [] := by
  refine g_aload_n (q := 984) B dL_law_983 rfl 1 rfl ?_
  refine g_aload_n (q := 985) B dL_law_984 rfl 0 rfl ?_
  refine g_iload (q := 987) B dL_law_985 rfl 4 rfl ?_
  refine g_iconst (q := 988) B dL_law_987 rfl ?_
  refine g_iadd (q := 989) B dL_law_988 rfl ?_
  refine g_sld (q := 990) B hX dL_law_989 rfl (by omega) (by omega) ?_
  refine g_aload_n (q := 991) B dL_law_990 rfl 3 rfl ?_
  refine g_callW (As := [.ref (yA Y 72), .int (iI (sI xs (i + 1))), .ref (yA Y 91)]) (st := []) B dL_law_991 (c_L_take (Y := Y) (l := xL X) (S := S) hst h.1.2.1 h.2.2.1.1 h.2.2.1.2.1 (sI xs (i + 1)) (sI_in _ _)) eL_take w750 (by decide) rfl rfl (Nat.le_of_ble_eq_true rfl) h1 h2 (fun v S1 hv => ?_)
  have hk : keep S S1 := wP_keepc hv (fun S' _ z => h_keep (h_ch z h.2.2.2.1 h.2.2.1.1)) (fun S' _ z => q_keep (by rw [z]; exact q_id h.2.2.2.1))
  have Pq := pre_of h hk
  have hvv := hv.1
  subst hvv
  have B2 := gB_up B h1 h2
  have hX2 : gSc Y (xUp X) b N xs := hX
  show gW Y (xUp X) S1 994 [(0, .ref b), (1, .ref (yA Y 72)), (2, .ref (yA Y 82)), (3, .ref (yA Y 91)), (4, .int (iI i))] [.int (iI (cd_take (vw S 0) (sI xs (i + 1))))]
  refine g_istore (q := 996) B2 dL_law_994 rfl (by decide) (L' := [(5, .int (iI (cd_take (vw S 0) (sI xs (i + 1))))), (0, .ref b), (1, .ref (yA Y 72)), (2, .ref (yA Y 82)), (3, .ref (yA Y 91)), (4, .int (iI i))]) rfl ?_
  refine g_aload_n (q := 997) B2 dL_law_996 rfl 3 rfl ?_
  refine g_aload_n (q := 998) B2 dL_law_997 rfl 1 rfl ?_
  refine g_iload (q := 1000) B2 dL_law_998 rfl 5 rfl ?_
  refine g_iconst (q := 1001) B2 dL_law_1000 rfl ?_
  refine g_iadd (q := 1002) B2 dL_law_1001 rfl ?_
  refine g_sld (q := 1003) B2 hX2 dL_law_1002 rfl (by omega) (by omega) ?_
  refine g_callV (n := 82) (ty := tyX8) (q := 1006) (As := [.int (iI (sI xs (i + 1)))]) (st := []) B2 dL_law_1003 rfl (c_X8_take (Y := Y) (l := xL X) (S := S1) Pq.1 Pq.2.1 (sI xs (i + 1)) (sI_in _ _)) eX8_take w1170 (by decide) rfl rfl cls6 rfl rfl (Nat.le_of_ble_eq_true rfl) (fun w9 S2 hw9 => ?_)
  obtain ⟨c9, x9, y9, ec, ew, hR2, ht9, hc9, hx9⟩ := stp_q (st_take h _ hv hw9)
  subst ew
  show gW Y (xUp X) S2 1006 [(5, .int (iI (cd_take (vw S 0) (sI xs (i + 1))))), (0, .ref b), (1, .ref (yA Y 72)), (2, .ref (yA Y 82)), (3, .ref (yA Y 91)), (4, .int (iI i))] [.int (iI y9)]
  rw [ec]
  refine g_istore (q := 1008) B2 dL_law_1006 rfl (by decide) (L' := [(6, .int (iI y9)), (5, .int (iI c9)), (0, .ref b), (1, .ref (yA Y 72)), (2, .ref (yA Y 82)), (3, .ref (yA Y 91)), (4, .int (iI i))]) rfl ?_
  refine g_aload_n (q := 1009) B2 dL_law_1008 rfl 4 rfl ?_
  refine g_callV (n := 82) (ty := tyX8) (q := 1012) (As := []) (st := []) B2 dL_law_1009 rfl (c_X8_thrown (Y := Y) (l := xL X) (S := S2)) eX8_thrown w992 (by decide) rfl rfl cls6 rfl rfl (Nat.le_of_ble_eq_true rfl) (g_kE ?_)
  rw [ht9]
  refine g_iload (q := 1014) B2 dL_law_1012 rfl 1 rfl ?_
  refine g_icmp_eq (t := 1019) (q := 1017) B2 dL_law_1014 (by decide) rfl ⟨by omega, by omega⟩ ⟨by omega, by omega⟩ (fun _ => ?_) (fun z => absurd rfl z)
  refine g_iload (q := 1021) B2 dL_law_1019 rfl 1 rfl ?_
  refine g_if_ne (t := 1036) (q := 1024) B2 dL_law_1021 (by decide) rfl ⟨by omega, by omega⟩ (fun _ => ?_) (fun cq => ?_)
  · refine g_goto (q := 1813) B2 dL_law_1036 (by decide) ?_
    refine g_sub [2, 3, 4, 5, 6] rfl ?_
    exact kk S2 hR2
  · refine g_aload_n (q := 1025) B2 dL_law_1024 rfl 5 rfl ?_
    refine g_iconst (q := 1026) B2 dL_law_1025 rfl ?_
    refine g_lald (n := 91) (q := 1027) B2 dL_law_1026 rfl rfl rfl (by decide) (by decide) (by decide) ?_
    refine g_iload (q := 1029) B2 dL_law_1027 rfl 0 rfl ?_
    refine g_i2lN (q := 1030) B2 dL_law_1029 rfl ?_
    refine g_lcmp_eq (t := 1036) (q := 1034) B2 dL_law_1030 dL_law_1031 (by decide) rfl (by rw [(hx9 cq).1]; exact oI_rL _) (oI_rL _) (fun _ => ?_) (fun z => absurd (by rw [(hx9 cq).1, (hx9 cq).2]) z)
    refine g_goto (q := 1813) B2 dL_law_1036 (by decide) ?_
    refine g_sub [2, 3, 4, 5, 6] rfl ?_
    exact kk S2 hR2
set_option maxHeartbeats 4000000 in
theorem lc_deal {Y : gY} {X : gX} {S : SS} {b N : Nat} {xs : Nat → Int32} {i : Int} {ret : Option FieldType} (B : gB Y X "NecklaceSistersLaw" cL_law 7 ret 100) (hst : (xL X).stackTraces = false) (hX : gSc Y X b N xs) (h : RR S) (hi0 : 0 ≤ i) (hi4 : i + 4 ≤ N) (h1 : xCells X + 1 ≤ (xR X).cells) (h2 : xSlots X + 6 ≤ (xR X).slots) (kk : ∀ S9 : SS, RR S9 → gW Y (xUp X) S9 1813 [(0, .ref b), (1, .ref (yA Y 72)), (2, .ref (yA Y 82)), (3, .ref (yA Y 91)), (4, .int (iI i))] []) : gW Y X S 1039 [(0, .ref b), (1, .ref (yA Y 72)), (2, .ref (yA Y 82)), (3, .ref (yA Y 91)), (4, .int (iI i))] [] := by
  refine g_aload_n (q := 1040) B dL_law_1039 rfl 1 rfl ?_
  refine g_aload_n (q := 1041) B dL_law_1040 rfl 0 rfl ?_
  refine g_iload (q := 1043) B dL_law_1041 rfl 4 rfl ?_
  refine g_iconst (q := 1044) B dL_law_1043 rfl ?_
  refine g_iadd (q := 1045) B dL_law_1044 rfl ?_
  refine g_sld (q := 1046) B hX dL_law_1045 rfl (by omega) (by omega) ?_
  refine g_aload_n (q := 1047) B dL_law_1046 rfl 3 rfl ?_
  refine g_callW (As := [.ref (yA Y 72), .int (iI (sI xs (i + 1))), .ref (yA Y 91)]) (st := []) B dL_law_1047 (c_L_deal (Y := Y) (l := xL X) (S := S) hst h.1.2.1 h.2.2.1.1 h.2.2.1.2.1 (sI xs (i + 1)) (sI_in _ _)) eL_deal w758 (by decide) rfl rfl (Nat.le_of_ble_eq_true rfl) h1 h2 (fun v S1 hv => ?_)
  have hk : keep S S1 := wP_keepc hv (fun S' _ z => h_keep (h_ch z h.2.2.2.1 h.2.2.1.1)) (fun S' _ z => q_keep (by rw [z]; exact q_id h.2.2.2.1))
  have Pq := pre_of h hk
  have hvv := hv.1
  subst hvv
  have B2 := gB_up B h1 h2
  have hX2 : gSc Y (xUp X) b N xs := hX
  show gW Y (xUp X) S1 1050 [(0, .ref b), (1, .ref (yA Y 72)), (2, .ref (yA Y 82)), (3, .ref (yA Y 91)), (4, .int (iI i))] [.int (iI (cd_01 (sI xs (i + 1))))]
  refine g_istore (q := 1052) B2 dL_law_1050 rfl (by decide) (L' := [(5, .int (iI (cd_01 (sI xs (i + 1))))), (0, .ref b), (1, .ref (yA Y 72)), (2, .ref (yA Y 82)), (3, .ref (yA Y 91)), (4, .int (iI i))]) rfl ?_
  refine g_aload_n (q := 1053) B2 dL_law_1052 rfl 3 rfl ?_
  refine g_aload_n (q := 1054) B2 dL_law_1053 rfl 1 rfl ?_
  refine g_iload (q := 1056) B2 dL_law_1054 rfl 5 rfl ?_
  refine g_iconst (q := 1057) B2 dL_law_1056 rfl ?_
  refine g_iadd (q := 1058) B2 dL_law_1057 rfl ?_
  refine g_sld (q := 1059) B2 hX2 dL_law_1058 rfl (by omega) (by omega) ?_
  refine g_callV (n := 82) (ty := tyX8) (q := 1062) (As := [.int (iI (sI xs (i + 1)))]) (st := []) B2 dL_law_1059 rfl (c_X8_deal (Y := Y) (l := xL X) (S := S1) Pq.1 Pq.2.1 (sI xs (i + 1)) (sI_in _ _)) eX8_deal w1174 (by decide) rfl rfl cls6 rfl rfl (Nat.le_of_ble_eq_true rfl) (fun w9 S2 hw9 => ?_)
  obtain ⟨c9, x9, y9, ec, ew, hR2, ht9, hc9, hx9⟩ := stp_q (st_deal h _ hv hw9)
  subst ew
  show gW Y (xUp X) S2 1062 [(5, .int (iI (cd_01 (sI xs (i + 1))))), (0, .ref b), (1, .ref (yA Y 72)), (2, .ref (yA Y 82)), (3, .ref (yA Y 91)), (4, .int (iI i))] [.int (iI y9)]
  rw [ec]
  refine g_istore (q := 1064) B2 dL_law_1062 rfl (by decide) (L' := [(6, .int (iI y9)), (5, .int (iI c9)), (0, .ref b), (1, .ref (yA Y 72)), (2, .ref (yA Y 82)), (3, .ref (yA Y 91)), (4, .int (iI i))]) rfl ?_
  refine g_aload_n (q := 1065) B2 dL_law_1064 rfl 4 rfl ?_
  refine g_callV (n := 82) (ty := tyX8) (q := 1068) (As := []) (st := []) B2 dL_law_1065 rfl (c_X8_thrown (Y := Y) (l := xL X) (S := S2)) eX8_thrown w992 (by decide) rfl rfl cls6 rfl rfl (Nat.le_of_ble_eq_true rfl) (g_kE ?_)
  rw [ht9]
  refine g_iload (q := 1070) B2 dL_law_1068 rfl 1 rfl ?_
  refine g_icmp_eq (t := 1075) (q := 1073) B2 dL_law_1070 (by decide) rfl ⟨by omega, by omega⟩ ⟨by omega, by omega⟩ (fun _ => ?_) (fun z => absurd rfl z)
  refine g_iload (q := 1077) B2 dL_law_1075 rfl 1 rfl ?_
  refine g_if_ne (t := 1092) (q := 1080) B2 dL_law_1077 (by decide) rfl ⟨by omega, by omega⟩ (fun _ => ?_) (fun cq => ?_)
  · refine g_goto (q := 1813) B2 dL_law_1092 (by decide) ?_
    refine g_sub [2, 3, 4, 5, 6] rfl ?_
    exact kk S2 hR2
  · refine g_aload_n (q := 1081) B2 dL_law_1080 rfl 5 rfl ?_
    refine g_iconst (q := 1082) B2 dL_law_1081 rfl ?_
    refine g_lald (n := 91) (q := 1083) B2 dL_law_1082 rfl rfl rfl (by decide) (by decide) (by decide) ?_
    refine g_iload (q := 1085) B2 dL_law_1083 rfl 0 rfl ?_
    refine g_i2lN (q := 1086) B2 dL_law_1085 rfl ?_
    refine g_lcmp_eq (t := 1092) (q := 1090) B2 dL_law_1086 dL_law_1087 (by decide) rfl (by rw [(hx9 cq).1]; exact oI_rL _) (oI_rL _) (fun _ => ?_) (fun z => absurd (by rw [(hx9 cq).1, (hx9 cq).2]) z)
    refine g_goto (q := 1813) B2 dL_law_1092 (by decide) ?_
    refine g_sub [2, 3, 4, 5, 6] rfl ?_
    exact kk S2 hR2
set_option maxHeartbeats 4000000 in
theorem lc_divide {Y : gY} {X : gX} {S : SS} {b N : Nat} {xs : Nat → Int32} {i : Int} {ret : Option FieldType} (B : gB Y X "NecklaceSistersLaw" cL_law 7 ret 100) (hst : (xL X).stackTraces = false) (hX : gSc Y X b N xs) (h : RR S) (hi0 : 0 ≤ i) (hi4 : i + 4 ≤ N) (h1 : xCells X + 1 ≤ (xR X).cells) (h2 : xSlots X + 6 ≤ (xR X).slots) (kk : ∀ S9 : SS, RR S9 → gW Y (xUp X) S9 1813 [(0, .ref b), (1, .ref (yA Y 72)), (2, .ref (yA Y 82)), (3, .ref (yA Y 91)), (4, .int (iI i))] []) : gW Y X S 1095 [(0, .ref b), (1, .ref (yA Y 72)), (2, .ref (yA Y 82)), (3, .ref (yA Y 91)), (4, .int (iI i))] [] := by
  refine g_aload_n (q := 1096) B dL_law_1095 rfl 1 rfl ?_
  refine g_aload_n (q := 1097) B dL_law_1096 rfl 3 rfl ?_
  refine g_callW (As := [.ref (yA Y 72), .ref (yA Y 91)]) (st := []) B dL_law_1097 (c_L_divide (Y := Y) (l := xL X) (S := S) hst h.1.2.1 h.2.2.1.1 h.2.2.1.2.1 h.2.2.2.1) eL_divide w767 (by decide) rfl rfl (Nat.le_of_ble_eq_true rfl) h1 h2 (fun v S1 hv => ?_)
  have hk : keep S S1 := wP_keepc hv (fun S' _ z => h_keep (h_dv z h.2.2.1.1)) (fun S' _ z => q_keep (q_fdv z))
  have Pq := pre_of h hk
  have hvv := hv.1
  subst hvv
  have B2 := gB_up B h1 h2
  have hX2 : gSc Y (xUp X) b N xs := hX
  show gW Y (xUp X) S1 1100 [(0, .ref b), (1, .ref (yA Y 72)), (2, .ref (yA Y 82)), (3, .ref (yA Y 91)), (4, .int (iI i))] [.int (iI (cd_dv (fewF (vw S 0))))]
  refine g_istore (q := 1102) B2 dL_law_1100 rfl (by decide) (L' := [(5, .int (iI (cd_dv (fewF (vw S 0))))), (0, .ref b), (1, .ref (yA Y 72)), (2, .ref (yA Y 82)), (3, .ref (yA Y 91)), (4, .int (iI i))]) rfl ?_
  refine g_aload_n (q := 1103) B2 dL_law_1102 rfl 3 rfl ?_
  refine g_callV (n := 82) (ty := tyX8) (q := 1106) (As := []) (st := []) B2 dL_law_1103 rfl (c_X8_divide (Y := Y) (l := xL X) (S := S1) Pq.1 Pq.2.1) eX8_divide w1178 (by decide) rfl rfl cls6 rfl rfl (Nat.le_of_ble_eq_true rfl) (fun w9 S2 hw9 => ?_)
  obtain ⟨c9, x9, y9, ec, ew, hR2, ht9, hc9, hx9⟩ := stp_q (st_divide h  hv hw9)
  subst ew
  show gW Y (xUp X) S2 1106 [(5, .int (iI (cd_dv (fewF (vw S 0))))), (0, .ref b), (1, .ref (yA Y 72)), (2, .ref (yA Y 82)), (3, .ref (yA Y 91)), (4, .int (iI i))] [.int (iI y9)]
  rw [ec]
  refine g_istore (q := 1108) B2 dL_law_1106 rfl (by decide) (L' := [(6, .int (iI y9)), (5, .int (iI c9)), (0, .ref b), (1, .ref (yA Y 72)), (2, .ref (yA Y 82)), (3, .ref (yA Y 91)), (4, .int (iI i))]) rfl ?_
  refine g_aload_n (q := 1109) B2 dL_law_1108 rfl 4 rfl ?_
  refine g_callV (n := 82) (ty := tyX8) (q := 1112) (As := []) (st := []) B2 dL_law_1109 rfl (c_X8_thrown (Y := Y) (l := xL X) (S := S2)) eX8_thrown w992 (by decide) rfl rfl cls6 rfl rfl (Nat.le_of_ble_eq_true rfl) (g_kE ?_)
  rw [ht9]
  refine g_iload (q := 1114) B2 dL_law_1112 rfl 1 rfl ?_
  refine g_icmp_eq (t := 1119) (q := 1117) B2 dL_law_1114 (by decide) rfl ⟨by omega, by omega⟩ ⟨by omega, by omega⟩ (fun _ => ?_) (fun z => absurd rfl z)
  refine g_iload (q := 1121) B2 dL_law_1119 rfl 1 rfl ?_
  refine g_if_ne (t := 1136) (q := 1124) B2 dL_law_1121 (by decide) rfl ⟨by omega, by omega⟩ (fun _ => ?_) (fun cq => ?_)
  · refine g_goto (q := 1813) B2 dL_law_1136 (by decide) ?_
    refine g_sub [2, 3, 4, 5, 6] rfl ?_
    exact kk S2 hR2
  · refine g_aload_n (q := 1125) B2 dL_law_1124 rfl 5 rfl ?_
    refine g_iconst (q := 1126) B2 dL_law_1125 rfl ?_
    refine g_lald (n := 91) (q := 1127) B2 dL_law_1126 rfl rfl rfl (by decide) (by decide) (by decide) ?_
    refine g_iload (q := 1129) B2 dL_law_1127 rfl 0 rfl ?_
    refine g_i2lN (q := 1130) B2 dL_law_1129 rfl ?_
    refine g_lcmp_eq (t := 1136) (q := 1134) B2 dL_law_1130 dL_law_1131 (by decide) rfl (by rw [(hx9 cq).1]; exact oI_rL _) (oI_rL _) (fun _ => ?_) (fun z => absurd (by rw [(hx9 cq).1, (hx9 cq).2]) z)
    refine g_goto (q := 1813) B2 dL_law_1136 (by decide) ?_
    refine g_sub [2, 3, 4, 5, 6] rfl ?_
    exact kk S2 hR2
set_option maxHeartbeats 4000000 in
theorem lc_set {Y : gY} {X : gX} {S : SS} {b N : Nat} {xs : Nat → Int32} {i : Int} {ret : Option FieldType} (B : gB Y X "NecklaceSistersLaw" cL_law 7 ret 100) (hst : (xL X).stackTraces = false) (hX : gSc Y X b N xs) (h : RR S) (hi0 : 0 ≤ i) (hi4 : i + 4 ≤ N) (h1 : xCells X + 1 ≤ (xR X).cells) (h2 : xSlots X + 6 ≤ (xR X).slots) (kk : ∀ S9 : SS, RR S9 → gW Y (xUp X) S9 1813 [(0, .ref b), (1, .ref (yA Y 72)), (2, .ref (yA Y 82)), (3, .ref (yA Y 91)), (4, .int (iI i))] []) : gW Y X S 1139 [(0, .ref b), (1, .ref (yA Y 72)), (2, .ref (yA Y 82)), (3, .ref (yA Y 91)), (4, .int (iI i))] [] := by
  refine g_aload_n (q := 1140) B dL_law_1139 rfl 1 rfl ?_
  refine g_aload_n (q := 1141) B dL_law_1140 rfl 0 rfl ?_
  refine g_iload (q := 1143) B dL_law_1141 rfl 4 rfl ?_
  refine g_iconst (q := 1144) B dL_law_1143 rfl ?_
  refine g_iadd (q := 1145) B dL_law_1144 rfl ?_
  refine g_sld (q := 1146) B hX dL_law_1145 rfl (by omega) (by omega) ?_
  refine g_aload_n (q := 1147) B dL_law_1146 rfl 3 rfl ?_
  refine g_callW (As := [.ref (yA Y 72), .int (iI (sI xs (i + 1))), .ref (yA Y 91)]) (st := []) B dL_law_1147 (c_L_set (Y := Y) (l := xL X) (S := S) hst h.1.2.1 h.2.2.1.1 h.2.2.1.2.1 (sI xs (i + 1)) (sI_in _ _)) eL_set w784 (by decide) rfl rfl (Nat.le_of_ble_eq_true rfl) h1 h2 (fun v S1 hv => ?_)
  have hk : keep S S1 := wP_keepc hv (fun S' _ z => h_keep (h_ch z h.2.2.2.1 h.2.2.1.1)) (fun S' _ z => q_keep (by rw [z]; exact q_id h.2.2.2.1))
  have Pq := pre_of h hk
  have hvv := hv.1
  subst hvv
  have B2 := gB_up B h1 h2
  have hX2 : gSc Y (xUp X) b N xs := hX
  show gW Y (xUp X) S1 1150 [(0, .ref b), (1, .ref (yA Y 72)), (2, .ref (yA Y 82)), (3, .ref (yA Y 91)), (4, .int (iI i))] [.int (iI (cd_01 (sI xs (i + 1))))]
  refine g_istore (q := 1152) B2 dL_law_1150 rfl (by decide) (L' := [(5, .int (iI (cd_01 (sI xs (i + 1))))), (0, .ref b), (1, .ref (yA Y 72)), (2, .ref (yA Y 82)), (3, .ref (yA Y 91)), (4, .int (iI i))]) rfl ?_
  refine g_aload_n (q := 1153) B2 dL_law_1152 rfl 3 rfl ?_
  refine g_aload_n (q := 1154) B2 dL_law_1153 rfl 1 rfl ?_
  refine g_iload (q := 1156) B2 dL_law_1154 rfl 5 rfl ?_
  refine g_iconst (q := 1157) B2 dL_law_1156 rfl ?_
  refine g_iadd (q := 1158) B2 dL_law_1157 rfl ?_
  refine g_sld (q := 1159) B2 hX2 dL_law_1158 rfl (by omega) (by omega) ?_
  refine g_callV (n := 82) (ty := tyX8) (q := 1162) (As := [.int (iI (sI xs (i + 1)))]) (st := []) B2 dL_law_1159 rfl (c_X8_set (Y := Y) (l := xL X) (S := S1) Pq.1 Pq.2.1 (sI xs (i + 1)) (sI_in _ _)) eX8_set w1206 (by decide) rfl rfl cls6 rfl rfl (Nat.le_of_ble_eq_true rfl) (fun w9 S2 hw9 => ?_)
  obtain ⟨c9, x9, y9, ec, ew, hR2, ht9, hc9, hx9⟩ := stp_q (st_set h _ hv hw9)
  subst ew
  show gW Y (xUp X) S2 1162 [(5, .int (iI (cd_01 (sI xs (i + 1))))), (0, .ref b), (1, .ref (yA Y 72)), (2, .ref (yA Y 82)), (3, .ref (yA Y 91)), (4, .int (iI i))] [.int (iI y9)]
  rw [ec]
  refine g_istore (q := 1164) B2 dL_law_1162 rfl (by decide) (L' := [(6, .int (iI y9)), (5, .int (iI c9)), (0, .ref b), (1, .ref (yA Y 72)), (2, .ref (yA Y 82)), (3, .ref (yA Y 91)), (4, .int (iI i))]) rfl ?_
  refine g_aload_n (q := 1165) B2 dL_law_1164 rfl 4 rfl ?_
  refine g_callV (n := 82) (ty := tyX8) (q := 1168) (As := []) (st := []) B2 dL_law_1165 rfl (c_X8_thrown (Y := Y) (l := xL X) (S := S2)) eX8_thrown w992 (by decide) rfl rfl cls6 rfl rfl (Nat.le_of_ble_eq_true rfl) (g_kE ?_)
  rw [ht9]
  refine g_iload (q := 1170) B2 dL_law_1168 rfl 1 rfl ?_
  refine g_icmp_eq (t := 1175) (q := 1173) B2 dL_law_1170 (by decide) rfl ⟨by omega, by omega⟩ ⟨by omega, by omega⟩ (fun _ => ?_) (fun z => absurd rfl z)
  refine g_iload (q := 1177) B2 dL_law_1175 rfl 1 rfl ?_
  refine g_if_ne (t := 1192) (q := 1180) B2 dL_law_1177 (by decide) rfl ⟨by omega, by omega⟩ (fun _ => ?_) (fun cq => ?_)
  · refine g_goto (q := 1813) B2 dL_law_1192 (by decide) ?_
    refine g_sub [2, 3, 4, 5, 6] rfl ?_
    exact kk S2 hR2
  · refine g_aload_n (q := 1181) B2 dL_law_1180 rfl 5 rfl ?_
    refine g_iconst (q := 1182) B2 dL_law_1181 rfl ?_
    refine g_lald (n := 91) (q := 1183) B2 dL_law_1182 rfl rfl rfl (by decide) (by decide) (by decide) ?_
    refine g_iload (q := 1185) B2 dL_law_1183 rfl 0 rfl ?_
    refine g_i2lN (q := 1186) B2 dL_law_1185 rfl ?_
    refine g_lcmp_eq (t := 1192) (q := 1190) B2 dL_law_1186 dL_law_1187 (by decide) rfl (by rw [(hx9 cq).1]; exact oI_rL _) (oI_rL _) (fun _ => ?_) (fun z => absurd (by rw [(hx9 cq).1, (hx9 cq).2]) z)
    refine g_goto (q := 1813) B2 dL_law_1192 (by decide) ?_
    refine g_sub [2, 3, 4, 5, 6] rfl ?_
    exact kk S2 hR2
set_option maxHeartbeats 4000000 in
theorem lc_undo {Y : gY} {X : gX} {S : SS} {b N : Nat} {xs : Nat → Int32} {i : Int} {ret : Option FieldType} (B : gB Y X "NecklaceSistersLaw" cL_law 7 ret 100) (hst : (xL X).stackTraces = false) (hX : gSc Y X b N xs) (h : RR S) (hi0 : 0 ≤ i) (hi4 : i + 4 ≤ N) (h1 : xCells X + 1 ≤ (xR X).cells) (h2 : xSlots X + 6 ≤ (xR X).slots) (kk : ∀ S9 : SS, RR S9 → gW Y (xUp X) S9 1813 [(0, .ref b), (1, .ref (yA Y 72)), (2, .ref (yA Y 82)), (3, .ref (yA Y 91)), (4, .int (iI i))] []) : gW Y X S 1195 [(0, .ref b), (1, .ref (yA Y 72)), (2, .ref (yA Y 82)), (3, .ref (yA Y 91)), (4, .int (iI i))] [] := by
  refine g_aload_n (q := 1196) B dL_law_1195 rfl 1 rfl ?_
  refine g_aload_n (q := 1197) B dL_law_1196 rfl 3 rfl ?_
  refine g_callW (As := [.ref (yA Y 72), .ref (yA Y 91)]) (st := []) B dL_law_1197 (c_L_undo (Y := Y) (l := xL X) (S := S) hst h.2.2.1.1 h.2.2.1.2.1) eL_undo w794 (by decide) rfl rfl (Nat.le_of_ble_eq_true rfl) h1 h2 (fun v S1 hv => ?_)
  have hk : keep S S1 := wP_keepc hv (fun S' _ z m m8 _ => z.2.2 m (by omega) (by omega)) (fun S' _ z => q_keep (by rw [z]; exact q_id h.2.2.2.1))
  have Pq := pre_of h hk
  have hvv := hv.1
  subst hvv
  have B2 := gB_up B h1 h2
  have hX2 : gSc Y (xUp X) b N xs := hX
  show gW Y (xUp X) S1 1200 [(0, .ref b), (1, .ref (yA Y 72)), (2, .ref (yA Y 82)), (3, .ref (yA Y 91)), (4, .int (iI i))] [.int (iI (cd_undo (S 75 1)))]
  refine g_istore (q := 1202) B2 dL_law_1200 rfl (by decide) (L' := [(5, .int (iI (cd_undo (S 75 1)))), (0, .ref b), (1, .ref (yA Y 72)), (2, .ref (yA Y 82)), (3, .ref (yA Y 91)), (4, .int (iI i))]) rfl ?_
  refine g_aload_n (q := 1203) B2 dL_law_1202 rfl 3 rfl ?_
  refine g_callV (n := 82) (ty := tyX8) (q := 1206) (As := []) (st := []) B2 dL_law_1203 rfl (c_X8_undo (Y := Y) (l := xL X) (S := S1) Pq.2.1) eX8_undo w1210 (by decide) rfl rfl cls6 rfl rfl (Nat.le_of_ble_eq_true rfl) (fun w9 S2 hw9 => ?_)
  obtain ⟨c9, x9, y9, ec, ew, hR2, ht9, hc9, hx9⟩ := stp_q (st_undo h  hv hw9)
  subst ew
  show gW Y (xUp X) S2 1206 [(5, .int (iI (cd_undo (S 75 1)))), (0, .ref b), (1, .ref (yA Y 72)), (2, .ref (yA Y 82)), (3, .ref (yA Y 91)), (4, .int (iI i))] [.int (iI y9)]
  rw [ec]
  refine g_istore (q := 1208) B2 dL_law_1206 rfl (by decide) (L' := [(6, .int (iI y9)), (5, .int (iI c9)), (0, .ref b), (1, .ref (yA Y 72)), (2, .ref (yA Y 82)), (3, .ref (yA Y 91)), (4, .int (iI i))]) rfl ?_
  refine g_aload_n (q := 1209) B2 dL_law_1208 rfl 4 rfl ?_
  refine g_callV (n := 82) (ty := tyX8) (q := 1212) (As := []) (st := []) B2 dL_law_1209 rfl (c_X8_thrown (Y := Y) (l := xL X) (S := S2)) eX8_thrown w992 (by decide) rfl rfl cls6 rfl rfl (Nat.le_of_ble_eq_true rfl) (g_kE ?_)
  rw [ht9]
  refine g_iload (q := 1214) B2 dL_law_1212 rfl 1 rfl ?_
  refine g_icmp_eq (t := 1219) (q := 1217) B2 dL_law_1214 (by decide) rfl ⟨by omega, by omega⟩ ⟨by omega, by omega⟩ (fun _ => ?_) (fun z => absurd rfl z)
  refine g_iload (q := 1221) B2 dL_law_1219 rfl 1 rfl ?_
  refine g_if_ne (t := 1236) (q := 1224) B2 dL_law_1221 (by decide) rfl ⟨by omega, by omega⟩ (fun _ => ?_) (fun cq => ?_)
  · refine g_goto (q := 1813) B2 dL_law_1236 (by decide) ?_
    refine g_sub [2, 3, 4, 5, 6] rfl ?_
    exact kk S2 hR2
  · refine g_aload_n (q := 1225) B2 dL_law_1224 rfl 5 rfl ?_
    refine g_iconst (q := 1226) B2 dL_law_1225 rfl ?_
    refine g_lald (n := 91) (q := 1227) B2 dL_law_1226 rfl rfl rfl (by decide) (by decide) (by decide) ?_
    refine g_iload (q := 1229) B2 dL_law_1227 rfl 0 rfl ?_
    refine g_i2lN (q := 1230) B2 dL_law_1229 rfl ?_
    refine g_lcmp_eq (t := 1236) (q := 1234) B2 dL_law_1230 dL_law_1231 (by decide) rfl (by rw [(hx9 cq).1]; exact oI_rL _) (oI_rL _) (fun _ => ?_) (fun z => absurd (by rw [(hx9 cq).1, (hx9 cq).2]) z)
    refine g_goto (q := 1813) B2 dL_law_1236 (by decide) ?_
    refine g_sub [2, 3, 4, 5, 6] rfl ?_
    exact kk S2 hR2
set_option maxHeartbeats 4000000 in
theorem lc_fewest {Y : gY} {X : gX} {S : SS} {b N : Nat} {xs : Nat → Int32} {i : Int} {ret : Option FieldType} (B : gB Y X "NecklaceSistersLaw" cL_law 7 ret 100) (hst : (xL X).stackTraces = false) (hX : gSc Y X b N xs) (h : RR S) (hi0 : 0 ≤ i) (hi4 : i + 4 ≤ N) (h1 : xCells X + 1 ≤ (xR X).cells) (h2 : xSlots X + 6 ≤ (xR X).slots) (kk : ∀ S9 : SS, RR S9 → gW Y (xUp X) S9 1813 [(0, .ref b), (1, .ref (yA Y 72)), (2, .ref (yA Y 82)), (3, .ref (yA Y 91)), (4, .int (iI i))] []) : gW Y X S 1239 [(0, .ref b), (1, .ref (yA Y 72)), (2, .ref (yA Y 82)), (3, .ref (yA Y 91)), (4, .int (iI i))] [] := by
  refine g_aload_n (q := 1240) B dL_law_1239 rfl 1 rfl ?_
  refine g_aload_n (q := 1241) B dL_law_1240 rfl 0 rfl ?_
  refine g_iload (q := 1243) B dL_law_1241 rfl 4 rfl ?_
  refine g_iconst (q := 1244) B dL_law_1243 rfl ?_
  refine g_iadd (q := 1245) B dL_law_1244 rfl ?_
  refine g_sld (q := 1246) B hX dL_law_1245 rfl (by omega) (by omega) ?_
  refine g_aload_n (q := 1247) B dL_law_1246 rfl 3 rfl ?_
  refine g_callW (As := [.ref (yA Y 72), .int (iI (sI xs (i + 1))), .ref (yA Y 91)]) (st := []) B dL_law_1247 (c_L_fewest (Y := Y) (l := xL X) (S := S) hst h.1.2.1 h.2.2.2.1 (sI xs (i + 1)) (sI_in _ _)) eL_fewest w806 (by decide) rfl rfl (Nat.le_of_ble_eq_true rfl) h1 h2 (fun v S1 hv => ?_)
  have hk : keep S S1 := wP_keepc hv (fun S' _ z => q_keep (q_fdv z)) (fun S' _ z => q_keep (by rw [z]; exact q_id h.2.2.2.1))
  have Pq := pre_of h hk
  have hvv := hv.1
  subst hvv
  have B2 := gB_up B h1 h2
  have hX2 : gSc Y (xUp X) b N xs := hX
  show gW Y (xUp X) S1 1250 [(0, .ref b), (1, .ref (yA Y 72)), (2, .ref (yA Y 82)), (3, .ref (yA Y 91)), (4, .int (iI i))] [.int (iI (cd_01 (sI xs (i + 1))))]
  refine g_istore (q := 1252) B2 dL_law_1250 rfl (by decide) (L' := [(5, .int (iI (cd_01 (sI xs (i + 1))))), (0, .ref b), (1, .ref (yA Y 72)), (2, .ref (yA Y 82)), (3, .ref (yA Y 91)), (4, .int (iI i))]) rfl ?_
  refine g_aload_n (q := 1253) B2 dL_law_1252 rfl 3 rfl ?_
  refine g_aload_n (q := 1254) B2 dL_law_1253 rfl 1 rfl ?_
  refine g_iload (q := 1256) B2 dL_law_1254 rfl 5 rfl ?_
  refine g_iconst (q := 1257) B2 dL_law_1256 rfl ?_
  refine g_iadd (q := 1258) B2 dL_law_1257 rfl ?_
  refine g_sld (q := 1259) B2 hX2 dL_law_1258 rfl (by omega) (by omega) ?_
  refine g_callV (n := 82) (ty := tyX8) (q := 1262) (As := [.int (iI (sI xs (i + 1)))]) (st := []) B2 dL_law_1259 rfl (c_X8_fewest (Y := Y) (l := xL X) (S := S1) Pq.1 (sI xs (i + 1)) (sI_in _ _)) eX8_fewest w1214 (by decide) rfl rfl cls6 rfl rfl (Nat.le_of_ble_eq_true rfl) (fun w9 S2 hw9 => ?_)
  obtain ⟨c9, x9, y9, ec, ew, hR2, ht9, hc9, hx9⟩ := stp_q (st_fewest h _ hv hw9)
  subst ew
  show gW Y (xUp X) S2 1262 [(5, .int (iI (cd_01 (sI xs (i + 1))))), (0, .ref b), (1, .ref (yA Y 72)), (2, .ref (yA Y 82)), (3, .ref (yA Y 91)), (4, .int (iI i))] [.int (iI y9)]
  rw [ec]
  refine g_istore (q := 1264) B2 dL_law_1262 rfl (by decide) (L' := [(6, .int (iI y9)), (5, .int (iI c9)), (0, .ref b), (1, .ref (yA Y 72)), (2, .ref (yA Y 82)), (3, .ref (yA Y 91)), (4, .int (iI i))]) rfl ?_
  refine g_aload_n (q := 1265) B2 dL_law_1264 rfl 4 rfl ?_
  refine g_callV (n := 82) (ty := tyX8) (q := 1268) (As := []) (st := []) B2 dL_law_1265 rfl (c_X8_thrown (Y := Y) (l := xL X) (S := S2)) eX8_thrown w992 (by decide) rfl rfl cls6 rfl rfl (Nat.le_of_ble_eq_true rfl) (g_kE ?_)
  rw [ht9]
  refine g_iload (q := 1270) B2 dL_law_1268 rfl 1 rfl ?_
  refine g_icmp_eq (t := 1275) (q := 1273) B2 dL_law_1270 (by decide) rfl ⟨by omega, by omega⟩ ⟨by omega, by omega⟩ (fun _ => ?_) (fun z => absurd rfl z)
  refine g_iload (q := 1277) B2 dL_law_1275 rfl 1 rfl ?_
  refine g_if_ne (t := 1292) (q := 1280) B2 dL_law_1277 (by decide) rfl ⟨by omega, by omega⟩ (fun _ => ?_) (fun cq => ?_)
  · refine g_goto (q := 1813) B2 dL_law_1292 (by decide) ?_
    refine g_sub [2, 3, 4, 5, 6] rfl ?_
    exact kk S2 hR2
  · refine g_aload_n (q := 1281) B2 dL_law_1280 rfl 5 rfl ?_
    refine g_iconst (q := 1282) B2 dL_law_1281 rfl ?_
    refine g_lald (n := 91) (q := 1283) B2 dL_law_1282 rfl rfl rfl (by decide) (by decide) (by decide) ?_
    refine g_iload (q := 1285) B2 dL_law_1283 rfl 0 rfl ?_
    refine g_i2lN (q := 1286) B2 dL_law_1285 rfl ?_
    refine g_lcmp_eq (t := 1292) (q := 1290) B2 dL_law_1286 dL_law_1287 (by decide) rfl (by rw [(hx9 cq).1]; exact oI_rL _) (oI_rL _) (fun _ => ?_) (fun z => absurd (by rw [(hx9 cq).1, (hx9 cq).2]) z)
    refine g_goto (q := 1813) B2 dL_law_1292 (by decide) ?_
    refine g_sub [2, 3, 4, 5, 6] rfl ?_
    exact kk S2 hR2
set_option maxHeartbeats 4000000 in
theorem lc_divided {Y : gY} {X : gX} {S : SS} {b N : Nat} {xs : Nat → Int32} {i : Int} {ret : Option FieldType} (B : gB Y X "NecklaceSistersLaw" cL_law 7 ret 100) (hst : (xL X).stackTraces = false) (hX : gSc Y X b N xs) (h : RR S) (hi0 : 0 ≤ i) (hi4 : i + 4 ≤ N) (h1 : xCells X + 1 ≤ (xR X).cells) (h2 : xSlots X + 6 ≤ (xR X).slots) (kk : ∀ S9 : SS, RR S9 → gW Y (xUp X) S9 1813 [(0, .ref b), (1, .ref (yA Y 72)), (2, .ref (yA Y 82)), (3, .ref (yA Y 91)), (4, .int (iI i))] []) : gW Y X S 1295 [(0, .ref b), (1, .ref (yA Y 72)), (2, .ref (yA Y 82)), (3, .ref (yA Y 91)), (4, .int (iI i))] [] := by
  refine g_aload_n (q := 1296) B dL_law_1295 rfl 1 rfl ?_
  refine g_aload_n (q := 1297) B dL_law_1296 rfl 0 rfl ?_
  refine g_iload (q := 1299) B dL_law_1297 rfl 4 rfl ?_
  refine g_iconst (q := 1300) B dL_law_1299 rfl ?_
  refine g_iadd (q := 1301) B dL_law_1300 rfl ?_
  refine g_sld (q := 1302) B hX dL_law_1301 rfl (by omega) (by omega) ?_
  refine g_aload_n (q := 1303) B dL_law_1302 rfl 3 rfl ?_
  refine g_callW (As := [.ref (yA Y 72), .int (iI (sI xs (i + 1))), .ref (yA Y 91)]) (st := []) B dL_law_1303 (c_L_divided (Y := Y) (l := xL X) (S := S) hst h.1.2.1 h.2.2.2.1 (sI xs (i + 1)) (sI_in _ _)) eL_divided w824 (by decide) rfl rfl (Nat.le_of_ble_eq_true rfl) h1 h2 (fun v S1 hv => ?_)
  have hk : keep S S1 := wP_keepc hv (fun S' _ z => q_keep (q_fdv z)) (fun S' _ z => q_keep (by rw [z]; exact q_id h.2.2.2.1))
  have Pq := pre_of h hk
  have hvv := hv.1
  subst hvv
  have B2 := gB_up B h1 h2
  have hX2 : gSc Y (xUp X) b N xs := hX
  show gW Y (xUp X) S1 1306 [(0, .ref b), (1, .ref (yA Y 72)), (2, .ref (yA Y 82)), (3, .ref (yA Y 91)), (4, .int (iI i))] [.int (iI (cd_m1 (sI xs (i + 1))))]
  refine g_istore (q := 1308) B2 dL_law_1306 rfl (by decide) (L' := [(5, .int (iI (cd_m1 (sI xs (i + 1))))), (0, .ref b), (1, .ref (yA Y 72)), (2, .ref (yA Y 82)), (3, .ref (yA Y 91)), (4, .int (iI i))]) rfl ?_
  refine g_aload_n (q := 1309) B2 dL_law_1308 rfl 3 rfl ?_
  refine g_aload_n (q := 1310) B2 dL_law_1309 rfl 1 rfl ?_
  refine g_iload (q := 1312) B2 dL_law_1310 rfl 5 rfl ?_
  refine g_iconst (q := 1313) B2 dL_law_1312 rfl ?_
  refine g_iadd (q := 1314) B2 dL_law_1313 rfl ?_
  refine g_sld (q := 1315) B2 hX2 dL_law_1314 rfl (by omega) (by omega) ?_
  refine g_callV (n := 82) (ty := tyX8) (q := 1318) (As := [.int (iI (sI xs (i + 1)))]) (st := []) B2 dL_law_1315 rfl (c_X8_divided (Y := Y) (l := xL X) (S := S1) Pq.1 (sI xs (i + 1)) (sI_in _ _)) eX8_divided w1218 (by decide) rfl rfl cls6 rfl rfl (Nat.le_of_ble_eq_true rfl) (fun w9 S2 hw9 => ?_)
  obtain ⟨c9, x9, y9, ec, ew, hR2, ht9, hc9, hx9⟩ := stp_q (st_divided h _ hv hw9)
  subst ew
  show gW Y (xUp X) S2 1318 [(5, .int (iI (cd_m1 (sI xs (i + 1))))), (0, .ref b), (1, .ref (yA Y 72)), (2, .ref (yA Y 82)), (3, .ref (yA Y 91)), (4, .int (iI i))] [.int (iI y9)]
  rw [ec]
  refine g_istore (q := 1320) B2 dL_law_1318 rfl (by decide) (L' := [(6, .int (iI y9)), (5, .int (iI c9)), (0, .ref b), (1, .ref (yA Y 72)), (2, .ref (yA Y 82)), (3, .ref (yA Y 91)), (4, .int (iI i))]) rfl ?_
  refine g_aload_n (q := 1321) B2 dL_law_1320 rfl 4 rfl ?_
  refine g_callV (n := 82) (ty := tyX8) (q := 1324) (As := []) (st := []) B2 dL_law_1321 rfl (c_X8_thrown (Y := Y) (l := xL X) (S := S2)) eX8_thrown w992 (by decide) rfl rfl cls6 rfl rfl (Nat.le_of_ble_eq_true rfl) (g_kE ?_)
  rw [ht9]
  refine g_iload (q := 1326) B2 dL_law_1324 rfl 1 rfl ?_
  refine g_icmp_eq (t := 1331) (q := 1329) B2 dL_law_1326 (by decide) rfl ⟨by omega, by omega⟩ ⟨by omega, by omega⟩ (fun _ => ?_) (fun z => absurd rfl z)
  refine g_iload (q := 1333) B2 dL_law_1331 rfl 1 rfl ?_
  refine g_if_ne (t := 1348) (q := 1336) B2 dL_law_1333 (by decide) rfl ⟨by omega, by omega⟩ (fun _ => ?_) (fun cq => ?_)
  · refine g_goto (q := 1813) B2 dL_law_1348 (by decide) ?_
    refine g_sub [2, 3, 4, 5, 6] rfl ?_
    exact kk S2 hR2
  · refine g_aload_n (q := 1337) B2 dL_law_1336 rfl 5 rfl ?_
    refine g_iconst (q := 1338) B2 dL_law_1337 rfl ?_
    refine g_lald (n := 91) (q := 1339) B2 dL_law_1338 rfl rfl rfl (by decide) (by decide) (by decide) ?_
    refine g_iload (q := 1341) B2 dL_law_1339 rfl 0 rfl ?_
    refine g_i2lN (q := 1342) B2 dL_law_1341 rfl ?_
    refine g_lcmp_eq (t := 1348) (q := 1346) B2 dL_law_1342 dL_law_1343 (by decide) rfl (by rw [(hx9 cq).1]; exact oI_rL _) (oI_rL _) (fun _ => ?_) (fun z => absurd (by rw [(hx9 cq).1, (hx9 cq).2]) z)
    refine g_goto (q := 1813) B2 dL_law_1348 (by decide) ?_
    refine g_sub [2, 3, 4, 5, 6] rfl ?_
    exact kk S2 hR2
set_option maxHeartbeats 4000000 in
theorem lc_leastGap {Y : gY} {X : gX} {S : SS} {b N : Nat} {xs : Nat → Int32} {i : Int} {ret : Option FieldType} (B : gB Y X "NecklaceSistersLaw" cL_law 7 ret 100) (hst : (xL X).stackTraces = false) (hX : gSc Y X b N xs) (h : RR S) (hi0 : 0 ≤ i) (hi4 : i + 4 ≤ N) (h1 : xCells X + 1 ≤ (xR X).cells) (h2 : xSlots X + 6 ≤ (xR X).slots) (kk : ∀ S9 : SS, RR S9 → gW Y (xUp X) S9 1813 [(0, .ref b), (1, .ref (yA Y 72)), (2, .ref (yA Y 82)), (3, .ref (yA Y 91)), (4, .int (iI i))] []) : gW Y X S 1351 [(0, .ref b), (1, .ref (yA Y 72)), (2, .ref (yA Y 82)), (3, .ref (yA Y 91)), (4, .int (iI i))] [] := by
  refine g_aload_n (q := 1352) B dL_law_1351 rfl 1 rfl ?_
  refine g_aload_n (q := 1353) B dL_law_1352 rfl 0 rfl ?_
  refine g_iload (q := 1355) B dL_law_1353 rfl 4 rfl ?_
  refine g_iconst (q := 1356) B dL_law_1355 rfl ?_
  refine g_iadd (q := 1357) B dL_law_1356 rfl ?_
  refine g_sld (q := 1358) B hX dL_law_1357 rfl (by omega) (by omega) ?_
  refine g_aload_n (q := 1359) B dL_law_1358 rfl 3 rfl ?_
  refine g_callW (As := [.ref (yA Y 72), .int (iI (sI xs (i + 1))), .ref (yA Y 91)]) (st := []) B dL_law_1359 (c_L_leastGap (Y := Y) (l := xL X) (S := S) hst h.1.2.1 h.2.2.2.1 (sI xs (i + 1)) (sI_in _ _)) eL_leastGap w832 (by decide) rfl rfl (Nat.le_of_ble_eq_true rfl) h1 h2 (fun v S1 hv => ?_)
  have hk : keep S S1 := wP_keepc hv (fun S' _ z => q_keep (q_fdv z)) (fun S' _ z => q_keep (by rw [z]; exact q_id h.2.2.2.1))
  have Pq := pre_of h hk
  have hvv := hv.1
  subst hvv
  have B2 := gB_up B h1 h2
  have hX2 : gSc Y (xUp X) b N xs := hX
  show gW Y (xUp X) S1 1362 [(0, .ref b), (1, .ref (yA Y 72)), (2, .ref (yA Y 82)), (3, .ref (yA Y 91)), (4, .int (iI i))] [.int (iI (cd_04 (sI xs (i + 1))))]
  refine g_istore (q := 1364) B2 dL_law_1362 rfl (by decide) (L' := [(5, .int (iI (cd_04 (sI xs (i + 1))))), (0, .ref b), (1, .ref (yA Y 72)), (2, .ref (yA Y 82)), (3, .ref (yA Y 91)), (4, .int (iI i))]) rfl ?_
  refine g_aload_n (q := 1365) B2 dL_law_1364 rfl 3 rfl ?_
  refine g_aload_n (q := 1366) B2 dL_law_1365 rfl 1 rfl ?_
  refine g_iload (q := 1368) B2 dL_law_1366 rfl 5 rfl ?_
  refine g_iconst (q := 1369) B2 dL_law_1368 rfl ?_
  refine g_iadd (q := 1370) B2 dL_law_1369 rfl ?_
  refine g_sld (q := 1371) B2 hX2 dL_law_1370 rfl (by omega) (by omega) ?_
  refine g_callV (n := 82) (ty := tyX8) (q := 1374) (As := [.int (iI (sI xs (i + 1)))]) (st := []) B2 dL_law_1371 rfl (c_X8_leastGap (Y := Y) (l := xL X) (S := S1) Pq.1 (sI xs (i + 1)) (sI_in _ _)) eX8_leastGap w1222 (by decide) rfl rfl cls6 rfl rfl (Nat.le_of_ble_eq_true rfl) (fun w9 S2 hw9 => ?_)
  obtain ⟨c9, x9, y9, ec, ew, hR2, ht9, hc9, hx9⟩ := stp_q (st_leastGap h _ hv hw9)
  subst ew
  show gW Y (xUp X) S2 1374 [(5, .int (iI (cd_04 (sI xs (i + 1))))), (0, .ref b), (1, .ref (yA Y 72)), (2, .ref (yA Y 82)), (3, .ref (yA Y 91)), (4, .int (iI i))] [.int (iI y9)]
  rw [ec]
  refine g_istore (q := 1376) B2 dL_law_1374 rfl (by decide) (L' := [(6, .int (iI y9)), (5, .int (iI c9)), (0, .ref b), (1, .ref (yA Y 72)), (2, .ref (yA Y 82)), (3, .ref (yA Y 91)), (4, .int (iI i))]) rfl ?_
  refine g_aload_n (q := 1377) B2 dL_law_1376 rfl 4 rfl ?_
  refine g_callV (n := 82) (ty := tyX8) (q := 1380) (As := []) (st := []) B2 dL_law_1377 rfl (c_X8_thrown (Y := Y) (l := xL X) (S := S2)) eX8_thrown w992 (by decide) rfl rfl cls6 rfl rfl (Nat.le_of_ble_eq_true rfl) (g_kE ?_)
  rw [ht9]
  refine g_iload (q := 1382) B2 dL_law_1380 rfl 1 rfl ?_
  refine g_icmp_eq (t := 1387) (q := 1385) B2 dL_law_1382 (by decide) rfl ⟨by omega, by omega⟩ ⟨by omega, by omega⟩ (fun _ => ?_) (fun z => absurd rfl z)
  refine g_iload (q := 1389) B2 dL_law_1387 rfl 1 rfl ?_
  refine g_if_ne (t := 1404) (q := 1392) B2 dL_law_1389 (by decide) rfl ⟨by omega, by omega⟩ (fun _ => ?_) (fun cq => ?_)
  · refine g_goto (q := 1813) B2 dL_law_1404 (by decide) ?_
    refine g_sub [2, 3, 4, 5, 6] rfl ?_
    exact kk S2 hR2
  · refine g_aload_n (q := 1393) B2 dL_law_1392 rfl 5 rfl ?_
    refine g_iconst (q := 1394) B2 dL_law_1393 rfl ?_
    refine g_lald (n := 91) (q := 1395) B2 dL_law_1394 rfl rfl rfl (by decide) (by decide) (by decide) ?_
    refine g_iload (q := 1397) B2 dL_law_1395 rfl 0 rfl ?_
    refine g_i2lN (q := 1398) B2 dL_law_1397 rfl ?_
    refine g_lcmp_eq (t := 1404) (q := 1402) B2 dL_law_1398 dL_law_1399 (by decide) rfl (by rw [(hx9 cq).1]; exact oI_rL _) (oI_rL _) (fun _ => ?_) (fun z => absurd (by rw [(hx9 cq).1, (hx9 cq).2]) z)
    refine g_goto (q := 1813) B2 dL_law_1404 (by decide) ?_
    refine g_sub [2, 3, 4, 5, 6] rfl ?_
    exact kk S2 hR2
set_option maxHeartbeats 4000000 in
theorem lc_bestBreak {Y : gY} {X : gX} {S : SS} {b N : Nat} {xs : Nat → Int32} {i : Int} {ret : Option FieldType} (B : gB Y X "NecklaceSistersLaw" cL_law 7 ret 100) (hst : (xL X).stackTraces = false) (hX : gSc Y X b N xs) (h : RR S) (hi0 : 0 ≤ i) (hi4 : i + 4 ≤ N) (h1 : xCells X + 1 ≤ (xR X).cells) (h2 : xSlots X + 6 ≤ (xR X).slots) (kk : ∀ S9 : SS, RR S9 → gW Y X S9 1813 [(0, .ref b), (1, .ref (yA Y 72)), (2, .ref (yA Y 82)), (3, .ref (yA Y 91)), (4, .int (iI i))] []) : gW Y X S 1407 [(0, .ref b), (1, .ref (yA Y 72)), (2, .ref (yA Y 82)), (3, .ref (yA Y 91)), (4, .int (iI i))] [] := by
  refine g_aload_n (q := 1408) B dL_law_1407 rfl 1 rfl ?_
  refine g_callV (n := 72) (ty := tyX7) (q := 1411) (As := []) (st := []) B dL_law_1408 rfl (c_X7_bestBreak (Y := Y) (l := xL X) (S := S) h.1.2.1 h.2.2.2.1) eX7_bestBreak w324 (by decide) rfl rfl cls5 rfl rfl (Nat.le_of_ble_eq_true rfl) (fun v S1 hv => ?_)
  have hk : keep S S1 := (q_keep (q_fdv hv.2))
  have Pq := pre_of h hk
  have hvv := hv.1
  subst hvv
  show gW Y X S1 1411 [(0, .ref b), (1, .ref (yA Y 72)), (2, .ref (yA Y 82)), (3, .ref (yA Y 91)), (4, .int (iI i))] [.int (iI (bkG (vw S 0) (S (4 * 0) 0).toNat).1)]
  refine g_aload_n (q := 1412) B dL_law_1411 rfl 2 rfl ?_
  refine g_callV (n := 82) (ty := tyX8) (q := 1415) (As := []) (st := [.int (iI (bkG (vw S 0) (S (4 * 0) 0).toNat).1)]) B dL_law_1412 rfl (c_X8_bestBreak (Y := Y) (l := xL X) (S := S1) Pq.1) eX8_bestBreak w1227 (by decide) rfl rfl cls6 rfl rfl (Nat.le_of_ble_eq_true rfl) (fun w9 S2 hw9 => ?_)
  obtain ⟨x9, e1, e2, hR2⟩ := stq_bestBreak h hv hw9
  subst e2
  have ec : iI (bkG (vw S 0) (S (4 * 0) 0).toNat).1 = iI x9 := by injection (Option.some.inj e1)
  show gW Y X S2 1415 [(0, .ref b), (1, .ref (yA Y 72)), (2, .ref (yA Y 82)), (3, .ref (yA Y 91)), (4, .int (iI i))] [.int (iI x9), .int (iI (bkG (vw S 0) (S (4 * 0) 0).toNat).1)]
  rw [ec, ← oI_iI x9]
  refine g_icmp_eq (t := 1813) (q := 1418) B dL_law_1415 (by decide) rfl (oI_in x9) (oI_in x9) (fun _ => ?_) (fun z => absurd rfl z)
  exact kk S2 hR2
set_option maxHeartbeats 4000000 in
theorem lc_bestRun {Y : gY} {X : gX} {S : SS} {b N : Nat} {xs : Nat → Int32} {i : Int} {ret : Option FieldType} (B : gB Y X "NecklaceSistersLaw" cL_law 7 ret 100) (hst : (xL X).stackTraces = false) (hX : gSc Y X b N xs) (h : RR S) (hi0 : 0 ≤ i) (hi4 : i + 4 ≤ N) (h1 : xCells X + 1 ≤ (xR X).cells) (h2 : xSlots X + 6 ≤ (xR X).slots) (kk : ∀ S9 : SS, RR S9 → gW Y X S9 1813 [(0, .ref b), (1, .ref (yA Y 72)), (2, .ref (yA Y 82)), (3, .ref (yA Y 91)), (4, .int (iI i))] []) : gW Y X S 1420 [(0, .ref b), (1, .ref (yA Y 72)), (2, .ref (yA Y 82)), (3, .ref (yA Y 91)), (4, .int (iI i))] [] := by
  refine g_aload_n (q := 1421) B dL_law_1420 rfl 1 rfl ?_
  refine g_callV (n := 72) (ty := tyX7) (q := 1424) (As := []) (st := []) B dL_law_1421 rfl (c_X7_bestRun (Y := Y) (l := xL X) (S := S) h.1.2.1) eX7_bestRun w366 (by decide) rfl rfl cls5 rfl rfl (Nat.le_of_ble_eq_true rfl) (fun v S1 hv => ?_)
  have hk : keep S S1 := (q_keep (q_fr h.2.2.2.1 hv.2))
  have Pq := pre_of h hk
  have hvv := hv.1
  subst hvv
  show gW Y X S1 1424 [(0, .ref b), (1, .ref (yA Y 72)), (2, .ref (yA Y 82)), (3, .ref (yA Y 91)), (4, .int (iI i))] [.int (iI (ckG (vw S 0) (runsF (vw S 0)).toNat).1)]
  refine g_aload_n (q := 1425) B dL_law_1424 rfl 2 rfl ?_
  refine g_callV (n := 82) (ty := tyX8) (q := 1428) (As := []) (st := [.int (iI (ckG (vw S 0) (runsF (vw S 0)).toNat).1)]) B dL_law_1425 rfl (c_X8_bestRun (Y := Y) (l := xL X) (S := S1) Pq.1) eX8_bestRun w1231 (by decide) rfl rfl cls6 rfl rfl (Nat.le_of_ble_eq_true rfl) (fun w9 S2 hw9 => ?_)
  obtain ⟨x9, e1, e2, hR2⟩ := stq_bestRun h hv hw9
  subst e2
  have ec : iI (ckG (vw S 0) (runsF (vw S 0)).toNat).1 = iI x9 := by injection (Option.some.inj e1)
  show gW Y X S2 1428 [(0, .ref b), (1, .ref (yA Y 72)), (2, .ref (yA Y 82)), (3, .ref (yA Y 91)), (4, .int (iI i))] [.int (iI x9), .int (iI (ckG (vw S 0) (runsF (vw S 0)).toNat).1)]
  rw [ec, ← oI_iI x9]
  refine g_icmp_eq (t := 1813) (q := 1431) B dL_law_1428 (by decide) rfl (oI_in x9) (oI_in x9) (fun _ => ?_) (fun z => absurd rfl z)
  exact kk S2 hR2
set_option maxHeartbeats 4000000 in
theorem lc_ifGiven {Y : gY} {X : gX} {S : SS} {b N : Nat} {xs : Nat → Int32} {i : Int} {ret : Option FieldType} (B : gB Y X "NecklaceSistersLaw" cL_law 7 ret 100) (hst : (xL X).stackTraces = false) (hX : gSc Y X b N xs) (h : RR S) (hi0 : 0 ≤ i) (hi4 : i + 4 ≤ N) (h1 : xCells X + 1 ≤ (xR X).cells) (h2 : xSlots X + 6 ≤ (xR X).slots) (kk : ∀ S9 : SS, RR S9 → gW Y (xUp X) S9 1813 [(0, .ref b), (1, .ref (yA Y 72)), (2, .ref (yA Y 82)), (3, .ref (yA Y 91)), (4, .int (iI i))] []) : gW Y X S 1433 [(0, .ref b), (1, .ref (yA Y 72)), (2, .ref (yA Y 82)), (3, .ref (yA Y 91)), (4, .int (iI i))] [] := by
  refine g_aload_n (q := 1434) B dL_law_1433 rfl 1 rfl ?_
  refine g_aload_n (q := 1435) B dL_law_1434 rfl 0 rfl ?_
  refine g_iload (q := 1437) B dL_law_1435 rfl 4 rfl ?_
  refine g_iconst (q := 1438) B dL_law_1437 rfl ?_
  refine g_iadd (q := 1439) B dL_law_1438 rfl ?_
  refine g_sld (q := 1440) B hX dL_law_1439 rfl (by omega) (by omega) ?_
  refine g_aload_n (q := 1441) B dL_law_1440 rfl 0 rfl ?_
  refine g_iload (q := 1443) B dL_law_1441 rfl 4 rfl ?_
  refine g_iconst (q := 1444) B dL_law_1443 rfl ?_
  refine g_iadd (q := 1445) B dL_law_1444 rfl ?_
  refine g_sld (q := 1446) B hX dL_law_1445 rfl (by omega) (by omega) ?_
  refine g_aload_n (q := 1447) B dL_law_1446 rfl 3 rfl ?_
  refine g_callW (As := [.ref (yA Y 72), .int (iI (sI xs (i + 1))), .int (iI (sI xs (i + 2))), .ref (yA Y 91)]) (st := []) B dL_law_1447 (c_L_ifGiven (Y := Y) (l := xL X) (S := S) hst h.1.2.1 (sI xs (i + 1)) (sI_in _ _) (sI xs (i + 2)) (sI_in _ _)) eL_ifGiven w853 (by decide) rfl rfl (Nat.le_of_ble_eq_true rfl) h1 h2 (fun v S1 hv => ?_)
  have hk : keep S S1 := wP_keepc hv (fun S' _ z => q_keep (q_fr h.2.2.2.1 z)) (fun S' _ z => q_keep (by rw [z]; exact q_id h.2.2.2.1))
  have Pq := pre_of h hk
  have hvv := hv.1
  subst hvv
  have B2 := gB_up B h1 h2
  have hX2 : gSc Y (xUp X) b N xs := hX
  show gW Y (xUp X) S1 1450 [(0, .ref b), (1, .ref (yA Y 72)), (2, .ref (yA Y 82)), (3, .ref (yA Y 91)), (4, .int (iI i))] [.int (iI (cd_give (vw S 0) (sI xs (i + 1)) (sI xs (i + 2))))]
  refine g_istore (q := 1452) B2 dL_law_1450 rfl (by decide) (L' := [(5, .int (iI (cd_give (vw S 0) (sI xs (i + 1)) (sI xs (i + 2))))), (0, .ref b), (1, .ref (yA Y 72)), (2, .ref (yA Y 82)), (3, .ref (yA Y 91)), (4, .int (iI i))]) rfl ?_
  refine g_aload_n (q := 1453) B2 dL_law_1452 rfl 3 rfl ?_
  refine g_aload_n (q := 1454) B2 dL_law_1453 rfl 1 rfl ?_
  refine g_iload (q := 1456) B2 dL_law_1454 rfl 5 rfl ?_
  refine g_iconst (q := 1457) B2 dL_law_1456 rfl ?_
  refine g_iadd (q := 1458) B2 dL_law_1457 rfl ?_
  refine g_sld (q := 1459) B2 hX2 dL_law_1458 rfl (by omega) (by omega) ?_
  refine g_aload_n (q := 1460) B2 dL_law_1459 rfl 1 rfl ?_
  refine g_iload (q := 1462) B2 dL_law_1460 rfl 5 rfl ?_
  refine g_iconst (q := 1463) B2 dL_law_1462 rfl ?_
  refine g_iadd (q := 1464) B2 dL_law_1463 rfl ?_
  refine g_sld (q := 1465) B2 hX2 dL_law_1464 rfl (by omega) (by omega) ?_
  refine g_callV (n := 82) (ty := tyX8) (q := 1468) (As := [.int (iI (sI xs (i + 1))), .int (iI (sI xs (i + 2)))]) (st := []) B2 dL_law_1465 rfl (c_X8_ifGiven (Y := Y) (l := xL X) (S := S1) Pq.1 (sI xs (i + 1)) (sI_in _ _) (sI xs (i + 2)) (sI_in _ _)) eX8_ifGiven w1239 (by decide) rfl rfl cls6 rfl rfl (Nat.le_of_ble_eq_true rfl) (fun w9 S2 hw9 => ?_)
  obtain ⟨c9, x9, y9, ec, ew, hR2, ht9, hc9, hx9⟩ := stp_q (st_ifGiven h _ _ hv hw9)
  subst ew
  show gW Y (xUp X) S2 1468 [(5, .int (iI (cd_give (vw S 0) (sI xs (i + 1)) (sI xs (i + 2))))), (0, .ref b), (1, .ref (yA Y 72)), (2, .ref (yA Y 82)), (3, .ref (yA Y 91)), (4, .int (iI i))] [.int (iI y9)]
  rw [ec]
  refine g_istore (q := 1470) B2 dL_law_1468 rfl (by decide) (L' := [(6, .int (iI y9)), (5, .int (iI c9)), (0, .ref b), (1, .ref (yA Y 72)), (2, .ref (yA Y 82)), (3, .ref (yA Y 91)), (4, .int (iI i))]) rfl ?_
  refine g_aload_n (q := 1471) B2 dL_law_1470 rfl 4 rfl ?_
  refine g_callV (n := 82) (ty := tyX8) (q := 1474) (As := []) (st := []) B2 dL_law_1471 rfl (c_X8_thrown (Y := Y) (l := xL X) (S := S2)) eX8_thrown w992 (by decide) rfl rfl cls6 rfl rfl (Nat.le_of_ble_eq_true rfl) (g_kE ?_)
  rw [ht9]
  refine g_iload (q := 1476) B2 dL_law_1474 rfl 1 rfl ?_
  refine g_icmp_eq (t := 1481) (q := 1479) B2 dL_law_1476 (by decide) rfl ⟨by omega, by omega⟩ ⟨by omega, by omega⟩ (fun _ => ?_) (fun z => absurd rfl z)
  refine g_iload (q := 1483) B2 dL_law_1481 rfl 1 rfl ?_
  refine g_if_ne (t := 1498) (q := 1486) B2 dL_law_1483 (by decide) rfl ⟨by omega, by omega⟩ (fun _ => ?_) (fun cq => ?_)
  · refine g_goto (q := 1813) B2 dL_law_1498 (by decide) ?_
    refine g_sub [2, 3, 4, 5, 6] rfl ?_
    exact kk S2 hR2
  · refine g_aload_n (q := 1487) B2 dL_law_1486 rfl 5 rfl ?_
    refine g_iconst (q := 1488) B2 dL_law_1487 rfl ?_
    refine g_lald (n := 91) (q := 1489) B2 dL_law_1488 rfl rfl rfl (by decide) (by decide) (by decide) ?_
    refine g_iload (q := 1491) B2 dL_law_1489 rfl 0 rfl ?_
    refine g_i2lN (q := 1492) B2 dL_law_1491 rfl ?_
    refine g_lcmp_eq (t := 1498) (q := 1496) B2 dL_law_1492 dL_law_1493 (by decide) rfl (by rw [(hx9 cq).1]; exact oI_rL _) (oI_rL _) (fun _ => ?_) (fun z => absurd (by rw [(hx9 cq).1, (hx9 cq).2]) z)
    refine g_goto (q := 1813) B2 dL_law_1498 (by decide) ?_
    refine g_sub [2, 3, 4, 5, 6] rfl ?_
    exact kk S2 hR2
set_option maxHeartbeats 4000000 in
theorem lc_runScript {Y : gY} {X : gX} {S : SS} {b N : Nat} {xs : Nat → Int32} {i : Int} {ret : Option FieldType} (B : gB Y X "NecklaceSistersLaw" cL_law 7 ret 100) (hst : (xL X).stackTraces = false) (hX : gSc Y X b N xs) (h : RR S) (hi0 : 0 ≤ i) (hi4 : i + 4 ≤ N) (h1 : xCells X + 1 ≤ (xR X).cells) (h2 : xSlots X + 6 ≤ (xR X).slots) (kk : ∀ S9 : SS, RR S9 → gW Y (xUp X) S9 1813 [(0, .ref b), (1, .ref (yA Y 72)), (2, .ref (yA Y 82)), (3, .ref (yA Y 91)), (4, .int (iI i))] []) : gW Y X S 1501 [(0, .ref b), (1, .ref (yA Y 72)), (2, .ref (yA Y 82)), (3, .ref (yA Y 91)), (4, .int (iI i))] [] := by
  obtain ⟨zq, hzq, hzr⟩ : ∃ z : Int, (lI (sI xs (i + 2)) <<< ((iI 32).toInt64 &&& 63)) ||| (lI (sI xs (i + 3)) &&& lI 4294967295) = lI z ∧ rL z := ⟨_, lI_to _, lI_in _⟩
  refine g_aload_n (q := 1502) B dL_law_1501 rfl 1 rfl ?_
  refine g_aload_n (q := 1503) B dL_law_1502 rfl 0 rfl ?_
  refine g_iload (q := 1505) B dL_law_1503 rfl 4 rfl ?_
  refine g_iconst (q := 1506) B dL_law_1505 rfl ?_
  refine g_iadd (q := 1507) B dL_law_1506 rfl ?_
  refine g_sld (q := 1508) B hX dL_law_1507 rfl (by omega) (by omega) ?_
  refine g_aload_n (q := 1509) B dL_law_1508 rfl 0 rfl ?_
  refine g_iload (q := 1511) B dL_law_1509 rfl 4 rfl ?_
  refine g_iconst (q := 1512) B dL_law_1511 rfl ?_
  refine g_iadd (q := 1513) B dL_law_1512 rfl ?_
  refine g_sld (q := 1514) B hX dL_law_1513 rfl (by omega) (by omega) ?_
  refine g_i2l (q := 1515) B dL_law_1514 rfl (sI_in _ _) ?_
  refine g_bipush (q := 1517) B dL_law_1515 rfl (by decide) ?_
  refine g_lshl (q := 1518) B dL_law_1517 rfl rfl ?_
  refine g_aload_n (q := 1519) B dL_law_1518 rfl 0 rfl ?_
  refine g_iload (q := 1521) B dL_law_1519 rfl 4 rfl ?_
  refine g_iconst (q := 1522) B dL_law_1521 rfl ?_
  refine g_iadd (q := 1523) B dL_law_1522 rfl ?_
  refine g_sld (q := 1524) B hX dL_law_1523 rfl (by omega) (by omega) ?_
  refine g_i2l (q := 1525) B dL_law_1524 rfl (sI_in _ _) ?_
  refine g_ldc2 (z := 4294967295) (q := 1528) B dL_law_1525 rfl w1277 rfl ?_
  refine g_land (q := 1529) B dL_law_1528 rfl rfl ?_
  refine g_lor (v := lI zq) (q := 1530) B dL_law_1529 rfl hzq ?_
  refine g_aload_n (q := 1531) B dL_law_1530 rfl 3 rfl ?_
  refine g_callW (As := [.ref (yA Y 72), .int (iI (sI xs (i + 1))), .long (lI zq), .ref (yA Y 91)]) (st := []) B dL_law_1531 (c_L_runScript (Y := Y) (l := xL X) (S := S) hst h.1.2.1 h.2.2.2.1 (sI xs (i + 1)) zq (sI_in _ _) hzr) eL_runScript w860 (by decide) rfl rfl (Nat.le_of_ble_eq_true rfl) h1 h2 (fun v S1 hv => ?_)
  have hk : keep S S1 := wP_keepc hv (fun S' _ z => q_keep (q_f1 z)) (fun S' _ z => q_keep (by rw [z]; exact q_id h.2.2.2.1))
  have Pq := pre_of h hk
  have hvv := hv.1
  subst hvv
  have B2 := gB_up B h1 h2
  have hX2 : gSc Y (xUp X) b N xs := hX
  show gW Y (xUp X) S1 1534 [(0, .ref b), (1, .ref (yA Y 72)), (2, .ref (yA Y 82)), (3, .ref (yA Y 91)), (4, .int (iI i))] [.int (iI (cd_run (sI xs (i + 1)) zq))]
  refine g_istore (q := 1536) B2 dL_law_1534 rfl (by decide) (L' := [(5, .int (iI (cd_run (sI xs (i + 1)) zq))), (0, .ref b), (1, .ref (yA Y 72)), (2, .ref (yA Y 82)), (3, .ref (yA Y 91)), (4, .int (iI i))]) rfl ?_
  refine g_aload_n (q := 1537) B2 dL_law_1536 rfl 3 rfl ?_
  refine g_aload_n (q := 1538) B2 dL_law_1537 rfl 1 rfl ?_
  refine g_iload (q := 1540) B2 dL_law_1538 rfl 5 rfl ?_
  refine g_iconst (q := 1541) B2 dL_law_1540 rfl ?_
  refine g_iadd (q := 1542) B2 dL_law_1541 rfl ?_
  refine g_sld (q := 1543) B2 hX2 dL_law_1542 rfl (by omega) (by omega) ?_
  refine g_aload_n (q := 1544) B2 dL_law_1543 rfl 1 rfl ?_
  refine g_iload (q := 1546) B2 dL_law_1544 rfl 5 rfl ?_
  refine g_iconst (q := 1547) B2 dL_law_1546 rfl ?_
  refine g_iadd (q := 1548) B2 dL_law_1547 rfl ?_
  refine g_sld (q := 1549) B2 hX2 dL_law_1548 rfl (by omega) (by omega) ?_
  refine g_i2l (q := 1550) B2 dL_law_1549 rfl (sI_in _ _) ?_
  refine g_bipush (q := 1552) B2 dL_law_1550 rfl (by decide) ?_
  refine g_lshl (q := 1553) B2 dL_law_1552 rfl rfl ?_
  refine g_aload_n (q := 1554) B2 dL_law_1553 rfl 1 rfl ?_
  refine g_iload (q := 1556) B2 dL_law_1554 rfl 5 rfl ?_
  refine g_iconst (q := 1557) B2 dL_law_1556 rfl ?_
  refine g_iadd (q := 1558) B2 dL_law_1557 rfl ?_
  refine g_sld (q := 1559) B2 hX2 dL_law_1558 rfl (by omega) (by omega) ?_
  refine g_i2l (q := 1560) B2 dL_law_1559 rfl (sI_in _ _) ?_
  refine g_ldc2 (z := 4294967295) (q := 1563) B2 dL_law_1560 rfl w1277 rfl ?_
  refine g_land (q := 1564) B2 dL_law_1563 rfl rfl ?_
  refine g_lor (v := lI zq) (q := 1565) B2 dL_law_1564 rfl hzq ?_
  refine g_callV (n := 82) (ty := tyX8) (q := 1568) (As := [.int (iI (sI xs (i + 1))), .long (lI zq)]) (st := []) B2 dL_law_1565 rfl (c_X8_runScript (Y := Y) (l := xL X) (S := S1) Pq.1 (sI xs (i + 1)) zq (sI_in _ _) hzr) eX8_runScript w1243 (by decide) rfl rfl cls6 rfl rfl (Nat.le_of_ble_eq_true rfl) (fun w9 S2 hw9 => ?_)
  obtain ⟨c9, x9, y9, ec, ew, hR2, ht9, hc9, hx9⟩ := stp_q (st_runScript h _ _ hv hw9)
  subst ew
  show gW Y (xUp X) S2 1568 [(5, .int (iI (cd_run (sI xs (i + 1)) zq))), (0, .ref b), (1, .ref (yA Y 72)), (2, .ref (yA Y 82)), (3, .ref (yA Y 91)), (4, .int (iI i))] [.int (iI y9)]
  rw [ec]
  refine g_istore (q := 1570) B2 dL_law_1568 rfl (by decide) (L' := [(6, .int (iI y9)), (5, .int (iI c9)), (0, .ref b), (1, .ref (yA Y 72)), (2, .ref (yA Y 82)), (3, .ref (yA Y 91)), (4, .int (iI i))]) rfl ?_
  refine g_aload_n (q := 1571) B2 dL_law_1570 rfl 4 rfl ?_
  refine g_callV (n := 82) (ty := tyX8) (q := 1574) (As := []) (st := []) B2 dL_law_1571 rfl (c_X8_thrown (Y := Y) (l := xL X) (S := S2)) eX8_thrown w992 (by decide) rfl rfl cls6 rfl rfl (Nat.le_of_ble_eq_true rfl) (g_kE ?_)
  rw [ht9]
  refine g_iload (q := 1576) B2 dL_law_1574 rfl 1 rfl ?_
  refine g_icmp_eq (t := 1581) (q := 1579) B2 dL_law_1576 (by decide) rfl ⟨by omega, by omega⟩ ⟨by omega, by omega⟩ (fun _ => ?_) (fun z => absurd rfl z)
  refine g_iload (q := 1583) B2 dL_law_1581 rfl 1 rfl ?_
  refine g_if_ne (t := 1598) (q := 1586) B2 dL_law_1583 (by decide) rfl ⟨by omega, by omega⟩ (fun _ => ?_) (fun cq => ?_)
  · refine g_goto (q := 1813) B2 dL_law_1598 (by decide) ?_
    refine g_sub [2, 3, 4, 5, 6] rfl ?_
    exact kk S2 hR2
  · refine g_aload_n (q := 1587) B2 dL_law_1586 rfl 5 rfl ?_
    refine g_iconst (q := 1588) B2 dL_law_1587 rfl ?_
    refine g_lald (n := 91) (q := 1589) B2 dL_law_1588 rfl rfl rfl (by decide) (by decide) (by decide) ?_
    refine g_iload (q := 1591) B2 dL_law_1589 rfl 0 rfl ?_
    refine g_i2lN (q := 1592) B2 dL_law_1591 rfl ?_
    refine g_lcmp_eq (t := 1598) (q := 1596) B2 dL_law_1592 dL_law_1593 (by decide) rfl (by rw [(hx9 cq).1]; exact oI_rL _) (oI_rL _) (fun _ => ?_) (fun z => absurd (by rw [(hx9 cq).1, (hx9 cq).2]) z)
    refine g_goto (q := 1813) B2 dL_law_1598 (by decide) ?_
    refine g_sub [2, 3, 4, 5, 6] rfl ?_
    exact kk S2 hR2
set_option maxHeartbeats 4000000 in
theorem lc_simulate {Y : gY} {X : gX} {S : SS} {b N : Nat} {xs : Nat → Int32} {i : Int} {ret : Option FieldType} (B : gB Y X "NecklaceSistersLaw" cL_law 7 ret 100) (hst : (xL X).stackTraces = false) (hX : gSc Y X b N xs) (h : RR S) (hi0 : 0 ≤ i) (hi4 : i + 4 ≤ N) (h1 : xCells X + 1 ≤ (xR X).cells) (h2 : xSlots X + 6 ≤ (xR X).slots) (kk : ∀ S9 : SS, RR S9 → gW Y (xUp X) S9 1813 [(0, .ref b), (1, .ref (yA Y 72)), (2, .ref (yA Y 82)), (3, .ref (yA Y 91)), (4, .int (iI i))] []) : gW Y X S 1601 [(0, .ref b), (1, .ref (yA Y 72)), (2, .ref (yA Y 82)), (3, .ref (yA Y 91)), (4, .int (iI i))] [] := by
  obtain ⟨zq, hzq, hzr⟩ : ∃ z : Int, (lI (sI xs (i + 1)) <<< ((iI 32).toInt64 &&& 63)) ||| (lI (sI xs (i + 2)) &&& lI 4294967295) = lI z ∧ rL z := ⟨_, lI_to _, lI_in _⟩
  refine g_aload_n (q := 1602) B dL_law_1601 rfl 1 rfl ?_
  refine g_aload_n (q := 1603) B dL_law_1602 rfl 0 rfl ?_
  refine g_iload (q := 1605) B dL_law_1603 rfl 4 rfl ?_
  refine g_iconst (q := 1606) B dL_law_1605 rfl ?_
  refine g_iadd (q := 1607) B dL_law_1606 rfl ?_
  refine g_sld (q := 1608) B hX dL_law_1607 rfl (by omega) (by omega) ?_
  refine g_i2l (q := 1609) B dL_law_1608 rfl (sI_in _ _) ?_
  refine g_bipush (q := 1611) B dL_law_1609 rfl (by decide) ?_
  refine g_lshl (q := 1612) B dL_law_1611 rfl rfl ?_
  refine g_aload_n (q := 1613) B dL_law_1612 rfl 0 rfl ?_
  refine g_iload (q := 1615) B dL_law_1613 rfl 4 rfl ?_
  refine g_iconst (q := 1616) B dL_law_1615 rfl ?_
  refine g_iadd (q := 1617) B dL_law_1616 rfl ?_
  refine g_sld (q := 1618) B hX dL_law_1617 rfl (by omega) (by omega) ?_
  refine g_i2l (q := 1619) B dL_law_1618 rfl (sI_in _ _) ?_
  refine g_ldc2 (z := 4294967295) (q := 1622) B dL_law_1619 rfl w1277 rfl ?_
  refine g_land (q := 1623) B dL_law_1622 rfl rfl ?_
  refine g_lor (v := lI zq) (q := 1624) B dL_law_1623 rfl hzq ?_
  refine g_aload_n (q := 1625) B dL_law_1624 rfl 0 rfl ?_
  refine g_iload (q := 1627) B dL_law_1625 rfl 4 rfl ?_
  refine g_iconst (q := 1628) B dL_law_1627 rfl ?_
  refine g_iadd (q := 1629) B dL_law_1628 rfl ?_
  refine g_sld (q := 1630) B hX dL_law_1629 rfl (by omega) (by omega) ?_
  refine g_aload_n (q := 1631) B dL_law_1630 rfl 3 rfl ?_
  refine g_callW (As := [.ref (yA Y 72), .long (lI zq), .int (iI (sI xs (i + 3))), .ref (yA Y 91)]) (st := []) B dL_law_1631 (c_L_simulate (Y := Y) (l := xL X) (S := S) hst h.1.2.1 zq (sI xs (i + 3)) hzr (sI_in _ _)) eL_simulate w894 (by decide) rfl rfl (Nat.le_of_ble_eq_true rfl) h1 h2 (fun v S1 hv => ?_)
  have hk : keep S S1 := wP_keepc hv (fun S' _ z => q_keep (q_fr h.2.2.2.1 z)) (fun S' _ z => q_keep (by rw [z]; exact q_id h.2.2.2.1))
  have Pq := pre_of h hk
  have hvv := hv.1
  subst hvv
  have B2 := gB_up B h1 h2
  have hX2 : gSc Y (xUp X) b N xs := hX
  show gW Y (xUp X) S1 1634 [(0, .ref b), (1, .ref (yA Y 72)), (2, .ref (yA Y 82)), (3, .ref (yA Y 91)), (4, .int (iI i))] [.int (iI (cd_sim (sI xs (i + 3))))]
  refine g_istore (q := 1636) B2 dL_law_1634 rfl (by decide) (L' := [(5, .int (iI (cd_sim (sI xs (i + 3))))), (0, .ref b), (1, .ref (yA Y 72)), (2, .ref (yA Y 82)), (3, .ref (yA Y 91)), (4, .int (iI i))]) rfl ?_
  refine g_aload_n (q := 1637) B2 dL_law_1636 rfl 3 rfl ?_
  refine g_aload_n (q := 1638) B2 dL_law_1637 rfl 1 rfl ?_
  refine g_iload (q := 1640) B2 dL_law_1638 rfl 5 rfl ?_
  refine g_iconst (q := 1641) B2 dL_law_1640 rfl ?_
  refine g_iadd (q := 1642) B2 dL_law_1641 rfl ?_
  refine g_sld (q := 1643) B2 hX2 dL_law_1642 rfl (by omega) (by omega) ?_
  refine g_i2l (q := 1644) B2 dL_law_1643 rfl (sI_in _ _) ?_
  refine g_bipush (q := 1646) B2 dL_law_1644 rfl (by decide) ?_
  refine g_lshl (q := 1647) B2 dL_law_1646 rfl rfl ?_
  refine g_aload_n (q := 1648) B2 dL_law_1647 rfl 1 rfl ?_
  refine g_iload (q := 1650) B2 dL_law_1648 rfl 5 rfl ?_
  refine g_iconst (q := 1651) B2 dL_law_1650 rfl ?_
  refine g_iadd (q := 1652) B2 dL_law_1651 rfl ?_
  refine g_sld (q := 1653) B2 hX2 dL_law_1652 rfl (by omega) (by omega) ?_
  refine g_i2l (q := 1654) B2 dL_law_1653 rfl (sI_in _ _) ?_
  refine g_ldc2 (z := 4294967295) (q := 1657) B2 dL_law_1654 rfl w1277 rfl ?_
  refine g_land (q := 1658) B2 dL_law_1657 rfl rfl ?_
  refine g_lor (v := lI zq) (q := 1659) B2 dL_law_1658 rfl hzq ?_
  refine g_aload_n (q := 1660) B2 dL_law_1659 rfl 1 rfl ?_
  refine g_iload (q := 1662) B2 dL_law_1660 rfl 5 rfl ?_
  refine g_iconst (q := 1663) B2 dL_law_1662 rfl ?_
  refine g_iadd (q := 1664) B2 dL_law_1663 rfl ?_
  refine g_sld (q := 1665) B2 hX2 dL_law_1664 rfl (by omega) (by omega) ?_
  refine g_callV (n := 82) (ty := tyX8) (q := 1668) (As := [.long (lI zq), .int (iI (sI xs (i + 3)))]) (st := []) B2 dL_law_1665 rfl (c_X8_simulate (Y := Y) (l := xL X) (S := S1) Pq.1 zq (sI xs (i + 3)) (sI_in _ _)) eX8_simulate w1256 (by decide) rfl rfl cls6 rfl rfl (Nat.le_of_ble_eq_true rfl) (fun w9 S2 hw9 => ?_)
  obtain ⟨c9, x9, y9, ec, ew, hR2, ht9, hc9, hx9⟩ := stp_q (st_simulate h _ _ hv hw9)
  subst ew
  show gW Y (xUp X) S2 1668 [(5, .int (iI (cd_sim (sI xs (i + 3))))), (0, .ref b), (1, .ref (yA Y 72)), (2, .ref (yA Y 82)), (3, .ref (yA Y 91)), (4, .int (iI i))] [.int (iI y9)]
  rw [ec]
  refine g_istore (q := 1670) B2 dL_law_1668 rfl (by decide) (L' := [(6, .int (iI y9)), (5, .int (iI c9)), (0, .ref b), (1, .ref (yA Y 72)), (2, .ref (yA Y 82)), (3, .ref (yA Y 91)), (4, .int (iI i))]) rfl ?_
  refine g_aload_n (q := 1671) B2 dL_law_1670 rfl 4 rfl ?_
  refine g_callV (n := 82) (ty := tyX8) (q := 1674) (As := []) (st := []) B2 dL_law_1671 rfl (c_X8_thrown (Y := Y) (l := xL X) (S := S2)) eX8_thrown w992 (by decide) rfl rfl cls6 rfl rfl (Nat.le_of_ble_eq_true rfl) (g_kE ?_)
  rw [ht9]
  refine g_iload (q := 1676) B2 dL_law_1674 rfl 1 rfl ?_
  refine g_icmp_eq (t := 1681) (q := 1679) B2 dL_law_1676 (by decide) rfl ⟨by omega, by omega⟩ ⟨by omega, by omega⟩ (fun _ => ?_) (fun z => absurd rfl z)
  refine g_iload (q := 1683) B2 dL_law_1681 rfl 1 rfl ?_
  refine g_if_ne (t := 1698) (q := 1686) B2 dL_law_1683 (by decide) rfl ⟨by omega, by omega⟩ (fun _ => ?_) (fun cq => ?_)
  · refine g_goto (q := 1813) B2 dL_law_1698 (by decide) ?_
    refine g_sub [2, 3, 4, 5, 6] rfl ?_
    exact kk S2 hR2
  · refine g_aload_n (q := 1687) B2 dL_law_1686 rfl 5 rfl ?_
    refine g_iconst (q := 1688) B2 dL_law_1687 rfl ?_
    refine g_lald (n := 91) (q := 1689) B2 dL_law_1688 rfl rfl rfl (by decide) (by decide) (by decide) ?_
    refine g_iload (q := 1691) B2 dL_law_1689 rfl 0 rfl ?_
    refine g_i2lN (q := 1692) B2 dL_law_1691 rfl ?_
    refine g_lcmp_eq (t := 1698) (q := 1696) B2 dL_law_1692 dL_law_1693 (by decide) rfl (by rw [(hx9 cq).1]; exact oI_rL _) (oI_rL _) (fun _ => ?_) (fun z => absurd (by rw [(hx9 cq).1, (hx9 cq).2]) z)
    refine g_goto (q := 1813) B2 dL_law_1698 (by decide) ?_
    refine g_sub [2, 3, 4, 5, 6] rfl ?_
    exact kk S2 hR2
set_option maxHeartbeats 4000000 in
theorem lc_save {Y : gY} {X : gX} {S : SS} {b N : Nat} {xs : Nat → Int32} {i : Int} {ret : Option FieldType} (B : gB Y X "NecklaceSistersLaw" cL_law 7 ret 100) (hst : (xL X).stackTraces = false) (hX : gSc Y X b N xs) (h : RR S) (hi0 : 0 ≤ i) (hi4 : i + 4 ≤ N) (h1 : xCells X + 1 ≤ (xR X).cells) (h2 : xSlots X + 6 ≤ (xR X).slots) (kk : ∀ S9 : SS, RR S9 → gW Y (xUp X) S9 1813 [(0, .ref b), (1, .ref (yA Y 72)), (2, .ref (yA Y 82)), (3, .ref (yA Y 91)), (4, .int (iI i))] []) : gW Y X S 1701 [(0, .ref b), (1, .ref (yA Y 72)), (2, .ref (yA Y 82)), (3, .ref (yA Y 91)), (4, .int (iI i))] [] := by
  refine g_aload_n (q := 1702) B dL_law_1701 rfl 1 rfl ?_
  refine g_aload_n (q := 1703) B dL_law_1702 rfl 0 rfl ?_
  refine g_iload (q := 1705) B dL_law_1703 rfl 4 rfl ?_
  refine g_iconst (q := 1706) B dL_law_1705 rfl ?_
  refine g_iadd (q := 1707) B dL_law_1706 rfl ?_
  refine g_sld (q := 1708) B hX dL_law_1707 rfl (by omega) (by omega) ?_
  refine g_aload_n (q := 1709) B dL_law_1708 rfl 3 rfl ?_
  refine g_callW (As := [.ref (yA Y 72), .int (iI (sI xs (i + 1))), .ref (yA Y 91)]) (st := []) B dL_law_1709 (c_L_save (Y := Y) (l := xL X) (S := S) hst h.1.2.1 (sI xs (i + 1)) (sI_in _ _)) eL_save w923 (by decide) rfl rfl (Nat.le_of_ble_eq_true rfl) h1 h2 (fun v S1 hv => ?_)
  have hk : keep S S1 := wP_keepc hv (fun S' c0 z m m8 _ => z.2.2 m (by unfold cd_01 at c0; split at c0 <;> omega) (by unfold cd_01 at c0; split at c0 <;> omega)) (fun S' _ z => q_keep (by rw [z]; exact q_id h.2.2.2.1))
  have Pq := pre_of h hk
  have hvv := hv.1
  subst hvv
  have B2 := gB_up B h1 h2
  have hX2 : gSc Y (xUp X) b N xs := hX
  show gW Y (xUp X) S1 1712 [(0, .ref b), (1, .ref (yA Y 72)), (2, .ref (yA Y 82)), (3, .ref (yA Y 91)), (4, .int (iI i))] [.int (iI (cd_01 (sI xs (i + 1))))]
  refine g_istore (q := 1714) B2 dL_law_1712 rfl (by decide) (L' := [(5, .int (iI (cd_01 (sI xs (i + 1))))), (0, .ref b), (1, .ref (yA Y 72)), (2, .ref (yA Y 82)), (3, .ref (yA Y 91)), (4, .int (iI i))]) rfl ?_
  refine g_aload_n (q := 1715) B2 dL_law_1714 rfl 3 rfl ?_
  refine g_aload_n (q := 1716) B2 dL_law_1715 rfl 1 rfl ?_
  refine g_iload (q := 1718) B2 dL_law_1716 rfl 5 rfl ?_
  refine g_iconst (q := 1719) B2 dL_law_1718 rfl ?_
  refine g_iadd (q := 1720) B2 dL_law_1719 rfl ?_
  refine g_sld (q := 1721) B2 hX2 dL_law_1720 rfl (by omega) (by omega) ?_
  refine g_callV (n := 82) (ty := tyX8) (q := 1724) (As := [.int (iI (sI xs (i + 1)))]) (st := []) B2 dL_law_1721 rfl (c_X8_save (Y := Y) (l := xL X) (S := S1) (sI xs (i + 1)) (sI_in _ _)) eX8_save w1269 (by decide) rfl rfl cls6 rfl rfl (Nat.le_of_ble_eq_true rfl) (fun w9 S2 hw9 => ?_)
  obtain ⟨c9, x9, y9, ec, ew, hR2, ht9, hc9, hx9⟩ := stp_q (st_save h _ hv hw9)
  subst ew
  show gW Y (xUp X) S2 1724 [(5, .int (iI (cd_01 (sI xs (i + 1))))), (0, .ref b), (1, .ref (yA Y 72)), (2, .ref (yA Y 82)), (3, .ref (yA Y 91)), (4, .int (iI i))] [.int (iI y9)]
  rw [ec]
  refine g_istore (q := 1726) B2 dL_law_1724 rfl (by decide) (L' := [(6, .int (iI y9)), (5, .int (iI c9)), (0, .ref b), (1, .ref (yA Y 72)), (2, .ref (yA Y 82)), (3, .ref (yA Y 91)), (4, .int (iI i))]) rfl ?_
  refine g_aload_n (q := 1727) B2 dL_law_1726 rfl 4 rfl ?_
  refine g_callV (n := 82) (ty := tyX8) (q := 1730) (As := []) (st := []) B2 dL_law_1727 rfl (c_X8_thrown (Y := Y) (l := xL X) (S := S2)) eX8_thrown w992 (by decide) rfl rfl cls6 rfl rfl (Nat.le_of_ble_eq_true rfl) (g_kE ?_)
  rw [ht9]
  refine g_iload (q := 1732) B2 dL_law_1730 rfl 1 rfl ?_
  refine g_icmp_eq (t := 1737) (q := 1735) B2 dL_law_1732 (by decide) rfl ⟨by omega, by omega⟩ ⟨by omega, by omega⟩ (fun _ => ?_) (fun z => absurd rfl z)
  refine g_iload (q := 1739) B2 dL_law_1737 rfl 1 rfl ?_
  refine g_if_ne (t := 1754) (q := 1742) B2 dL_law_1739 (by decide) rfl ⟨by omega, by omega⟩ (fun _ => ?_) (fun cq => ?_)
  · refine g_goto (q := 1813) B2 dL_law_1754 (by decide) ?_
    refine g_sub [2, 3, 4, 5, 6] rfl ?_
    exact kk S2 hR2
  · refine g_aload_n (q := 1743) B2 dL_law_1742 rfl 5 rfl ?_
    refine g_iconst (q := 1744) B2 dL_law_1743 rfl ?_
    refine g_lald (n := 91) (q := 1745) B2 dL_law_1744 rfl rfl rfl (by decide) (by decide) (by decide) ?_
    refine g_iload (q := 1747) B2 dL_law_1745 rfl 0 rfl ?_
    refine g_i2lN (q := 1748) B2 dL_law_1747 rfl ?_
    refine g_lcmp_eq (t := 1754) (q := 1752) B2 dL_law_1748 dL_law_1749 (by decide) rfl (by rw [(hx9 cq).1]; exact oI_rL _) (oI_rL _) (fun _ => ?_) (fun z => absurd (by rw [(hx9 cq).1, (hx9 cq).2]) z)
    refine g_goto (q := 1813) B2 dL_law_1754 (by decide) ?_
    refine g_sub [2, 3, 4, 5, 6] rfl ?_
    exact kk S2 hR2
set_option maxHeartbeats 4000000 in
theorem lc_restore {Y : gY} {X : gX} {S : SS} {b N : Nat} {xs : Nat → Int32} {i : Int} {ret : Option FieldType} (B : gB Y X "NecklaceSistersLaw" cL_law 7 ret 100) (hst : (xL X).stackTraces = false) (hX : gSc Y X b N xs) (h : RR S) (hi0 : 0 ≤ i) (hi4 : i + 4 ≤ N) (h1 : xCells X + 1 ≤ (xR X).cells) (h2 : xSlots X + 6 ≤ (xR X).slots) (kk : ∀ S9 : SS, RR S9 → gW Y (xUp X) S9 1813 [(0, .ref b), (1, .ref (yA Y 72)), (2, .ref (yA Y 82)), (3, .ref (yA Y 91)), (4, .int (iI i))] []) : gW Y X S 1757 [(0, .ref b), (1, .ref (yA Y 72)), (2, .ref (yA Y 82)), (3, .ref (yA Y 91)), (4, .int (iI i))] [] := by
  refine g_aload_n (q := 1758) B dL_law_1757 rfl 1 rfl ?_
  refine g_aload_n (q := 1759) B dL_law_1758 rfl 0 rfl ?_
  refine g_iload (q := 1761) B dL_law_1759 rfl 4 rfl ?_
  refine g_iconst (q := 1762) B dL_law_1761 rfl ?_
  refine g_iadd (q := 1763) B dL_law_1762 rfl ?_
  refine g_sld (q := 1764) B hX dL_law_1763 rfl (by omega) (by omega) ?_
  refine g_aload_n (q := 1765) B dL_law_1764 rfl 3 rfl ?_
  refine g_callW (As := [.ref (yA Y 72), .int (iI (sI xs (i + 1))), .ref (yA Y 91)]) (st := []) B dL_law_1765 (c_L_restore (Y := Y) (l := xL X) (S := S) hst h.1.2.1 h.2.2.2.2.1 h.2.2.2.2.2.1 (sI xs (i + 1)) (sI_in _ _)) eL_restore w931 (by decide) rfl rfl (Nat.le_of_ble_eq_true rfl) h1 h2 (fun v S1 hv => ?_)
  have hk : keep S S1 := wP_keepc hv (fun S' _ z m m8 _ => z.2.2 m (by omega) (by omega)) (fun S' _ z => q_keep (by rw [z]; exact q_id h.2.2.2.1))
  have Pq := pre_of h hk
  have hvv := hv.1
  subst hvv
  have B2 := gB_up B h1 h2
  have hX2 : gSc Y (xUp X) b N xs := hX
  show gW Y (xUp X) S1 1768 [(0, .ref b), (1, .ref (yA Y 72)), (2, .ref (yA Y 82)), (3, .ref (yA Y 91)), (4, .int (iI i))] [.int (iI (cd_rest (sI xs (i + 1)) (S (80 + (sI xs (i + 1)).toNat) 0)))]
  refine g_istore (q := 1770) B2 dL_law_1768 rfl (by decide) (L' := [(5, .int (iI (cd_rest (sI xs (i + 1)) (S (80 + (sI xs (i + 1)).toNat) 0)))), (0, .ref b), (1, .ref (yA Y 72)), (2, .ref (yA Y 82)), (3, .ref (yA Y 91)), (4, .int (iI i))]) rfl ?_
  refine g_aload_n (q := 1771) B2 dL_law_1770 rfl 3 rfl ?_
  refine g_aload_n (q := 1772) B2 dL_law_1771 rfl 1 rfl ?_
  refine g_iload (q := 1774) B2 dL_law_1772 rfl 5 rfl ?_
  refine g_iconst (q := 1775) B2 dL_law_1774 rfl ?_
  refine g_iadd (q := 1776) B2 dL_law_1775 rfl ?_
  refine g_sld (q := 1777) B2 hX2 dL_law_1776 rfl (by omega) (by omega) ?_
  refine g_callV (n := 82) (ty := tyX8) (q := 1780) (As := [.int (iI (sI xs (i + 1)))]) (st := []) B2 dL_law_1777 rfl (c_X8_restore (Y := Y) (l := xL X) (S := S1) (sI xs (i + 1)) (sI_in _ _) (Pq.2.2.2.2 _)) eX8_restore w1273 (by decide) rfl rfl cls6 rfl rfl (Nat.le_of_ble_eq_true rfl) (fun w9 S2 hw9 => ?_)
  obtain ⟨c9, x9, y9, ec, ew, hR2, ht9, hc9, hx9⟩ := stp_q (st_restore h _ hv hw9)
  subst ew
  show gW Y (xUp X) S2 1780 [(5, .int (iI (cd_rest (sI xs (i + 1)) (S (80 + (sI xs (i + 1)).toNat) 0)))), (0, .ref b), (1, .ref (yA Y 72)), (2, .ref (yA Y 82)), (3, .ref (yA Y 91)), (4, .int (iI i))] [.int (iI y9)]
  rw [ec]
  refine g_istore (q := 1782) B2 dL_law_1780 rfl (by decide) (L' := [(6, .int (iI y9)), (5, .int (iI c9)), (0, .ref b), (1, .ref (yA Y 72)), (2, .ref (yA Y 82)), (3, .ref (yA Y 91)), (4, .int (iI i))]) rfl ?_
  refine g_aload_n (q := 1783) B2 dL_law_1782 rfl 4 rfl ?_
  refine g_callV (n := 82) (ty := tyX8) (q := 1786) (As := []) (st := []) B2 dL_law_1783 rfl (c_X8_thrown (Y := Y) (l := xL X) (S := S2)) eX8_thrown w992 (by decide) rfl rfl cls6 rfl rfl (Nat.le_of_ble_eq_true rfl) (g_kE ?_)
  rw [ht9]
  refine g_iload (q := 1788) B2 dL_law_1786 rfl 1 rfl ?_
  refine g_icmp_eq (t := 1793) (q := 1791) B2 dL_law_1788 (by decide) rfl ⟨by omega, by omega⟩ ⟨by omega, by omega⟩ (fun _ => ?_) (fun z => absurd rfl z)
  refine g_iload (q := 1795) B2 dL_law_1793 rfl 1 rfl ?_
  refine g_if_ne (t := 1810) (q := 1798) B2 dL_law_1795 (by decide) rfl ⟨by omega, by omega⟩ (fun _ => ?_) (fun cq => ?_)
  · refine g_goto (q := 1813) B2 dL_law_1810 (by decide) ?_
    refine g_sub [2, 3, 4, 5, 6] rfl ?_
    exact kk S2 hR2
  · refine g_aload_n (q := 1799) B2 dL_law_1798 rfl 5 rfl ?_
    refine g_iconst (q := 1800) B2 dL_law_1799 rfl ?_
    refine g_lald (n := 91) (q := 1801) B2 dL_law_1800 rfl rfl rfl (by decide) (by decide) (by decide) ?_
    refine g_iload (q := 1803) B2 dL_law_1801 rfl 0 rfl ?_
    refine g_i2lN (q := 1804) B2 dL_law_1803 rfl ?_
    refine g_lcmp_eq (t := 1810) (q := 1808) B2 dL_law_1804 dL_law_1805 (by decide) rfl (by rw [(hx9 cq).1]; exact oI_rL _) (oI_rL _) (fun _ => ?_) (fun z => absurd (by rw [(hx9 cq).1, (hx9 cq).2]) z)
    refine g_goto (q := 1813) B2 dL_law_1810 (by decide) ?_
    refine g_sub [2, 3, 4, 5, 6] rfl ?_
    exact kk S2 hR2
