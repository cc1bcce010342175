/-! THE CALLS OVER PICTURES -/
def qP (x : Int) (P' : PT) (S : SS) : Option Value → SS → Prop := fun v S' => v = some (.int (iI x)) ∧ PK P' S' ∧ kp S S'
theorem qP_of {cd vl e1 e2 e3 : Int} {Pp PX : SS → Prop} {P' : PT} {S S' : SS} {v : Option Value} (h : yP cd vl e1 e2 e3 Pp PX v S') (h0 : cd = 0 → Pp S' → PK P' S' ∧ kp S S') (h1 : cd ≠ 0 → PX S' → PK P' S' ∧ kp S S') : qP (tv cd vl e1 e2 e3) P' S v S' := by
  obtain ⟨a, ⟨b, c⟩ | ⟨b, c⟩⟩ := h
  · exact ⟨a, h0 b c⟩
  · exact ⟨a, h1 b c⟩
theorem gN_mono {Y : gY} {l : Launch} {md : gMd} {mc : Nat} {S : SS} {av : List Value} {P1 P2 : Option Value → SS → Prop} (h : gN Y l md mc S av P1) (hm : ∀ v S', P1 v S' → P2 v S') : gN Y l md mc S av P2 := by
  unfold gN Met at h ⊢
  exact MetFree.mono h (fun _ _ z => z) (fun _ _ _ _ _ _ => trivial) (fun _ _ _ _ _ z => ⟨gQc_mono hm z.1, z.2⟩)
theorem gM_mono {Y : gY} {l : Launch} {md : gMd} {S : SS} {av : List Value} {P1 P2 : Option Value → SS → Prop} (h : gM Y l md S av P1) (hm : ∀ v S', P1 v S' → P2 v S') : gM Y l md S av P2 := by
  unfold gM Met at h ⊢
  exact MetFree.mono h (fun _ _ z => z) (fun _ _ _ _ _ _ => trivial) (fun _ _ _ _ _ z => ⟨gQc_mono hm z.1, z.2⟩)
theorem gVH_mono {Y : gY} {l : Launch} {y : MethodName} {cc : ByteArray} {nL : Nat} {hh : List (Nat × Nat × Nat × Nat)} {k : Nat} {S : SS} {av : List Value} {P1 P2 : Option Value → SS → Prop} (h : gVH Y l y cc nL hh k S av P1) (hm : ∀ v S', P1 v S' → P2 v S') : gVH Y l y cc nL hh k S av P2 :=
  MetFree.mono h (fun _ _ z => z) (fun _ _ _ _ _ _ => trivial) (fun _ _ _ _ _ z => z.elim (fun z => Or.inl ⟨gQc_mono hm z.1, z.2⟩) Or.inr)
theorem XCg_sw (Y : gY) : XCg (ySw Y) (fun _ _ => False) = XCg Y (fun _ _ => False) := by
  funext E st t
  apply propext
  constructor
  · rintro ⟨⟨S', h, _⟩, _⟩; exact h.elim
  · rintro ⟨⟨S', h, _⟩, _⟩; exact h.elim
theorem gVH_sw {Y : gY} {l : Launch} {y : MethodName} {cc : ByteArray} {nL : Nat} {hh : List (Nat × Nat × Nat × Nat)} {k : Nat} {S : SS} {av : List Value} {Post : Option Value → SS → Prop} (h : gVH (ySw Y) l y cc nL hh k (sS S) av Post) : gVH Y l y cc nL hh k S av (fun v S' => Post v (sS S')) := by
  unfold gVH at h ⊢
  rw [gPc_sw, gQc_sw, XCg_sw] at h
  exact h
def fl (P : PT) (s : Int) : Int := if s = 0 then pF P else pF2 P
section KC
variable {Y : gY} {l : Launch} {S : SS} {P : PT}
set_option maxHeartbeats 1000000 in
theorem k_append (hst : l.stackTraces = false) (A : PK P S) (W : WF0 P) (c : Int) (hc : rI c) (b9 c9 : Int) (hcc : c < 0 ∨ 255 < c) : gN Y l mL_call 1 S [.ref (yA Y 72), .int (iI 0), .int (iI c), .int (iI b9), .int (iI c9)] (qP (-9999002) P S) := by
  refine gN_mono (c_call_append (Y := Y) (l := l) (S := S) hst A.2.2.1 A.2.2.2 c hc b9 c9) (fun v S' h => ?_)
  have e : cd_len (S 73 0) c = 1 := if_neg (by omega)
  rw [e] at h
  exact qP_of h (fun c z => absurd c (by decide)) (fun c z => PK_id A z)
set_option maxHeartbeats 1000000 in
theorem k_about (hst : l.stackTraces = false) (A : PK P S) (W : WF0 P) (u : Int) (hu : rI u) (b9 c9 : Int) {x : Int} (hx : tv (cd_about u) (vl_about (pG P) u) (-9999002) (0) (0) = x) : gN Y l mL_call 1 S [.ref (yA Y 72), .int (iI 2), .int (iI u), .int (iI b9), .int (iI c9)] (qP x P S) := by
  subst hx
  refine gN_mono (c_call_about (Y := Y) (l := l) (S := S) hst (by rw [PK_g A]; exact W.1) u hu b9 c9) (fun v S' h => ?_)
  rw [PK_g A] at h
  exact qP_of h (fun _ z => PK_id A z) (fun _ z => PK_id A z)
set_option maxHeartbeats 1000000 in
theorem k_jewelOf (hst : l.stackTraces = false) (A : PK P S) (W : WF0 P) (j : Int) (hj : rI j) (u : Int) (hu : rI u) (c9 : Int) {x : Int} (hx : tv (cd_jewelOf (pG P) j u) (vl_jewelOf (pG P) j u) (-9999001) (-9999002) (0) = x) : gN Y l mL_call 1 S [.ref (yA Y 72), .int (iI 3), .int (iI j), .int (iI u), .int (iI c9)] (qP x P S) := by
  subst hx
  refine gN_mono (c_call_jewelOf (Y := Y) (l := l) (S := S) hst (by rw [PK_g A]; exact W.1) j hj u hu c9) (fun v S' h => ?_)
  rw [PK_g A] at h
  exact qP_of h (fun _ z => PK_id A z) (fun _ z => PK_id A z)
set_option maxHeartbeats 1000000 in
theorem k_placeOf (hst : l.stackTraces = false) (A : PK P S) (W : WF0 P) (p : Int) (hp : rI p) (u : Int) (hu : rI u) (c9 : Int) {x : Int} (hx : tv (cd_placeOf (pG P) p u) (vl_placeOf (pG P) p u) (-9999001) (-9999002) (0) = x) : gN Y l mL_call 1 S [.ref (yA Y 72), .int (iI 4), .int (iI p), .int (iI u), .int (iI c9)] (qP x P S) := by
  subst hx
  refine gN_mono (c_call_placeOf (Y := Y) (l := l) (S := S) hst (by rw [PK_g A]; exact W.1) p hp u hu c9) (fun v S' h => ?_)
  rw [PK_g A] at h
  exact qP_of h (fun _ z => PK_id A z) (fun _ z => PK_id A z)
set_option maxHeartbeats 1000000 in
theorem k_runOf (hst : l.stackTraces = false) (A : PK P S) (W : WF0 P) (r : Int) (hr : rI r) (u : Int) (hu : rI u) (c9 : Int) {x : Int} (hx : tv (cd_runOf (pG P) r u) (vl_runOf (pG P) r u) (-9999001) (-9999002) (0) = x) : gN Y l mL_call 1 S [.ref (yA Y 72), .int (iI 5), .int (iI r), .int (iI u), .int (iI c9)] (qP x P S) := by
  subst hx
  refine gN_mono (c_call_runOf (Y := Y) (l := l) (S := S) hst (by rw [PK_g A]; exact W.1) r hr u hu c9) (fun v S' h => ?_)
  rw [PK_g A] at h
  exact qP_of h (fun _ z => PK_id A z) (fun _ z => PK_id A z)
set_option maxHeartbeats 1000000 in
theorem k_has (hst : l.stackTraces = false) (A : PK P S) (W : WF0 P) (s : Int) (hs : rI s) (k : Int) (hk : rI k) (c9 : Int) {x : Int} (hx : tv (cd_has s k) (hasF (pG P) s k) (-9999001) (0) (0) = x) : gN Y l mL_call 1 S [.ref (yA Y 72), .int (iI 6), .int (iI s), .int (iI k), .int (iI c9)] (qP x P S) := by
  subst hx
  refine gN_mono (c_call_has (Y := Y) (l := l) (S := S) hst (by rw [PK_g A]; exact W.1) s hs k hk c9) (fun v S' h => ?_)
  rw [PK_g A] at h
  exact qP_of h (fun _ z => PK_id A z) (fun _ z => PK_id A z)
set_option maxHeartbeats 1000000 in
theorem k_jewel (hst : l.stackTraces = false) (A : PK P S) (W : WF0 P) (k : Int) (hk : rI k) (u : Int) (hu : rI u) (c9 : Int) {x : Int} {P' : PT} (hx : tv (cd_jewel (pG P) k u) (pG P 0) (-9999001) (-9999002) (-9999003) = x) (hP : (if (cd_jewel (pG P) k u) = 0 then pPush P (addG (pG P) k u) else P) = P') : gN Y l mL_call 1 S [.ref (yA Y 72), .int (iI 7), .int (iI k), .int (iI u), .int (iI c9)] (qP x P' S) := by
  subst hx
  subst hP
  refine gN_mono (c_call_jewel (Y := Y) (l := l) (S := S) hst (by rw [PK_g A]; exact W.1) (by rw [PK_N A]; exact W.2.1) (by rw [PK_K A]; exact W.2.2.1) k hk u hu c9) (fun v S' h => ?_)
  have e9 : S (4 * 0) 0 = pG P 0 := congrFun (PK_g A) 0
  rw [e9] at h
  rw [PK_g A] at h
  exact qP_of h (fun c z => by rw [if_pos c]; exact PK_ch A W.2.1 z) (fun c z => by rw [if_neg c]; exact PK_id A z)
set_option maxHeartbeats 1000000 in
theorem k_exchange (hst : l.stackTraces = false) (A : PK P S) (W : WF0 P) (i : Int) (hi : rI i) (j : Int) (hj : rI j) (c9 : Int) {x : Int} {P' : PT} (hx : tv (cd_exchange (pG P) i j) (gapF (swapG (pG P) i j)) (-9999001) (0) (0) = x) (hP : (if (cd_exchange (pG P) i j) = 0 then pPush P (swapG (pG P) i j) else P) = P') : gN Y l mL_call 1 S [.ref (yA Y 72), .int (iI 8), .int (iI i), .int (iI j), .int (iI c9)] (qP x P' S) := by
  subst hx
  subst hP
  refine gN_mono (c_call_exchange (Y := Y) (l := l) (S := S) hst (by rw [PK_g A]; exact W.1) (by rw [PK_N A]; exact W.2.1) (by rw [PK_K A]; exact W.2.2.1) i hi j hj c9) (fun v S' h => ?_)
  rw [PK_g A] at h
  exact qP_of h (fun c z => by rw [if_pos c]; exact PK_ch A W.2.1 z) (fun c z => by rw [if_neg c]; exact PK_id A z)
set_option maxHeartbeats 1000000 in
theorem k_breakAt (hst : l.stackTraces = false) (A : PK P S) (W : WF0 P) (j : Int) (hj : rI j) (b9 c9 : Int) {x : Int} {P' : PT} (hx : tv (cd_breakAt (pG P) j) (pG P 1) (-9999001) (0) (0) = x) (hP : (if (cd_breakAt (pG P) j) = 0 then pPush P (brkG (pG P) j) else P) = P') : gN Y l mL_call 1 S [.ref (yA Y 72), .int (iI 9), .int (iI j), .int (iI b9), .int (iI c9)] (qP x P' S) := by
  subst hx
  subst hP
  refine gN_mono (c_call_breakAt (Y := Y) (l := l) (S := S) hst (by rw [PK_g A]; exact W.1) (by rw [PK_N A]; exact W.2.1) (by rw [PK_K A]; exact W.2.2.1) j hj b9 c9) (fun v S' h => ?_)
  have e9 : S (4 * 0) 1 = pG P 1 := congrFun (PK_g A) 1
  rw [e9] at h
  rw [PK_g A] at h
  exact qP_of h (fun c z => by rw [if_pos c]; exact PK_ch A W.2.1 z) (fun c z => by rw [if_neg c]; exact PK_id A z)
set_option maxHeartbeats 1000000 in
theorem k_give (hst : l.stackTraces = false) (A : PK P S) (W : WF0 P) (r : Int) (hr : rI r) (o : Int) (ho : rI o) (c9 : Int) {x : Int} {P' : PT} (hx : tv (cd_give (pG P) r o) (gapF (giveG (pG P) r o)) (-9999001) (-9999002) (0) = x) (hP : (if (cd_give (pG P) r o) = 0 then pPush P (giveG (pG P) r o) else P) = P') : gN Y l mL_call 1 S [.ref (yA Y 72), .int (iI 10), .int (iI r), .int (iI o), .int (iI c9)] (qP x P' S) := by
  subst hx
  subst hP
  refine gN_mono (c_call_give (Y := Y) (l := l) (S := S) hst (by rw [PK_g A]; exact W.1) (by rw [PK_N A]; exact W.2.1) (by rw [PK_K A]; exact W.2.2.1) r hr o ho c9) (fun v S' h => ?_)
  rw [PK_g A] at h
  exact qP_of h (fun c z => by rw [if_pos c]; exact PK_ch A W.2.1 z) (fun c z => by rw [if_neg c]; exact PK_id A z)
set_option maxHeartbeats 1000000 in
theorem k_take (hst : l.stackTraces = false) (A : PK P S) (W : WF0 P) (r : Int) (hr : rI r) (b9 c9 : Int) {x : Int} {P' : PT} (hx : tv (cd_take (pG P) r) (whyF (pG P) r) (-9999001) (0) (0) = x) (hP : (if (cd_take (pG P) r) = 0 then pPush P (takeM (pG P) r) else P) = P') : gN Y l mL_call 1 S [.ref (yA Y 72), .int (iI 11), .int (iI r), .int (iI b9), .int (iI c9)] (qP x P' S) := by
  subst hx
  subst hP
  refine gN_mono (c_call_take (Y := Y) (l := l) (S := S) hst (by rw [PK_g A]; exact W.1) (by rw [PK_N A]; exact W.2.1) (by rw [PK_K A]; exact W.2.2.1) r hr b9 c9) (fun v S' h => ?_)
  rw [PK_g A] at h
  exact qP_of h (fun c z => by rw [if_pos c]; exact PK_ch A W.2.1 z) (fun c z => by rw [if_neg c]; exact PK_id A z)
set_option maxHeartbeats 1000000 in
theorem k_deal (hst : l.stackTraces = false) (A : PK P S) (W : WF0 P) (s : Int) (hs : rI s) (b9 c9 : Int) {x : Int} {P' : PT} (hx : tv (cd_01 s) (gapF (dealG (pG P) s)) (-9999001) (0) (0) = x) (hP : (if (cd_01 s) = 0 then pPush P (dealG (pG P) s) else P) = P') : gN Y l mL_call 1 S [.ref (yA Y 72), .int (iI 12), .int (iI s), .int (iI b9), .int (iI c9)] (qP x P' S) := by
  subst hx
  subst hP
  refine gN_mono (c_call_deal (Y := Y) (l := l) (S := S) hst (by rw [PK_g A]; exact W.1) (by rw [PK_N A]; exact W.2.1) (by rw [PK_K A]; exact W.2.2.1) s hs b9 c9) (fun v S' h => ?_)
  rw [PK_g A] at h
  exact qP_of h (fun c z => by rw [if_pos c]; exact PK_ch A W.2.1 z) (fun c z => by rw [if_neg c]; exact PK_id A z)
set_option maxHeartbeats 1000000 in
theorem k_divide (hst : l.stackTraces = false) (A : PK P S) (W : WF0 P) (a9 b9 c9 : Int) {x : Int} {P' : PT} (hx : tv (cd_dv (fewF (pG P))) (fewF (pG P)) (-9999003) (0) (0) = x) (hP : (if (cd_dv (fewF (pG P))) = 0 then pPush P (dealG (lsT (pG P) (wyF (pG P)) (fewF (pG P)).toNat) 0) else P) = P') : gN Y l mL_call 1 S [.ref (yA Y 72), .int (iI 13), .int (iI a9), .int (iI b9), .int (iI c9)] (qP x P' S) := by
  subst hx
  subst hP
  refine gN_mono (c_call_divide (Y := Y) (l := l) (S := S) hst (by rw [PK_g A]; exact W.1) (by rw [PK_N A]; exact W.2.1) (by rw [PK_K A]; exact W.2.2.1) A.2.1 a9 b9 c9) (fun v S' h => ?_)
  rw [PK_g A] at h
  exact qP_of h (fun c z => by rw [if_pos c]; exact PK_dv A W.2.1 z) (fun c z => by rw [if_neg c]; exact PK_fd A z)
set_option maxHeartbeats 1000000 in
theorem k_set (hst : l.stackTraces = false) (A : PK P S) (W : WF0 P) (v : Int) (hv : rI v) (b9 c9 : Int) {x : Int} {P' : PT} (hx : tv (cd_01 v) (pG P 4) (-9999002) (0) (0) = x) (hP : (if (cd_01 v) = 0 then pPush P (setG (pG P) v) else P) = P') : gN Y l mL_call 1 S [.ref (yA Y 72), .int (iI 14), .int (iI v), .int (iI b9), .int (iI c9)] (qP x P' S) := by
  subst hx
  subst hP
  refine gN_mono (c_call_set (Y := Y) (l := l) (S := S) hst (by rw [PK_g A]; exact W.1) (by rw [PK_N A]; exact W.2.1) (by rw [PK_K A]; exact W.2.2.1) v hv b9 c9) (fun v S' h => ?_)
  have e9 : S (4 * 0) 4 = pG P 4 := congrFun (PK_g A) 4
  rw [e9] at h
  rw [PK_g A] at h
  exact qP_of h (fun c z => by rw [if_pos c]; exact PK_ch A W.2.1 z) (fun c z => by rw [if_neg c]; exact PK_id A z)
set_option maxHeartbeats 1000000 in
theorem k_undo (hst : l.stackTraces = false) (A : PK P S) (W : WF0 P) (a9 b9 c9 : Int) {x : Int} {P' : PT} (hx : tv (cd_undo (pK P)) (pK P - 1) (-9999003) (0) (0) = x) (hP : (if (cd_undo (pK P)) = 0 then pUndo P else P) = P') : gN Y l mL_call 1 S [.ref (yA Y 72), .int (iI 15), .int (iI a9), .int (iI b9), .int (iI c9)] (qP x P' S) := by
  subst hx
  subst hP
  refine gN_mono (c_call_undo (Y := Y) (l := l) (S := S) hst (by rw [PK_N A]; exact W.2.1) (by rw [PK_K A]; exact W.2.2.1) a9 b9 c9) (fun v S' h => ?_)
  rw [PK_K A] at h
  exact qP_of h (fun c z => by rw [if_pos c]; exact PK_tb A W.2.1 z) (fun c z => by rw [if_neg c]; exact PK_id A z)
set_option maxHeartbeats 1000000 in
theorem k_fewest (hst : l.stackTraces = false) (A : PK P S) (W : WF0 P) (u : Int) (hu : rI u) (b9 c9 : Int) {x : Int} (hx : tv (cd_01 u) (fewF (pG P)) (-9999002) (0) (0) = x) : gN Y l mL_call 1 S [.ref (yA Y 72), .int (iI 16), .int (iI u), .int (iI b9), .int (iI c9)] (qP x P S) := by
  subst hx
  refine gN_mono (c_call_fewest (Y := Y) (l := l) (S := S) hst (by rw [PK_g A]; exact W.1) A.2.1 u hu b9 c9) (fun v S' h => ?_)
  rw [PK_g A] at h
  exact qP_of h (fun _ z => PK_fd A z) (fun _ z => PK_id A z)
set_option maxHeartbeats 1000000 in
theorem k_divided (hst : l.stackTraces = false) (A : PK P S) (W : WF0 P) (k : Int) (hk : rI k) (b9 c9 : Int) {x : Int} (hx : tv (cd_m1 k) (divF (pG P) k) (-9999002) (0) (0) = x) : gN Y l mL_call 1 S [.ref (yA Y 72), .int (iI 17), .int (iI k), .int (iI b9), .int (iI c9)] (qP x P S) := by
  subst hx
  refine gN_mono (c_call_divided (Y := Y) (l := l) (S := S) hst (by rw [PK_g A]; exact W.1) A.2.1 k hk b9 c9) (fun v S' h => ?_)
  rw [PK_g A] at h
  exact qP_of h (fun _ z => PK_fd A z) (fun _ z => PK_id A z)
set_option maxHeartbeats 1000000 in
theorem k_leastGap (hst : l.stackTraces = false) (A : PK P S) (W : WF0 P) (m : Int) (hm : rI m) (b9 c9 : Int) {x : Int} (hx : tv (cd_04 m) (lgF (pG P) m.toNat) (-9999002) (0) (0) = x) : gN Y l mL_call 1 S [.ref (yA Y 72), .int (iI 18), .int (iI m), .int (iI b9), .int (iI c9)] (qP x P S) := by
  subst hx
  refine gN_mono (c_call_leastGap (Y := Y) (l := l) (S := S) hst (by rw [PK_g A]; exact W.1) A.2.1 m hm b9 c9) (fun v S' h => ?_)
  rw [PK_g A] at h
  exact qP_of h (fun _ z => PK_fd A z) (fun _ z => PK_id A z)
set_option maxHeartbeats 1000000 in
theorem k_ifGiven (hst : l.stackTraces = false) (A : PK P S) (W : WF0 P) (r : Int) (hr : rI r) (o : Int) (ho : rI o) (c9 : Int) {x : Int} (hx : tv (cd_give (pG P) r o) (gapF (giveG (pG P) r o)) (-9999001) (-9999002) (0) = x) : gN Y l mL_call 1 S [.ref (yA Y 72), .int (iI 19), .int (iI r), .int (iI o), .int (iI c9)] (qP x P S) := by
  subst hx
  refine gN_mono (c_call_ifGiven (Y := Y) (l := l) (S := S) hst (by rw [PK_g A]; exact W.1) r hr o ho c9) (fun v S' h => ?_)
  rw [PK_g A] at h
  exact qP_of h (fun _ z => PK_fr A z) (fun _ z => PK_id A z)
set_option maxHeartbeats 1000000 in
theorem k_save (hst : l.stackTraces = false) (A : PK P S) (W : WF0 P) (s : Int) (hs : rI s) (b9 c9 : Int) {x : Int} {P' : PT} (hx : tv (cd_01 s) (pG P 0) (-9999001) (0) (0) = x) (hP : (if cd_01 s = 0 then pSave P s else P) = P') : gN Y l mL_call 1 S [.ref (yA Y 72), .int (iI 20), .int (iI s), .int (iI b9), .int (iI c9)] (qP x P' S) := by
  subst hx
  subst hP
  refine gN_mono (c_call_save (Y := Y) (l := l) (S := S) hst (by rw [PK_g A]; exact W.1) s hs b9 c9) (fun v S' h => ?_)
  have e9 : S (4 * 0) 0 = pG P 0 := congrFun (PK_g A) 0
  rw [e9] at h
  exact qP_of h (fun c z => by rw [if_pos c]; exact PK_sv A (by unfold cd_01 at c; split at c <;> omega) z) (fun c z => by rw [if_neg c]; exact PK_id A z)
set_option maxHeartbeats 1000000 in
theorem k_restore (hst : l.stackTraces = false) (A : PK P S) (W : WF0 P) (s : Int) (hs : rI s) (b9 c9 : Int) {x : Int} {P' : PT} (hx : tv (cd_rest s (fl P s)) (pR P s.toNat 0) (-9999001) (-9999003) (0) = x) (hP : (if cd_rest s (fl P s) = 0 then pRest P s else P) = P') : gN Y l mL_call 1 S [.ref (yA Y 72), .int (iI 21), .int (iI s), .int (iI b9), .int (iI c9)] (qP x P' S) := by
  subst hx
  subst hP
  refine gN_mono (c_call_restore (Y := Y) (l := l) (S := S) hst (by rw [PK_g A]; exact W.1) (by rw [PK_F A]; exact W.2.2.2.1) (by rw [PK_F2 A]; exact W.2.2.2.2.1) s hs b9 c9) (fun v S' h => ?_)
  have e1 : cd_rest s (S (80 + s.toNat) 0) = cd_rest s (fl P s) := by
    unfold cd_rest fl
    by_cases h01 : 0 ≤ s ∧ s ≤ 1
    · rw [if_pos h01, if_pos h01]
      rcases (show s = 0 ∨ s = 1 by omega) with rfl | rfl
      · rw [show (if (0 : Int) = 0 then pF P else pF2 P) = pF P from rfl, ← PK_F A]; rfl
      · rw [show (if (1 : Int) = 0 then pF P else pF2 P) = pF2 P from rfl, ← PK_F2 A]; rfl
    · rw [if_neg h01, if_neg h01]
  rw [e1] at h
  have hs9 : cd_rest s (fl P s) = 0 → s = 0 ∨ s = 1 := fun c => by unfold cd_rest at c; split at c <;> omega
  have h9 := qP_of (P' := if cd_rest s (fl P s) = 0 then pRest P s else P) h (fun c z => by rw [if_pos c]; exact PK_rs A (hs9 c) z) (fun c z => by rw [if_neg c]; exact PK_id A z)
  have e2 : tv (cd_rest s (fl P s)) (vw S (2 + s.toNat) 0) (-9999001) (-9999003) 0 = tv (cd_rest s (fl P s)) (pR P s.toNat 0) (-9999001) (-9999003) 0 := by
    by_cases c : cd_rest s (fl P s) = 0
    · have := hs9 c
      rw [tv_0 c, tv_0 c, ← PK_R A (show s.toNat < 16 by omega), show 2 + s.toNat = s.toNat + 2 by omega]
    · unfold tv; rw [if_neg c, if_neg c]
  rw [e2] at h9
  exact h9
set_option maxHeartbeats 1000000 in
theorem k_cut (hst : l.stackTraces = false) (A : PK P S) (W : WF0 P) (b : Int) (hb : b = 0 ∨ b = 1) (p : Int) (hp : rI p) {x : Int} {P' : PT} (hx : tv (cd_cut (pG P) p) (runsF (cutG (pG P) p b)) (-9999001) (0) (0) = x) (hP : (if (cd_cut (pG P) p) = 0 then pPush P (cutG (pG P) p b) else P) = P') : gVH Y l yL_cuts cL_cuts 4 [(0, 6, 7, 13)] (mX7_cut.2.2.2.2 + 11) S [.ref (yA Y 72), .int (iI p), .int (iI b)] (qP x P' S) := by
  subst hx
  subst hP
  refine gVH_mono (c_L_cuts (Y := Y) (l := l) (S := S) hst (by rw [PK_g A]; exact W.1) (by rw [PK_N A]; exact W.2.1) (by rw [PK_K A]; exact W.2.2.1) b hb p hp) (fun v S' h => ?_)
  rw [PK_g A] at h
  exact qP_of h (fun c z => by rw [if_pos c]; exact PK_ch A W.2.1 z) (fun c z => by rw [if_neg c]; exact PK_id A z)
set_option maxHeartbeats 1000000 in
theorem k_runScript (hst : l.stackTraces = false) (A : PK P S) (W : WF0 P) (n s : Int) (hn : rI n) (hs : rL s) {x : Int} (hx : tv (cd_run n s) (rcA s n n.toNat (pG P)) (-9999002) (0) (0) = x) : gVH Y l yL_doScript cL_doScript 5 [(0, 6, 7, 20)] (mX7_runScript.2.2.2.2 + 11) S [.ref (yA Y 72), .int (iI n), .long (lI s)] (qP x P S) := by
  subst hx
  refine gVH_mono (c_L_doScript (Y := Y) (l := l) (S := S) hst (by rw [PK_g A]; exact W.1) A.2.1 n s hn hs) (fun v S' h => ?_)
  rw [PK_g A] at h
  exact qP_of h (fun _ z => PK_f1 A z) (fun _ z => PK_id A z)
set_option maxHeartbeats 1000000 in
theorem k_simulate (hst : l.stackTraces = false) (A : PK P S) (W : WF0 P) (z m : Int) (hz : rL z) (hm : rI m) {x : Int} (hx : tv (cd_sim m) (laV (plT (pG P) z m.toNat)) (-9999002) (0) (0) = x) : gVH Y l yL_doSimulate cL_doSimulate 5 [(0, 6, 7, 20)] (mX7_simulate.2.2.2.2 + 11) S [.ref (yA Y 72), .long (lI z), .int (iI m)] (qP x P S) := by
  subst hx
  refine gVH_mono (c_L_doSimulate (Y := Y) (l := l) (S := S) hst (by rw [PK_g A]; exact W.1) z m hz hm) (fun v S' h => ?_)
  rw [PK_g A] at h
  exact qP_of h (fun _ z => PK_fr A z) (fun _ z => PK_id A z)

theorem k_bestRun (A : PK P S) (W : WF0 P) : gM Y l mX7_bestRun S [.ref (yA Y 72)] (qP (ckG (pG P) (runsF (pG P)).toNat).1 P S) := by
  refine gM_mono (c_X7_bestRun (Y := Y) (l := l) (S := S) (by rw [PK_g A]; exact W.1)) (fun v S' h => ?_)
  rw [PK_g A] at h
  exact ⟨h.1, PK_fr A h.2⟩
theorem k_bestBreak (A : PK P S) (W : WF0 P) : gM Y l mX7_bestBreak S [.ref (yA Y 72)] (qP (bkG (pG P) (pG P 0).toNat).1 P S) := by
  refine gM_mono (c_X7_bestBreak (Y := Y) (l := l) (S := S) (by rw [PK_g A]; exact W.1) A.2.1) (fun v S' h => ?_)
  have e9 : S (4 * 0) 0 = pG P 0 := congrFun (PK_g A) 0
  rw [PK_g A, e9] at h
  exact ⟨h.1, PK_fd A h.2⟩
theorem k_turnRound (A : PK P S) (W : WF0 P) : gM Y l mX7_turnRound S [.ref (yA Y 72)] (qP (pG P 0) (pPush P (revF (pG P))) S) := by
  refine gM_mono (c_X7_turnRound (Y := Y) (l := l) (S := S) (by rw [PK_g A]; exact W.1) (by rw [PK_N A]; exact W.2.1) (by rw [PK_K A]; exact W.2.2.1)) (fun v S' h => ?_)
  have e9 : S (4 * 0) 0 = pG P 0 := congrFun (PK_g A) 0
  rw [PK_g A, e9] at h
  exact ⟨h.1, PK_ch A W.2.1 h.2⟩
end KC
