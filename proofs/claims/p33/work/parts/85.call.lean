theorem eL_tryAppend : gEW yL_tryAppend cL_tryAppend 3 [(0, 5, 6, 20), (0, 5, 10, 31)] 2 := ⟨rfl, lw_gin (List.mem_of_getElem? (i := 184) (by decide +kernel)) rfl, lw_gin (List.mem_of_getElem? (i := 183) (by decide +kernel)) rfl, by decide +kernel, by decide⟩
theorem eL_tryAbout : gEW yL_tryAbout cL_tryAbout 3 [(0, 5, 6, 20)] 2 := ⟨rfl, lw_gin (List.mem_of_getElem? (i := 501) (by decide +kernel)) rfl, lw_gin (List.mem_of_getElem? (i := 500) (by decide +kernel)) rfl, by decide +kernel, by decide⟩
theorem eL_tryJewel : gEW yL_tryJewel cL_tryJewel 4 [(0, 6, 7, 13), (0, 6, 11, 20)] 3 := ⟨rfl, lw_gin (List.mem_of_getElem? (i := 543) (by decide +kernel)) rfl, lw_gin (List.mem_of_getElem? (i := 542) (by decide +kernel)) rfl, by decide +kernel, by decide⟩
theorem eL_tryPlace : gEW yL_tryPlace cL_tryPlace 4 [(0, 6, 7, 13), (0, 6, 11, 20)] 3 := ⟨rfl, lw_gin (List.mem_of_getElem? (i := 576) (by decide +kernel)) rfl, lw_gin (List.mem_of_getElem? (i := 575) (by decide +kernel)) rfl, by decide +kernel, by decide⟩
theorem eL_tryRun : gEW yL_tryRun cL_tryRun 4 [(0, 6, 7, 13), (0, 6, 11, 20)] 3 := ⟨rfl, lw_gin (List.mem_of_getElem? (i := 593) (by decide +kernel)) rfl, lw_gin (List.mem_of_getElem? (i := 592) (by decide +kernel)) rfl, by decide +kernel, by decide⟩
theorem eL_tryHas : gEW yL_tryHas cL_tryHas 4 [(0, 6, 7, 13)] 3 := ⟨rfl, lw_gin (List.mem_of_getElem? (i := 611) (by decide +kernel)) rfl, lw_gin (List.mem_of_getElem? (i := 610) (by decide +kernel)) rfl, by decide +kernel, by decide⟩
theorem eL_tryCome : gEW yL_tryCome cL_tryCome 4 [(0, 6, 7, 13), (0, 6, 11, 20), (0, 6, 15, 31)] 3 := ⟨rfl, lw_gin (List.mem_of_getElem? (i := 621) (by decide +kernel)) rfl, lw_gin (List.mem_of_getElem? (i := 620) (by decide +kernel)) rfl, by decide +kernel, by decide⟩
theorem eL_tryChange : gEW yL_tryChange cL_tryChange 4 [(0, 6, 7, 13)] 3 := ⟨rfl, lw_gin (List.mem_of_getElem? (i := 644) (by decide +kernel)) rfl, lw_gin (List.mem_of_getElem? (i := 643) (by decide +kernel)) rfl, by decide +kernel, by decide⟩
theorem eL_tryBreak : gEW yL_tryBreak cL_tryBreak 3 [(0, 5, 6, 13)] 2 := ⟨rfl, lw_gin (List.mem_of_getElem? (i := 652) (by decide +kernel)) rfl, lw_gin (List.mem_of_getElem? (i := 651) (by decide +kernel)) rfl, by decide +kernel, by decide⟩
theorem eL_tryGive : gEW yL_tryGive cL_tryGive 4 [(0, 6, 7, 13), (0, 6, 11, 20)] 3 := ⟨rfl, lw_gin (List.mem_of_getElem? (i := 660) (by decide +kernel)) rfl, lw_gin (List.mem_of_getElem? (i := 659) (by decide +kernel)) rfl, by decide +kernel, by decide⟩
theorem eL_tryTake : gEW yL_tryTake cL_tryTake 3 [(0, 5, 6, 13)] 2 := ⟨rfl, lw_gin (List.mem_of_getElem? (i := 670) (by decide +kernel)) rfl, lw_gin (List.mem_of_getElem? (i := 669) (by decide +kernel)) rfl, by decide +kernel, by decide⟩
theorem eL_tryDeal : gEW yL_tryDeal cL_tryDeal 3 [(0, 5, 6, 13)] 2 := ⟨rfl, lw_gin (List.mem_of_getElem? (i := 679) (by decide +kernel)) rfl, lw_gin (List.mem_of_getElem? (i := 678) (by decide +kernel)) rfl, by decide +kernel, by decide⟩
theorem eL_tryDivide : gEW yL_tryDivide cL_tryDivide 2 [(0, 4, 5, 31)] 1 := ⟨rfl, lw_gin (List.mem_of_getElem? (i := 688) (by decide +kernel)) rfl, lw_gin (List.mem_of_getElem? (i := 687) (by decide +kernel)) rfl, by decide +kernel, by decide⟩
theorem eL_tryLay : gEW yL_tryLay cL_tryLay 3 [(0, 5, 6, 20)] 2 := ⟨rfl, lw_gin (List.mem_of_getElem? (i := 741) (by decide +kernel)) rfl, lw_gin (List.mem_of_getElem? (i := 740) (by decide +kernel)) rfl, by decide +kernel, by decide⟩
theorem eL_tryUndo : gEW yL_tryUndo cL_tryUndo 2 [(0, 4, 5, 31)] 1 := ⟨rfl, lw_gin (List.mem_of_getElem? (i := 751) (by decide +kernel)) rfl, lw_gin (List.mem_of_getElem? (i := 750) (by decide +kernel)) rfl, by decide +kernel, by decide⟩
theorem eL_tryFewest : gEW yL_tryFewest cL_tryFewest 3 [(0, 5, 6, 20)] 2 := ⟨rfl, lw_gin (List.mem_of_getElem? (i := 763) (by decide +kernel)) rfl, lw_gin (List.mem_of_getElem? (i := 762) (by decide +kernel)) rfl, by decide +kernel, by decide⟩
theorem eL_tryDivided : gEW yL_tryDivided cL_tryDivided 3 [(0, 5, 6, 20)] 2 := ⟨rfl, lw_gin (List.mem_of_getElem? (i := 781) (by decide +kernel)) rfl, lw_gin (List.mem_of_getElem? (i := 780) (by decide +kernel)) rfl, by decide +kernel, by decide⟩
theorem eL_tryLeast : gEW yL_tryLeast cL_tryLeast 3 [(0, 5, 6, 20)] 2 := ⟨rfl, lw_gin (List.mem_of_getElem? (i := 789) (by decide +kernel)) rfl, lw_gin (List.mem_of_getElem? (i := 788) (by decide +kernel)) rfl, by decide +kernel, by decide⟩
theorem eL_tryIf : gEW yL_tryIf cL_tryIf 4 [(0, 6, 7, 13), (0, 6, 11, 20)] 3 := ⟨rfl, lw_gin (List.mem_of_getElem? (i := 810) (by decide +kernel)) rfl, lw_gin (List.mem_of_getElem? (i := 809) (by decide +kernel)) rfl, by decide +kernel, by decide⟩
theorem eL_tryKeep : gEW yL_tryKeep cL_tryKeep 3 [(0, 5, 6, 13)] 2 := ⟨rfl, lw_gin (List.mem_of_getElem? (i := 822) (by decide +kernel)) rfl, lw_gin (List.mem_of_getElem? (i := 821) (by decide +kernel)) rfl, by decide +kernel, by decide⟩
theorem eL_tryBack : gEW yL_tryBack cL_tryBack 3 [(0, 5, 6, 13), (0, 5, 10, 31)] 2 := ⟨rfl, lw_gin (List.mem_of_getElem? (i := 830) (by decide +kernel)) rfl, lw_gin (List.mem_of_getElem? (i := 829) (by decide +kernel)) rfl, by decide +kernel, by decide⟩
theorem eL_cuts : gEW yL_cuts cL_cuts 4 [(0, 6, 7, 13)] 3 := ⟨rfl, lw_gin (List.mem_of_getElem? (i := 846) (by decide +kernel)) rfl, lw_gin (List.mem_of_getElem? (i := 845) (by decide +kernel)) rfl, by decide +kernel, by decide⟩
theorem eL_doScript : gEW yL_doScript cL_doScript 5 [(0, 6, 7, 20)] 3 := ⟨rfl, lw_gin (List.mem_of_getElem? (i := 854) (by decide +kernel)) rfl, lw_gin (List.mem_of_getElem? (i := 853) (by decide +kernel)) rfl, by decide +kernel, by decide⟩
theorem eL_doSimulate : gEW yL_doSimulate cL_doSimulate 5 [(0, 6, 7, 20)] 3 := ⟨rfl, lw_gin (List.mem_of_getElem? (i := 889) (by decide +kernel)) rfl, lw_gin (List.mem_of_getElem? (i := 888) (by decide +kernel)) rfl, by decide +kernel, by decide⟩
def mL_call : gMd := (yL_call, cL_call, 5, (some .int), 40)
theorem eL_call : gES mL_call 5 := ⟨lw_gin (List.mem_of_getElem? (i := 181) (by decide +kernel)) rfl, lw_gin (List.mem_of_getElem? (i := 180) (by decide +kernel)) rfl, wl_ini, ⟨(by decide : yL_call.cls ≠ _), (by decide : yL_call.cls ≠ _), (by decide +kernel : (parseMethodDescriptor yL_call.desc).map (fun d => d.parameters.length) = some 5)⟩, (by decide : 5 + 19 ≤ 40)⟩
def mL_cell : gMd := (yL_cell, cL_cell, 2, (some .int), 10)
theorem eL_cell : gES mL_cell 2 := ⟨lw_gin (List.mem_of_getElem? (i := 838) (by decide +kernel)) rfl, lw_gin (List.mem_of_getElem? (i := 837) (by decide +kernel)) rfl, wl_ini, ⟨(by decide : yL_cell.cls ≠ _), (by decide : yL_cell.cls ≠ _), (by decide +kernel : (parseMethodDescriptor yL_cell.desc).map (fun d => d.parameters.length) = some 2)⟩, (by decide : 2 + 19 ≤ 40)⟩
def mL_thrown : gMd := (yL_thrown, cL_thrown, 1, (some .boolean), 2)
theorem eL_thrown : gES mL_thrown 1 := ⟨lw_gin (List.mem_of_getElem? (i := 939) (by decide +kernel)) rfl, lw_gin (List.mem_of_getElem? (i := 938) (by decide +kernel)) rfl, wl_ini, ⟨(by decide : yL_thrown.cls ≠ _), (by decide : yL_thrown.cls ≠ _), (by decide +kernel : (parseMethodDescriptor yL_thrown.desc).map (fun d => d.parameters.length) = some 1)⟩, (by decide : 1 + 19 ≤ 40)⟩
def mL_refuses : gMd := (yL_refuses, cL_refuses, 8, (some .boolean), 50)
set_option maxRecDepth 100000 in
theorem eL_refuses : gES mL_refuses 2 := ⟨lw_gin (List.mem_append_right _ (List.mem_append_right _ (List.mem_append_right _ (List.mem_append_right _ (List.mem_of_getElem? (l := tables_1_4) (i := 108) rfl))))) rfl, lw_gin (List.mem_of_getElem? (i := 842) (by decide +kernel)) rfl, wl_ini, ⟨(by decide : yL_refuses.cls ≠ _), (by decide : yL_refuses.cls ≠ _), (by decide +kernel : (parseMethodDescriptor yL_refuses.desc).map (fun d => d.parameters.length) = some 2)⟩, (by decide : 8 + 19 ≤ 40)⟩
def mL_holds : gMd := (yL_holds, cL_holds, 16, (some .boolean), 50)
set_option maxRecDepth 100000 in
theorem eL_holds : gES mL_holds 1 := ⟨lw_gin (List.mem_append_right _ (List.mem_append_right _ (List.mem_append_right _ (List.mem_append_right _ (List.mem_of_getElem? (l := tables_1_4) (i := 183) rfl))))) rfl, lw_gin (List.mem_of_getElem? (i := 917) (by decide +kernel)) rfl, wl_ini, ⟨(by decide : yL_holds.cls ≠ _), (by decide : yL_holds.cls ≠ _), (by decide +kernel : (parseMethodDescriptor yL_holds.desc).map (fun d => d.parameters.length) = some 1)⟩, (by decide : 16 + 19 ≤ 40)⟩
def mL_act : gMd := (yL_act, cL_act, 5, (some .int), 50)
theorem eL_act : gES mL_act 2 := ⟨lw_gin (List.mem_of_getElem? (i := 921) (by decide +kernel)) rfl, lw_gin (List.mem_of_getElem? (i := 920) (by decide +kernel)) rfl, wl_ini, ⟨(by decide : yL_act.cls ≠ _), (by decide : yL_act.cls ≠ _), (by decide +kernel : (parseMethodDescriptor yL_act.desc).map (fun d => d.parameters.length) = some 2)⟩, (by decide : 5 + 19 ≤ 40)⟩
def mL_alike : gMd := (yL_alike, cL_alike, 5, (some .boolean), 50)
theorem eL_alike : gES mL_alike 3 := ⟨lw_gin (List.mem_of_getElem? (i := 929) (by decide +kernel)) rfl, lw_gin (List.mem_of_getElem? (i := 928) (by decide +kernel)) rfl, wl_ini, ⟨(by decide : yL_alike.cls ≠ _), (by decide : yL_alike.cls ≠ _), (by decide +kernel : (parseMethodDescriptor yL_alike.desc).map (fun d => d.parameters.length) = some 3)⟩, (by decide : 5 + 19 ≤ 40)⟩
def mL_takes : gMd := (yL_takes, cL_takes, 16, (some .boolean), 50)
theorem eL_takes : gES mL_takes 3 := ⟨lw_gin (List.mem_of_getElem? (i := 936) (by decide +kernel)) rfl, lw_gin (List.mem_of_getElem? (i := 935) (by decide +kernel)) rfl, wl_ini, ⟨(by decide : yL_takes.cls ≠ _), (by decide : yL_takes.cls ≠ _), (by decide +kernel : (parseMethodDescriptor yL_takes.desc).map (fun d => d.parameters.length) = some 3)⟩, (by decide : 16 + 19 ≤ 40)⟩
def mL_divides : gMd := (yL_divides, cL_divides, 12, (some .boolean), 50)
theorem eL_divides : gES mL_divides 3 := ⟨lw_gin (List.mem_of_getElem? (i := 942) (by decide +kernel)) rfl, lw_gin (List.mem_of_getElem? (i := 941) (by decide +kernel)) rfl, wl_ini, ⟨(by decide : yL_divides.cls ≠ _), (by decide : yL_divides.cls ≠ _), (by decide +kernel : (parseMethodDescriptor yL_divides.desc).map (fun d => d.parameters.length) = some 3)⟩, (by decide : 12 + 19 ≤ 40)⟩
set_option maxHeartbeats 4000000 in
theorem c_call_append {Y : gY} {l : Launch} {S : SS} (hst : l.stackTraces = false) (hz : 0 ≤ S 73 0 ∧ S 73 0 ≤ 120) (ht : ∀ c : Int, 0 ≤ c → c < 120 → 0 ≤ S 74 c ∧ S 74 c ≤ 255) (c : Int) (hc : rI c) (b9 c9 : Int) : gN Y l mL_call 1 S [.ref (yA Y 72), .int (iI 0), .int (iI c), .int (iI b9), .int (iI c9)] (yP (cd_len (S 73 0) c) (S 73 0 + 1) (-9999002) (-9999003) (0) (fun S' => S' = us (us S 74 (uq (S 74) (S 73 0) c)) 73 (uq (S 73) 0 (S 73 0 + 1))) (fun S' => S' = S)) := by
  refine gN_of (by decide) (Nat.le_of_ble_eq_true rfl) ?_
  intro X hXl B E
  subst hXl
  show gW Y (xK X 0) S 0 [(0, .ref (yA Y 72)), (1, .int (iI 0)), (2, .int (iI c)), (3, .int (iI b9)), (4, .int (iI c9))] []
  refine g_iload_n (q := 1) B dL_call_0 rfl 1 rfl ?_
  refine g_tsIn (q := 100) B 0 dL_call_1 rfl ⟨by decide, by decide, by decide, by decide⟩ rfl (by decide) ?_
  refine g_aload_n (q := 101) B dL_call_100 rfl 0 rfl ?_
  refine g_iload_n (q := 102) B dL_call_101 rfl 2 rfl ?_
  refine g_callW (q := 105) (c2 := 1) (As := [.ref (yA Y 72), .int (iI c)]) (st := []) B dL_call_102 rfl (c_L_tryAppend (Y := Y) (l := xL X) (S := S) hst hz ht c hc) eL_tryAppend w182 (by decide) rfl rfl (Nat.le_of_ble_eq_true rfl) rfl E.2.1 E.2.2 (fun v Sv hv => ?_)
  have hvv := hv.1
  subst hvv
  exact gn_iret (gB_K B E.2.1 E.2.2) E (Nat.le_refl _) dL_call_105 hv

set_option maxHeartbeats 4000000 in
theorem c_call_about {Y : gY} {l : Launch} {S : SS} (hst : l.stackTraces = false) (hw : wf (vw S 0)) (u : Int) (hu : rI u) (b9 c9 : Int) : gN Y l mL_call 1 S [.ref (yA Y 72), .int (iI 2), .int (iI u), .int (iI b9), .int (iI c9)] (yP (cd_about u) (vl_about (vw S 0) u) (-9999002) (0) (0) (fun S' => S' = S) (fun S' => S' = S)) := by
  refine gN_of (by decide) (Nat.le_of_ble_eq_true rfl) ?_
  intro X hXl B E
  subst hXl
  show gW Y (xK X 0) S 0 [(0, .ref (yA Y 72)), (1, .int (iI 2)), (2, .int (iI u)), (3, .int (iI b9)), (4, .int (iI c9))] []
  refine g_iload_n (q := 1) B dL_call_0 rfl 1 rfl ?_
  refine g_tsIn (q := 111) B 2 dL_call_1 rfl ⟨by decide, by decide, by decide, by decide⟩ rfl (by decide) ?_
  refine g_aload_n (q := 112) B dL_call_111 rfl 0 rfl ?_
  refine g_iload_n (q := 113) B dL_call_112 rfl 2 rfl ?_
  refine g_callW (q := 116) (c2 := 1) (As := [.ref (yA Y 72), .int (iI u)]) (st := []) B dL_call_113 rfl (c_L_tryAbout (Y := Y) (l := xL X) (S := S) hst hw u hu) eL_tryAbout w499 (by decide) rfl rfl (Nat.le_of_ble_eq_true rfl) rfl E.2.1 E.2.2 (fun v Sv hv => ?_)
  have hvv := hv.1
  subst hvv
  exact gn_iret (gB_K B E.2.1 E.2.2) E (Nat.le_refl _) dL_call_116 hv

set_option maxHeartbeats 4000000 in
theorem c_call_jewelOf {Y : gY} {l : Launch} {S : SS} (hst : l.stackTraces = false) (hw : wf (vw S 0)) (j : Int) (hj : rI j) (u : Int) (hu : rI u) (c9 : Int) : gN Y l mL_call 1 S [.ref (yA Y 72), .int (iI 3), .int (iI j), .int (iI u), .int (iI c9)] (yP (cd_jewelOf (vw S 0) j u) (vl_jewelOf (vw S 0) j u) (-9999001) (-9999002) (0) (fun S' => S' = S) (fun S' => S' = S)) := by
  refine gN_of (by decide) (Nat.le_of_ble_eq_true rfl) ?_
  intro X hXl B E
  subst hXl
  show gW Y (xK X 0) S 0 [(0, .ref (yA Y 72)), (1, .int (iI 3)), (2, .int (iI j)), (3, .int (iI u)), (4, .int (iI c9))] []
  refine g_iload_n (q := 1) B dL_call_0 rfl 1 rfl ?_
  refine g_tsIn (q := 117) B 3 dL_call_1 rfl ⟨by decide, by decide, by decide, by decide⟩ rfl (by decide) ?_
  refine g_aload_n (q := 118) B dL_call_117 rfl 0 rfl ?_
  refine g_iload_n (q := 119) B dL_call_118 rfl 2 rfl ?_
  refine g_iload_n (q := 120) B dL_call_119 rfl 3 rfl ?_
  refine g_callW (q := 123) (c2 := 1) (As := [.ref (yA Y 72), .int (iI j), .int (iI u)]) (st := []) B dL_call_120 rfl (c_L_tryJewel (Y := Y) (l := xL X) (S := S) hst hw j hj u hu) eL_tryJewel w541 (by decide) rfl rfl (Nat.le_of_ble_eq_true rfl) rfl E.2.1 E.2.2 (fun v Sv hv => ?_)
  have hvv := hv.1
  subst hvv
  exact gn_iret (gB_K B E.2.1 E.2.2) E (Nat.le_refl _) dL_call_123 hv

set_option maxHeartbeats 4000000 in
theorem c_call_placeOf {Y : gY} {l : Launch} {S : SS} (hst : l.stackTraces = false) (hw : wf (vw S 0)) (p : Int) (hp : rI p) (u : Int) (hu : rI u) (c9 : Int) : gN Y l mL_call 1 S [.ref (yA Y 72), .int (iI 4), .int (iI p), .int (iI u), .int (iI c9)] (yP (cd_placeOf (vw S 0) p u) (vl_placeOf (vw S 0) p u) (-9999001) (-9999002) (0) (fun S' => S' = S) (fun S' => S' = S)) := by
  refine gN_of (by decide) (Nat.le_of_ble_eq_true rfl) ?_
  intro X hXl B E
  subst hXl
  show gW Y (xK X 0) S 0 [(0, .ref (yA Y 72)), (1, .int (iI 4)), (2, .int (iI p)), (3, .int (iI u)), (4, .int (iI c9))] []
  refine g_iload_n (q := 1) B dL_call_0 rfl 1 rfl ?_
  refine g_tsIn (q := 124) B 4 dL_call_1 rfl ⟨by decide, by decide, by decide, by decide⟩ rfl (by decide) ?_
  refine g_aload_n (q := 125) B dL_call_124 rfl 0 rfl ?_
  refine g_iload_n (q := 126) B dL_call_125 rfl 2 rfl ?_
  refine g_iload_n (q := 127) B dL_call_126 rfl 3 rfl ?_
  refine g_callW (q := 130) (c2 := 1) (As := [.ref (yA Y 72), .int (iI p), .int (iI u)]) (st := []) B dL_call_127 rfl (c_L_tryPlace (Y := Y) (l := xL X) (S := S) hst hw p hp u hu) eL_tryPlace w574 (by decide) rfl rfl (Nat.le_of_ble_eq_true rfl) rfl E.2.1 E.2.2 (fun v Sv hv => ?_)
  have hvv := hv.1
  subst hvv
  exact gn_iret (gB_K B E.2.1 E.2.2) E (Nat.le_refl _) dL_call_130 hv

set_option maxHeartbeats 4000000 in
theorem c_call_runOf {Y : gY} {l : Launch} {S : SS} (hst : l.stackTraces = false) (hw : wf (vw S 0)) (r : Int) (hr : rI r) (u : Int) (hu : rI u) (c9 : Int) : gN Y l mL_call 1 S [.ref (yA Y 72), .int (iI 5), .int (iI r), .int (iI u), .int (iI c9)] (yP (cd_runOf (vw S 0) r u) (vl_runOf (vw S 0) r u) (-9999001) (-9999002) (0) (fun S' => S' = S) (fun S' => S' = S)) := by
  refine gN_of (by decide) (Nat.le_of_ble_eq_true rfl) ?_
  intro X hXl B E
  subst hXl
  show gW Y (xK X 0) S 0 [(0, .ref (yA Y 72)), (1, .int (iI 5)), (2, .int (iI r)), (3, .int (iI u)), (4, .int (iI c9))] []
  refine g_iload_n (q := 1) B dL_call_0 rfl 1 rfl ?_
  refine g_tsIn (q := 131) B 5 dL_call_1 rfl ⟨by decide, by decide, by decide, by decide⟩ rfl (by decide) ?_
  refine g_aload_n (q := 132) B dL_call_131 rfl 0 rfl ?_
  refine g_iload_n (q := 133) B dL_call_132 rfl 2 rfl ?_
  refine g_iload_n (q := 134) B dL_call_133 rfl 3 rfl ?_
  refine g_callW (q := 137) (c2 := 1) (As := [.ref (yA Y 72), .int (iI r), .int (iI u)]) (st := []) B dL_call_134 rfl (c_L_tryRun (Y := Y) (l := xL X) (S := S) hst hw r hr u hu) eL_tryRun w591 (by decide) rfl rfl (Nat.le_of_ble_eq_true rfl) rfl E.2.1 E.2.2 (fun v Sv hv => ?_)
  have hvv := hv.1
  subst hvv
  exact gn_iret (gB_K B E.2.1 E.2.2) E (Nat.le_refl _) dL_call_137 hv

set_option maxHeartbeats 4000000 in
theorem c_call_has {Y : gY} {l : Launch} {S : SS} (hst : l.stackTraces = false) (hw : wf (vw S 0)) (s : Int) (hs : rI s) (k : Int) (hk : rI k) (c9 : Int) : gN Y l mL_call 1 S [.ref (yA Y 72), .int (iI 6), .int (iI s), .int (iI k), .int (iI c9)] (yP (cd_has s k) (hasF (vw S 0) s k) (-9999001) (0) (0) (fun S' => S' = S) (fun S' => S' = S)) := by
  refine gN_of (by decide) (Nat.le_of_ble_eq_true rfl) ?_
  intro X hXl B E
  subst hXl
  show gW Y (xK X 0) S 0 [(0, .ref (yA Y 72)), (1, .int (iI 6)), (2, .int (iI s)), (3, .int (iI k)), (4, .int (iI c9))] []
  refine g_iload_n (q := 1) B dL_call_0 rfl 1 rfl ?_
  refine g_tsIn (q := 138) B 6 dL_call_1 rfl ⟨by decide, by decide, by decide, by decide⟩ rfl (by decide) ?_
  refine g_aload_n (q := 139) B dL_call_138 rfl 0 rfl ?_
  refine g_iload_n (q := 140) B dL_call_139 rfl 2 rfl ?_
  refine g_iload_n (q := 141) B dL_call_140 rfl 3 rfl ?_
  refine g_callW (q := 144) (c2 := 1) (As := [.ref (yA Y 72), .int (iI s), .int (iI k)]) (st := []) B dL_call_141 rfl (c_L_tryHas (Y := Y) (l := xL X) (S := S) hst hw s hs k hk) eL_tryHas w609 (by decide) rfl rfl (Nat.le_of_ble_eq_true rfl) rfl E.2.1 E.2.2 (fun v Sv hv => ?_)
  have hvv := hv.1
  subst hvv
  exact gn_iret (gB_K B E.2.1 E.2.2) E (Nat.le_refl _) dL_call_144 hv

set_option maxHeartbeats 4000000 in
theorem c_call_jewel {Y : gY} {l : Launch} {S : SS} (hst : l.stackTraces = false) (hw : wf (vw S 0)) (hnx : 0 ≤ S 75 0 ∧ S 75 0 < 14) (hct : 0 ≤ S 75 1 ∧ S 75 1 ≤ 14) (k : Int) (hk : rI k) (u : Int) (hu : rI u) (c9 : Int) : gN Y l mL_call 1 S [.ref (yA Y 72), .int (iI 7), .int (iI k), .int (iI u), .int (iI c9)] (yP (cd_jewel (vw S 0) k u) (S (4 * 0) 0) (-9999001) (-9999002) (-9999003) (fun S' => chP S S' (addG (vw S 0) k u)) (fun S' => S' = S)) := by
  refine gN_of (by decide) (Nat.le_of_ble_eq_true rfl) ?_
  intro X hXl B E
  subst hXl
  show gW Y (xK X 0) S 0 [(0, .ref (yA Y 72)), (1, .int (iI 7)), (2, .int (iI k)), (3, .int (iI u)), (4, .int (iI c9))] []
  refine g_iload_n (q := 1) B dL_call_0 rfl 1 rfl ?_
  refine g_tsIn (q := 145) B 7 dL_call_1 rfl ⟨by decide, by decide, by decide, by decide⟩ rfl (by decide) ?_
  refine g_aload_n (q := 146) B dL_call_145 rfl 0 rfl ?_
  refine g_iload_n (q := 147) B dL_call_146 rfl 2 rfl ?_
  refine g_iload_n (q := 148) B dL_call_147 rfl 3 rfl ?_
  refine g_callW (q := 151) (c2 := 1) (As := [.ref (yA Y 72), .int (iI k), .int (iI u)]) (st := []) B dL_call_148 rfl (c_L_tryCome (Y := Y) (l := xL X) (S := S) hst hw hnx hct k hk u hu) eL_tryCome w619 (by decide) rfl rfl (Nat.le_of_ble_eq_true rfl) rfl E.2.1 E.2.2 (fun v Sv hv => ?_)
  have hvv := hv.1
  subst hvv
  exact gn_iret (gB_K B E.2.1 E.2.2) E (Nat.le_refl _) dL_call_151 hv

set_option maxHeartbeats 4000000 in
theorem c_call_exchange {Y : gY} {l : Launch} {S : SS} (hst : l.stackTraces = false) (hw : wf (vw S 0)) (hnx : 0 ≤ S 75 0 ∧ S 75 0 < 14) (hct : 0 ≤ S 75 1 ∧ S 75 1 ≤ 14) (i : Int) (hi : rI i) (j : Int) (hj : rI j) (c9 : Int) : gN Y l mL_call 1 S [.ref (yA Y 72), .int (iI 8), .int (iI i), .int (iI j), .int (iI c9)] (yP (cd_exchange (vw S 0) i j) (gapF (swapG (vw S 0) i j)) (-9999001) (0) (0) (fun S' => chP S S' (swapG (vw S 0) i j)) (fun S' => S' = S)) := by
  refine gN_of (by decide) (Nat.le_of_ble_eq_true rfl) ?_
  intro X hXl B E
  subst hXl
  show gW Y (xK X 0) S 0 [(0, .ref (yA Y 72)), (1, .int (iI 8)), (2, .int (iI i)), (3, .int (iI j)), (4, .int (iI c9))] []
  refine g_iload_n (q := 1) B dL_call_0 rfl 1 rfl ?_
  refine g_tsIn (q := 152) B 8 dL_call_1 rfl ⟨by decide, by decide, by decide, by decide⟩ rfl (by decide) ?_
  refine g_aload_n (q := 153) B dL_call_152 rfl 0 rfl ?_
  refine g_iload_n (q := 154) B dL_call_153 rfl 2 rfl ?_
  refine g_iload_n (q := 155) B dL_call_154 rfl 3 rfl ?_
  refine g_callW (q := 158) (c2 := 1) (As := [.ref (yA Y 72), .int (iI i), .int (iI j)]) (st := []) B dL_call_155 rfl (c_L_tryChange (Y := Y) (l := xL X) (S := S) hst hw hnx hct i hi j hj) eL_tryChange w642 (by decide) rfl rfl (Nat.le_of_ble_eq_true rfl) rfl E.2.1 E.2.2 (fun v Sv hv => ?_)
  have hvv := hv.1
  subst hvv
  exact gn_iret (gB_K B E.2.1 E.2.2) E (Nat.le_refl _) dL_call_158 hv

set_option maxHeartbeats 4000000 in
theorem c_call_breakAt {Y : gY} {l : Launch} {S : SS} (hst : l.stackTraces = false) (hw : wf (vw S 0)) (hnx : 0 ≤ S 75 0 ∧ S 75 0 < 14) (hct : 0 ≤ S 75 1 ∧ S 75 1 ≤ 14) (j : Int) (hj : rI j) (b9 c9 : Int) : gN Y l mL_call 1 S [.ref (yA Y 72), .int (iI 9), .int (iI j), .int (iI b9), .int (iI c9)] (yP (cd_breakAt (vw S 0) j) (S (4 * 0) 1) (-9999001) (0) (0) (fun S' => chP S S' (brkG (vw S 0) j)) (fun S' => S' = S)) := by
  refine gN_of (by decide) (Nat.le_of_ble_eq_true rfl) ?_
  intro X hXl B E
  subst hXl
  show gW Y (xK X 0) S 0 [(0, .ref (yA Y 72)), (1, .int (iI 9)), (2, .int (iI j)), (3, .int (iI b9)), (4, .int (iI c9))] []
  refine g_iload_n (q := 1) B dL_call_0 rfl 1 rfl ?_
  refine g_tsIn (q := 159) B 9 dL_call_1 rfl ⟨by decide, by decide, by decide, by decide⟩ rfl (by decide) ?_
  refine g_aload_n (q := 160) B dL_call_159 rfl 0 rfl ?_
  refine g_iload_n (q := 161) B dL_call_160 rfl 2 rfl ?_
  refine g_callW (q := 164) (c2 := 1) (As := [.ref (yA Y 72), .int (iI j)]) (st := []) B dL_call_161 rfl (c_L_tryBreak (Y := Y) (l := xL X) (S := S) hst hw hnx hct j hj) eL_tryBreak w650 (by decide) rfl rfl (Nat.le_of_ble_eq_true rfl) rfl E.2.1 E.2.2 (fun v Sv hv => ?_)
  have hvv := hv.1
  subst hvv
  exact gn_iret (gB_K B E.2.1 E.2.2) E (Nat.le_refl _) dL_call_164 hv

set_option maxHeartbeats 4000000 in
theorem c_call_give {Y : gY} {l : Launch} {S : SS} (hst : l.stackTraces = false) (hw : wf (vw S 0)) (hnx : 0 ≤ S 75 0 ∧ S 75 0 < 14) (hct : 0 ≤ S 75 1 ∧ S 75 1 ≤ 14) (r : Int) (hr : rI r) (o : Int) (ho : rI o) (c9 : Int) : gN Y l mL_call 1 S [.ref (yA Y 72), .int (iI 10), .int (iI r), .int (iI o), .int (iI c9)] (yP (cd_give (vw S 0) r o) (gapF (giveG (vw S 0) r o)) (-9999001) (-9999002) (0) (fun S' => chP S S' (giveG (vw S 0) r o)) (fun S' => S' = S)) := by
  refine gN_of (by decide) (Nat.le_of_ble_eq_true rfl) ?_
  intro X hXl B E
  subst hXl
  show gW Y (xK X 0) S 0 [(0, .ref (yA Y 72)), (1, .int (iI 10)), (2, .int (iI r)), (3, .int (iI o)), (4, .int (iI c9))] []
  refine g_iload_n (q := 1) B dL_call_0 rfl 1 rfl ?_
  refine g_tsIn (q := 165) B 10 dL_call_1 rfl ⟨by decide, by decide, by decide, by decide⟩ rfl (by decide) ?_
  refine g_aload_n (q := 166) B dL_call_165 rfl 0 rfl ?_
  refine g_iload_n (q := 167) B dL_call_166 rfl 2 rfl ?_
  refine g_iload_n (q := 168) B dL_call_167 rfl 3 rfl ?_
  refine g_callW (q := 171) (c2 := 1) (As := [.ref (yA Y 72), .int (iI r), .int (iI o)]) (st := []) B dL_call_168 rfl (c_L_tryGive (Y := Y) (l := xL X) (S := S) hst hw hnx hct r hr o ho) eL_tryGive w658 (by decide) rfl rfl (Nat.le_of_ble_eq_true rfl) rfl E.2.1 E.2.2 (fun v Sv hv => ?_)
  have hvv := hv.1
  subst hvv
  exact gn_iret (gB_K B E.2.1 E.2.2) E (Nat.le_refl _) dL_call_171 hv

set_option maxHeartbeats 4000000 in
theorem c_call_take {Y : gY} {l : Launch} {S : SS} (hst : l.stackTraces = false) (hw : wf (vw S 0)) (hnx : 0 ≤ S 75 0 ∧ S 75 0 < 14) (hct : 0 ≤ S 75 1 ∧ S 75 1 ≤ 14) (r : Int) (hr : rI r) (b9 c9 : Int) : gN Y l mL_call 1 S [.ref (yA Y 72), .int (iI 11), .int (iI r), .int (iI b9), .int (iI c9)] (yP (cd_take (vw S 0) r) (whyF (vw S 0) r) (-9999001) (0) (0) (fun S' => chP S S' (takeM (vw S 0) r)) (fun S' => S' = S)) := by
  refine gN_of (by decide) (Nat.le_of_ble_eq_true rfl) ?_
  intro X hXl B E
  subst hXl
  show gW Y (xK X 0) S 0 [(0, .ref (yA Y 72)), (1, .int (iI 11)), (2, .int (iI r)), (3, .int (iI b9)), (4, .int (iI c9))] []
  refine g_iload_n (q := 1) B dL_call_0 rfl 1 rfl ?_
  refine g_tsIn (q := 172) B 11 dL_call_1 rfl ⟨by decide, by decide, by decide, by decide⟩ rfl (by decide) ?_
  refine g_aload_n (q := 173) B dL_call_172 rfl 0 rfl ?_
  refine g_iload_n (q := 174) B dL_call_173 rfl 2 rfl ?_
  refine g_callW (q := 177) (c2 := 1) (As := [.ref (yA Y 72), .int (iI r)]) (st := []) B dL_call_174 rfl (c_L_tryTake (Y := Y) (l := xL X) (S := S) hst hw hnx hct r hr) eL_tryTake w668 (by decide) rfl rfl (Nat.le_of_ble_eq_true rfl) rfl E.2.1 E.2.2 (fun v Sv hv => ?_)
  have hvv := hv.1
  subst hvv
  exact gn_iret (gB_K B E.2.1 E.2.2) E (Nat.le_refl _) dL_call_177 hv

set_option maxHeartbeats 4000000 in
theorem c_call_deal {Y : gY} {l : Launch} {S : SS} (hst : l.stackTraces = false) (hw : wf (vw S 0)) (hnx : 0 ≤ S 75 0 ∧ S 75 0 < 14) (hct : 0 ≤ S 75 1 ∧ S 75 1 ≤ 14) (s : Int) (hs : rI s) (b9 c9 : Int) : gN Y l mL_call 1 S [.ref (yA Y 72), .int (iI 12), .int (iI s), .int (iI b9), .int (iI c9)] (yP (cd_01 s) (gapF (dealG (vw S 0) s)) (-9999001) (0) (0) (fun S' => chP S S' (dealG (vw S 0) s)) (fun S' => S' = S)) := by
  refine gN_of (by decide) (Nat.le_of_ble_eq_true rfl) ?_
  intro X hXl B E
  subst hXl
  show gW Y (xK X 0) S 0 [(0, .ref (yA Y 72)), (1, .int (iI 12)), (2, .int (iI s)), (3, .int (iI b9)), (4, .int (iI c9))] []
  refine g_iload_n (q := 1) B dL_call_0 rfl 1 rfl ?_
  refine g_tsIn (q := 178) B 12 dL_call_1 rfl ⟨by decide, by decide, by decide, by decide⟩ rfl (by decide) ?_
  refine g_aload_n (q := 179) B dL_call_178 rfl 0 rfl ?_
  refine g_iload_n (q := 180) B dL_call_179 rfl 2 rfl ?_
  refine g_callW (q := 183) (c2 := 1) (As := [.ref (yA Y 72), .int (iI s)]) (st := []) B dL_call_180 rfl (c_L_tryDeal (Y := Y) (l := xL X) (S := S) hst hw hnx hct s hs) eL_tryDeal w677 (by decide) rfl rfl (Nat.le_of_ble_eq_true rfl) rfl E.2.1 E.2.2 (fun v Sv hv => ?_)
  have hvv := hv.1
  subst hvv
  exact gn_iret (gB_K B E.2.1 E.2.2) E (Nat.le_refl _) dL_call_183 hv

set_option maxHeartbeats 4000000 in
theorem c_call_divide {Y : gY} {l : Launch} {S : SS} (hst : l.stackTraces = false) (hw : wf (vw S 0)) (hnx : 0 ≤ S 75 0 ∧ S 75 0 < 14) (hct : 0 ≤ S 75 1 ∧ S 75 1 ≤ 14) (h780 : S 78 0 = 0) (a9 b9 c9 : Int) : gN Y l mL_call 1 S [.ref (yA Y 72), .int (iI 13), .int (iI a9), .int (iI b9), .int (iI c9)] (yP (cd_dv (fewF (vw S 0))) (fewF (vw S 0)) (-9999003) (0) (0) (fun S' => dvP S S') (fun S' => fdv S S')) := by
  refine gN_of (by decide) (Nat.le_of_ble_eq_true rfl) ?_
  intro X hXl B E
  subst hXl
  show gW Y (xK X 0) S 0 [(0, .ref (yA Y 72)), (1, .int (iI 13)), (2, .int (iI a9)), (3, .int (iI b9)), (4, .int (iI c9))] []
  refine g_iload_n (q := 1) B dL_call_0 rfl 1 rfl ?_
  refine g_tsIn (q := 184) B 13 dL_call_1 rfl ⟨by decide, by decide, by decide, by decide⟩ rfl (by decide) ?_
  refine g_aload_n (q := 185) B dL_call_184 rfl 0 rfl ?_
  refine g_callW (q := 188) (c2 := 1) (As := [.ref (yA Y 72)]) (st := []) B dL_call_185 rfl (c_L_tryDivide (Y := Y) (l := xL X) (S := S) hst hw hnx hct h780) eL_tryDivide w686 (by decide) rfl rfl (Nat.le_of_ble_eq_true rfl) rfl E.2.1 E.2.2 (fun v Sv hv => ?_)
  have hvv := hv.1
  subst hvv
  exact gn_iret (gB_K B E.2.1 E.2.2) E (Nat.le_refl _) dL_call_188 hv

set_option maxHeartbeats 4000000 in
theorem c_call_set {Y : gY} {l : Launch} {S : SS} (hst : l.stackTraces = false) (hw : wf (vw S 0)) (hnx : 0 ≤ S 75 0 ∧ S 75 0 < 14) (hct : 0 ≤ S 75 1 ∧ S 75 1 ≤ 14) (v : Int) (hv : rI v) (b9 c9 : Int) : gN Y l mL_call 1 S [.ref (yA Y 72), .int (iI 14), .int (iI v), .int (iI b9), .int (iI c9)] (yP (cd_01 v) (S (4 * 0) 4) (-9999002) (0) (0) (fun S' => chP S S' (setG (vw S 0) v)) (fun S' => S' = S)) := by
  refine gN_of (by decide) (Nat.le_of_ble_eq_true rfl) ?_
  intro X hXl B E
  subst hXl
  show gW Y (xK X 0) S 0 [(0, .ref (yA Y 72)), (1, .int (iI 14)), (2, .int (iI v)), (3, .int (iI b9)), (4, .int (iI c9))] []
  refine g_iload_n (q := 1) B dL_call_0 rfl 1 rfl ?_
  refine g_tsIn (q := 189) B 14 dL_call_1 rfl ⟨by decide, by decide, by decide, by decide⟩ rfl (by decide) ?_
  refine g_aload_n (q := 190) B dL_call_189 rfl 0 rfl ?_
  refine g_iload_n (q := 191) B dL_call_190 rfl 2 rfl ?_
  refine g_callW (q := 194) (c2 := 1) (As := [.ref (yA Y 72), .int (iI v)]) (st := []) B dL_call_191 rfl (c_L_tryLay (Y := Y) (l := xL X) (S := S) hst hw hnx hct v hv) eL_tryLay w739 (by decide) rfl rfl (Nat.le_of_ble_eq_true rfl) rfl E.2.1 E.2.2 (fun v Sv hv => ?_)
  have hvv := hv.1
  subst hvv
  exact gn_iret (gB_K B E.2.1 E.2.2) E (Nat.le_refl _) dL_call_194 hv

set_option maxHeartbeats 4000000 in
theorem c_call_undo {Y : gY} {l : Launch} {S : SS} (hst : l.stackTraces = false) (hnx : 0 ≤ S 75 0 ∧ S 75 0 < 14) (hct : 0 ≤ S 75 1 ∧ S 75 1 ≤ 14) (a9 b9 c9 : Int) : gN Y l mL_call 1 S [.ref (yA Y 72), .int (iI 15), .int (iI a9), .int (iI b9), .int (iI c9)] (yP (cd_undo (S 75 1)) (S 75 1 - 1) (-9999003) (0) (0) (fun S' => tbP S S') (fun S' => S' = S)) := by
  refine gN_of (by decide) (Nat.le_of_ble_eq_true rfl) ?_
  intro X hXl B E
  subst hXl
  show gW Y (xK X 0) S 0 [(0, .ref (yA Y 72)), (1, .int (iI 15)), (2, .int (iI a9)), (3, .int (iI b9)), (4, .int (iI c9))] []
  refine g_iload_n (q := 1) B dL_call_0 rfl 1 rfl ?_
  refine g_tsIn (q := 195) B 15 dL_call_1 rfl ⟨by decide, by decide, by decide, by decide⟩ rfl (by decide) ?_
  refine g_aload_n (q := 196) B dL_call_195 rfl 0 rfl ?_
  refine g_callW (q := 199) (c2 := 1) (As := [.ref (yA Y 72)]) (st := []) B dL_call_196 rfl (c_L_tryUndo (Y := Y) (l := xL X) (S := S) hst hnx hct) eL_tryUndo w749 (by decide) rfl rfl (Nat.le_of_ble_eq_true rfl) rfl E.2.1 E.2.2 (fun v Sv hv => ?_)
  have hvv := hv.1
  subst hvv
  exact gn_iret (gB_K B E.2.1 E.2.2) E (Nat.le_refl _) dL_call_199 hv

set_option maxHeartbeats 4000000 in
theorem c_call_fewest {Y : gY} {l : Launch} {S : SS} (hst : l.stackTraces = false) (hw : wf (vw S 0)) (h780 : S 78 0 = 0) (u : Int) (hu : rI u) (b9 c9 : Int) : gN Y l mL_call 1 S [.ref (yA Y 72), .int (iI 16), .int (iI u), .int (iI b9), .int (iI c9)] (yP (cd_01 u) (fewF (vw S 0)) (-9999002) (0) (0) (fun S' => fdv S S') (fun S' => S' = S)) := by
  refine gN_of (by decide) (Nat.le_of_ble_eq_true rfl) ?_
  intro X hXl B E
  subst hXl
  show gW Y (xK X 0) S 0 [(0, .ref (yA Y 72)), (1, .int (iI 16)), (2, .int (iI u)), (3, .int (iI b9)), (4, .int (iI c9))] []
  refine g_iload_n (q := 1) B dL_call_0 rfl 1 rfl ?_
  refine g_tsIn (q := 200) B 16 dL_call_1 rfl ⟨by decide, by decide, by decide, by decide⟩ rfl (by decide) ?_
  refine g_aload_n (q := 201) B dL_call_200 rfl 0 rfl ?_
  refine g_iload_n (q := 202) B dL_call_201 rfl 2 rfl ?_
  refine g_callW (q := 205) (c2 := 1) (As := [.ref (yA Y 72), .int (iI u)]) (st := []) B dL_call_202 rfl (c_L_tryFewest (Y := Y) (l := xL X) (S := S) hst hw h780 u hu) eL_tryFewest w761 (by decide) rfl rfl (Nat.le_of_ble_eq_true rfl) rfl E.2.1 E.2.2 (fun v Sv hv => ?_)
  have hvv := hv.1
  subst hvv
  exact gn_iret (gB_K B E.2.1 E.2.2) E (Nat.le_refl _) dL_call_205 hv

set_option maxHeartbeats 4000000 in
theorem c_call_divided {Y : gY} {l : Launch} {S : SS} (hst : l.stackTraces = false) (hw : wf (vw S 0)) (h780 : S 78 0 = 0) (k : Int) (hk : rI k) (b9 c9 : Int) : gN Y l mL_call 1 S [.ref (yA Y 72), .int (iI 17), .int (iI k), .int (iI b9), .int (iI c9)] (yP (cd_m1 k) (divF (vw S 0) k) (-9999002) (0) (0) (fun S' => fdv S S') (fun S' => S' = S)) := by
  refine gN_of (by decide) (Nat.le_of_ble_eq_true rfl) ?_
  intro X hXl B E
  subst hXl
  show gW Y (xK X 0) S 0 [(0, .ref (yA Y 72)), (1, .int (iI 17)), (2, .int (iI k)), (3, .int (iI b9)), (4, .int (iI c9))] []
  refine g_iload_n (q := 1) B dL_call_0 rfl 1 rfl ?_
  refine g_tsIn (q := 206) B 17 dL_call_1 rfl ⟨by decide, by decide, by decide, by decide⟩ rfl (by decide) ?_
  refine g_aload_n (q := 207) B dL_call_206 rfl 0 rfl ?_
  refine g_iload_n (q := 208) B dL_call_207 rfl 2 rfl ?_
  refine g_callW (q := 211) (c2 := 1) (As := [.ref (yA Y 72), .int (iI k)]) (st := []) B dL_call_208 rfl (c_L_tryDivided (Y := Y) (l := xL X) (S := S) hst hw h780 k hk) eL_tryDivided w779 (by decide) rfl rfl (Nat.le_of_ble_eq_true rfl) rfl E.2.1 E.2.2 (fun v Sv hv => ?_)
  have hvv := hv.1
  subst hvv
  exact gn_iret (gB_K B E.2.1 E.2.2) E (Nat.le_refl _) dL_call_211 hv

set_option maxHeartbeats 4000000 in
theorem c_call_leastGap {Y : gY} {l : Launch} {S : SS} (hst : l.stackTraces = false) (hw : wf (vw S 0)) (h780 : S 78 0 = 0) (m : Int) (hm : rI m) (b9 c9 : Int) : gN Y l mL_call 1 S [.ref (yA Y 72), .int (iI 18), .int (iI m), .int (iI b9), .int (iI c9)] (yP (cd_04 m) (lgF (vw S 0) m.toNat) (-9999002) (0) (0) (fun S' => fdv S S') (fun S' => S' = S)) := by
  refine gN_of (by decide) (Nat.le_of_ble_eq_true rfl) ?_
  intro X hXl B E
  subst hXl
  show gW Y (xK X 0) S 0 [(0, .ref (yA Y 72)), (1, .int (iI 18)), (2, .int (iI m)), (3, .int (iI b9)), (4, .int (iI c9))] []
  refine g_iload_n (q := 1) B dL_call_0 rfl 1 rfl ?_
  refine g_tsIn (q := 212) B 18 dL_call_1 rfl ⟨by decide, by decide, by decide, by decide⟩ rfl (by decide) ?_
  refine g_aload_n (q := 213) B dL_call_212 rfl 0 rfl ?_
  refine g_iload_n (q := 214) B dL_call_213 rfl 2 rfl ?_
  refine g_callW (q := 217) (c2 := 1) (As := [.ref (yA Y 72), .int (iI m)]) (st := []) B dL_call_214 rfl (c_L_tryLeast (Y := Y) (l := xL X) (S := S) hst hw h780 m hm) eL_tryLeast w787 (by decide) rfl rfl (Nat.le_of_ble_eq_true rfl) rfl E.2.1 E.2.2 (fun v Sv hv => ?_)
  have hvv := hv.1
  subst hvv
  exact gn_iret (gB_K B E.2.1 E.2.2) E (Nat.le_refl _) dL_call_217 hv

set_option maxHeartbeats 4000000 in
theorem c_call_ifGiven {Y : gY} {l : Launch} {S : SS} (hst : l.stackTraces = false) (hw : wf (vw S 0)) (r : Int) (hr : rI r) (o : Int) (ho : rI o) (c9 : Int) : gN Y l mL_call 1 S [.ref (yA Y 72), .int (iI 19), .int (iI r), .int (iI o), .int (iI c9)] (yP (cd_give (vw S 0) r o) (gapF (giveG (vw S 0) r o)) (-9999001) (-9999002) (0) (fun S' => fr S S' 1) (fun S' => S' = S)) := by
  refine gN_of (by decide) (Nat.le_of_ble_eq_true rfl) ?_
  intro X hXl B E
  subst hXl
  show gW Y (xK X 0) S 0 [(0, .ref (yA Y 72)), (1, .int (iI 19)), (2, .int (iI r)), (3, .int (iI o)), (4, .int (iI c9))] []
  refine g_iload_n (q := 1) B dL_call_0 rfl 1 rfl ?_
  refine g_tsIn (q := 218) B 19 dL_call_1 rfl ⟨by decide, by decide, by decide, by decide⟩ rfl (by decide) ?_
  refine g_aload_n (q := 219) B dL_call_218 rfl 0 rfl ?_
  refine g_iload_n (q := 220) B dL_call_219 rfl 2 rfl ?_
  refine g_iload_n (q := 221) B dL_call_220 rfl 3 rfl ?_
  refine g_callW (q := 224) (c2 := 1) (As := [.ref (yA Y 72), .int (iI r), .int (iI o)]) (st := []) B dL_call_221 rfl (c_L_tryIf (Y := Y) (l := xL X) (S := S) hst hw r hr o ho) eL_tryIf w808 (by decide) rfl rfl (Nat.le_of_ble_eq_true rfl) rfl E.2.1 E.2.2 (fun v Sv hv => ?_)
  have hvv := hv.1
  subst hvv
  exact gn_iret (gB_K B E.2.1 E.2.2) E (Nat.le_refl _) dL_call_224 hv

set_option maxHeartbeats 4000000 in
theorem c_call_save {Y : gY} {l : Launch} {S : SS} (hst : l.stackTraces = false) (hw : wf (vw S 0)) (s : Int) (hs : rI s) (b9 c9 : Int) : gN Y l mL_call 1 S [.ref (yA Y 72), .int (iI 20), .int (iI s), .int (iI b9), .int (iI c9)] (yP (cd_01 s) (S (4 * 0) 0) (-9999001) (0) (0) (fun S' => vw S' (2 + s.toNat) = vw S 0 ∧ S' (80 + s.toNat) 0 = 1 ∧ ∀ m : Nat, (m < 4 * (2 + s.toNat) ∨ 4 * (2 + s.toNat) + 4 ≤ m) → m ≠ 80 + s.toNat → S' m = S m) (fun S' => S' = S)) := by
  refine gN_of (by decide) (Nat.le_of_ble_eq_true rfl) ?_
  intro X hXl B E
  subst hXl
  show gW Y (xK X 0) S 0 [(0, .ref (yA Y 72)), (1, .int (iI 20)), (2, .int (iI s)), (3, .int (iI b9)), (4, .int (iI c9))] []
  refine g_iload_n (q := 1) B dL_call_0 rfl 1 rfl ?_
  refine g_tsIn (q := 225) B 20 dL_call_1 rfl ⟨by decide, by decide, by decide, by decide⟩ rfl (by decide) ?_
  refine g_aload_n (q := 226) B dL_call_225 rfl 0 rfl ?_
  refine g_iload_n (q := 227) B dL_call_226 rfl 2 rfl ?_
  refine g_callW (q := 230) (c2 := 1) (As := [.ref (yA Y 72), .int (iI s)]) (st := []) B dL_call_227 rfl (c_L_tryKeep (Y := Y) (l := xL X) (S := S) hst hw s hs) eL_tryKeep w820 (by decide) rfl rfl (Nat.le_of_ble_eq_true rfl) rfl E.2.1 E.2.2 (fun v Sv hv => ?_)
  have hvv := hv.1
  subst hvv
  exact gn_iret (gB_K B E.2.1 E.2.2) E (Nat.le_refl _) dL_call_230 hv

set_option maxHeartbeats 4000000 in
theorem c_call_restore {Y : gY} {l : Launch} {S : SS} (hst : l.stackTraces = false) (hw : wf (vw S 0)) (hz80 : S 80 0 = 0 ∨ S 80 0 = 1) (hz81 : S 81 0 = 0 ∨ S 81 0 = 1) (s : Int) (hs : rI s) (b9 c9 : Int) : gN Y l mL_call 1 S [.ref (yA Y 72), .int (iI 21), .int (iI s), .int (iI b9), .int (iI c9)] (yP (cd_rest s (S (80 + s.toNat) 0)) (vw S (2 + s.toNat) 0) (-9999001) (-9999003) (0) (fun S' => vw S' 0 = vw S (2 + s.toNat) ∧ (S' 75 0 = S 75 0 ∧ S' 75 1 = 0) ∧ ∀ m : Nat, 4 ≤ m → m ≠ 75 → S' m = S m) (fun S' => S' = S)) := by
  refine gN_of (by decide) (Nat.le_of_ble_eq_true rfl) ?_
  intro X hXl B E
  subst hXl
  show gW Y (xK X 0) S 0 [(0, .ref (yA Y 72)), (1, .int (iI 21)), (2, .int (iI s)), (3, .int (iI b9)), (4, .int (iI c9))] []
  refine g_iload_n (q := 1) B dL_call_0 rfl 1 rfl ?_
  refine g_tsOut (q := 231) B dL_call_1 (by omega) ⟨by omega, by omega⟩ (by decide) ?_
  refine g_aload_n (q := 232) B dL_call_231 rfl 0 rfl ?_
  refine g_iload_n (q := 233) B dL_call_232 rfl 2 rfl ?_
  refine g_callW (q := 236) (c2 := 1) (As := [.ref (yA Y 72), .int (iI s)]) (st := []) B dL_call_233 rfl (c_L_tryBack (Y := Y) (l := xL X) (S := S) hst hw hz80 hz81 s hs) eL_tryBack w828 (by decide) rfl rfl (Nat.le_of_ble_eq_true rfl) rfl E.2.1 E.2.2 (fun v Sv hv => ?_)
  have hvv := hv.1
  subst hvv
  exact gn_iret (gB_K B E.2.1 E.2.2) E (Nat.le_refl _) dL_call_236 hv
