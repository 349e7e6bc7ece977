set_option maxHeartbeats 4000000 in
set_option maxRecDepth 100000 in
theorem cc_L_lastDefinition_n {l : Launch} {G : gC} {M : mC} {x ld ln ed en nn : Nat} {aD aN : Nat → Nat} {D : Nat → dR} {N : Nat → nR} {pn : Nat → Nat → Int64} {pt : Nat → Nat → Int32} {kn : Bool} {ft fn mv : Int32} (hR : rp G M x ld ln ed en 0 nn aD aN D N pn pt kn ft fn mv) : cR l yy_L_lastDefinition bb_L_lastDefinition 2 (some (.object "LevelTypes$Definition")) 1 G M [.ref x] (.null) := by
  refine me_R (by decide) (Nat.le_of_ble_eq_true rfl) ?_
  intro p e s m below meth c ls hx hb hr hlocks hml hown ht hM hK hl
  have hown : s.vm.findClass RR_L = some m.cls := hown
  have hl : lv_has ls 2 [(0, .ref x)] := hl
  obtain ⟨mx, hLd, hLn, hD, hN, hAp, hnd, hnn⟩ := id hR
  obtain ⟨cl, ml⟩ := ls_obj hLd
  obtain ⟨ck, mk⟩ := ls_obj hLn
  refine lv_aload_n hx hb dd_L_lastDefinition_0 rfl (lv_at hl 0 rfl) ?_
  refine mg_get hx hb ht ii_L hown hK hM mx rfl 0 (by decide) wd_1_50 (fun _ h => h) rfl dd_L_lastDefinition_1 ?_
  refine mc_V (As := []) (rest := []) 0 (ls_size hLd) hx hb hml hown ht hM hK hl.1 lk_L_49 (by decide +kernel) (by decide) ml rfl rfl rfl (Nat.le_of_ble_eq_true rfl) dd_L_lastDefinition_4 ⟨Nat.zero_le _, Nat.zero_le _⟩ ?_
  refine lv_istore_n (lv' := [(1, .int (nI 0)), (0, .ref x)]) hx hb dd_L_lastDefinition_7 rfl hl (by decide) rfl (fun ls hl => ?_)
  refine lv_iload_n hx hb dd_L_lastDefinition_8 rfl (lv_at hl 0 rfl) ?_
  refine lv_if_ne (tgt := 16) hx hb dd_L_lastDefinition_9 (by decide) (fun z => absurd nI_0 z) (fun _ => ?_)
  refine lv_null hx hb dd_L_lastDefinition_12 ?_
  refine lv_goto (tgt := 29) hx hb dd_L_lastDefinition_13 (by decide) ?_
  exact mr_an hx hb hr hlocks rfl dd_L_lastDefinition_29

set_option maxHeartbeats 4000000 in
set_option maxRecDepth 100000 in
theorem cc_L_lastDefinition_s {l : Launch} {G : gC} {M : mC} {x ld ln ed en k nn : Nat} {aD aN : Nat → Nat} {D : Nat → dR} {N : Nat → nR} {pn : Nat → Nat → Int64} {pt : Nat → Nat → Int32} {kn : Bool} {ft fn mv : Int32} (hR : rp G M x ld ln ed en (k + 1) nn aD aN D N pn pt kn ft fn mv) : cR l yy_L_lastDefinition bb_L_lastDefinition 2 (some (.object "LevelTypes$Definition")) 3 G M [.ref x] (.ref (aD k)) := by
  refine me_R (by decide) (Nat.le_of_ble_eq_true rfl) ?_
  intro p e s m below meth c ls hx hb hr hlocks hml hown ht hM hK hl
  have hown : s.vm.findClass RR_L = some m.cls := hown
  have hl : lv_has ls 2 [(0, .ref x)] := hl
  obtain ⟨mx, hLd, hLn, hD, hN, hAp, hnd, hnn⟩ := id hR
  obtain ⟨cl, ml⟩ := ls_obj hLd
  obtain ⟨ck, mk⟩ := ls_obj hLn
  refine lv_aload_n hx hb dd_L_lastDefinition_0 rfl (lv_at hl 0 rfl) ?_
  refine mg_get hx hb ht ii_L hown hK hM mx rfl 0 (by decide) wd_1_50 (fun _ h => h) rfl dd_L_lastDefinition_1 ?_
  refine mc_V (As := []) (rest := []) 0 (ls_size hLd) hx hb hml hown ht hM hK hl.1 lk_L_49 (by decide +kernel) (by decide) ml rfl rfl rfl (Nat.le_of_ble_eq_true rfl) dd_L_lastDefinition_4 ⟨Nat.zero_le _, Nat.zero_le _⟩ ?_
  refine lv_istore_n (lv' := [(1, .int (nI (k + 1))), (0, .ref x)]) hx hb dd_L_lastDefinition_7 rfl hl (by decide) rfl (fun ls hl => ?_)
  refine lv_iload_n hx hb dd_L_lastDefinition_8 rfl (lv_at hl 0 rfl) ?_
  refine lv_if_ne (tgt := 16) hx hb dd_L_lastDefinition_9 (by decide) (fun _ => ?_) (fun z => absurd z (nI_ne0 (by omega) (by omega)))
  refine lv_aload_n hx hb dd_L_lastDefinition_16 rfl (lv_at hl 1 rfl) ?_
  refine mg_get hx hb ht ii_L hown hK hM mx rfl 0 (by decide) wd_1_50 (fun _ h => h) rfl dd_L_lastDefinition_17 ?_
  refine lv_iload_n hx hb dd_L_lastDefinition_20 rfl (lv_at hl 0 rfl) ?_
  refine lv_iconst (v := 1) hx hb dd_L_lastDefinition_21 (by decide) ?_
  refine lv_isub hx hb dd_L_lastDefinition_22 ?_
  rw [nI_pred]
  refine mc_V (As := [.int (nI k)]) (rest := []) 1 (ls_get hLd (i := k) (Nat.lt_succ_self k)) hx hb hml hown ht hM hK hl.1 lk_L_152 (by decide +kernel) (by decide) ml rfl rfl rfl (Nat.le_of_ble_eq_true rfl) dd_L_lastDefinition_23 ⟨Nat.zero_le _, Nat.zero_le _⟩ ?_
  have me := (hD k (Nat.lt_succ_self k)).1
  refine va_castS hx hb hown (ht _ wd_1_113) (hK.1.1 1 _ rfl).2 (m_recv hK hM me rfl) dd_L_lastDefinition_26 ?_
  exact mr_ar hx hb hr hlocks rfl dd_L_lastDefinition_29

set_option maxHeartbeats 4000000 in
set_option maxRecDepth 100000 in
theorem cc_L_lastIsWhole_n {l : Launch} {G : gC} {M : mC} {x ld ln ed en nn : Nat} {aD aN : Nat → Nat} {D : Nat → dR} {N : Nat → nR} {pn : Nat → Nat → Int64} {pt : Nat → Nat → Int32} {kn : Bool} {ft fn mv : Int32} (hR : rp G M x ld ln ed en 0 nn aD aN D N pn pt kn ft fn mv) : cR l yy_L_lastIsWhole bb_L_lastIsWhole 2 (some .boolean) 4 G M [.ref x] (.int 1) := by
  refine me_R (by decide) (Nat.le_of_ble_eq_true rfl) ?_
  intro p e s m below meth c ls hx hb hr hlocks hml hown ht hM hK hl
  have hown : s.vm.findClass RR_L = some m.cls := hown
  have hl : lv_has ls 2 [(0, .ref x)] := hl
  obtain ⟨mx, hLd, hLn, hD, hN, hAp, hnd, hnn⟩ := id hR
  obtain ⟨cl, ml⟩ := ls_obj hLd
  obtain ⟨ck, mk⟩ := ls_obj hLn
  refine lv_aload_n hx hb dd_L_lastIsWhole_0 rfl (lv_at hl 0 rfl) ?_
  refine mc_V (As := []) (rest := []) 0 (cc_L_lastDefinition_n hR) hx hb hml hown ht hM hK hl.1 lk_L_69 (by decide +kernel) (by decide) mx rfl rfl rfl (Nat.le_of_ble_eq_true rfl) dd_L_lastIsWhole_1 ⟨Nat.zero_le _, Nat.zero_le _⟩ ?_
  refine lv_astore_nN (lv' := [(1, .null), (0, .ref x)]) hx hb dd_L_lastIsWhole_4 rfl hl (by decide) rfl (fun ls hl => ?_)
  refine lv_aload_nN hx hb dd_L_lastIsWhole_5 rfl (lv_at hl 0 rfl) ?_
  refine lv_ifnullN (tgt := 16) hx hb dd_L_lastIsWhole_6 (by decide) ?_
  refine lv_iconst (v := 1) hx hb dd_L_lastIsWhole_16 (by decide) ?_
  refine lv_goto (tgt := 21) hx hb dd_L_lastIsWhole_17 (by decide) ?_
  exact mr_i hx hb hr hlocks rfl rfl dd_L_lastIsWhole_21

set_option maxHeartbeats 4000000 in
set_option maxRecDepth 100000 in
theorem cc_L_lastIsWhole_s {l : Launch} {G : gC} {M : mC} {x ld ln ed en k nn : Nat} {aD aN : Nat → Nat} {D : Nat → dR} {N : Nat → nR} {pn : Nat → Nat → Int64} {pt : Nat → Nat → Int32} {kn : Bool} {ft fn mv : Int32} (hR : rp G M x ld ln ed en (k + 1) nn aD aN D N pn pt kn ft fn mv) : cR l yy_L_lastIsWhole bb_L_lastIsWhole 2 (some .boolean) 4 G M [.ref x] (.int (bI (d_whole (D k)))) := by
  refine me_R (by decide) (Nat.le_of_ble_eq_true rfl) ?_
  intro p e s m below meth c ls hx hb hr hlocks hml hown ht hM hK hl
  have hown : s.vm.findClass RR_L = some m.cls := hown
  have hl : lv_has ls 2 [(0, .ref x)] := hl
  obtain ⟨mx, hLd, hLn, hD, hN, hAp, hnd, hnn⟩ := id hR
  obtain ⟨cl, ml⟩ := ls_obj hLd
  obtain ⟨ck, mk⟩ := ls_obj hLn
  refine lv_aload_n hx hb dd_L_lastIsWhole_0 rfl (lv_at hl 0 rfl) ?_
  refine mc_V (As := []) (rest := []) 0 (cc_L_lastDefinition_s hR) hx hb hml hown ht hM hK hl.1 lk_L_69 (by decide +kernel) (by decide) mx rfl rfl rfl (Nat.le_of_ble_eq_true rfl) dd_L_lastIsWhole_1 ⟨Nat.zero_le _, Nat.zero_le _⟩ ?_
  have me := (hD k (Nat.lt_succ_self k)).1
  refine lv_astore_n (lv' := [(1, .ref (aD k)), (0, .ref x)]) hx hb dd_L_lastIsWhole_4 rfl hl (by decide) rfl (fun ls hl => ?_)
  refine lv_aload_n hx hb dd_L_lastIsWhole_5 rfl (lv_at hl 0 rfl) ?_
  refine lv_ifnull hx hb dd_L_lastIsWhole_6 ?_
  refine lv_aload_n hx hb dd_L_lastIsWhole_9 rfl (lv_at hl 0 rfl) ?_
  refine mc_V (As := []) (rest := []) 0 (cc_D_isWhole me) hx hb hml hown ht hM hK hl.1 lk_L_87 (by decide +kernel) (by decide) me rfl rfl rfl (Nat.le_of_ble_eq_true rfl) dd_L_lastIsWhole_10 ⟨Nat.zero_le _, Nat.zero_le _⟩ ?_
  refine lb_if_eq (tgt := 20) hx hb dd_L_lastIsWhole_13 (by decide) (fun c1 => ?_) (fun c1 => ?_)
  · refine lv_iconst (v := 0) hx hb dd_L_lastIsWhole_20 (by decide) ?_
    exact mr_i hx hb hr hlocks rfl (by simp [bI, c1]) dd_L_lastIsWhole_21
  · refine lv_iconst (v := 1) hx hb dd_L_lastIsWhole_16 (by decide) ?_
    refine lv_goto (tgt := 21) hx hb dd_L_lastIsWhole_17 (by decide) ?_
    exact mr_i hx hb hr hlocks rfl (by simp [bI, c1]) dd_L_lastIsWhole_21

theorem cc_L_lastIsWhole {l : Launch} {G : gC} {M : mC} {x ld ln ed en nd nn : Nat} {aD aN : Nat → Nat} {D : Nat → dR} {N : Nat → nR} {pn : Nat → Nat → Int64} {pt : Nat → Nat → Int32} {kn : Bool} {ft fn mv : Int32} (hR : rp G M x ld ln ed en nd nn aD aN D N pn pt kn ft fn mv) : cR l yy_L_lastIsWhole bb_L_lastIsWhole 2 (some .boolean) 4 G M [.ref x] (.int (bI (c_whole nd D))) := by
  cases nd with
  | zero => exact cc_L_lastIsWhole_n hR
  | succ k => exact cc_L_lastIsWhole_s hR

set_option maxHeartbeats 4000000 in
set_option maxRecDepth 100000 in
theorem cc_L_nodeAt {l : Launch} {G : gC} {M : mC} {x ld ln ed en nd nn : Nat} {aD aN : Nat → Nat} {D : Nat → dR} {N : Nat → nR} {pn : Nat → Nat → Int64} {pt : Nat → Nat → Int32} {kn : Bool} {ft fn mv : Int32} (hR : rp G M x ld ln ed en nd nn aD aN D N pn pt kn ft fn mv) {k : Int32} : cR l yy_L_nodeAt bb_L_nodeAt 2 (some (.object "LevelTypes$Node")) 3 G M [.ref x, .int k] (va_rf ((c_idx k nn).map aN)) := by
  refine me_R (by decide) (Nat.le_of_ble_eq_true rfl) ?_
  intro p e s m below meth c ls hx hb hr hlocks hml hown ht hM hK hl
  have hown : s.vm.findClass RR_L = some m.cls := hown
  have hl : lv_has ls 2 [(0, .ref x), (1, .int k)] := hl
  obtain ⟨mx, hLd, hLn, hD, hN, hAp, hnd, hnn⟩ := id hR
  obtain ⟨cl, ml⟩ := ls_obj hLd
  obtain ⟨ck, mk⟩ := ls_obj hLn
  refine lv_iload_n hx hb dd_L_nodeAt_0 rfl (lv_at hl 1 rfl) ?_
  refine lv_if_lt (tgt := 15) hx hb dd_L_nodeAt_1 (by decide) (fun c1 => ?_) (fun c1 => ?_)
  · refine lv_null hx hb dd_L_nodeAt_15 ?_
    refine lv_goto (tgt := 30) hx hb dd_L_nodeAt_16 (by decide) ?_
    exact mr_an hx hb hr hlocks (by first | (simp [bI, c_idx, va_rf, c1]; done) | (simp [c_idx, va_rf, nI_clamp (show j < 2 ^ 31 by omega), c1, c2]; done)) dd_L_nodeAt_30
  · refine lv_iload_n hx hb dd_L_nodeAt_4 rfl (lv_at hl 1 rfl) ?_
    refine lv_aload_n hx hb dd_L_nodeAt_5 rfl (lv_at hl 0 rfl) ?_
    refine mg_get hx hb ht ii_L hown hK hM mx rfl 1 (by decide) wd_1_51 (fun _ h => h) rfl dd_L_nodeAt_6 ?_
    refine mc_V (As := []) (rest := [.int k]) 0 (ls_size hLn) hx hb hml hown ht hM hK hl.1 lk_L_49 (by decide +kernel) (by decide) mk rfl rfl rfl (Nat.le_of_ble_eq_true rfl) dd_L_nodeAt_9 ⟨Nat.zero_le _, Nat.zero_le _⟩ ?_
    refine lv_icmp_lt (tgt := 19) hx hb dd_L_nodeAt_12 (by decide) (fun c2 => ?_) (fun c2 => ?_)
    · refine lv_aload_n hx hb dd_L_nodeAt_19 rfl (lv_at hl 0 rfl) ?_
      refine mg_get hx hb ht ii_L hown hK hM mx rfl 1 (by decide) wd_1_51 (fun _ h => h) rfl dd_L_nodeAt_20 ?_
      refine lv_iload_n hx hb dd_L_nodeAt_23 rfl (lv_at hl 1 rfl) ?_
      obtain ⟨j, hj, rfl⟩ := ix_of c1 c2 hnn
      refine mc_V (As := [.int (nI j)]) (rest := []) 1 (ls_get hLn (i := j) hj) hx hb hml hown ht hM hK hl.1 lk_L_152 (by decide +kernel) (by decide) mk rfl rfl rfl (Nat.le_of_ble_eq_true rfl) dd_L_nodeAt_24 ⟨Nat.zero_le _, Nat.zero_le _⟩ ?_
      have me := (hN j hj).1
      refine va_castS hx hb hown (ht _ wd_2_26) (hK.1.1 2 _ rfl).2 (m_recv hK hM me rfl) dd_L_nodeAt_27 ?_
      exact mr_ar hx hb hr hlocks (by first | (simp [bI, c_idx, va_rf, c1, c2]; done) | (simp [c_idx, va_rf, nI_clamp (show j < 2 ^ 31 by omega), c1, c2]; done)) dd_L_nodeAt_30
    · refine lv_null hx hb dd_L_nodeAt_15 ?_
      refine lv_goto (tgt := 30) hx hb dd_L_nodeAt_16 (by decide) ?_
      exact mr_an hx hb hr hlocks (by first | (simp [bI, c_idx, va_rf, c1, c2]; done) | (simp [c_idx, va_rf, nI_clamp (show j < 2 ^ 31 by omega), c1, c2]; done)) dd_L_nodeAt_30

set_option maxHeartbeats 4000000 in
set_option maxRecDepth 100000 in
theorem cc_L_knownNode {l : Launch} {G : gC} {M : mC} {x ld ln ed en nd nn : Nat} {aD aN : Nat → Nat} {D : Nat → dR} {N : Nat → nR} {pn : Nat → Nat → Int64} {pt : Nat → Nat → Int32} {kn : Bool} {ft fn mv : Int32} (hR : rp G M x ld ln ed en nd nn aD aN D N pn pt kn ft fn mv) {k : Int32} : cR l yy_L_knownNode bb_L_knownNode 2 (some (.object "LevelTypes$Node")) 4 G M [.ref x, .int k] (va_rf ((c_kn kn k nn).map aN)) := by
  refine me_R (by decide) (Nat.le_of_ble_eq_true rfl) ?_
  intro p e s m below meth c ls hx hb hr hlocks hml hown ht hM hK hl
  have hown : s.vm.findClass RR_L = some m.cls := hown
  have hl : lv_has ls 2 [(0, .ref x), (1, .int k)] := hl
  obtain ⟨mx, hLd, hLn, hD, hN, hAp, hnd, hnn⟩ := id hR
  obtain ⟨cl, ml⟩ := ls_obj hLd
  obtain ⟨ck, mk⟩ := ls_obj hLn
  refine lv_aload_n hx hb dd_L_knownNode_0 rfl (lv_at hl 0 rfl) ?_
  refine mg_get hx hb ht ii_L hown hK hM mx rfl 2 (by decide) wd_1_52 (fun _ h => h) rfl dd_L_knownNode_1 ?_
  refine lb_if_eq (tgt := 15) hx hb dd_L_knownNode_4 (by decide) (fun c1 => ?_) (fun c1 => ?_)
  · refine lv_null hx hb dd_L_knownNode_15 ?_
    exact mr_an hx hb hr hlocks (by first | (simp [bI, c_kn, va_rf, c1]; done) | (simp_all [c_kn, va_rf]; done)) dd_L_knownNode_16
  · refine lv_aload_n hx hb dd_L_knownNode_7 rfl (lv_at hl 0 rfl) ?_
    refine lv_iload_n hx hb dd_L_knownNode_8 rfl (lv_at hl 1 rfl) ?_
    refine mc_V (As := [.int k]) (rest := []) 1 (cc_L_nodeAt hR (k := k)) hx hb hml hown ht hM hK hl.1 lk_L_136 (by decide +kernel) (by decide) mx rfl rfl rfl (Nat.le_of_ble_eq_true rfl) dd_L_knownNode_9 ⟨Nat.zero_le _, Nat.zero_le _⟩ ?_
    rcases ey2 : ((c_idx k nn).map aN) with _ | y2
    · refine lv_goto (tgt := 16) hx hb dd_L_knownNode_12 (by decide) ?_
      exact mr_an hx hb hr hlocks (by first | (simp [bI, c_kn, va_rf, c1, ey2]; done) | (simp_all [c_kn, va_rf]; done)) dd_L_knownNode_16
    · obtain ⟨j, hj, ej, ea⟩ := c_at_some ey2 hnn
      have my2 : M y2 = some (nC (N j)) := by rw [ea]; exact (hN j hj).1
      refine lv_goto (tgt := 16) hx hb dd_L_knownNode_12 (by decide) ?_
      exact mr_ar hx hb hr hlocks (by first | (simp [bI, c_kn, va_rf, c1, ey2, ej]; done) | (simp_all [c_kn, va_rf]; done)) dd_L_knownNode_16

set_option maxHeartbeats 4000000 in
set_option maxRecDepth 100000 in
theorem cc_L_type {l : Launch} {G : gC} {M : mC} {x ld ln ed en nd nn : Nat} {aD aN : Nat → Nat} {D : Nat → dR} {N : Nat → nR} {pn : Nat → Nat → Int64} {pt : Nat → Nat → Int32} {kn : Bool} {ft fn mv : Int32} (hR : rp G M x ld ln ed en nd nn aD aN D N pn pt kn ft fn mv) {k : Int32} : cR l yy_L_type bb_L_type 3 (some .int) 5 G M [.ref x, .int k] (.int (c_val (c_kn kn k nn) (fun j => n_vt (N j)))) := by
  refine me_R (by decide) (Nat.le_of_ble_eq_true rfl) ?_
  intro p e s m below meth c ls hx hb hr hlocks hml hown ht hM hK hl
  have hown : s.vm.findClass RR_L = some m.cls := hown
  have hl : lv_has ls 3 [(0, .ref x), (1, .int k)] := hl
  obtain ⟨mx, hLd, hLn, hD, hN, hAp, hnd, hnn⟩ := id hR
  obtain ⟨cl, ml⟩ := ls_obj hLd
  obtain ⟨ck, mk⟩ := ls_obj hLn
  refine lv_aload_n hx hb dd_L_type_0 rfl (lv_at hl 0 rfl) ?_
  refine lv_iload_n hx hb dd_L_type_1 rfl (lv_at hl 1 rfl) ?_
  refine mc_V (As := [.int k]) (rest := []) 1 (cc_L_knownNode hR (k := k)) hx hb hml hown ht hM hK hl.1 lk_L_122 (by decide +kernel) (by decide) mx rfl rfl rfl (Nat.le_of_ble_eq_true rfl) dd_L_type_2 ⟨Nat.zero_le _, Nat.zero_le _⟩ ?_
  rcases ey1 : ((c_kn kn k nn).map aN) with _ | y1
  · refine lv_astore_nN (lv' := [(2, .null), (0, .ref x), (1, .int k)]) hx hb dd_L_type_5 rfl hl (by decide) rfl (fun ls hl => ?_)
    refine lv_aload_nN hx hb dd_L_type_6 rfl (lv_at hl 0 rfl) ?_
    refine lv_ifnonnullN hx hb dd_L_type_7 ?_
    refine lv_iconst (v := -1) hx hb dd_L_type_10 (by decide) ?_
    refine lv_goto (tgt := 18) hx hb dd_L_type_11 (by decide) ?_
    exact mr_i hx hb hr hlocks rfl (by rw [map_none ey1]; rfl) dd_L_type_18
  · obtain ⟨j, hj, ej, ea⟩ := c_kn_some ey1 hnn
    have my1 : M y1 = some (nC (N j)) := by rw [ea]; exact (hN j hj).1
    refine lv_astore_n (lv' := [(2, .ref y1), (0, .ref x), (1, .int k)]) hx hb dd_L_type_5 rfl hl (by decide) rfl (fun ls hl => ?_)
    refine lv_aload_n hx hb dd_L_type_6 rfl (lv_at hl 0 rfl) ?_
    refine lv_ifnonnull (tgt := 14) hx hb dd_L_type_7 (by decide) ?_
    refine lv_aload_n hx hb dd_L_type_14 rfl (lv_at hl 0 rfl) ?_
    refine mg_get hx hb ht ii_N hown hK hM my1 rfl 9 (by decide) wd_2_53 (fun _ h => h) rfl dd_L_type_15 ?_
    exact mr_i hx hb hr hlocks rfl (by rw [ej]; rfl) dd_L_type_18

set_option maxHeartbeats 4000000 in
set_option maxRecDepth 100000 in
theorem cc_L_binder {l : Launch} {G : gC} {M : mC} {x ld ln ed en nd nn : Nat} {aD aN : Nat → Nat} {D : Nat → dR} {N : Nat → nR} {pn : Nat → Nat → Int64} {pt : Nat → Nat → Int32} {kn : Bool} {ft fn mv : Int32} (hR : rp G M x ld ln ed en nd nn aD aN D N pn pt kn ft fn mv) {k : Int32} : cR l yy_L_binder bb_L_binder 3 (some .int) 5 G M [.ref x, .int k] (.int (c_val (c_kn kn k nn) (fun j => n_bb (N j)))) := by
  refine me_R (by decide) (Nat.le_of_ble_eq_true rfl) ?_
  intro p e s m below meth c ls hx hb hr hlocks hml hown ht hM hK hl
  have hown : s.vm.findClass RR_L = some m.cls := hown
  have hl : lv_has ls 3 [(0, .ref x), (1, .int k)] := hl
  obtain ⟨mx, hLd, hLn, hD, hN, hAp, hnd, hnn⟩ := id hR
  obtain ⟨cl, ml⟩ := ls_obj hLd
  obtain ⟨ck, mk⟩ := ls_obj hLn
  refine lv_aload_n hx hb dd_L_binder_0 rfl (lv_at hl 0 rfl) ?_
  refine lv_iload_n hx hb dd_L_binder_1 rfl (lv_at hl 1 rfl) ?_
  refine mc_V (As := [.int k]) (rest := []) 1 (cc_L_knownNode hR (k := k)) hx hb hml hown ht hM hK hl.1 lk_L_122 (by decide +kernel) (by decide) mx rfl rfl rfl (Nat.le_of_ble_eq_true rfl) dd_L_binder_2 ⟨Nat.zero_le _, Nat.zero_le _⟩ ?_
  rcases ey1 : ((c_kn kn k nn).map aN) with _ | y1
  · refine lv_astore_nN (lv' := [(2, .null), (0, .ref x), (1, .int k)]) hx hb dd_L_binder_5 rfl hl (by decide) rfl (fun ls hl => ?_)
    refine lv_aload_nN hx hb dd_L_binder_6 rfl (lv_at hl 0 rfl) ?_
    refine lv_ifnonnullN hx hb dd_L_binder_7 ?_
    refine lv_iconst (v := -1) hx hb dd_L_binder_10 (by decide) ?_
    refine lv_goto (tgt := 18) hx hb dd_L_binder_11 (by decide) ?_
    exact mr_i hx hb hr hlocks rfl (by rw [map_none ey1]; rfl) dd_L_binder_18
  · obtain ⟨j, hj, ej, ea⟩ := c_kn_some ey1 hnn
    have my1 : M y1 = some (nC (N j)) := by rw [ea]; exact (hN j hj).1
    refine lv_astore_n (lv' := [(2, .ref y1), (0, .ref x), (1, .int k)]) hx hb dd_L_binder_5 rfl hl (by decide) rfl (fun ls hl => ?_)
    refine lv_aload_n hx hb dd_L_binder_6 rfl (lv_at hl 0 rfl) ?_
    refine lv_ifnonnull (tgt := 14) hx hb dd_L_binder_7 (by decide) ?_
    refine lv_aload_n hx hb dd_L_binder_14 rfl (lv_at hl 0 rfl) ?_
    refine mg_get hx hb ht ii_N hown hK hM my1 rfl 11 (by decide) wd_2_56 (fun _ h => h) rfl dd_L_binder_15 ?_
    exact mr_i hx hb hr hlocks rfl (by rw [ej]; rfl) dd_L_binder_18

set_option maxHeartbeats 4000000 in
set_option maxRecDepth 100000 in
theorem cc_L_target {l : Launch} {G : gC} {M : mC} {x ld ln ed en nd nn : Nat} {aD aN : Nat → Nat} {D : Nat → dR} {N : Nat → nR} {pn : Nat → Nat → Int64} {pt : Nat → Nat → Int32} {kn : Bool} {ft fn mv : Int32} (hR : rp G M x ld ln ed en nd nn aD aN D N pn pt kn ft fn mv) {ho : Nat → Nat} {pa ca op : Nat → Option Nat} (hI : rl nd nn aD aN D N ho pa ca op) {k : Int32} : cR l yy_L_target bb_L_target 3 (some .int) 5 G M [.ref x, .int k] (.int (c_val (c_kn kn k nn) (fun j => c_num (ca j)))) := by
  refine me_R (by decide) (Nat.le_of_ble_eq_true rfl) ?_
  intro p e s m below meth c ls hx hb hr hlocks hml hown ht hM hK hl
  have hown : s.vm.findClass RR_L = some m.cls := hown
  have hl : lv_has ls 3 [(0, .ref x), (1, .int k)] := hl
  obtain ⟨mx, hLd, hLn, hD, hN, hAp, hnd, hnn⟩ := id hR
  obtain ⟨cl, ml⟩ := ls_obj hLd
  obtain ⟨ck, mk⟩ := ls_obj hLn
  refine lv_aload_n hx hb dd_L_target_0 rfl (lv_at hl 0 rfl) ?_
  refine lv_iload_n hx hb dd_L_target_1 rfl (lv_at hl 1 rfl) ?_
  refine mc_V (As := [.int k]) (rest := []) 1 (cc_L_knownNode hR (k := k)) hx hb hml hown ht hM hK hl.1 lk_L_122 (by decide +kernel) (by decide) mx rfl rfl rfl (Nat.le_of_ble_eq_true rfl) dd_L_target_2 ⟨Nat.zero_le _, Nat.zero_le _⟩ ?_
  rcases ey1 : ((c_kn kn k nn).map aN) with _ | y1
  · refine lv_astore_nN (lv' := [(2, .null), (0, .ref x), (1, .int k)]) hx hb dd_L_target_5 rfl hl (by decide) rfl (fun ls hl => ?_)
    refine lv_aload_nN hx hb dd_L_target_6 rfl (lv_at hl 0 rfl) ?_
    refine lv_ifnullN (tgt := 17) hx hb dd_L_target_7 (by decide) ?_
    refine lv_iconst (v := -1) hx hb dd_L_target_17 (by decide) ?_
    refine lv_goto (tgt := 28) hx hb dd_L_target_18 (by decide) ?_
    exact mr_i hx hb hr hlocks rfl (by rw [map_none ey1]; rfl) dd_L_target_28
  · obtain ⟨j, hj, ej, ea⟩ := c_kn_some ey1 hnn
    have my1 : M y1 = some (nC (N j)) := by rw [ea]; exact (hN j hj).1
    have mh : M (n_ho (N j)) = some (dC (D (ho j))) := by rw [(hI.1 j hj).1]; exact (hD _ (hI.1 j hj).2.1).1
    refine lv_astore_n (lv' := [(2, .ref y1), (0, .ref x), (1, .int k)]) hx hb dd_L_target_5 rfl hl (by decide) rfl (fun ls hl => ?_)
    refine lv_aload_n hx hb dd_L_target_6 rfl (lv_at hl 0 rfl) ?_
    refine lv_ifnull hx hb dd_L_target_7 ?_
    refine lv_aload_n hx hb dd_L_target_10 rfl (lv_at hl 0 rfl) ?_
    refine mg_get hx hb ht ii_N hown hK hM my1 rfl 12 (by decide) wd_2_58 (fun _ h => h) rfl dd_L_target_11 ?_
    refine lr_ifnonnull (tgt := 21) hx hb dd_L_target_14 (by decide) (fun y2 ey2 => ?_) (fun ey2 => ?_)
    · obtain ⟨t9, ht9, et9, ea9⟩ := rl_ca hI hj ey2
      have my2 : M y2 = some (dC (D t9)) := by rw [ea9]; exact (hD t9 ht9).1
      refine lv_aload_n hx hb dd_L_target_21 rfl (lv_at hl 0 rfl) ?_
      refine mg_get (v := .ref y2) hx hb ht ii_N hown hK hM my1 rfl 12 (by decide) wd_2_58 (fun _ h => h) (congrArg (fun z => some (va_rf z)) ey2) dd_L_target_22 ?_
      refine mg_get hx hb ht ii_D hown hK hM my2 rfl 0 (by decide) wd_1_128 (fun _ h => h) rfl dd_L_target_25 ?_
      exact mr_i hx hb hr hlocks rfl (by rw [ej]; show _ = Value.int (c_num (ca j)); rw [et9]; show _ = Value.int (nI t9); rw [← (hD t9 ht9).2.2.2]) dd_L_target_28
    · refine lv_iconst (v := -1) hx hb dd_L_target_17 (by decide) ?_
      refine lv_goto (tgt := 28) hx hb dd_L_target_18 (by decide) ?_
      exact mr_i hx hb hr hlocks rfl (by rw [ej]; show _ = Value.int (c_num (ca j)); rw [rl_ca0 hI hj ey2]; rfl) dd_L_target_28

set_option maxHeartbeats 4000000 in
set_option maxRecDepth 100000 in
theorem cc_L_of {l : Launch} {G : gC} {M : mC} {x ld ln ed en nd nn : Nat} {aD aN : Nat → Nat} {D : Nat → dR} {N : Nat → nR} {pn : Nat → Nat → Int64} {pt : Nat → Nat → Int32} {kn : Bool} {ft fn mv : Int32} (hR : rp G M x ld ln ed en nd nn aD aN D N pn pt kn ft fn mv) {ho : Nat → Nat} {pa ca op : Nat → Option Nat} (hI : rl nd nn aD aN D N ho pa ca op) {k : Int32} {w9 : Int32} : cR l yy_L_of bb_L_of 4 (some .int) 4 G M [.ref x, .int k, .int w9] (.int (c_val (c_idx k nn) (fun j => c_of w9 (N j) (pa j) (ho j)))) := by
  refine me_R (by decide) (Nat.le_of_ble_eq_true rfl) ?_
  intro p e s m below meth c ls hx hb hr hlocks hml hown ht hM hK hl
  have hown : s.vm.findClass RR_L = some m.cls := hown
  have hl : lv_has ls 4 [(0, .ref x), (1, .int k), (2, .int w9)] := hl
  obtain ⟨mx, hLd, hLn, hD, hN, hAp, hnd, hnn⟩ := id hR
  obtain ⟨cl, ml⟩ := ls_obj hLd
  obtain ⟨ck, mk⟩ := ls_obj hLn
  refine lv_aload_n hx hb dd_L_of_0 rfl (lv_at hl 0 rfl) ?_
  refine lv_iload_n hx hb dd_L_of_1 rfl (lv_at hl 1 rfl) ?_
  refine mc_V (As := [.int k]) (rest := []) 1 (cc_L_nodeAt hR (k := k)) hx hb hml hown ht hM hK hl.1 lk_L_136 (by decide +kernel) (by decide) mx rfl rfl rfl (Nat.le_of_ble_eq_true rfl) dd_L_of_2 ⟨Nat.zero_le _, Nat.zero_le _⟩ ?_
  rcases ey1 : ((c_idx k nn).map aN) with _ | y1
  · refine lv_astore_nN (lv' := [(3, .null), (0, .ref x), (1, .int k), (2, .int w9)]) hx hb dd_L_of_5 rfl hl (by decide) rfl (fun ls hl => ?_)
    refine lv_aload_nN hx hb dd_L_of_6 rfl (lv_at hl 0 rfl) ?_
    refine lv_ifnonnullN hx hb dd_L_of_7 ?_
    refine lv_iconst (v := -1) hx hb dd_L_of_10 (by decide) ?_
    exact mr_i hx hb hr hlocks rfl (by rw [map_none ey1]; rfl) dd_L_of_11
  · obtain ⟨j, hj, ej, ea⟩ := c_at_some ey1 hnn
    have my1 : M y1 = some (nC (N j)) := by rw [ea]; exact (hN j hj).1
    have mh : M (n_ho (N j)) = some (dC (D (ho j))) := by rw [(hI.1 j hj).1]; exact (hD _ (hI.1 j hj).2.1).1
    refine lv_astore_n (lv' := [(3, .ref y1), (0, .ref x), (1, .int k), (2, .int w9)]) hx hb dd_L_of_5 rfl hl (by decide) rfl (fun ls hl => ?_)
    refine lv_aload_n hx hb dd_L_of_6 rfl (lv_at hl 0 rfl) ?_
    refine lv_ifnonnull (tgt := 12) hx hb dd_L_of_7 (by decide) ?_
    refine lv_iload_n hx hb dd_L_of_12 rfl (lv_at hl 3 rfl) ?_
    by_cases c3 : w9 = 0
    · refine lv_tableIn (tgt := 44) hx hb dd_L_of_13 (by rw [c3]; decide) (by rw [c3]; decide) (by rw [c3]; rfl) (by decide) ?_
      refine lv_aload_n hx hb dd_L_of_44 rfl (lv_at hl 0 rfl) ?_
      refine mg_get hx hb ht ii_N hown hK hM my1 rfl 4 (by decide) wd_2_43 (fun _ h => h) rfl dd_L_of_45 ?_
      exact mr_i hx hb hr hlocks rfl (by rw [ej]; show _ = Value.int (c_of w9 (N j) (pa j) (ho j)); simp [c_of, eq_true c3]) dd_L_of_48
    by_cases c4 : w9 = 1
    · refine lv_tableIn (tgt := 49) hx hb dd_L_of_13 (by rw [c4]; decide) (by rw [c4]; decide) (by rw [c4]; rfl) (by decide) ?_
      refine lv_aload_n hx hb dd_L_of_49 rfl (lv_at hl 0 rfl) ?_
      refine mg_get hx hb ht ii_N hown hK hM my1 rfl 7 (by decide) wd_2_49 (fun _ h => h) rfl dd_L_of_50 ?_
      exact mr_i hx hb hr hlocks rfl (by rw [ej]; show _ = Value.int (c_of w9 (N j) (pa j) (ho j)); simp [c_of, c3, eq_true c4]) dd_L_of_53
    by_cases c5 : w9 = 2
    · refine lv_tableIn (tgt := 54) hx hb dd_L_of_13 (by rw [c5]; decide) (by rw [c5]; decide) (by rw [c5]; rfl) (by decide) ?_
      refine lv_aload_n hx hb dd_L_of_54 rfl (lv_at hl 0 rfl) ?_
      refine mg_get hx hb ht ii_N hown hK hM my1 rfl 2 (by decide) wd_2_38 (fun _ h => h) rfl dd_L_of_55 ?_
      refine lr_ifnonnull (tgt := 65) hx hb dd_L_of_58 (by decide) (fun y6 ey6 => ?_) (fun ey6 => ?_)
      · obtain ⟨t9, ht9, et9, ea9⟩ := rl_pa hI hj ey6
        have my6 : M y6 = some (nC (N t9)) := by rw [ea9]; exact (hN t9 (by omega)).1
        refine lv_aload_n hx hb dd_L_of_65 rfl (lv_at hl 0 rfl) ?_
        refine mg_get (v := .ref y6) hx hb ht ii_N hown hK hM my1 rfl 2 (by decide) wd_2_38 (fun _ h => h) (congrArg (fun z => some (va_rf z)) ey6) dd_L_of_66 ?_
        refine mg_get hx hb ht ii_N hown hK hM my6 rfl 0 (by decide) wd_2_33 (fun _ h => h) rfl dd_L_of_69 ?_
        exact mr_i hx hb hr hlocks rfl (by rw [ej]; show _ = Value.int (c_of w9 (N j) (pa j) (ho j)); rw [et9, (hN t9 (by omega)).2]; simp [c_of, c_num, c3, c4, eq_true c5]) dd_L_of_72
      · refine lv_iconst (v := -1) hx hb dd_L_of_61 (by decide) ?_
        refine lv_goto (tgt := 72) hx hb dd_L_of_62 (by decide) ?_
        exact mr_i hx hb hr hlocks rfl (by rw [ej]; show _ = Value.int (c_of w9 (N j) (pa j) (ho j)); rw [rl_pa0 hI hj ey6]; simp [c_of, c_num, c3, c4, eq_true c5]) dd_L_of_72
    by_cases c7 : w9 = 3
    · refine lv_tableIn (tgt := 73) hx hb dd_L_of_13 (by rw [c7]; decide) (by rw [c7]; decide) (by rw [c7]; rfl) (by decide) ?_
      refine lv_aload_n hx hb dd_L_of_73 rfl (lv_at hl 0 rfl) ?_
      refine mg_get hx hb ht ii_N hown hK hM my1 rfl 1 (by decide) wd_2_35 (fun _ h => h) rfl dd_L_of_74 ?_
      refine mg_get hx hb ht ii_D hown hK hM mh rfl 0 (by decide) wd_1_128 (fun _ h => h) rfl dd_L_of_77 ?_
      exact mr_i hx hb hr hlocks rfl (by rw [ej]; show _ = Value.int (c_of w9 (N j) (pa j) (ho j)); rw [(hD _ (hI.1 j hj).2.1).2.2.2]; simp [c_of, c3, c4, c5, eq_true c7]) dd_L_of_80
    have c8 : (w9 : Int32).toInt < 0 ∨ 3 < (w9 : Int32).toInt := by (have z0 := lv_neT (a := 0) c3 (by decide); have z1 := lv_neT (a := 1) c4 (by decide); have z2 := lv_neT (a := 2) c5 (by decide); have z3 := lv_neT (a := 3) c7 (by decide); omega)
    refine lv_tableOut (tgt := 81) hx hb dd_L_of_13 c8 (by decide) ?_
    refine lv_iconst (v := -1) hx hb dd_L_of_81 (by decide) ?_
    exact mr_i hx hb hr hlocks rfl (by rw [ej]; show _ = Value.int (c_of w9 (N j) (pa j) (ho j)); simp [c_of, c3, c4, c5, c7]) dd_L_of_82

set_option maxHeartbeats 4000000 in
set_option maxRecDepth 100000 in
theorem cc_L_look {l : Launch} {G : gC} {M : mC} {x ld ln ed en nd nn : Nat} {aD aN : Nat → Nat} {D : Nat → dR} {N : Nat → nR} {pn : Nat → Nat → Int64} {pt : Nat → Nat → Int32} {kn : Bool} {ft fn mv : Int32} (hR : rp G M x ld ln ed en nd nn aD aN D N pn pt kn ft fn mv) {w9 : Int32} : cR l yy_L_look bb_L_look 2 (some .int) 5 G M [.ref x, .int w9] (.int (c_look w9 nd nn ft fn (c_whole nd D) kn mv)) := by
  refine me_R (by decide) (Nat.le_of_ble_eq_true rfl) ?_
  intro p e s m below meth c ls hx hb hr hlocks hml hown ht hM hK hl
  have hown : s.vm.findClass RR_L = some m.cls := hown
  have hl : lv_has ls 2 [(0, .ref x), (1, .int w9)] := hl
  obtain ⟨mx, hLd, hLn, hD, hN, hAp, hnd, hnn⟩ := id hR
  obtain ⟨cl, ml⟩ := ls_obj hLd
  obtain ⟨ck, mk⟩ := ls_obj hLn
  refine lv_iload_n hx hb dd_L_look_0 rfl (lv_at hl 1 rfl) ?_
  by_cases c2 : w9 = 0
  · refine lv_tableIn (tgt := 40) hx hb dd_L_look_1 (by rw [c2]; decide) (by rw [c2]; decide) (by rw [c2]; rfl) (by decide) ?_
    refine lv_aload_n hx hb dd_L_look_40 rfl (lv_at hl 0 rfl) ?_
    refine mg_get hx hb ht ii_L hown hK hM mx rfl 0 (by decide) wd_1_50 (fun _ h => h) rfl dd_L_look_41 ?_
    refine mc_V (As := []) (rest := []) 0 (ls_size hLd) hx hb hml hown ht hM hK hl.1 lk_L_49 (by decide +kernel) (by decide) ml rfl rfl rfl (Nat.le_of_ble_eq_true rfl) dd_L_look_44 ⟨Nat.zero_le _, Nat.zero_le _⟩ ?_
    exact mr_i hx hb hr hlocks rfl (by simp [bI, c_look, eq_true c2]) dd_L_look_47
  by_cases c3 : w9 = 1
  · refine lv_tableIn (tgt := 48) hx hb dd_L_look_1 (by rw [c3]; decide) (by rw [c3]; decide) (by rw [c3]; rfl) (by decide) ?_
    refine lv_aload_n hx hb dd_L_look_48 rfl (lv_at hl 0 rfl) ?_
    refine mg_get hx hb ht ii_L hown hK hM mx rfl 1 (by decide) wd_1_51 (fun _ h => h) rfl dd_L_look_49 ?_
    refine mc_V (As := []) (rest := []) 0 (ls_size hLn) hx hb hml hown ht hM hK hl.1 lk_L_49 (by decide +kernel) (by decide) mk rfl rfl rfl (Nat.le_of_ble_eq_true rfl) dd_L_look_52 ⟨Nat.zero_le _, Nat.zero_le _⟩ ?_
    exact mr_i hx hb hr hlocks rfl (by simp [bI, c_look, c2, eq_true c3]) dd_L_look_55
  by_cases c4 : w9 = 2
  · refine lv_tableIn (tgt := 56) hx hb dd_L_look_1 (by rw [c4]; decide) (by rw [c4]; decide) (by rw [c4]; rfl) (by decide) ?_
    refine lv_aload_n hx hb dd_L_look_56 rfl (lv_at hl 0 rfl) ?_
    refine mg_get hx hb ht ii_L hown hK hM mx rfl 3 (by decide) wd_1_53 (fun _ h => h) rfl dd_L_look_57 ?_
    exact mr_i hx hb hr hlocks rfl (by simp [bI, c_look, c2, c3, eq_true c4]) dd_L_look_60
  by_cases c5 : w9 = 3
  · refine lv_tableIn (tgt := 61) hx hb dd_L_look_1 (by rw [c5]; decide) (by rw [c5]; decide) (by rw [c5]; rfl) (by decide) ?_
    refine lv_aload_n hx hb dd_L_look_61 rfl (lv_at hl 0 rfl) ?_
    refine mg_get hx hb ht ii_L hown hK hM mx rfl 4 (by decide) wd_1_54 (fun _ h => h) rfl dd_L_look_62 ?_
    exact mr_i hx hb hr hlocks rfl (by simp [bI, c_look, c2, c3, c4, eq_true c5]) dd_L_look_65
  by_cases c6 : w9 = 4
  · refine lv_tableIn (tgt := 66) hx hb dd_L_look_1 (by rw [c6]; decide) (by rw [c6]; decide) (by rw [c6]; rfl) (by decide) ?_
    refine lv_aload_n hx hb dd_L_look_66 rfl (lv_at hl 0 rfl) ?_
    refine mc_V (As := []) (rest := []) 0 (cc_L_lastIsWhole hR) hx hb hml hown ht hM hK hl.1 lk_L_45 (by decide +kernel) (by decide) mx rfl rfl rfl (Nat.le_of_ble_eq_true rfl) dd_L_look_67 ⟨Nat.zero_le _, Nat.zero_le _⟩ ?_
    refine lb_if_eq (tgt := 77) hx hb dd_L_look_70 (by decide) (fun c7 => ?_) (fun c7 => ?_)
    · refine lv_iconst (v := 0) hx hb dd_L_look_77 (by decide) ?_
      exact mr_i hx hb hr hlocks rfl (by simp [bI, c_look, c2, c3, c4, c5, eq_true c6, c7]) dd_L_look_78
    · refine lv_iconst (v := 1) hx hb dd_L_look_73 (by decide) ?_
      refine lv_goto (tgt := 78) hx hb dd_L_look_74 (by decide) ?_
      exact mr_i hx hb hr hlocks rfl (by simp [bI, c_look, c2, c3, c4, c5, eq_true c6, c7]) dd_L_look_78
  by_cases c8 : w9 = 5
  · refine lv_tableIn (tgt := 79) hx hb dd_L_look_1 (by rw [c8]; decide) (by rw [c8]; decide) (by rw [c8]; rfl) (by decide) ?_
    refine lv_aload_n hx hb dd_L_look_79 rfl (lv_at hl 0 rfl) ?_
    refine mg_get hx hb ht ii_L hown hK hM mx rfl 2 (by decide) wd_1_52 (fun _ h => h) rfl dd_L_look_80 ?_
    refine lb_if_eq (tgt := 93) hx hb dd_L_look_83 (by decide) (fun c9 => ?_) (fun c9 => ?_)
    · refine lv_iconst (v := -1) hx hb dd_L_look_93 (by decide) ?_
      exact mr_i hx hb hr hlocks rfl (by simp [bI, c_look, c2, c3, c4, c5, c6, eq_true c8, c9]) dd_L_look_94
    · refine lv_aload_n hx hb dd_L_look_86 rfl (lv_at hl 0 rfl) ?_
      refine mg_get hx hb ht ii_L hown hK hM mx rfl 5 (by decide) wd_1_55 (fun _ h => h) rfl dd_L_look_87 ?_
      refine lv_goto (tgt := 94) hx hb dd_L_look_90 (by decide) ?_
      exact mr_i hx hb hr hlocks rfl (by simp [bI, c_look, c2, c3, c4, c5, c6, eq_true c8, c9]) dd_L_look_94
  have c10 : (w9 : Int32).toInt < 0 ∨ 5 < (w9 : Int32).toInt := by (have z0 := lv_neT (a := 0) c2 (by decide); have z1 := lv_neT (a := 1) c3 (by decide); have z2 := lv_neT (a := 2) c4 (by decide); have z3 := lv_neT (a := 3) c5 (by decide); have z4 := lv_neT (a := 4) c6 (by decide); have z5 := lv_neT (a := 5) c8 (by decide); omega)
  refine lv_tableOut (tgt := 95) hx hb dd_L_look_1 c10 (by decide) ?_
  refine lv_iconst (v := -1) hx hb dd_L_look_95 (by decide) ?_
  exact mr_i hx hb hr hlocks rfl (by simp [bI, c_look, c2, c3, c4, c5, c6, c8]) dd_L_look_96

set_option maxHeartbeats 4000000 in
set_option maxRecDepth 100000 in
theorem cc_L_endsInMain_n {l : Launch} {G : gC} {M : mC} {x ld ln ed en nn : Nat} {aD aN : Nat → Nat} {D : Nat → dR} {N : Nat → nR} {pn : Nat → Nat → Int64} {pt : Nat → Nat → Int32} {kn : Bool} {ft fn mv : Int32} (hR : rp G M x ld ln ed en 0 nn aD aN D N pn pt kn ft fn mv) : cR l yy_L_endsInMain bb_L_endsInMain 2 (some .boolean) 4 G M [.ref x] (.int 0) := by
  refine me_R (by decide) (Nat.le_of_ble_eq_true rfl) ?_
  intro p e s m below meth c ls hx hb hr hlocks hml hown ht hM hK hl
  have hown : s.vm.findClass RR_L = some m.cls := hown
  have hl : lv_has ls 2 [(0, .ref x)] := hl
  obtain ⟨mx, hLd, hLn, hD, hN, hAp, hnd, hnn⟩ := id hR
  obtain ⟨cl, ml⟩ := ls_obj hLd
  obtain ⟨ck, mk⟩ := ls_obj hLn
  refine lv_aload_n hx hb dd_L_endsInMain_0 rfl (lv_at hl 0 rfl) ?_
  refine mc_V (As := []) (rest := []) 0 (cc_L_lastDefinition_n hR) hx hb hml hown ht hM hK hl.1 lk_L_69 (by decide +kernel) (by decide) mx rfl rfl rfl (Nat.le_of_ble_eq_true rfl) dd_L_endsInMain_1 ⟨Nat.zero_le _, Nat.zero_le _⟩ ?_
  refine lv_astore_nN (lv' := [(1, .null), (0, .ref x)]) hx hb dd_L_endsInMain_4 rfl hl (by decide) rfl (fun ls hl => ?_)
  refine lv_aload_nN hx hb dd_L_endsInMain_5 rfl (lv_at hl 0 rfl) ?_
  refine lv_ifnullN (tgt := 56) hx hb dd_L_endsInMain_6 (by decide) ?_
  refine lv_iconst (v := 0) hx hb dd_L_endsInMain_56 (by decide) ?_
  exact mr_i hx hb hr hlocks rfl rfl dd_L_endsInMain_57

set_option maxHeartbeats 4000000 in
set_option maxRecDepth 100000 in
theorem cc_L_endsInMain_s {l : Launch} {G : gC} {M : mC} {x ld ln ed en k nn : Nat} {aD aN : Nat → Nat} {D : Nat → dR} {N : Nat → nR} {pn : Nat → Nat → Int64} {pt : Nat → Nat → Int32} {kn : Bool} {ft fn mv : Int32} (hR : rp G M x ld ln ed en (k + 1) nn aD aN D N pn pt kn ft fn mv) : cR l yy_L_endsInMain bb_L_endsInMain 2 (some .boolean) 4 G M [.ref x] (.int (bI (c_main1 (D k) (pt k)))) := by
  refine me_R (by decide) (Nat.le_of_ble_eq_true rfl) ?_
  intro p e s m below meth c ls hx hb hr hlocks hml hown ht hM hK hl
  have hown : s.vm.findClass RR_L = some m.cls := hown
  have hl : lv_has ls 2 [(0, .ref x)] := hl
  obtain ⟨mx, hLd, hLn, hD, hN, hAp, hnd, hnn⟩ := id hR
  obtain ⟨cl, ml⟩ := ls_obj hLd
  obtain ⟨ck, mk⟩ := ls_obj hLn
  refine lv_aload_n hx hb dd_L_endsInMain_0 rfl (lv_at hl 0 rfl) ?_
  refine mc_V (As := []) (rest := []) 0 (cc_L_lastDefinition_s hR) hx hb hml hown ht hM hK hl.1 lk_L_69 (by decide +kernel) (by decide) mx rfl rfl rfl (Nat.le_of_ble_eq_true rfl) dd_L_endsInMain_1 ⟨Nat.zero_le _, Nat.zero_le _⟩ ?_
  have me := (hD k (Nat.lt_succ_self k)).1
  refine lv_astore_n (lv' := [(1, .ref (aD k)), (0, .ref x)]) hx hb dd_L_endsInMain_4 rfl hl (by decide) rfl (fun ls hl => ?_)
  refine lv_aload_n hx hb dd_L_endsInMain_5 rfl (lv_at hl 0 rfl) ?_
  refine lv_ifnull hx hb dd_L_endsInMain_6 ?_
  refine lv_aload_n hx hb dd_L_endsInMain_9 rfl (lv_at hl 0 rfl) ?_
  refine mg_get hx hb ht ii_D hown hK hM me rfl 1 (by decide) wd_1_131 (fun _ h => h) rfl dd_L_endsInMain_10 ?_
  refine lb_if_ne (tgt := 56) hx hb dd_L_endsInMain_13 (by decide) (fun c1 => ?_) (fun c1 => ?_)
  · refine lv_iconst (v := 0) hx hb dd_L_endsInMain_56 (by decide) ?_
    exact mr_i hx hb hr hlocks rfl (by simp [bI, c_main1, c1]) dd_L_endsInMain_57
  · refine lv_aload_n hx hb dd_L_endsInMain_16 rfl (lv_at hl 0 rfl) ?_
    refine mg_get hx hb ht ii_D hown hK hM me rfl 2 (by decide) wd_1_133 (fun _ h => h) rfl dd_L_endsInMain_17 ?_
    refine lv_ldc2 (v := 427310) hx hb hown (ht _ wd_2_106) dd_L_endsInMain_20 ?_
    refine W.lcmp hx hb dd_L_endsInMain_23 ?_
    refine lc_if_ne (tgt := 56) hx hb dd_L_endsInMain_24 (by decide) (fun c2 => ?_) (fun c2 => ?_)
    · refine lv_iconst (v := 0) hx hb dd_L_endsInMain_56 (by decide) ?_
      exact mr_i hx hb hr hlocks rfl (by simp [bI, c_main1, c1, c2]) dd_L_endsInMain_57
    · refine lv_aload_n hx hb dd_L_endsInMain_27 rfl (lv_at hl 0 rfl) ?_
      refine mg_get hx hb ht ii_D hown hK hM me rfl 3 (by decide) wd_1_136 (fun _ h => h) rfl dd_L_endsInMain_28 ?_
      refine lv_iconst (v := 3) hx hb dd_L_endsInMain_31 (by decide) ?_
      refine lv_icmp_ne (tgt := 56) hx hb dd_L_endsInMain_32 (by decide) (fun c3 => ?_) (fun c3 => ?_)
      · refine lv_iconst (v := 0) hx hb dd_L_endsInMain_56 (by decide) ?_
        exact mr_i hx hb hr hlocks rfl (by simp [bI, c_main1, c1, eq_true c2, c3]) dd_L_endsInMain_57
      · refine lv_aload_n hx hb dd_L_endsInMain_35 rfl (lv_at hl 0 rfl) ?_
        refine mg_get hx hb ht ii_D hown hK hM me rfl 6 (by decide) wd_1_141 (fun _ h => h) rfl dd_L_endsInMain_36 ?_
        refine lv_iconst (v := 1) hx hb dd_L_endsInMain_39 (by decide) ?_
        refine lv_icmp_ne (tgt := 56) hx hb dd_L_endsInMain_40 (by decide) (fun c4 => ?_) (fun c4 => ?_)
        · refine lv_iconst (v := 0) hx hb dd_L_endsInMain_56 (by decide) ?_
          exact mr_i hx hb hr hlocks rfl (by simp [bI, c_main1, c1, eq_true c2, eq_true c3, c4]) dd_L_endsInMain_57
        · refine lv_aload_n hx hb dd_L_endsInMain_43 rfl (lv_at hl 0 rfl) ?_
          refine lv_iconst (v := 0) hx hb dd_L_endsInMain_44 (by decide) ?_
          refine mc_V (As := [.int 0]) (rest := []) 1 (cc_D_parameterType (i := 0) me (hD k (Nat.lt_succ_self k)).2.2.1) hx hb hml hown ht hM hK hl.1 lk_L_172 (by decide +kernel) (by decide) me rfl rfl rfl (Nat.le_of_ble_eq_true rfl) dd_L_endsInMain_45 ⟨Nat.zero_le _, Nat.zero_le _⟩ ?_
          refine lv_iconst (v := 3) hx hb dd_L_endsInMain_48 (by decide) ?_
          refine lv_icmp_ne (tgt := 56) hx hb dd_L_endsInMain_49 (by decide) (fun c5 => ?_) (fun c5 => ?_)
          · refine lv_iconst (v := 0) hx hb dd_L_endsInMain_56 (by decide) ?_
            exact mr_i hx hb hr hlocks rfl (by simp [bI, c_main1, c1, eq_true c2, eq_true c3, eq_true c4, c5]) dd_L_endsInMain_57
          · refine lv_iconst (v := 1) hx hb dd_L_endsInMain_52 (by decide) ?_
            refine lv_goto (tgt := 57) hx hb dd_L_endsInMain_53 (by decide) ?_
            exact mr_i hx hb hr hlocks rfl (by simp [bI, c_main1, c1, eq_true c2, eq_true c3, eq_true c4, eq_true c5]) dd_L_endsInMain_57

theorem cc_L_endsInMain {l : Launch} {G : gC} {M : mC} {x ld ln ed en nd nn : Nat} {aD aN : Nat → Nat} {D : Nat → dR} {N : Nat → nR} {pn : Nat → Nat → Int64} {pt : Nat → Nat → Int32} {kn : Bool} {ft fn mv : Int32} (hR : rp G M x ld ln ed en nd nn aD aN D N pn pt kn ft fn mv) : cR l yy_L_endsInMain bb_L_endsInMain 2 (some .boolean) 4 G M [.ref x] (.int (bI (c_main nd D pt))) := by
  cases nd with
  | zero => exact cc_L_endsInMain_n hR
  | succ k => exact cc_L_endsInMain_s hR

set_option maxHeartbeats 4000000 in
set_option maxRecDepth 100000 in
theorem cc_L_definitionNamed {l : Launch} {G : gC} {M : mC} {x ld ln ed en nd nn : Nat} {aD aN : Nat → Nat} {D : Nat → dR} {N : Nat → nR} {pn : Nat → Nat → Int64} {pt : Nat → Nat → Int32} {kn : Bool} {ft fn mv : Int32} (hR : rp G M x ld ln ed en nd nn aD aN D N pn pt kn ft fn mv) {nm : Int64} : cR l yy_L_definitionNamed bb_L_definitionNamed 5 (some (.object "LevelTypes$Definition")) 3 G M [.ref x, .long nm] (va_rf ((c_named D nm nd 0).map aD)) := by
  refine me_R (by decide) (Nat.le_of_ble_eq_true rfl) ?_
  intro p e s m below meth c ls hx hb hr hlocks hml hown ht hM hK hl
  have hown : s.vm.findClass RR_L = some m.cls := hown
  have hl : lv_has ls 5 [(0, .ref x), (1, .long nm)] := hl
  obtain ⟨mx, hLd, hLn, hD, hN, hAp, hnd, hnn⟩ := id hR
  obtain ⟨cl, ml⟩ := ls_obj hLd
  obtain ⟨ck, mk⟩ := ls_obj hLn
  have loop : ∀ (k i : Nat) (ls : Array Slot), i + k = nd → lv_has ls 5 [(3, .int (nI i)), (0, .ref x), (1, .long nm)] → c_named D nm k i = c_named D nm nd 0 → W p l e (rd 3 0 0) s m ([.ref x, .long nm] : List Value).toArray below meth c s.heap [] 0 0 (MQ below (k2_QcV (va_rf ((c_named D nm nd 0).map aD))) ([.ref x, .long nm] : List Value).toArray s 0 0 (fun _ => False)) (F0 m 2 ls []) := by
    intro k
    induction k with
    | zero =>
      intro i ls hik hl hres
      refine lv_iload_n hx hb dd_L_definitionNamed_2 rfl (lv_at hl 0 rfl) ?_
      refine lv_aload_n hx hb dd_L_definitionNamed_3 rfl (lv_at hl 1 rfl) ?_
      refine mg_get hx hb ht ii_L hown hK hM mx rfl 0 (by decide) wd_1_50 (fun _ h => h) rfl dd_L_definitionNamed_4 ?_
      refine mc_V (As := []) (rest := [.int (nI i)]) 0 (ls_size hLd) hx hb hml hown ht hM hK hl.1 lk_L_49 (by decide +kernel) (by decide) ml rfl rfl rfl (Nat.le_of_ble_eq_true rfl) dd_L_definitionNamed_7 ⟨Nat.zero_le _, Nat.zero_le _⟩ ?_
      refine lv_icmp_ge (tgt := 45) hx hb dd_L_definitionNamed_10 (by decide) (fun _ => ?_) (fun z => absurd (nI_le (a := nd) (b := i) (by omega) (by omega)) z)
      refine lv_null hx hb dd_L_definitionNamed_45 ?_
      exact mr_an hx hb hr hlocks (by rw [← hres]; simp [c_named, va_rf]) dd_L_definitionNamed_46
    | succ k ih =>
      intro i ls hik hl hres
      refine lv_iload_n hx hb dd_L_definitionNamed_2 rfl (lv_at hl 0 rfl) ?_
      refine lv_aload_n hx hb dd_L_definitionNamed_3 rfl (lv_at hl 1 rfl) ?_
      refine mg_get hx hb ht ii_L hown hK hM mx rfl 0 (by decide) wd_1_50 (fun _ h => h) rfl dd_L_definitionNamed_4 ?_
      refine mc_V (As := []) (rest := [.int (nI i)]) 0 (ls_size hLd) hx hb hml hown ht hM hK hl.1 lk_L_49 (by decide +kernel) (by decide) ml rfl rfl rfl (Nat.le_of_ble_eq_true rfl) dd_L_definitionNamed_7 ⟨Nat.zero_le _, Nat.zero_le _⟩ ?_
      refine lv_icmp_ge (tgt := 45) hx hb dd_L_definitionNamed_10 (by decide) (fun z => absurd z (nI_ge (a := i) (b := nd) (by omega) (by omega))) (fun _ => ?_)
      refine lv_aload_n hx hb dd_L_definitionNamed_13 rfl (lv_at hl 1 rfl) ?_
      refine mg_get hx hb ht ii_L hown hK hM mx rfl 0 (by decide) wd_1_50 (fun _ h => h) rfl dd_L_definitionNamed_14 ?_
      refine lv_iload_n hx hb dd_L_definitionNamed_17 rfl (lv_at hl 0 rfl) ?_
      refine mc_V (As := [.int (nI i)]) (rest := []) 1 (ls_get hLd (i := i) (show i < nd by omega)) hx hb hml hown ht hM hK hl.1 lk_L_152 (by decide +kernel) (by decide) ml rfl rfl rfl (Nat.le_of_ble_eq_true rfl) dd_L_definitionNamed_18 ⟨Nat.zero_le _, Nat.zero_le _⟩ ?_
      have me := (hD i (show i < nd by omega)).1
      refine va_castS hx hb hown (ht _ wd_1_113) (hK.1.1 1 _ rfl).2 (m_recv hK hM me rfl) dd_L_definitionNamed_21 ?_
      refine lv_astore (lv' := [(4, .ref (aD i)), (3, .int (nI i)), (0, .ref x), (1, .long nm)]) hx hb dd_L_definitionNamed_24 hl (by decide) rfl (fun ls hl => ?_)
      refine lv_aload hx hb dd_L_definitionNamed_26 (lv_at hl 0 rfl) ?_
      refine mg_get hx hb ht ii_D hown hK hM me rfl 2 (by decide) wd_1_133 (fun _ h => h) rfl dd_L_definitionNamed_28 ?_
      refine lv_lload_n hx hb dd_L_definitionNamed_31 rfl (lv_at hl 3 rfl) ?_
      refine W.lcmp hx hb dd_L_definitionNamed_32 ?_
      refine lc_if_ne (tgt := 39) hx hb dd_L_definitionNamed_33 (by decide) (fun c1 => ?_) (fun c1 => ?_)
      · obtain ⟨x2, ex2⟩ : ∃ y : Int32, y = (nI i) + 1 := ⟨_, rfl⟩
        refine lv_iinc (v := x2) (lv' := [(3, .int x2), (4, .ref (aD i)), (0, .ref x), (1, .long nm)]) hx hb dd_L_definitionNamed_39 hl (k := 1) rfl (by rw [ex2]; rfl) (by decide) rfl (fun ls hl => ?_)
        refine lv_goto (tgt := 2) hx hb dd_L_definitionNamed_42 (by decide) ?_
        rw [ex2, nI_1] at hl
        exact ih (i + 1) ls (by omega) (lv_sub hl [0, 2, 3] rfl) (by rw [← hres]; simp [c_named, c1])
      · refine lv_aload hx hb dd_L_definitionNamed_36 (lv_at hl 0 rfl) ?_
        exact mr_ar hx hb hr hlocks (by rw [← hres]; simp [c_named, va_rf, eq_true c1]) dd_L_definitionNamed_38
  refine lv_iconst (v := 0) hx hb dd_L_definitionNamed_0 (by decide) ?_
  refine lv_istore_n (lv' := [(3, .int 0), (0, .ref x), (1, .long nm)]) hx hb dd_L_definitionNamed_1 rfl hl (by decide) rfl (fun ls hl => ?_)
  exact loop nd 0 ls (by omega) (by rw [nI_0]; exact hl) rfl
