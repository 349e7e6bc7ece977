set_option maxHeartbeats 4000000 in
set_option maxRecDepth 100000 in
theorem cc_L_lastDefinition_n {l : Launch} {G : gC} {M : mC} {x ld ln ed en nn : Nat} {aD aN : Nat → Nat} {D : Nat → dR} {N : Nat → nR} {pn : Nat → Nat → Int64} {pt : Nat → Nat → Int32} {kn : Bool} {ft fn mv : Int32} (hR : rp G M x ld ln ed en 0 nn aD aN D N pn pt kn ft fn mv) : cR l yy_L_lastDefinition bb_L_lastDefinition 2 (some (.object "LevelTypes$Definition")) 1 G M [.ref x] (.null) := by
  refine me_R (by decide) (Nat.le_of_ble_eq_true rfl) ?_
  intro p e s m below meth c ls hx hb hr hlocks hml hown ht hM hK hl
  have hown : s.vm.findClass RR_L = some m.cls := hown
  have hl : lv_has ls 2 [(0, .ref x)] := hl
  obtain ⟨mx, hLd, hLn, hD, hN, hAp, hnd, hnn⟩ := id hR
  obtain ⟨cl, ml⟩ := ls_obj hLd
  obtain ⟨ck, mk⟩ := ls_obj hLn
  refine lv_aload_n hx hb dd_L_lastDefinition_0 rfl (lv_at hl 0 rfl) ?_
  refine mg_get hx hb ht ii_L hown hK hM mx rfl 0 (by decide) wd_1_50 (fun _ h => h) rfl dd_L_lastDefinition_1 ?_
  refine mc_V (As := []) (rest := []) 0 (ls_size hLd) hx hb hml hown ht hM hK hl.1 lk_L_49 (by decide +kernel) (by decide) ml rfl rfl rfl (Nat.le_of_ble_eq_true rfl) dd_L_lastDefinition_4 ⟨Nat.zero_le _, Nat.zero_le _⟩ ?_
  refine lv_istore_n (lv' := [(1, .int (nI 0)), (0, .ref x)]) hx hb dd_L_lastDefinition_7 rfl hl (by decide) rfl (fun ls hl => ?_)
  refine lv_iload_n hx hb dd_L_lastDefinition_8 rfl (lv_at hl 0 rfl) ?_
  refine lv_if_ne (tgt := 16) hx hb dd_L_lastDefinition_9 (by decide) (fun z => absurd nI_0 z) (fun _ => ?_)
  refine lv_null hx hb dd_L_lastDefinition_12 ?_
  refine lv_goto (tgt := 29) hx hb dd_L_lastDefinition_13 (by decide) ?_
  exact mr_an hx hb hr hlocks rfl dd_L_lastDefinition_29

set_option maxHeartbeats 4000000 in
set_option maxRecDepth 100000 in
theorem cc_L_lastDefinition_s {l : Launch} {G : gC} {M : mC} {x ld ln ed en k nn : Nat} {aD aN : Nat → Nat} {D : Nat → dR} {N : Nat → nR} {pn : Nat → Nat → Int64} {pt : Nat → Nat → Int32} {kn : Bool} {ft fn mv : Int32} (hR : rp G M x ld ln ed en (k + 1) nn aD aN D N pn pt kn ft fn mv) : cR l yy_L_lastDefinition bb_L_lastDefinition 2 (some (.object "LevelTypes$Definition")) 3 G M [.ref x] (.ref (aD k)) := by
  refine me_R (by decide) (Nat.le_of_ble_eq_true rfl) ?_
  intro p e s m below meth c ls hx hb hr hlocks hml hown ht hM hK hl
  have hown : s.vm.findClass RR_L = some m.cls := hown
  have hl : lv_has ls 2 [(0, .ref x)] := hl
  obtain ⟨mx, hLd, hLn, hD, hN, hAp, hnd, hnn⟩ := id hR
  obtain ⟨cl, ml⟩ := ls_obj hLd
  obtain ⟨ck, mk⟩ := ls_obj hLn
  refine lv_aload_n hx hb dd_L_lastDefinition_0 rfl (lv_at hl 0 rfl) ?_
  refine mg_get hx hb ht ii_L hown hK hM mx rfl 0 (by decide) wd_1_50 (fun _ h => h) rfl dd_L_lastDefinition_1 ?_
  refine mc_V (As := []) (rest := []) 0 (ls_size hLd) hx hb hml hown ht hM hK hl.1 lk_L_49 (by decide +kernel) (by decide) ml rfl rfl rfl (Nat.le_of_ble_eq_true rfl) dd_L_lastDefinition_4 ⟨Nat.zero_le _, Nat.zero_le _⟩ ?_
  refine lv_istore_n (lv' := [(1, .int (nI (k + 1))), (0, .ref x)]) hx hb dd_L_lastDefinition_7 rfl hl (by decide) rfl (fun ls hl => ?_)
  refine lv_iload_n hx hb dd_L_lastDefinition_8 rfl (lv_at hl 0 rfl) ?_
  refine lv_if_ne (tgt := 16) hx hb dd_L_lastDefinition_9 (by decide) (fun _ => ?_) (fun z => absurd z (nI_ne0 (by omega) (by omega)))
  refine lv_aload_n hx hb dd_L_lastDefinition_16 rfl (lv_at hl 1 rfl) ?_
  refine mg_get hx hb ht ii_L hown hK hM mx rfl 0 (by decide) wd_1_50 (fun _ h => h) rfl dd_L_lastDefinition_17 ?_
  refine lv_iload_n hx hb dd_L_lastDefinition_20 rfl (lv_at hl 0 rfl) ?_
  refine lv_iconst (v := 1) hx hb dd_L_lastDefinition_21 (by decide) ?_
  refine lv_isub hx hb dd_L_lastDefinition_22 ?_
  rw [nI_pred]
  refine mc_V (As := [.int (nI k)]) (rest := []) 1 (ls_get hLd (i := k) (Nat.lt_succ_self k)) hx hb hml hown ht hM hK hl.1 lk_L_152 (by decide +kernel) (by decide) ml rfl rfl rfl (Nat.le_of_ble_eq_true rfl) dd_L_lastDefinition_23 ⟨Nat.zero_le _, Nat.zero_le _⟩ ?_
  have me := (hD k (Nat.lt_succ_self k)).1
  refine va_castS hx hb hown (ht _ wd_1_113) (hK.1.1 1 _ rfl).2 (m_recv hK hM me rfl) dd_L_lastDefinition_26 ?_
  exact mr_ar hx hb hr hlocks rfl dd_L_lastDefinition_29

set_option maxHeartbeats 4000000 in
set_option maxRecDepth 100000 in
theorem cc_L_lastIsWhole_n {l : Launch} {G : gC} {M : mC} {x ld ln ed en nn : Nat} {aD aN : Nat → Nat} {D : Nat → dR} {N : Nat → nR} {pn : Nat → Nat → Int64} {pt : Nat → Nat → Int32} {kn : Bool} {ft fn mv : Int32} (hR : rp G M x ld ln ed en 0 nn aD aN D N pn pt kn ft fn mv) : cR l yy_L_lastIsWhole bb_L_lastIsWhole 2 (some .boolean) 4 G M [.ref x] (.int 1) := by
  refine me_R (by decide) (Nat.le_of_ble_eq_true rfl) ?_
  intro p e s m below meth c ls hx hb hr hlocks hml hown ht hM hK hl
  have hown : s.vm.findClass RR_L = some m.cls := hown
  have hl : lv_has ls 2 [(0, .ref x)] := hl
  obtain ⟨mx, hLd, hLn, hD, hN, hAp, hnd, hnn⟩ := id hR
  obtain ⟨cl, ml⟩ := ls_obj hLd
  obtain ⟨ck, mk⟩ := ls_obj hLn
  refine lv_aload_n hx hb dd_L_lastIsWhole_0 rfl (lv_at hl 0 rfl) ?_
  refine mc_V (As := []) (rest := []) 0 (cc_L_lastDefinition_n hR) hx hb hml hown ht hM hK hl.1 lk_L_69 (by decide +kernel) (by decide) mx rfl rfl rfl (Nat.le_of_ble_eq_true rfl) dd_L_lastIsWhole_1 ⟨Nat.zero_le _, Nat.zero_le _⟩ ?_
  refine lv_astore_nN (lv' := [(1, .null), (0, .ref x)]) hx hb dd_L_lastIsWhole_4 rfl hl (by decide) rfl (fun ls hl => ?_)
  refine lv_aload_nN hx hb dd_L_lastIsWhole_5 rfl (lv_at hl 0 rfl) ?_
  refine lv_ifnullN (tgt := 16) hx hb dd_L_lastIsWhole_6 (by decide) ?_
  refine lv_iconst (v := 1) hx hb dd_L_lastIsWhole_16 (by decide) ?_
  refine lv_goto (tgt := 21) hx hb dd_L_lastIsWhole_17 (by decide) ?_
  exact mr_i hx hb hr hlocks rfl rfl dd_L_lastIsWhole_21

set_option maxHeartbeats 4000000 in
set_option maxRecDepth 100000 in
theorem cc_L_lastIsWhole_s {l : Launch} {G : gC} {M : mC} {x ld ln ed en k nn : Nat} {aD aN : Nat → Nat} {D : Nat → dR} {N : Nat → nR} {pn : Nat → Nat → Int64} {pt : Nat → Nat → Int32} {kn : Bool} {ft fn mv : Int32} (hR : rp G M x ld ln ed en (k + 1) nn aD aN D N pn pt kn ft fn mv) : cR l yy_L_lastIsWhole bb_L_lastIsWhole 2 (some .boolean) 4 G M [.ref x] (.int (bI (d_whole (D k)))) := by
  refine me_R (by decide) (Nat.le_of_ble_eq_true rfl) ?_
  intro p e s m below meth c ls hx hb hr hlocks hml hown ht hM hK hl
  have hown : s.vm.findClass RR_L = some m.cls := hown
  have hl : lv_has ls 2 [(0, .ref x)] := hl
  obtain ⟨mx, hLd, hLn, hD, hN, hAp, hnd, hnn⟩ := id hR
  obtain ⟨cl, ml⟩ := ls_obj hLd
  obtain ⟨ck, mk⟩ := ls_obj hLn
  refine lv_aload_n hx hb dd_L_lastIsWhole_0 rfl (lv_at hl 0 rfl) ?_
  refine mc_V (As := []) (rest := []) 0 (cc_L_lastDefinition_s hR) hx hb hml hown ht hM hK hl.1 lk_L_69 (by decide +kernel) (by decide) mx rfl rfl rfl (Nat.le_of_ble_eq_true rfl) dd_L_lastIsWhole_1 ⟨Nat.zero_le _, Nat.zero_le _⟩ ?_
  have me := (hD k (Nat.lt_succ_self k)).1
  refine lv_astore_n (lv' := [(1, .ref (aD k)), (0, .ref x)]) hx hb dd_L_lastIsWhole_4 rfl hl (by decide) rfl (fun ls hl => ?_)
  refine lv_aload_n hx hb dd_L_lastIsWhole_5 rfl (lv_at hl 0 rfl) ?_
  refine lv_ifnull hx hb dd_L_lastIsWhole_6 ?_
  refine lv_aload_n hx hb dd_L_lastIsWhole_9 rfl (lv_at hl 0 rfl) ?_
  refine mc_V (As := []) (rest := []) 0 (cc_D_isWhole me) hx hb hml hown ht hM hK hl.1 lk_L_87 (by decide +kernel) (by decide) me rfl rfl rfl (Nat.le_of_ble_eq_true rfl) dd_L_lastIsWhole_10 ⟨Nat.zero_le _, Nat.zero_le _⟩ ?_
  refine lb_if_eq (tgt := 20) hx hb dd_L_lastIsWhole_13 (by decide) (fun c1 => ?_) (fun c1 => ?_)
  · refine lv_iconst (v := 0) hx hb dd_L_lastIsWhole_20 (by decide) ?_
    exact mr_i hx hb hr hlocks rfl (by simp [bI, c1]) dd_L_lastIsWhole_21
  · refine lv_iconst (v := 1) hx hb dd_L_lastIsWhole_16 (by decide) ?_
    refine lv_goto (tgt := 21) hx hb dd_L_lastIsWhole_17 (by decide) ?_
    exact mr_i hx hb hr hlocks rfl (by simp [bI, c1]) dd_L_lastIsWhole_21

theorem cc_L_lastIsWhole {l : Launch} {G : gC} {M : mC} {x ld ln ed en nd nn : Nat} {aD aN : Nat → Nat} {D : Nat → dR} {N : Nat → nR} {pn : Nat → Nat → Int64} {pt : Nat → Nat → Int32} {kn : Bool} {ft fn mv : Int32} (hR : rp G M x ld ln ed en nd nn aD aN D N pn pt kn ft fn mv) : cR l yy_L_lastIsWhole bb_L_lastIsWhole 2 (some .boolean) 4 G M [.ref x] (.int (bI (c_whole nd D))) := by
  cases nd with
  | zero => exact cc_L_lastIsWhole_n hR
  | succ k => exact cc_L_lastIsWhole_s hR
