set_option maxHeartbeats 4000000 in
set_option maxRecDepth 100000 in
theorem cc_M_type {l : Launch} {G : gC} {M : mC} {sz : Nat} {y b nd nn : Nat} {I : Nat → Nat → Int32} {J : Nat → Nat → Int64} {Z : Nat → Int32} {kn : Bool} {ft fn mo th : Int32} (hR : rm G M y b nd nn I J Z kn ft fn mo th) {k : Int32} : cW l yy_M_type bb_M_type 2 (some .int) 1 8 4000 G M sz [.ref y, .int k] (fun v u => v = some (.int (c_val (c_kn kn k nn) (fun j => I 15 j))) ∧ rm G u y b nd nn I J Z kn ft fn mo 0) := by
  refine me_W (by decide) (Nat.le_of_ble_eq_true rfl) ?_
  intro p e s m below meth c ls hx hb hr hlocks hml hown hname ht hsz hM hK hZ hl
  have hown : s.vm.findClass RR_M = some m.cls := hown
  have hl : lv_has ls 2 [(0, .ref y), (1, .int k)] := hl
  have hS : va_S (fr M sz) s.heap s.heap [] := va_S.rf
  have hF : ∀ q, M q ≠ none → fr M sz q := fr_M
  have hA : ∀ q, s.heap.size ≤ q → fr M sz q := fun q h => fr_A q (by rw [← hsz]; exact h)
  obtain ⟨hyb, my, hA9, hnd, hnn⟩ := id hR
  obtain ⟨a0, a1, a2, a3, a4, a5, a6, a7, a8, a9, a10, a11, a12, a13, a14, a15, a16, a17⟩ := id hA9
  refine lv_aload_n hx hb dd_M_type_0 rfl (lv_at hl 0 rfl) ?_
  refine lv_iconst (v := 0) hx hb dd_M_type_1 (by decide) ?_
  refine mg_put (v := .int 0) hx hb ht ii_M tt_M tt_M_ok nn_M hown hK hM hS (hF _ (by rw [my]; exact Option.some_ne_none _)) my rfl 0 (by decide) wd_2_213 (fun _ h => h) (Or.inl rfl) rfl rfl rfl (Nat.le_of_ble_eq_true rfl) dd_M_type_2 (fun H locs hM hz hoq hS => ?_)
  have hM : hm G (mp_up M y (yC b nd nn kn ft fn mo 0)) H := hM
  have hF : ∀ z9, (mp_up M y (yC b nd nn kn ft fn mo 0)) z9 ≠ none → fr M sz z9 := hF_put hF (hF _ (by rw [my]; exact Option.some_ne_none _))
  have hR : rm G (mp_up M y (yC b nd nn kn ft fn mo 0)) y b nd nn I J Z kn ft fn mo 0 := rm_setX hR (by omega) (by omega)
  obtain ⟨u1, eu1⟩ : ∃ z, z = (mp_up M y (yC b nd nn kn ft fn mo 0)) := ⟨_, rfl⟩
  rw [← eu1] at hM hF hR
  clear eu1
  obtain ⟨hyb, my, hA9, hnd, hnn⟩ := id hR
  obtain ⟨a0, a1, a2, a3, a4, a5, a6, a7, a8, a9, a10, a11, a12, a13, a14, a15, a16, a17⟩ := id hA9
  refine lv_aload_n hx hb dd_M_type_5 rfl (lv_at hl 0 rfl) ?_
  refine lv_iload_n hx hb dd_M_type_6 rfl (lv_at hl 1 rfl) ?_
  refine mc_V (As := [.int k]) (rest := []) 1 (cc_M_isKnown hR (k := k)) hx hb hml hown ht hM hK hl.1 lk_M_161 (by decide +kernel) (by decide) my rfl rfl rfl (Nat.le_of_ble_eq_true rfl) dd_M_type_7 ⟨Nat.le_of_ble_eq_true rfl, Nat.le_of_ble_eq_true rfl⟩ ?_
  refine lb_if_eq (tgt := 22) hx hb dd_M_type_10 (by decide) (fun c2 => ?_) (fun c2 => ?_)
  · refine lv_iconst (v := -1) hx hb dd_M_type_22 (by decide) ?_
    exact mw_i hx hb hr hlocks rfl hM hF hS (Nat.le_of_ble_eq_true rfl) (Nat.le_of_ble_eq_true rfl) ⟨by rw [m_known_no c2]; rfl, hR⟩ dd_M_type_23
  · obtain ⟨j, hj, rfl, hkj⟩ := m_known_ix c2 hnn
    refine lv_aload_n hx hb dd_M_type_13 rfl (lv_at hl 0 rfl) ?_
    refine mg_get hx hb ht ii_M hown hK hM my rfl 18 (by decide) wd_2_231 (fun _ h => h) rfl dd_M_type_14 ?_
    refine lv_iload_n hx hb dd_M_type_17 rfl (lv_at hl 1 rfl) ?_
    refine mg_iald hx hb hK hM a15 (vp_in_nI (show j < 4096 by omega) (by decide)) dd_M_type_18 ?_
    rw [nI_clamp (show j < 2 ^ 31 by omega)]
    refine lv_goto (tgt := 23) hx hb dd_M_type_19 (by decide) ?_
    exact mw_i hx hb hr hlocks rfl hM hF hS (Nat.le_of_ble_eq_true rfl) (Nat.le_of_ble_eq_true rfl) ⟨by rw [hkj]; rfl, hR⟩ dd_M_type_23

set_option maxHeartbeats 4000000 in
set_option maxRecDepth 100000 in
theorem cc_M_binder {l : Launch} {G : gC} {M : mC} {sz : Nat} {y b nd nn : Nat} {I : Nat → Nat → Int32} {J : Nat → Nat → Int64} {Z : Nat → Int32} {kn : Bool} {ft fn mo th : Int32} (hR : rm G M y b nd nn I J Z kn ft fn mo th) {k : Int32} : cW l yy_M_binder bb_M_binder 2 (some .int) 1 8 4000 G M sz [.ref y, .int k] (fun v u => v = some (.int (c_val (c_kn kn k nn) (fun j => I 16 j))) ∧ rm G u y b nd nn I J Z kn ft fn mo 0) := by
  refine me_W (by decide) (Nat.le_of_ble_eq_true rfl) ?_
  intro p e s m below meth c ls hx hb hr hlocks hml hown hname ht hsz hM hK hZ hl
  have hown : s.vm.findClass RR_M = some m.cls := hown
  have hl : lv_has ls 2 [(0, .ref y), (1, .int k)] := hl
  have hS : va_S (fr M sz) s.heap s.heap [] := va_S.rf
  have hF : ∀ q, M q ≠ none → fr M sz q := fr_M
  have hA : ∀ q, s.heap.size ≤ q → fr M sz q := fun q h => fr_A q (by rw [← hsz]; exact h)
  obtain ⟨hyb, my, hA9, hnd, hnn⟩ := id hR
  obtain ⟨a0, a1, a2, a3, a4, a5, a6, a7, a8, a9, a10, a11, a12, a13, a14, a15, a16, a17⟩ := id hA9
  refine lv_aload_n hx hb dd_M_binder_0 rfl (lv_at hl 0 rfl) ?_
  refine lv_iconst (v := 0) hx hb dd_M_binder_1 (by decide) ?_
  refine mg_put (v := .int 0) hx hb ht ii_M tt_M tt_M_ok nn_M hown hK hM hS (hF _ (by rw [my]; exact Option.some_ne_none _)) my rfl 0 (by decide) wd_2_213 (fun _ h => h) (Or.inl rfl) rfl rfl rfl (Nat.le_of_ble_eq_true rfl) dd_M_binder_2 (fun H locs hM hz hoq hS => ?_)
  have hM : hm G (mp_up M y (yC b nd nn kn ft fn mo 0)) H := hM
  have hF : ∀ z9, (mp_up M y (yC b nd nn kn ft fn mo 0)) z9 ≠ none → fr M sz z9 := hF_put hF (hF _ (by rw [my]; exact Option.some_ne_none _))
  have hR : rm G (mp_up M y (yC b nd nn kn ft fn mo 0)) y b nd nn I J Z kn ft fn mo 0 := rm_setX hR (by omega) (by omega)
  obtain ⟨u1, eu1⟩ : ∃ z, z = (mp_up M y (yC b nd nn kn ft fn mo 0)) := ⟨_, rfl⟩
  rw [← eu1] at hM hF hR
  clear eu1
  obtain ⟨hyb, my, hA9, hnd, hnn⟩ := id hR
  obtain ⟨a0, a1, a2, a3, a4, a5, a6, a7, a8, a9, a10, a11, a12, a13, a14, a15, a16, a17⟩ := id hA9
  refine lv_aload_n hx hb dd_M_binder_5 rfl (lv_at hl 0 rfl) ?_
  refine lv_iload_n hx hb dd_M_binder_6 rfl (lv_at hl 1 rfl) ?_
  refine mc_V (As := [.int k]) (rest := []) 1 (cc_M_isKnown hR (k := k)) hx hb hml hown ht hM hK hl.1 lk_M_161 (by decide +kernel) (by decide) my rfl rfl rfl (Nat.le_of_ble_eq_true rfl) dd_M_binder_7 ⟨Nat.le_of_ble_eq_true rfl, Nat.le_of_ble_eq_true rfl⟩ ?_
  refine lb_if_eq (tgt := 22) hx hb dd_M_binder_10 (by decide) (fun c2 => ?_) (fun c2 => ?_)
  · refine lv_iconst (v := -1) hx hb dd_M_binder_22 (by decide) ?_
    exact mw_i hx hb hr hlocks rfl hM hF hS (Nat.le_of_ble_eq_true rfl) (Nat.le_of_ble_eq_true rfl) ⟨by rw [m_known_no c2]; rfl, hR⟩ dd_M_binder_23
  · obtain ⟨j, hj, rfl, hkj⟩ := m_known_ix c2 hnn
    refine lv_aload_n hx hb dd_M_binder_13 rfl (lv_at hl 0 rfl) ?_
    refine mg_get hx hb ht ii_M hown hK hM my rfl 19 (by decide) wd_2_232 (fun _ h => h) rfl dd_M_binder_14 ?_
    refine lv_iload_n hx hb dd_M_binder_17 rfl (lv_at hl 1 rfl) ?_
    refine mg_iald hx hb hK hM a16 (vp_in_nI (show j < 4096 by omega) (by decide)) dd_M_binder_18 ?_
    rw [nI_clamp (show j < 2 ^ 31 by omega)]
    refine lv_goto (tgt := 23) hx hb dd_M_binder_19 (by decide) ?_
    exact mw_i hx hb hr hlocks rfl hM hF hS (Nat.le_of_ble_eq_true rfl) (Nat.le_of_ble_eq_true rfl) ⟨by rw [hkj]; rfl, hR⟩ dd_M_binder_23

set_option maxHeartbeats 4000000 in
set_option maxRecDepth 100000 in
theorem cc_M_target {l : Launch} {G : gC} {M : mC} {sz : Nat} {y b nd nn : Nat} {I : Nat → Nat → Int32} {J : Nat → Nat → Int64} {Z : Nat → Int32} {kn : Bool} {ft fn mo th : Int32} (hR : rm G M y b nd nn I J Z kn ft fn mo th) {k : Int32} : cW l yy_M_target bb_M_target 2 (some .int) 1 8 4000 G M sz [.ref y, .int k] (fun v u => v = some (.int (c_val (c_kn kn k nn) (fun j => I 17 j))) ∧ rm G u y b nd nn I J Z kn ft fn mo 0) := by
  refine me_W (by decide) (Nat.le_of_ble_eq_true rfl) ?_
  intro p e s m below meth c ls hx hb hr hlocks hml hown hname ht hsz hM hK hZ hl
  have hown : s.vm.findClass RR_M = some m.cls := hown
  have hl : lv_has ls 2 [(0, .ref y), (1, .int k)] := hl
  have hS : va_S (fr M sz) s.heap s.heap [] := va_S.rf
  have hF : ∀ q, M q ≠ none → fr M sz q := fr_M
  have hA : ∀ q, s.heap.size ≤ q → fr M sz q := fun q h => fr_A q (by rw [← hsz]; exact h)
  obtain ⟨hyb, my, hA9, hnd, hnn⟩ := id hR
  obtain ⟨a0, a1, a2, a3, a4, a5, a6, a7, a8, a9, a10, a11, a12, a13, a14, a15, a16, a17⟩ := id hA9
  refine lv_aload_n hx hb dd_M_target_0 rfl (lv_at hl 0 rfl) ?_
  refine lv_iconst (v := 0) hx hb dd_M_target_1 (by decide) ?_
  refine mg_put (v := .int 0) hx hb ht ii_M tt_M tt_M_ok nn_M hown hK hM hS (hF _ (by rw [my]; exact Option.some_ne_none _)) my rfl 0 (by decide) wd_2_213 (fun _ h => h) (Or.inl rfl) rfl rfl rfl (Nat.le_of_ble_eq_true rfl) dd_M_target_2 (fun H locs hM hz hoq hS => ?_)
  have hM : hm G (mp_up M y (yC b nd nn kn ft fn mo 0)) H := hM
  have hF : ∀ z9, (mp_up M y (yC b nd nn kn ft fn mo 0)) z9 ≠ none → fr M sz z9 := hF_put hF (hF _ (by rw [my]; exact Option.some_ne_none _))
  have hR : rm G (mp_up M y (yC b nd nn kn ft fn mo 0)) y b nd nn I J Z kn ft fn mo 0 := rm_setX hR (by omega) (by omega)
  obtain ⟨u1, eu1⟩ : ∃ z, z = (mp_up M y (yC b nd nn kn ft fn mo 0)) := ⟨_, rfl⟩
  rw [← eu1] at hM hF hR
  clear eu1
  obtain ⟨hyb, my, hA9, hnd, hnn⟩ := id hR
  obtain ⟨a0, a1, a2, a3, a4, a5, a6, a7, a8, a9, a10, a11, a12, a13, a14, a15, a16, a17⟩ := id hA9
  refine lv_aload_n hx hb dd_M_target_5 rfl (lv_at hl 0 rfl) ?_
  refine lv_iload_n hx hb dd_M_target_6 rfl (lv_at hl 1 rfl) ?_
  refine mc_V (As := [.int k]) (rest := []) 1 (cc_M_isKnown hR (k := k)) hx hb hml hown ht hM hK hl.1 lk_M_161 (by decide +kernel) (by decide) my rfl rfl rfl (Nat.le_of_ble_eq_true rfl) dd_M_target_7 ⟨Nat.le_of_ble_eq_true rfl, Nat.le_of_ble_eq_true rfl⟩ ?_
  refine lb_if_eq (tgt := 22) hx hb dd_M_target_10 (by decide) (fun c2 => ?_) (fun c2 => ?_)
  · refine lv_iconst (v := -1) hx hb dd_M_target_22 (by decide) ?_
    exact mw_i hx hb hr hlocks rfl hM hF hS (Nat.le_of_ble_eq_true rfl) (Nat.le_of_ble_eq_true rfl) ⟨by rw [m_known_no c2]; rfl, hR⟩ dd_M_target_23
  · obtain ⟨j, hj, rfl, hkj⟩ := m_known_ix c2 hnn
    refine lv_aload_n hx hb dd_M_target_13 rfl (lv_at hl 0 rfl) ?_
    refine mg_get hx hb ht ii_M hown hK hM my rfl 20 (by decide) wd_2_233 (fun _ h => h) rfl dd_M_target_14 ?_
    refine lv_iload_n hx hb dd_M_target_17 rfl (lv_at hl 1 rfl) ?_
    refine mg_iald hx hb hK hM a17 (vp_in_nI (show j < 4096 by omega) (by decide)) dd_M_target_18 ?_
    rw [nI_clamp (show j < 2 ^ 31 by omega)]
    refine lv_goto (tgt := 23) hx hb dd_M_target_19 (by decide) ?_
    exact mw_i hx hb hr hlocks rfl hM hF hS (Nat.le_of_ble_eq_true rfl) (Nat.le_of_ble_eq_true rfl) ⟨by rw [hkj]; rfl, hR⟩ dd_M_target_23

set_option maxHeartbeats 4000000 in
set_option maxRecDepth 100000 in
theorem cc_M_of {l : Launch} {G : gC} {M : mC} {sz : Nat} {y b nd nn : Nat} {I : Nat → Nat → Int32} {J : Nat → Nat → Int64} {Z : Nat → Int32} {kn : Bool} {ft fn mo th : Int32} (hR : rm G M y b nd nn I J Z kn ft fn mo th) {D : Nat → dR} {N : Nat → nR} {pn : Nat → Nat → Int64} {pt : Nat → Nat → Int32} {np bg ho : Nat → Nat} {pa : Nat → Option Nat} (hD : tD nd D pn pt np bg I J Z) (hN : tN nd nn N ho pa I J) {k w9 : Int32} : cW l yy_M_of bb_M_of 3 (some .int) 1 8 4000 G M sz [.ref y, .int k, .int w9] (fun v u => v = some (.int (c_val (c_idx k nn) (fun j => c_of w9 (N j) (pa j) (ho j)))) ∧ rm G u y b nd nn I J Z kn ft fn mo 0) := by
  refine me_W (by decide) (Nat.le_of_ble_eq_true rfl) ?_
  intro p e s m below meth c ls hx hb hr hlocks hml hown hname ht hsz hM hK hZ hl
  have hown : s.vm.findClass RR_M = some m.cls := hown
  have hl : lv_has ls 3 [(0, .ref y), (1, .int k), (2, .int w9)] := hl
  have hS : va_S (fr M sz) s.heap s.heap [] := va_S.rf
  have hF : ∀ q, M q ≠ none → fr M sz q := fr_M
  have hA : ∀ q, s.heap.size ≤ q → fr M sz q := fun q h => fr_A q (by rw [← hsz]; exact h)
  obtain ⟨hyb, my, hA9, hnd, hnn⟩ := id hR
  obtain ⟨a0, a1, a2, a3, a4, a5, a6, a7, a8, a9, a10, a11, a12, a13, a14, a15, a16, a17⟩ := id hA9
  refine lv_aload_n hx hb dd_M_of_0 rfl (lv_at hl 0 rfl) ?_
  refine lv_iconst (v := 0) hx hb dd_M_of_1 (by decide) ?_
  refine mg_put (v := .int 0) hx hb ht ii_M tt_M tt_M_ok nn_M hown hK hM hS (hF _ (by rw [my]; exact Option.some_ne_none _)) my rfl 0 (by decide) wd_2_213 (fun _ h => h) (Or.inl rfl) rfl rfl rfl (Nat.le_of_ble_eq_true rfl) dd_M_of_2 (fun H locs hM hz hoq hS => ?_)
  have hM : hm G (mp_up M y (yC b nd nn kn ft fn mo 0)) H := hM
  have hF : ∀ z9, (mp_up M y (yC b nd nn kn ft fn mo 0)) z9 ≠ none → fr M sz z9 := hF_put hF (hF _ (by rw [my]; exact Option.some_ne_none _))
  have hR : rm G (mp_up M y (yC b nd nn kn ft fn mo 0)) y b nd nn I J Z kn ft fn mo 0 := rm_setX hR (by omega) (by omega)
  obtain ⟨u1, eu1⟩ : ∃ z, z = (mp_up M y (yC b nd nn kn ft fn mo 0)) := ⟨_, rfl⟩
  rw [← eu1] at hM hF hR
  clear eu1
  obtain ⟨hyb, my, hA9, hnd, hnn⟩ := id hR
  obtain ⟨a0, a1, a2, a3, a4, a5, a6, a7, a8, a9, a10, a11, a12, a13, a14, a15, a16, a17⟩ := id hA9
  refine lv_iload_n hx hb dd_M_of_5 rfl (lv_at hl 1 rfl) ?_
  refine lv_if_lt (tgt := 17) hx hb dd_M_of_6 (by decide) (fun c2 => ?_) (fun c2 => ?_)
  · refine lv_iconst (v := -1) hx hb dd_M_of_17 (by decide) ?_
    exact mw_i hx hb hr hlocks rfl hM hF hS (Nat.le_of_ble_eq_true rfl) (Nat.le_of_ble_eq_true rfl) ⟨by rw [c_idx_no (Or.inl c2)]; rfl, hR⟩ dd_M_of_18
  · refine lv_iload_n hx hb dd_M_of_9 rfl (lv_at hl 1 rfl) ?_
    refine lv_aload_n hx hb dd_M_of_10 rfl (lv_at hl 0 rfl) ?_
    refine mg_get hx hb ht ii_M hown hK hM my rfl 9 (by decide) wd_2_222 (fun _ h => h) rfl dd_M_of_11 ?_
    refine lv_icmp_lt (tgt := 19) hx hb dd_M_of_14 (by decide) (fun c3 => ?_) (fun c3 => ?_)
    · obtain ⟨j, hj, rfl⟩ := ix_of c2 c3 hnn
      refine lv_iload_n hx hb dd_M_of_19 rfl (lv_at hl 2 rfl) ?_
      refine lv_if_ne (tgt := 32) hx hb dd_M_of_20 (by decide) (fun c4 => ?_) (fun c4 => ?_)
      · refine lv_iload_n hx hb dd_M_of_32 rfl (lv_at hl 2 rfl) ?_
        refine lv_iconst (v := 1) hx hb dd_M_of_33 (by decide) ?_
        refine lv_icmp_ne (tgt := 46) hx hb dd_M_of_34 (by decide) (fun c5 => ?_) (fun c5 => ?_)
        · refine lv_iload_n hx hb dd_M_of_46 rfl (lv_at hl 2 rfl) ?_
          refine lv_iconst (v := 2) hx hb dd_M_of_47 (by decide) ?_
          refine lv_icmp_ne (tgt := 60) hx hb dd_M_of_48 (by decide) (fun c6 => ?_) (fun c6 => ?_)
          · refine lv_iload_n hx hb dd_M_of_60 rfl (lv_at hl 2 rfl) ?_
            refine lv_iconst (v := 3) hx hb dd_M_of_61 (by decide) ?_
            refine lv_icmp_ne (tgt := 74) hx hb dd_M_of_62 (by decide) (fun c7 => ?_) (fun c7 => ?_)
            · refine lv_iconst (v := -1) hx hb dd_M_of_74 (by decide) ?_
              exact mw_i hx hb hr hlocks rfl hM hF hS (Nat.le_of_ble_eq_true rfl) (Nat.le_of_ble_eq_true rfl) ⟨by rw [c_idx_yes hj hnn]; simp [c_val, c_of, c4, c5, c6, c7], hR⟩ dd_M_of_75
            · refine lv_aload_n hx hb dd_M_of_65 rfl (lv_at hl 0 rfl) ?_
              refine mg_get hx hb ht ii_M hown hK hM my rfl 16 (by decide) wd_2_229 (fun _ h => h) rfl dd_M_of_66 ?_
              refine lv_iload_n hx hb dd_M_of_69 rfl (lv_at hl 1 rfl) ?_
              refine mg_iald hx hb hK hM a13 (vp_in_nI (show j < 4096 by omega) (by decide)) dd_M_of_70 ?_
              rw [nI_clamp (show j < 2 ^ 31 by omega)]
              rw [(hN j (show j < nn by omega)).2.2.2.2.2.2.1]
              have hho := (hN j (show j < nn by omega)).2.2.2.2.2.2.2.2.1
              refine lv_goto (tgt := 75) hx hb dd_M_of_71 (by decide) ?_
              exact mw_i hx hb hr hlocks rfl hM hF hS (Nat.le_of_ble_eq_true rfl) (Nat.le_of_ble_eq_true rfl) ⟨by rw [c_idx_yes hj hnn]; simp [c_val, c_of, c4, c5, c6, eq_true c7], hR⟩ dd_M_of_75
          · refine lv_aload_n hx hb dd_M_of_51 rfl (lv_at hl 0 rfl) ?_
            refine mg_get hx hb ht ii_M hown hK hM my rfl 14 (by decide) wd_2_227 (fun _ h => h) rfl dd_M_of_52 ?_
            refine lv_iload_n hx hb dd_M_of_55 rfl (lv_at hl 1 rfl) ?_
            refine mg_iald hx hb hK hM a11 (vp_in_nI (show j < 4096 by omega) (by decide)) dd_M_of_56 ?_
            rw [nI_clamp (show j < 2 ^ 31 by omega)]
            rw [(hN j (show j < nn by omega)).2.2.2.2.1]
            refine lv_goto (tgt := 75) hx hb dd_M_of_57 (by decide) ?_
            exact mw_i hx hb hr hlocks rfl hM hF hS (Nat.le_of_ble_eq_true rfl) (Nat.le_of_ble_eq_true rfl) ⟨by rw [c_idx_yes hj hnn]; simp [c_val, c_of, c4, c5, eq_true c6], hR⟩ dd_M_of_75
        · refine lv_aload_n hx hb dd_M_of_37 rfl (lv_at hl 0 rfl) ?_
          refine mg_get hx hb ht ii_M hown hK hM my rfl 13 (by decide) wd_2_226 (fun _ h => h) rfl dd_M_of_38 ?_
          refine lv_iload_n hx hb dd_M_of_41 rfl (lv_at hl 1 rfl) ?_
          refine mg_iald hx hb hK hM a10 (vp_in_nI (show j < 4096 by omega) (by decide)) dd_M_of_42 ?_
          rw [nI_clamp (show j < 2 ^ 31 by omega)]
          rw [(hN j (show j < nn by omega)).2.2.2.1]
          refine lv_goto (tgt := 75) hx hb dd_M_of_43 (by decide) ?_
          exact mw_i hx hb hr hlocks rfl hM hF hS (Nat.le_of_ble_eq_true rfl) (Nat.le_of_ble_eq_true rfl) ⟨by rw [c_idx_yes hj hnn]; simp [c_val, c_of, c4, eq_true c5], hR⟩ dd_M_of_75
      · refine lv_aload_n hx hb dd_M_of_23 rfl (lv_at hl 0 rfl) ?_
        refine mg_get hx hb ht ii_M hown hK hM my rfl 10 (by decide) wd_2_223 (fun _ h => h) rfl dd_M_of_24 ?_
        refine lv_iload_n hx hb dd_M_of_27 rfl (lv_at hl 1 rfl) ?_
        refine mg_iald hx hb hK hM a7 (vp_in_nI (show j < 4096 by omega) (by decide)) dd_M_of_28 ?_
        rw [nI_clamp (show j < 2 ^ 31 by omega)]
        rw [(hN j (show j < nn by omega)).1]
        refine lv_goto (tgt := 75) hx hb dd_M_of_29 (by decide) ?_
        exact mw_i hx hb hr hlocks rfl hM hF hS (Nat.le_of_ble_eq_true rfl) (Nat.le_of_ble_eq_true rfl) ⟨by rw [c_idx_yes hj hnn]; simp [c_val, c_of, eq_true c4], hR⟩ dd_M_of_75
    · refine lv_iconst (v := -1) hx hb dd_M_of_17 (by decide) ?_
      exact mw_i hx hb hr hlocks rfl hM hF hS (Nat.le_of_ble_eq_true rfl) (Nat.le_of_ble_eq_true rfl) ⟨by rw [c_idx_no (Or.inr c3)]; rfl, hR⟩ dd_M_of_18

set_option maxHeartbeats 4000000 in
set_option maxRecDepth 100000 in
theorem cc_M_look {l : Launch} {G : gC} {M : mC} {sz : Nat} {y b nd nn : Nat} {I : Nat → Nat → Int32} {J : Nat → Nat → Int64} {Z : Nat → Int32} {kn : Bool} {ft fn mo th : Int32} (hR : rm G M y b nd nn I J Z kn ft fn mo th) {D : Nat → dR} {N : Nat → nR} {pn : Nat → Nat → Int64} {pt : Nat → Nat → Int32} {np bg ho : Nat → Nat} {pa : Nat → Option Nat} (hD : tD nd D pn pt np bg I J Z) (hN : tN nd nn N ho pa I J) {w9 : Int32} : cW l yy_M_look bb_M_look 2 (some .int) 2 8 4000 G M sz [.ref y, .int w9] (fun v u => v = some (.int (c_look w9 nd nn ft fn (m_whole nd nn bg N pa) kn mo)) ∧ rm G u y b nd nn I J Z kn ft fn mo 0) := by
  refine me_W (by decide) (Nat.le_of_ble_eq_true rfl) ?_
  intro p e s m below meth c ls hx hb hr hlocks hml hown hname ht hsz hM hK hZ hl
  have hown : s.vm.findClass RR_M = some m.cls := hown
  have hl : lv_has ls 2 [(0, .ref y), (1, .int w9)] := hl
  have hS : va_S (fr M sz) s.heap s.heap [] := va_S.rf
  have hF : ∀ q, M q ≠ none → fr M sz q := fr_M
  have hA : ∀ q, s.heap.size ≤ q → fr M sz q := fun q h => fr_A q (by rw [← hsz]; exact h)
  obtain ⟨hyb, my, hA9, hnd, hnn⟩ := id hR
  obtain ⟨a0, a1, a2, a3, a4, a5, a6, a7, a8, a9, a10, a11, a12, a13, a14, a15, a16, a17⟩ := id hA9
  refine lv_aload_n hx hb dd_M_look_0 rfl (lv_at hl 0 rfl) ?_
  refine lv_iconst (v := 0) hx hb dd_M_look_1 (by decide) ?_
  refine mg_put (v := .int 0) hx hb ht ii_M tt_M tt_M_ok nn_M hown hK hM hS (hF _ (by rw [my]; exact Option.some_ne_none _)) my rfl 0 (by decide) wd_2_213 (fun _ h => h) (Or.inl rfl) rfl rfl rfl (Nat.le_of_ble_eq_true rfl) dd_M_look_2 (fun H locs hM hz hoq hS => ?_)
  have hM : hm G (mp_up M y (yC b nd nn kn ft fn mo 0)) H := hM
  have hF : ∀ z9, (mp_up M y (yC b nd nn kn ft fn mo 0)) z9 ≠ none → fr M sz z9 := hF_put hF (hF _ (by rw [my]; exact Option.some_ne_none _))
  have hR : rm G (mp_up M y (yC b nd nn kn ft fn mo 0)) y b nd nn I J Z kn ft fn mo 0 := rm_setX hR (by omega) (by omega)
  obtain ⟨u1, eu1⟩ : ∃ z, z = (mp_up M y (yC b nd nn kn ft fn mo 0)) := ⟨_, rfl⟩
  rw [← eu1] at hM hF hR
  clear eu1
  obtain ⟨hyb, my, hA9, hnd, hnn⟩ := id hR
  obtain ⟨a0, a1, a2, a3, a4, a5, a6, a7, a8, a9, a10, a11, a12, a13, a14, a15, a16, a17⟩ := id hA9
  refine lv_iload_n hx hb dd_M_look_5 rfl (lv_at hl 1 rfl) ?_
  by_cases c3 : w9 = 0
  · refine lv_tableIn (tgt := 44) hx hb dd_M_look_6 (by rw [c3]; decide) (by rw [c3]; decide) (by rw [c3]; rfl) (by decide) ?_
    refine lv_aload_n hx hb dd_M_look_44 rfl (lv_at hl 0 rfl) ?_
    refine mg_get hx hb ht ii_M hown hK hM my rfl 1 (by decide) wd_2_214 (fun _ h => h) rfl dd_M_look_45 ?_
    exact mw_i hx hb hr hlocks rfl hM hF hS (Nat.le_of_ble_eq_true rfl) (Nat.le_of_ble_eq_true rfl) ⟨by simp [c_look, bI, eq_true c3], hR⟩ dd_M_look_48
  by_cases c4 : w9 = 1
  · refine lv_tableIn (tgt := 49) hx hb dd_M_look_6 (by rw [c4]; decide) (by rw [c4]; decide) (by rw [c4]; rfl) (by decide) ?_
    refine lv_aload_n hx hb dd_M_look_49 rfl (lv_at hl 0 rfl) ?_
    refine mg_get hx hb ht ii_M hown hK hM my rfl 9 (by decide) wd_2_222 (fun _ h => h) rfl dd_M_look_50 ?_
    exact mw_i hx hb hr hlocks rfl hM hF hS (Nat.le_of_ble_eq_true rfl) (Nat.le_of_ble_eq_true rfl) ⟨by simp [c_look, bI, c3, eq_true c4], hR⟩ dd_M_look_53
  by_cases c5 : w9 = 2
  · refine lv_tableIn (tgt := 54) hx hb dd_M_look_6 (by rw [c5]; decide) (by rw [c5]; decide) (by rw [c5]; rfl) (by decide) ?_
    refine lv_aload_n hx hb dd_M_look_54 rfl (lv_at hl 0 rfl) ?_
    refine mg_get hx hb ht ii_M hown hK hM my rfl 22 (by decide) wd_2_235 (fun _ h => h) rfl dd_M_look_55 ?_
    exact mw_i hx hb hr hlocks rfl hM hF hS (Nat.le_of_ble_eq_true rfl) (Nat.le_of_ble_eq_true rfl) ⟨by simp [c_look, bI, c3, c4, eq_true c5], hR⟩ dd_M_look_58
  by_cases c6 : w9 = 3
  · refine lv_tableIn (tgt := 59) hx hb dd_M_look_6 (by rw [c6]; decide) (by rw [c6]; decide) (by rw [c6]; rfl) (by decide) ?_
    refine lv_aload_n hx hb dd_M_look_59 rfl (lv_at hl 0 rfl) ?_
    refine mg_get hx hb ht ii_M hown hK hM my rfl 23 (by decide) wd_2_236 (fun _ h => h) rfl dd_M_look_60 ?_
    exact mw_i hx hb hr hlocks rfl hM hF hS (Nat.le_of_ble_eq_true rfl) (Nat.le_of_ble_eq_true rfl) ⟨by simp [c_look, bI, c3, c4, c5, eq_true c6], hR⟩ dd_M_look_63
  by_cases c7 : w9 = 4
  · refine lv_tableIn (tgt := 64) hx hb dd_M_look_6 (by rw [c7]; decide) (by rw [c7]; decide) (by rw [c7]; rfl) (by decide) ?_
    refine lv_aload_n hx hb dd_M_look_64 rfl (lv_at hl 0 rfl) ?_
    refine mc_V (As := []) (rest := []) 0 (cc_M_isWhole hR hD hN) hx hb hml hown ht hM hK hl.1 lk_M_90 (by decide +kernel) (by decide) my rfl rfl rfl (Nat.le_of_ble_eq_true rfl) dd_M_look_65 ⟨Nat.le_of_ble_eq_true rfl, Nat.le_of_ble_eq_true rfl⟩ ?_
    refine lb_if_eq (tgt := 75) hx hb dd_M_look_68 (by decide) (fun c8 => ?_) (fun c8 => ?_)
    · refine lv_iconst (v := 0) hx hb dd_M_look_75 (by decide) ?_
      exact mw_i hx hb hr hlocks rfl hM hF hS (Nat.le_of_ble_eq_true rfl) (Nat.le_of_ble_eq_true rfl) ⟨by simp [c_look, bI, c3, c4, c5, c6, eq_true c7, c8], hR⟩ dd_M_look_76
    · refine lv_iconst (v := 1) hx hb dd_M_look_71 (by decide) ?_
      refine lv_goto (tgt := 76) hx hb dd_M_look_72 (by decide) ?_
      exact mw_i hx hb hr hlocks rfl hM hF hS (Nat.le_of_ble_eq_true rfl) (Nat.le_of_ble_eq_true rfl) ⟨by simp [c_look, bI, c3, c4, c5, c6, eq_true c7, c8], hR⟩ dd_M_look_76
  by_cases c9 : w9 = 5
  · refine lv_tableIn (tgt := 77) hx hb dd_M_look_6 (by rw [c9]; decide) (by rw [c9]; decide) (by rw [c9]; rfl) (by decide) ?_
    refine lv_aload_n hx hb dd_M_look_77 rfl (lv_at hl 0 rfl) ?_
    refine mg_get hx hb ht ii_M hown hK hM my rfl 21 (by decide) wd_2_234 (fun _ h => h) rfl dd_M_look_78 ?_
    refine lb_if_eq (tgt := 91) hx hb dd_M_look_81 (by decide) (fun c10 => ?_) (fun c10 => ?_)
    · refine lv_iconst (v := -1) hx hb dd_M_look_91 (by decide) ?_
      exact mw_i hx hb hr hlocks rfl hM hF hS (Nat.le_of_ble_eq_true rfl) (Nat.le_of_ble_eq_true rfl) ⟨by simp [c_look, bI, c3, c4, c5, c6, c7, eq_true c9, c10], hR⟩ dd_M_look_92
    · refine lv_aload_n hx hb dd_M_look_84 rfl (lv_at hl 0 rfl) ?_
      refine mg_get hx hb ht ii_M hown hK hM my rfl 24 (by decide) wd_2_237 (fun _ h => h) rfl dd_M_look_85 ?_
      refine lv_goto (tgt := 92) hx hb dd_M_look_88 (by decide) ?_
      exact mw_i hx hb hr hlocks rfl hM hF hS (Nat.le_of_ble_eq_true rfl) (Nat.le_of_ble_eq_true rfl) ⟨by simp [c_look, bI, c3, c4, c5, c6, c7, eq_true c9, c10], hR⟩ dd_M_look_92
  have c11 : (w9 : Int32).toInt < 0 ∨ 5 < (w9 : Int32).toInt := by (have z0 := lv_neT (a := 0) c3 (by decide); have z1 := lv_neT (a := 1) c4 (by decide); have z2 := lv_neT (a := 2) c5 (by decide); have z3 := lv_neT (a := 3) c6 (by decide); have z4 := lv_neT (a := 4) c7 (by decide); have z5 := lv_neT (a := 5) c9 (by decide); omega)
  refine lv_tableOut (tgt := 93) hx hb dd_M_look_6 c11 (by decide) ?_
  refine lv_iconst (v := -1) hx hb dd_M_look_93 (by decide) ?_
  exact mw_i hx hb hr hlocks rfl hM hF hS (Nat.le_of_ble_eq_true rfl) (Nat.le_of_ble_eq_true rfl) ⟨by simp [c_look, bI, c3, c4, c5, c6, c7, c9], hR⟩ dd_M_look_94

set_option maxHeartbeats 4000000 in
set_option maxRecDepth 100000 in
theorem cc_M_clear {l : Launch} {G : gC} {M : mC} {sz : Nat} {y b nd nn : Nat} {I : Nat → Nat → Int32} {J : Nat → Nat → Int64} {Z : Nat → Int32} {kn : Bool} {ft fn mo th : Int32} (hR : rm G M y b nd nn I J Z kn ft fn mo th) : cW l yy_M_clear bb_M_clear 1 none 1 8 4000 G M sz [.ref y] (fun v u => v = none ∧ rm G u y b 0 0 I J Z false 0 (-1) mo 0) := by
  refine me_W (by decide) (Nat.le_of_ble_eq_true rfl) ?_
  intro p e s m below meth c ls hx hb hr hlocks hml hown hname ht hsz hM hK hZ hl
  have hown : s.vm.findClass RR_M = some m.cls := hown
  have hl : lv_has ls 1 [(0, .ref y)] := hl
  have hS : va_S (fr M sz) s.heap s.heap [] := va_S.rf
  have hF : ∀ q, M q ≠ none → fr M sz q := fr_M
  have hA : ∀ q, s.heap.size ≤ q → fr M sz q := fun q h => fr_A q (by rw [← hsz]; exact h)
  obtain ⟨hyb, my, hA9, hnd, hnn⟩ := id hR
  obtain ⟨a0, a1, a2, a3, a4, a5, a6, a7, a8, a9, a10, a11, a12, a13, a14, a15, a16, a17⟩ := id hA9
  refine lv_aload_n hx hb dd_M_clear_0 rfl (lv_at hl 0 rfl) ?_
  refine lv_iconst (v := 0) hx hb dd_M_clear_1 (by decide) ?_
  refine mg_put (v := .int 0) hx hb ht ii_M tt_M tt_M_ok nn_M hown hK hM hS (hF _ (by rw [my]; exact Option.some_ne_none _)) my rfl 0 (by decide) wd_2_213 (fun _ h => h) (Or.inl rfl) rfl rfl rfl (Nat.le_of_ble_eq_true rfl) dd_M_clear_2 (fun H locs hM hz hoq hS => ?_)
  have hM : hm G (mp_up M y (yC b nd nn kn ft fn mo 0)) H := hM
  have hF : ∀ z9, (mp_up M y (yC b nd nn kn ft fn mo 0)) z9 ≠ none → fr M sz z9 := hF_put hF (hF _ (by rw [my]; exact Option.some_ne_none _))
  have hR : rm G (mp_up M y (yC b nd nn kn ft fn mo 0)) y b nd nn I J Z kn ft fn mo 0 := rm_setX hR (by omega) (by omega)
  obtain ⟨u1, eu1⟩ : ∃ z, z = (mp_up M y (yC b nd nn kn ft fn mo 0)) := ⟨_, rfl⟩
  rw [← eu1] at hM hF hR
  clear eu1
  obtain ⟨hyb, my, hA9, hnd, hnn⟩ := id hR
  obtain ⟨a0, a1, a2, a3, a4, a5, a6, a7, a8, a9, a10, a11, a12, a13, a14, a15, a16, a17⟩ := id hA9
  refine lv_aload_n hx hb dd_M_clear_5 rfl (lv_at hl 0 rfl) ?_
  refine lv_iconst (v := 0) hx hb dd_M_clear_6 (by decide) ?_
  refine mg_put (v := .int 0) hx hb ht ii_M tt_M tt_M_ok nn_M hown hK hM hS (hF _ (by rw [my]; exact Option.some_ne_none _)) my rfl 1 (by decide) wd_2_214 (fun _ h => h) (Or.inl rfl) rfl rfl rfl (Nat.le_of_ble_eq_true rfl) dd_M_clear_7 (fun H locs hM hz hoq hS => ?_)
  have hM : hm G (mp_up u1 y (yC b 0 nn kn ft fn mo 0)) H := hM
  have hF : ∀ z9, (mp_up u1 y (yC b 0 nn kn ft fn mo 0)) z9 ≠ none → fr M sz z9 := hF_put hF (hF _ (by rw [my]; exact Option.some_ne_none _))
  have hR : rm G (mp_up u1 y (yC b 0 nn kn ft fn mo 0)) y b 0 nn I J Z kn ft fn mo 0 := rm_setX hR (by omega) (by omega)
  obtain ⟨u2, eu2⟩ : ∃ z, z = (mp_up u1 y (yC b 0 nn kn ft fn mo 0)) := ⟨_, rfl⟩
  rw [← eu2] at hM hF hR
  clear eu2
  obtain ⟨hyb, my, hA9, hnd, hnn⟩ := id hR
  obtain ⟨a0, a1, a2, a3, a4, a5, a6, a7, a8, a9, a10, a11, a12, a13, a14, a15, a16, a17⟩ := id hA9
  refine lv_aload_n hx hb dd_M_clear_10 rfl (lv_at hl 0 rfl) ?_
  refine lv_iconst (v := 0) hx hb dd_M_clear_11 (by decide) ?_
  refine mg_put (v := .int 0) hx hb ht ii_M tt_M tt_M_ok nn_M hown hK hM hS (hF _ (by rw [my]; exact Option.some_ne_none _)) my rfl 9 (by decide) wd_2_222 (fun _ h => h) (Or.inl rfl) rfl rfl rfl (Nat.le_of_ble_eq_true rfl) dd_M_clear_12 (fun H locs hM hz hoq hS => ?_)
  have hM : hm G (mp_up u2 y (yC b 0 0 kn ft fn mo 0)) H := hM
  have hF : ∀ z9, (mp_up u2 y (yC b 0 0 kn ft fn mo 0)) z9 ≠ none → fr M sz z9 := hF_put hF (hF _ (by rw [my]; exact Option.some_ne_none _))
  have hR : rm G (mp_up u2 y (yC b 0 0 kn ft fn mo 0)) y b 0 0 I J Z kn ft fn mo 0 := rm_setX hR (by omega) (by omega)
  obtain ⟨u3, eu3⟩ : ∃ z, z = (mp_up u2 y (yC b 0 0 kn ft fn mo 0)) := ⟨_, rfl⟩
  rw [← eu3] at hM hF hR
  clear eu3
  obtain ⟨hyb, my, hA9, hnd, hnn⟩ := id hR
  obtain ⟨a0, a1, a2, a3, a4, a5, a6, a7, a8, a9, a10, a11, a12, a13, a14, a15, a16, a17⟩ := id hA9
  refine lv_aload_n hx hb dd_M_clear_15 rfl (lv_at hl 0 rfl) ?_
  refine lv_iconst (v := 0) hx hb dd_M_clear_16 (by decide) ?_
  refine mg_put (v := .int 0) hx hb ht ii_M tt_M tt_M_ok nn_M hown hK hM hS (hF _ (by rw [my]; exact Option.some_ne_none _)) my rfl 21 (by decide) wd_2_234 (fun _ h => h) (Or.inl rfl) rfl rfl rfl (Nat.le_of_ble_eq_true rfl) dd_M_clear_17 (fun H locs hM hz hoq hS => ?_)
  have hM : hm G (mp_up u3 y (yC b 0 0 false ft fn mo 0)) H := hM
  have hF : ∀ z9, (mp_up u3 y (yC b 0 0 false ft fn mo 0)) z9 ≠ none → fr M sz z9 := hF_put hF (hF _ (by rw [my]; exact Option.some_ne_none _))
  have hR : rm G (mp_up u3 y (yC b 0 0 false ft fn mo 0)) y b 0 0 I J Z false ft fn mo 0 := rm_setX hR (by omega) (by omega)
  obtain ⟨u4, eu4⟩ : ∃ z, z = (mp_up u3 y (yC b 0 0 false ft fn mo 0)) := ⟨_, rfl⟩
  rw [← eu4] at hM hF hR
  clear eu4
  obtain ⟨hyb, my, hA9, hnd, hnn⟩ := id hR
  obtain ⟨a0, a1, a2, a3, a4, a5, a6, a7, a8, a9, a10, a11, a12, a13, a14, a15, a16, a17⟩ := id hA9
  refine lv_aload_n hx hb dd_M_clear_20 rfl (lv_at hl 0 rfl) ?_
  refine lv_iconst (v := 0) hx hb dd_M_clear_21 (by decide) ?_
  refine mg_put (v := .int 0) hx hb ht ii_M tt_M tt_M_ok nn_M hown hK hM hS (hF _ (by rw [my]; exact Option.some_ne_none _)) my rfl 22 (by decide) wd_2_235 (fun _ h => h) (Or.inl rfl) rfl rfl rfl (Nat.le_of_ble_eq_true rfl) dd_M_clear_22 (fun H locs hM hz hoq hS => ?_)
  have hM : hm G (mp_up u4 y (yC b 0 0 false 0 fn mo 0)) H := hM
  have hF : ∀ z9, (mp_up u4 y (yC b 0 0 false 0 fn mo 0)) z9 ≠ none → fr M sz z9 := hF_put hF (hF _ (by rw [my]; exact Option.some_ne_none _))
  have hR : rm G (mp_up u4 y (yC b 0 0 false 0 fn mo 0)) y b 0 0 I J Z false 0 fn mo 0 := rm_setX hR (by omega) (by omega)
  obtain ⟨u5, eu5⟩ : ∃ z, z = (mp_up u4 y (yC b 0 0 false 0 fn mo 0)) := ⟨_, rfl⟩
  rw [← eu5] at hM hF hR
  clear eu5
  obtain ⟨hyb, my, hA9, hnd, hnn⟩ := id hR
  obtain ⟨a0, a1, a2, a3, a4, a5, a6, a7, a8, a9, a10, a11, a12, a13, a14, a15, a16, a17⟩ := id hA9
  refine lv_aload_n hx hb dd_M_clear_25 rfl (lv_at hl 0 rfl) ?_
  refine lv_iconst (v := -1) hx hb dd_M_clear_26 (by decide) ?_
  refine mg_put (v := .int (-1)) hx hb ht ii_M tt_M tt_M_ok nn_M hown hK hM hS (hF _ (by rw [my]; exact Option.some_ne_none _)) my rfl 23 (by decide) wd_2_236 (fun _ h => h) (Or.inl rfl) rfl rfl rfl (Nat.le_of_ble_eq_true rfl) dd_M_clear_27 (fun H locs hM hz hoq hS => ?_)
  have hM : hm G (mp_up u5 y (yC b 0 0 false 0 (-1) mo 0)) H := hM
  have hF : ∀ z9, (mp_up u5 y (yC b 0 0 false 0 (-1) mo 0)) z9 ≠ none → fr M sz z9 := hF_put hF (hF _ (by rw [my]; exact Option.some_ne_none _))
  have hR : rm G (mp_up u5 y (yC b 0 0 false 0 (-1) mo 0)) y b 0 0 I J Z false 0 (-1) mo 0 := rm_setX hR (by omega) (by omega)
  obtain ⟨u6, eu6⟩ : ∃ z, z = (mp_up u5 y (yC b 0 0 false 0 (-1) mo 0)) := ⟨_, rfl⟩
  rw [← eu6] at hM hF hR
  clear eu6
  obtain ⟨hyb, my, hA9, hnd, hnn⟩ := id hR
  obtain ⟨a0, a1, a2, a3, a4, a5, a6, a7, a8, a9, a10, a11, a12, a13, a14, a15, a16, a17⟩ := id hA9
  exact mw_v hx hb hr hlocks hM hF hS (Nat.le_of_ble_eq_true rfl) (Nat.le_of_ble_eq_true rfl) ⟨rfl, hR⟩ dd_M_clear_30
