set_option maxHeartbeats 4000000 in
set_option maxRecDepth 100000 in
theorem cc_N_countVariables {l : Launch} {G : gC} {M : mC} {sz : Nat} {h0 : Nat} {r : nR} (m0 : M h0 = some (nC r)) {d : dR} (md : M (n_ho r) = some (dC d)) {q : nR} (mp : ∀ y, n_pa r = some y → M y = some (nC q)) (hne : ∀ y, n_pa r = some y → y ≠ h0) : cW l yy_N_countVariables bb_N_countVariables 1 none 2 0 0 G M sz [.ref h0] (fun v u => v = none ∧ u = mp_up M h0 (nC (n_s_va r (n_count r q d)))) := by
  refine me_W (by decide) (Nat.le_of_ble_eq_true rfl) ?_
  intro p e s m below meth c ls hx hb hr hlocks hml hown hname ht hsz hM hK hZ hl
  have hown : s.vm.findClass RR_N = some m.cls := hown
  have hl : lv_has ls 1 [(0, .ref h0)] := hl
  have hS : va_S (fr M sz) s.heap s.heap [] := va_S.rf
  have hF : ∀ q, M q ≠ none → fr M sz q := fr_M
  have hA : ∀ q, s.heap.size ≤ q → fr M sz q := fun q h => fr_A q (by rw [← hsz]; exact h)
  refine lv_aload_n hx hb dd_N_countVariables_0 rfl (lv_at hl 0 rfl) ?_
  refine mg_get hx hb ht ii_N hown hK hM m0 rfl 2 (by decide) wd_2_36 (fun _ h => h) rfl dd_N_countVariables_1 ?_
  refine lr_ifnonnull (tgt := 21) hx hb dd_N_countVariables_4 (by decide) (fun y1 ey1 => ?_) (fun ey1 => ?_)
  · have my1 := mp y1 ey1
    refine lv_aload_n hx hb dd_N_countVariables_21 rfl (lv_at hl 0 rfl) ?_
    refine lv_aload_n hx hb dd_N_countVariables_22 rfl (lv_at hl 0 rfl) ?_
    refine mg_get (v := .ref y1) hx hb ht ii_N hown hK hM m0 rfl 2 (by decide) wd_2_36 (fun _ h => h) (congrArg (fun z => some (va_rf z)) ey1) dd_N_countVariables_23 ?_
    refine mg_get hx hb ht ii_N hown hK hM my1 rfl 13 (by decide) wd_2_59 (fun _ h => h) rfl dd_N_countVariables_26 ?_
    refine lv_aload_n hx hb dd_N_countVariables_29 rfl (lv_at hl 0 rfl) ?_
    refine mc_V (As := []) (rest := [.int (n_va q), .ref h0]) 0 (cc_N_isLastPart m0 (q := q) mp) hx hb hml hown ht hM hK hl.1 lk_N_65 (by decide +kernel) (by decide) m0 rfl rfl rfl (Nat.le_of_ble_eq_true rfl) dd_N_countVariables_30 ⟨Nat.zero_le _, Nat.zero_le _⟩ ?_
    refine lb_if_eq (tgt := 46) hx hb dd_N_countVariables_33 (by decide) (fun c2 => ?_) (fun c2 => ?_)
    · refine lv_iconst (v := 0) hx hb dd_N_countVariables_46 (by decide) ?_
      refine lv_iadd hx hb dd_N_countVariables_47 ?_
      refine mg_put (v := .int ((n_va q) + 0)) hx hb ht ii_N tt_N tt_N_ok nn_N hown hK hM hS (hF _ (by rw [m0]; exact Option.some_ne_none _)) m0 rfl 13 (by decide) wd_2_59 (fun _ h => h) (Or.inl rfl) rfl rfl rfl (Nat.le_of_ble_eq_true rfl) dd_N_countVariables_48 (fun H locs hM hz hoq hS => ?_)
      have hsz := hz.trans hsz
      have hM : hm G (mp_up M h0 (nC (n_s_va r ((n_va q) + 0)))) H := hM
      have hF : ∀ z9, (mp_up M h0 (nC (n_s_va r ((n_va q) + 0)))) z9 ≠ none → fr M sz z9 := hF_put hF (hF _ (by rw [m0]; exact Option.some_ne_none _))
      have m0 : (mp_up M h0 (nC (n_s_va r ((n_va q) + 0)))) h0 = some (nC (n_s_va r ((n_va q) + 0))) := mp_self _ _ _
      exact mw_v hx hb hr hlocks hM hF hS (Nat.zero_le _) (Nat.zero_le _) ⟨rfl, congrArg (a₁ := ((n_va q) + 0)) (a₂ := n_count r q d) (fun z => mp_up M h0 (nC (n_s_va r z))) (by simp [n_count, ey1, c2])⟩ dd_N_countVariables_51
    · refine lv_aload_n hx hb dd_N_countVariables_36 rfl (lv_at hl 0 rfl) ?_
      refine mg_get (v := .ref y1) hx hb ht ii_N hown hK hM m0 rfl 2 (by decide) wd_2_36 (fun _ h => h) (congrArg (fun z => some (va_rf z)) ey1) dd_N_countVariables_37 ?_
      refine mc_V (As := []) (rest := [.int (n_va q), .ref h0]) 0 (cc_N_variablesOfLastPart my1) hx hb hml hown ht hM hK hl.1 lk_N_69 (by decide +kernel) (by decide) my1 rfl rfl rfl (Nat.le_of_ble_eq_true rfl) dd_N_countVariables_40 ⟨Nat.zero_le _, Nat.zero_le _⟩ ?_
      refine lv_goto (tgt := 47) hx hb dd_N_countVariables_43 (by decide) ?_
      refine lv_iadd hx hb dd_N_countVariables_47 ?_
      refine mg_put (v := .int ((n_va q) + (n_varsLast q))) hx hb ht ii_N tt_N tt_N_ok nn_N hown hK hM hS (hF _ (by rw [m0]; exact Option.some_ne_none _)) m0 rfl 13 (by decide) wd_2_59 (fun _ h => h) (Or.inl rfl) rfl rfl rfl (Nat.le_of_ble_eq_true rfl) dd_N_countVariables_48 (fun H locs hM hz hoq hS => ?_)
      have hsz := hz.trans hsz
      have hM : hm G (mp_up M h0 (nC (n_s_va r ((n_va q) + (n_varsLast q))))) H := hM
      have hF : ∀ z9, (mp_up M h0 (nC (n_s_va r ((n_va q) + (n_varsLast q))))) z9 ≠ none → fr M sz z9 := hF_put hF (hF _ (by rw [m0]; exact Option.some_ne_none _))
      have m0 : (mp_up M h0 (nC (n_s_va r ((n_va q) + (n_varsLast q))))) h0 = some (nC (n_s_va r ((n_va q) + (n_varsLast q)))) := mp_self _ _ _
      exact mw_v hx hb hr hlocks hM hF hS (Nat.zero_le _) (Nat.zero_le _) ⟨rfl, congrArg (a₁ := ((n_va q) + (n_varsLast q))) (a₂ := n_count r q d) (fun z => mp_up M h0 (nC (n_s_va r z))) (by simp [n_count, ey1, c2])⟩ dd_N_countVariables_51
  · refine lv_aload_n hx hb dd_N_countVariables_7 rfl (lv_at hl 0 rfl) ?_
    refine lv_aload_n hx hb dd_N_countVariables_8 rfl (lv_at hl 0 rfl) ?_
    refine mg_get hx hb ht ii_N hown hK hM m0 rfl 1 (by decide) wd_2_34 (fun _ h => h) rfl dd_N_countVariables_9 ?_
    refine mg_get hx hb ht ii_D hown hK hM md rfl 6 (by decide) wd_1_140 (fun _ h => h) rfl dd_N_countVariables_12 ?_
    refine mg_put (v := .int (d_np d)) hx hb ht ii_N tt_N tt_N_ok nn_N hown hK hM hS (hF _ (by rw [m0]; exact Option.some_ne_none _)) m0 rfl 13 (by decide) wd_2_59 (fun _ h => h) (Or.inl rfl) rfl rfl rfl (Nat.le_of_ble_eq_true rfl) dd_N_countVariables_15 (fun H locs hM hz hoq hS => ?_)
    have hsz := hz.trans hsz
    have hM : hm G (mp_up M h0 (nC (n_s_va r (d_np d)))) H := hM
    have hF : ∀ z9, (mp_up M h0 (nC (n_s_va r (d_np d)))) z9 ≠ none → fr M sz z9 := hF_put hF (hF _ (by rw [m0]; exact Option.some_ne_none _))
    have m0 : (mp_up M h0 (nC (n_s_va r (d_np d)))) h0 = some (nC (n_s_va r (d_np d))) := mp_self _ _ _
    refine lv_goto (tgt := 51) hx hb dd_N_countVariables_18 (by decide) ?_
    exact mw_v hx hb hr hlocks hM hF hS (Nat.zero_le _) (Nat.zero_le _) ⟨rfl, congrArg (a₁ := (d_np d)) (a₂ := n_count r q d) (fun z => mp_up M h0 (nC (n_s_va r z))) (by simp [n_count, ey1])⟩ dd_N_countVariables_51

set_option maxHeartbeats 4000000 in
set_option maxRecDepth 100000 in
theorem cc_N_aimAt_n {l : Launch} {G : gC} {M : mC} {sz : Nat} {h0 : Nat} {r : nR} (m0 : M h0 = some (nC r)) : cW l yy_N_aimAt bb_N_aimAt 3 (some .boolean) 0 0 0 G M sz [.ref h0, .null] (fun v u => v = some (.int 0) ∧ u = M) := by
  refine me_W (by decide) (Nat.le_of_ble_eq_true rfl) ?_
  intro p e s m below meth c ls hx hb hr hlocks hml hown hname ht hsz hM hK hZ hl
  have hown : s.vm.findClass RR_N = some m.cls := hown
  have hl : lv_has ls 3 [(0, .ref h0), (1, .null)] := hl
  have hS : va_S (fr M sz) s.heap s.heap [] := va_S.rf
  have hF : ∀ q, M q ≠ none → fr M sz q := fr_M
  have hA : ∀ q, s.heap.size ≤ q → fr M sz q := fun q h => fr_A q (by rw [← hsz]; exact h)
  refine lv_aload_n hx hb dd_N_aimAt_0 rfl (lv_at hl 0 rfl) ?_
  refine mg_get hx hb ht ii_N hown hK hM m0 rfl 4 (by decide) wd_2_41 (fun _ h => h) rfl dd_N_aimAt_1 ?_
  refine lv_bipush (v := 23) hx hb dd_N_aimAt_4 (by decide) ?_
  refine lv_icmp_ne (tgt := 13) hx hb dd_N_aimAt_6 (by decide) (fun c1 => ?_) (fun c1 => ?_)
  · refine lv_iconst (v := 0) hx hb dd_N_aimAt_13 (by decide) ?_
    refine lv_istore_n (lv' := [(2, .int 0), (0, .ref h0), (1, .null)]) hx hb dd_N_aimAt_14 rfl hl (by decide) rfl (fun ls hl => ?_)
    refine lv_aload_nN hx hb dd_N_aimAt_15 rfl (lv_at hl 2 rfl) ?_
    refine lv_ifnullN (tgt := 38) hx hb dd_N_aimAt_16 (by decide) ?_
    refine lv_iconst (v := 0) hx hb dd_N_aimAt_38 (by decide) ?_
    exact mw_i hx hb hr hlocks rfl hM hF hS (Nat.zero_le _) (Nat.zero_le _) ⟨rfl, rfl⟩ dd_N_aimAt_39
  · refine lv_iconst (v := 1) hx hb dd_N_aimAt_9 (by decide) ?_
    refine lv_goto (tgt := 14) hx hb dd_N_aimAt_10 (by decide) ?_
    refine lv_istore_n (lv' := [(2, .int 1), (0, .ref h0), (1, .null)]) hx hb dd_N_aimAt_14 rfl hl (by decide) rfl (fun ls hl => ?_)
    refine lv_aload_nN hx hb dd_N_aimAt_15 rfl (lv_at hl 2 rfl) ?_
    refine lv_ifnullN (tgt := 38) hx hb dd_N_aimAt_16 (by decide) ?_
    refine lv_iconst (v := 0) hx hb dd_N_aimAt_38 (by decide) ?_
    exact mw_i hx hb hr hlocks rfl hM hF hS (Nat.zero_le _) (Nat.zero_le _) ⟨rfl, rfl⟩ dd_N_aimAt_39

set_option maxHeartbeats 4000000 in
set_option maxRecDepth 100000 in
theorem cc_N_aimAt_s {l : Launch} {G : gC} {M : mC} {sz : Nat} {h0 : Nat} {r : nR} (m0 : M h0 = some (nC r)) {y : Nat} {d : dR} (md : M y = some (dC d)) (hne : y ≠ h0) : cW l yy_N_aimAt bb_N_aimAt 3 (some .boolean) 0 0 0 G M sz [.ref h0, .ref y] (fun v u => v = some (.int (bI (n_aimOk r d))) ∧ u = (if n_aimOk r d = true then mp_up M h0 (nC (n_s_vt (n_s_ca r (some y)) (d_vt d))) else M)) := by
  refine me_W (by decide) (Nat.le_of_ble_eq_true rfl) ?_
  intro p e s m below meth c ls hx hb hr hlocks hml hown hname ht hsz hM hK hZ hl
  have hown : s.vm.findClass RR_N = some m.cls := hown
  have hl : lv_has ls 3 [(0, .ref h0), (1, .ref y)] := hl
  have hS : va_S (fr M sz) s.heap s.heap [] := va_S.rf
  have hF : ∀ q, M q ≠ none → fr M sz q := fr_M
  have hA : ∀ q, s.heap.size ≤ q → fr M sz q := fun q h => fr_A q (by rw [← hsz]; exact h)
  refine lv_aload_n hx hb dd_N_aimAt_0 rfl (lv_at hl 0 rfl) ?_
  refine mg_get hx hb ht ii_N hown hK hM m0 rfl 4 (by decide) wd_2_41 (fun _ h => h) rfl dd_N_aimAt_1 ?_
  refine lv_bipush (v := 23) hx hb dd_N_aimAt_4 (by decide) ?_
  refine lv_icmp_ne (tgt := 13) hx hb dd_N_aimAt_6 (by decide) (fun c1 => ?_) (fun c1 => ?_)
  · refine lv_iconst (v := 0) hx hb dd_N_aimAt_13 (by decide) ?_
    refine lv_istore_n (lv' := [(2, .int 0), (0, .ref h0), (1, .ref y)]) hx hb dd_N_aimAt_14 rfl hl (by decide) rfl (fun ls hl => ?_)
    refine lv_aload_n hx hb dd_N_aimAt_15 rfl (lv_at hl 2 rfl) ?_
    refine lv_ifnull hx hb dd_N_aimAt_16 ?_
    refine lv_aload_n hx hb dd_N_aimAt_19 rfl (lv_at hl 2 rfl) ?_
    refine mg_get hx hb ht ii_D hown hK hM md rfl 1 (by decide) wd_1_130 (fun _ h => h) rfl dd_N_aimAt_20 ?_
    refine lv_iload_n hx hb dd_N_aimAt_23 rfl (lv_at hl 0 rfl) ?_
    refine lv_icmp_ne (tgt := 38) hx hb dd_N_aimAt_24 (by decide) (fun c2 => ?_) (fun c2 => ?_)
    · have c2 := bI_n.mp c2
      refine lv_iconst (v := 0) hx hb dd_N_aimAt_38 (by decide) ?_
      exact mw_i hx hb hr hlocks rfl hM hF hS (Nat.zero_le _) (Nat.zero_le _) ⟨by simp [n_aimOk, bI, bI_eq, c1, c2], by rw [if_neg (by simp [n_aimOk, bI, bI_eq, c1, c2])]⟩ dd_N_aimAt_39
    · have c2 := bI_0.mp c2
      refine lv_aload_n hx hb dd_N_aimAt_27 rfl (lv_at hl 2 rfl) ?_
      refine mg_get hx hb ht ii_D hown hK hM md rfl 6 (by decide) wd_1_140 (fun _ h => h) rfl dd_N_aimAt_28 ?_
      refine lv_aload_n hx hb dd_N_aimAt_31 rfl (lv_at hl 1 rfl) ?_
      refine mg_get hx hb ht ii_N hown hK hM m0 rfl 7 (by decide) wd_2_47 (fun _ h => h) rfl dd_N_aimAt_32 ?_
      refine lv_icmp_eq (tgt := 40) hx hb dd_N_aimAt_35 (by decide) (fun c3 => ?_) (fun c3 => ?_)
      · refine lv_aload_n hx hb dd_N_aimAt_40 rfl (lv_at hl 1 rfl) ?_
        refine lv_aload_n hx hb dd_N_aimAt_41 rfl (lv_at hl 2 rfl) ?_
        refine mg_put (v := .ref y) hx hb ht ii_N tt_N tt_N_ok nn_N hown hK hM hS (hF _ (by rw [m0]; exact Option.some_ne_none _)) m0 rfl 12 (by decide) wd_2_57 (fun _ h => h) (Or.inl rfl) rfl rfl rfl (Nat.le_of_ble_eq_true rfl) dd_N_aimAt_42 (fun H locs hM hz hoq hS => ?_)
        have hsz := hz.trans hsz
        have hM : hm G (mp_up M h0 (nC (n_s_ca r (some y)))) H := hM
        have hF : ∀ z9, (mp_up M h0 (nC (n_s_ca r (some y)))) z9 ≠ none → fr M sz z9 := hF_put hF (hF _ (by rw [m0]; exact Option.some_ne_none _))
        have m0 : (mp_up M h0 (nC (n_s_ca r (some y)))) h0 = some (nC (n_s_ca r (some y))) := mp_self _ _ _
        refine lv_aload_n hx hb dd_N_aimAt_45 rfl (lv_at hl 1 rfl) ?_
        refine lv_aload_n hx hb dd_N_aimAt_46 rfl (lv_at hl 2 rfl) ?_
        have md := mp_at (M := M) (a := h0) (e := (nC (n_s_ca r (some y)))) hne md
        refine mg_get hx hb ht ii_D hown hK hM md rfl 3 (by decide) wd_1_135 (fun _ h => h) rfl dd_N_aimAt_47 ?_
        refine mg_put (v := .int (d_vt d)) hx hb ht ii_N tt_N tt_N_ok nn_N hown hK hM hS (hF _ (by rw [m0]; exact Option.some_ne_none _)) m0 rfl 9 (by decide) wd_2_52 (fun _ h => h) (Or.inl rfl) rfl rfl rfl (Nat.le_of_ble_eq_true rfl) dd_N_aimAt_50 (fun H locs hM hz hoq hS => ?_)
        have hsz := hz.trans hsz
        rw [mp_mp] at hM
        have hM : hm G (mp_up M h0 (nC (n_s_vt (n_s_ca r (some y)) (d_vt d)))) H := hM
        have hF : ∀ z9, (mp_up M h0 (nC (n_s_vt (n_s_ca r (some y)) (d_vt d)))) z9 ≠ none → fr M sz z9 := hF_same hF
        have m0 : (mp_up M h0 (nC (n_s_vt (n_s_ca r (some y)) (d_vt d)))) h0 = some (nC (n_s_vt (n_s_ca r (some y)) (d_vt d))) := mp_self _ _ _
        refine lv_iconst (v := 1) hx hb dd_N_aimAt_53 (by decide) ?_
        exact mw_i hx hb hr hlocks rfl hM hF hS (Nat.zero_le _) (Nat.zero_le _) ⟨by simp [n_aimOk, bI, bI_eq, c1, c2, eq_true c3], by rw [if_pos (by simp [n_aimOk, bI, bI_eq, c1, c2, eq_true c3])]⟩ dd_N_aimAt_54
      · refine lv_iconst (v := 0) hx hb dd_N_aimAt_38 (by decide) ?_
        exact mw_i hx hb hr hlocks rfl hM hF hS (Nat.zero_le _) (Nat.zero_le _) ⟨by simp [n_aimOk, bI, bI_eq, c1, c2, c3], by rw [if_neg (by simp [n_aimOk, bI, bI_eq, c1, c2, c3])]⟩ dd_N_aimAt_39
  · refine lv_iconst (v := 1) hx hb dd_N_aimAt_9 (by decide) ?_
    refine lv_goto (tgt := 14) hx hb dd_N_aimAt_10 (by decide) ?_
    refine lv_istore_n (lv' := [(2, .int 1), (0, .ref h0), (1, .ref y)]) hx hb dd_N_aimAt_14 rfl hl (by decide) rfl (fun ls hl => ?_)
    refine lv_aload_n hx hb dd_N_aimAt_15 rfl (lv_at hl 2 rfl) ?_
    refine lv_ifnull hx hb dd_N_aimAt_16 ?_
    refine lv_aload_n hx hb dd_N_aimAt_19 rfl (lv_at hl 2 rfl) ?_
    refine mg_get hx hb ht ii_D hown hK hM md rfl 1 (by decide) wd_1_130 (fun _ h => h) rfl dd_N_aimAt_20 ?_
    refine lv_iload_n hx hb dd_N_aimAt_23 rfl (lv_at hl 0 rfl) ?_
    refine lv_icmp_ne (tgt := 38) hx hb dd_N_aimAt_24 (by decide) (fun c4 => ?_) (fun c4 => ?_)
    · have c4 := bI_m.mp c4
      refine lv_iconst (v := 0) hx hb dd_N_aimAt_38 (by decide) ?_
      exact mw_i hx hb hr hlocks rfl hM hF hS (Nat.zero_le _) (Nat.zero_le _) ⟨by simp [n_aimOk, bI, bI_eq, eq_true c1, c4], by rw [if_neg (by simp [n_aimOk, bI, bI_eq, eq_true c1, c4])]⟩ dd_N_aimAt_39
    · have c4 := bI_1.mp c4
      refine lv_aload_n hx hb dd_N_aimAt_27 rfl (lv_at hl 2 rfl) ?_
      refine mg_get hx hb ht ii_D hown hK hM md rfl 6 (by decide) wd_1_140 (fun _ h => h) rfl dd_N_aimAt_28 ?_
      refine lv_aload_n hx hb dd_N_aimAt_31 rfl (lv_at hl 1 rfl) ?_
      refine mg_get hx hb ht ii_N hown hK hM m0 rfl 7 (by decide) wd_2_47 (fun _ h => h) rfl dd_N_aimAt_32 ?_
      refine lv_icmp_eq (tgt := 40) hx hb dd_N_aimAt_35 (by decide) (fun c5 => ?_) (fun c5 => ?_)
      · refine lv_aload_n hx hb dd_N_aimAt_40 rfl (lv_at hl 1 rfl) ?_
        refine lv_aload_n hx hb dd_N_aimAt_41 rfl (lv_at hl 2 rfl) ?_
        refine mg_put (v := .ref y) hx hb ht ii_N tt_N tt_N_ok nn_N hown hK hM hS (hF _ (by rw [m0]; exact Option.some_ne_none _)) m0 rfl 12 (by decide) wd_2_57 (fun _ h => h) (Or.inl rfl) rfl rfl rfl (Nat.le_of_ble_eq_true rfl) dd_N_aimAt_42 (fun H locs hM hz hoq hS => ?_)
        have hsz := hz.trans hsz
        have hM : hm G (mp_up M h0 (nC (n_s_ca r (some y)))) H := hM
        have hF : ∀ z9, (mp_up M h0 (nC (n_s_ca r (some y)))) z9 ≠ none → fr M sz z9 := hF_put hF (hF _ (by rw [m0]; exact Option.some_ne_none _))
        have m0 : (mp_up M h0 (nC (n_s_ca r (some y)))) h0 = some (nC (n_s_ca r (some y))) := mp_self _ _ _
        refine lv_aload_n hx hb dd_N_aimAt_45 rfl (lv_at hl 1 rfl) ?_
        refine lv_aload_n hx hb dd_N_aimAt_46 rfl (lv_at hl 2 rfl) ?_
        have md := mp_at (M := M) (a := h0) (e := (nC (n_s_ca r (some y)))) hne md
        refine mg_get hx hb ht ii_D hown hK hM md rfl 3 (by decide) wd_1_135 (fun _ h => h) rfl dd_N_aimAt_47 ?_
        refine mg_put (v := .int (d_vt d)) hx hb ht ii_N tt_N tt_N_ok nn_N hown hK hM hS (hF _ (by rw [m0]; exact Option.some_ne_none _)) m0 rfl 9 (by decide) wd_2_52 (fun _ h => h) (Or.inl rfl) rfl rfl rfl (Nat.le_of_ble_eq_true rfl) dd_N_aimAt_50 (fun H locs hM hz hoq hS => ?_)
        have hsz := hz.trans hsz
        rw [mp_mp] at hM
        have hM : hm G (mp_up M h0 (nC (n_s_vt (n_s_ca r (some y)) (d_vt d)))) H := hM
        have hF : ∀ z9, (mp_up M h0 (nC (n_s_vt (n_s_ca r (some y)) (d_vt d)))) z9 ≠ none → fr M sz z9 := hF_same hF
        have m0 : (mp_up M h0 (nC (n_s_vt (n_s_ca r (some y)) (d_vt d)))) h0 = some (nC (n_s_vt (n_s_ca r (some y)) (d_vt d))) := mp_self _ _ _
        refine lv_iconst (v := 1) hx hb dd_N_aimAt_53 (by decide) ?_
        exact mw_i hx hb hr hlocks rfl hM hF hS (Nat.zero_le _) (Nat.zero_le _) ⟨by simp [n_aimOk, bI, bI_eq, eq_true c1, c4, eq_true c5], by rw [if_pos (by simp [n_aimOk, bI, bI_eq, eq_true c1, c4, eq_true c5])]⟩ dd_N_aimAt_54
      · refine lv_iconst (v := 0) hx hb dd_N_aimAt_38 (by decide) ?_
        exact mw_i hx hb hr hlocks rfl hM hF hS (Nat.zero_le _) (Nat.zero_le _) ⟨by simp [n_aimOk, bI, bI_eq, eq_true c1, c4, c5], by rw [if_neg (by simp [n_aimOk, bI, bI_eq, eq_true c1, c4, c5])]⟩ dd_N_aimAt_39

set_option maxHeartbeats 4000000 in
set_option maxRecDepth 100000 in
theorem cc_N_hearOf {l : Launch} {G : gC} {M : mC} {sz : Nat} {h0 : Nat} {r : nR} (m0 : M h0 = some (nC r)) {k t : Int32} : cW l yy_N_hearOf bb_N_hearOf 3 none 2 0 0 G M sz [.ref h0, .int k, .int t] (fun v u => v = none ∧ ((n_hear r k t = r ∧ u = M) ∨ u = mp_up M h0 (nC (n_hear r k t)))) := by
  refine me_W (by decide) (Nat.le_of_ble_eq_true rfl) ?_
  intro p e s m below meth c ls hx hb hr hlocks hml hown hname ht hsz hM hK hZ hl
  have hown : s.vm.findClass RR_N = some m.cls := hown
  have hl : lv_has ls 3 [(0, .ref h0), (1, .int k), (2, .int t)] := hl
  have hS : va_S (fr M sz) s.heap s.heap [] := va_S.rf
  have hF : ∀ q, M q ≠ none → fr M sz q := fr_M
  have hA : ∀ q, s.heap.size ≤ q → fr M sz q := fun q h => fr_A q (by rw [← hsz]; exact h)
  refine lv_iload_n hx hb dd_N_hearOf_0 rfl (lv_at hl 1 rfl) ?_
  refine lv_if_ne (tgt := 23) hx hb dd_N_hearOf_1 (by decide) (fun c1 => ?_) (fun c1 => ?_)
  · refine lv_aload_n hx hb dd_N_hearOf_23 rfl (lv_at hl 0 rfl) ?_
    refine mg_get hx hb ht ii_N hown hK hM m0 rfl 4 (by decide) wd_2_41 (fun _ h => h) rfl dd_N_hearOf_24 ?_
    refine mc_S (As := [.int (n_kd r)]) (rest := []) 1 (cc_K_isAsLastPart (k := (n_kd r))) hx hb hml hown ht hM hK hl.1 lk_N_111 (by decide +kernel) (by decide) rfl rfl (Nat.le_of_ble_eq_true rfl) dd_N_hearOf_27 ⟨Nat.zero_le _, Nat.zero_le _⟩ ?_
    refine lb_if_eq (tgt := 38) hx hb dd_N_hearOf_30 (by decide) (fun c2 => ?_) (fun c2 => ?_)
    · exact mw_v hx hb hr hlocks hM hF hS (Nat.zero_le _) (Nat.zero_le _) ⟨rfl, Or.inl ⟨by simp [n_hear, c1, c2], rfl⟩⟩ dd_N_hearOf_38
    · refine lv_aload_n hx hb dd_N_hearOf_33 rfl (lv_at hl 0 rfl) ?_
      refine lv_iload_n hx hb dd_N_hearOf_34 rfl (lv_at hl 2 rfl) ?_
      refine mg_put (v := .int t) hx hb ht ii_N tt_N tt_N_ok nn_N hown hK hM hS (hF _ (by rw [m0]; exact Option.some_ne_none _)) m0 rfl 9 (by decide) wd_2_52 (fun _ h => h) (Or.inl rfl) rfl rfl rfl (Nat.le_of_ble_eq_true rfl) dd_N_hearOf_35 (fun H locs hM hz hoq hS => ?_)
      have hsz := hz.trans hsz
      have hM : hm G (mp_up M h0 (nC (n_s_vt r t))) H := hM
      have hF : ∀ z9, (mp_up M h0 (nC (n_s_vt r t))) z9 ≠ none → fr M sz z9 := hF_put hF (hF _ (by rw [m0]; exact Option.some_ne_none _))
      have m0 : (mp_up M h0 (nC (n_s_vt r t))) h0 = some (nC (n_s_vt r t)) := mp_self _ _ _
      exact mw_v hx hb hr hlocks hM hF hS (Nat.zero_le _) (Nat.zero_le _) ⟨rfl, Or.inr (congrArg (fun z => mp_up M h0 (nC z)) (by simp [n_hear, c1, c2]))⟩ dd_N_hearOf_38
  · refine lv_aload_n hx hb dd_N_hearOf_4 rfl (lv_at hl 0 rfl) ?_
    refine mg_get hx hb ht ii_N hown hK hM m0 rfl 4 (by decide) wd_2_41 (fun _ h => h) rfl dd_N_hearOf_5 ?_
    refine mc_S (As := [.int (n_kd r)]) (rest := []) 1 (cc_K_isBinder (k := (n_kd r))) hx hb hml hown ht hM hK hl.1 lk_N_73 (by decide +kernel) (by decide) rfl rfl (Nat.le_of_ble_eq_true rfl) dd_N_hearOf_8 ⟨Nat.zero_le _, Nat.zero_le _⟩ ?_
    refine lb_if_eq (tgt := 23) hx hb dd_N_hearOf_11 (by decide) (fun c3 => ?_) (fun c3 => ?_)
    · refine lv_aload_n hx hb dd_N_hearOf_23 rfl (lv_at hl 0 rfl) ?_
      refine mg_get hx hb ht ii_N hown hK hM m0 rfl 4 (by decide) wd_2_41 (fun _ h => h) rfl dd_N_hearOf_24 ?_
      refine mc_S (As := [.int (n_kd r)]) (rest := []) 1 (cc_K_isAsLastPart (k := (n_kd r))) hx hb hml hown ht hM hK hl.1 lk_N_111 (by decide +kernel) (by decide) rfl rfl (Nat.le_of_ble_eq_true rfl) dd_N_hearOf_27 ⟨Nat.zero_le _, Nat.zero_le _⟩ ?_
      refine lb_if_eq (tgt := 38) hx hb dd_N_hearOf_30 (by decide) (fun c4 => ?_) (fun c4 => ?_)
      · exact mw_v hx hb hr hlocks hM hF hS (Nat.zero_le _) (Nat.zero_le _) ⟨rfl, Or.inl ⟨by simp [n_hear, eq_true c1, c3, c4], rfl⟩⟩ dd_N_hearOf_38
      · refine lv_aload_n hx hb dd_N_hearOf_33 rfl (lv_at hl 0 rfl) ?_
        refine lv_iload_n hx hb dd_N_hearOf_34 rfl (lv_at hl 2 rfl) ?_
        refine mg_put (v := .int t) hx hb ht ii_N tt_N tt_N_ok nn_N hown hK hM hS (hF _ (by rw [m0]; exact Option.some_ne_none _)) m0 rfl 9 (by decide) wd_2_52 (fun _ h => h) (Or.inl rfl) rfl rfl rfl (Nat.le_of_ble_eq_true rfl) dd_N_hearOf_35 (fun H locs hM hz hoq hS => ?_)
        have hsz := hz.trans hsz
        have hM : hm G (mp_up M h0 (nC (n_s_vt r t))) H := hM
        have hF : ∀ z9, (mp_up M h0 (nC (n_s_vt r t))) z9 ≠ none → fr M sz z9 := hF_put hF (hF _ (by rw [m0]; exact Option.some_ne_none _))
        have m0 : (mp_up M h0 (nC (n_s_vt r t))) h0 = some (nC (n_s_vt r t)) := mp_self _ _ _
        exact mw_v hx hb hr hlocks hM hF hS (Nat.zero_le _) (Nat.zero_le _) ⟨rfl, Or.inr (congrArg (fun z => mp_up M h0 (nC z)) (by simp [n_hear, eq_true c1, c3, c4]))⟩ dd_N_hearOf_38
    · refine lv_aload_n hx hb dd_N_hearOf_14 rfl (lv_at hl 0 rfl) ?_
      refine lv_aload_n hx hb dd_N_hearOf_15 rfl (lv_at hl 0 rfl) ?_
      refine lv_iload_n hx hb dd_N_hearOf_16 rfl (lv_at hl 2 rfl) ?_
      refine mc_V (As := [.int t]) (rest := [.ref h0]) 1 (cc_N_typeOfXAfter m0 (t := t)) hx hb hml hown ht hM hK hl.1 lk_N_108 (by decide +kernel) (by decide) m0 rfl rfl rfl (Nat.le_of_ble_eq_true rfl) dd_N_hearOf_17 ⟨Nat.zero_le _, Nat.zero_le _⟩ ?_
      refine mg_put (v := .int (n_txAfter r t)) hx hb ht ii_N tt_N tt_N_ok nn_N hown hK hM hS (hF _ (by rw [m0]; exact Option.some_ne_none _)) m0 rfl 10 (by decide) wd_2_54 (fun _ h => h) (Or.inl rfl) rfl rfl rfl (Nat.le_of_ble_eq_true rfl) dd_N_hearOf_20 (fun H locs hM hz hoq hS => ?_)
      have hsz := hz.trans hsz
      have hM : hm G (mp_up M h0 (nC (n_s_tx r (n_txAfter r t)))) H := hM
      have hF : ∀ z9, (mp_up M h0 (nC (n_s_tx r (n_txAfter r t)))) z9 ≠ none → fr M sz z9 := hF_put hF (hF _ (by rw [m0]; exact Option.some_ne_none _))
      have m0 : (mp_up M h0 (nC (n_s_tx r (n_txAfter r t)))) h0 = some (nC (n_s_tx r (n_txAfter r t))) := mp_self _ _ _
      refine lv_aload_n hx hb dd_N_hearOf_23 rfl (lv_at hl 0 rfl) ?_
      refine mg_get hx hb ht ii_N hown hK hM m0 rfl 4 (by decide) wd_2_41 (fun _ h => h) rfl dd_N_hearOf_24 ?_
      refine mc_S (As := [.int (n_kd (n_s_tx r (n_txAfter r t)))]) (rest := []) 1 (cc_K_isAsLastPart (k := (n_kd (n_s_tx r (n_txAfter r t))))) hx hb hml hown ht hM hK hl.1 lk_N_111 (by decide +kernel) (by decide) rfl rfl (Nat.le_of_ble_eq_true rfl) dd_N_hearOf_27 ⟨Nat.zero_le _, Nat.zero_le _⟩ ?_
      refine lb_if_eq (tgt := 38) hx hb dd_N_hearOf_30 (by decide) (fun c5 => ?_) (fun c5 => ?_)
      · exact mw_v hx hb hr hlocks hM hF hS (Nat.zero_le _) (Nat.zero_le _) ⟨rfl, Or.inr (congrArg (fun z => mp_up M h0 (nC z)) (by simp [n_hear, eq_true c1, c3, c5]))⟩ dd_N_hearOf_38
      · refine lv_aload_n hx hb dd_N_hearOf_33 rfl (lv_at hl 0 rfl) ?_
        refine lv_iload_n hx hb dd_N_hearOf_34 rfl (lv_at hl 2 rfl) ?_
        refine mg_put (v := .int t) hx hb ht ii_N tt_N tt_N_ok nn_N hown hK hM hS (hF _ (by rw [m0]; exact Option.some_ne_none _)) m0 rfl 9 (by decide) wd_2_52 (fun _ h => h) (Or.inl rfl) rfl rfl rfl (Nat.le_of_ble_eq_true rfl) dd_N_hearOf_35 (fun H locs hM hz hoq hS => ?_)
        have hsz := hz.trans hsz
        rw [mp_mp] at hM
        have hM : hm G (mp_up M h0 (nC (n_s_vt (n_s_tx r (n_txAfter r t)) t))) H := hM
        have hF : ∀ z9, (mp_up M h0 (nC (n_s_vt (n_s_tx r (n_txAfter r t)) t))) z9 ≠ none → fr M sz z9 := hF_same hF
        have m0 : (mp_up M h0 (nC (n_s_vt (n_s_tx r (n_txAfter r t)) t))) h0 = some (nC (n_s_vt (n_s_tx r (n_txAfter r t)) t)) := mp_self _ _ _
        exact mw_v hx hb hr hlocks hM hF hS (Nat.zero_le _) (Nat.zero_le _) ⟨rfl, Or.inr (congrArg (fun z => mp_up M h0 (nC z)) (by simp [n_hear, eq_true c1, c3, c5]))⟩ dd_N_hearOf_38

set_option maxHeartbeats 4000000 in
set_option maxRecDepth 100000 in
theorem cc_N_init {l : Launch} {G : gC} {M : mC} {sz : Nat} {h0 hd : Nat} (m0 : M h0 = some (.inr (2, [.int 0, .null, .null, .int 0, .int 0, .long 0, .long 0, .int 0, .int 0, .int 0, .int 0, .int 0, .null, .int 0]))) {d : dR} (md : M hd = some (dC d)) (hnd : hd ≠ h0) {q : nR} (mp : ∀ y, d_op d = some y → M y = some (nC q)) (hne : ∀ y, d_op d = some y → y ≠ h0) {k0 k1 k4 : Int32} {k2 k3 : Int64} : cW l yy_N_init bb_N_init 9 none 1 0 0 G M sz [.ref h0, .int k0, .ref hd, .int k1, .long k2, .long k3, .int k4] (fun v u => v = none ∧ u = mp_up M h0 (nC (k0, hd, d_op d, d_slot d q, k1, k2, k3, k4, 0, -1, -1, -1, none, 0))) := by
  refine me_W (by decide) (Nat.le_of_ble_eq_true rfl) ?_
  intro p e s m below meth c ls hx hb hr hlocks hml hown hname ht hsz hM hK hZ hl
  have hown : s.vm.findClass RR_N = some m.cls := hown
  have hl : lv_has ls 9 [(0, .ref h0), (1, .int k0), (2, .ref hd), (3, .int k1), (4, .long k2), (6, .long k3), (8, .int k4)] := hl
  have hS : va_S (fr M sz) s.heap s.heap [] := va_S.rf
  have hF : ∀ q, M q ≠ none → fr M sz q := fr_M
  have hA : ∀ q, s.heap.size ≤ q → fr M sz q := fun q h => fr_A q (by rw [← hsz]; exact h)
  refine lv_aload_n hx hb dd_N_init_0 rfl (lv_at hl 0 rfl) ?_
  refine W.objInit hx hb hown (ht _ wd_2_31) (ht _ wd_1_22) (ht _ wd_1_23) rfl (by rw [hml]; exact hl.1) rfl dd_N_init_1 (Nat.le_of_ble_eq_true rfl) (Nat.le_of_ble_eq_true rfl) ?_
  refine W.eq (g2 := F0 m 4 ls []) rfl ?_
  refine lv_aload_n hx hb dd_N_init_4 rfl (lv_at hl 0 rfl) ?_
  refine lv_iconst (v := 0) hx hb dd_N_init_5 (by decide) ?_
  refine mg_put (v := .int 0) hx hb ht ii_N tt_N tt_N_ok nn_N hown hK hM hS (hF _ (by rw [m0]; exact Option.some_ne_none _)) m0 rfl 8 (by decide) wd_2_50 (fun _ h => h) (Or.inl rfl) rfl rfl rfl (Nat.le_of_ble_eq_true rfl) dd_N_init_6 (fun H locs hM hz hoq hS => ?_)
  have hsz := hz.trans hsz
  have hM : hm G (mp_up M h0 (.inr (2, [.int 0, .null, .null, .int 0, .int 0, .long 0, .long 0, .int 0, .int 0, .int 0, .int 0, .int 0, .null, .int 0]))) H := hM
  have hF : ∀ z9, (mp_up M h0 (.inr (2, [.int 0, .null, .null, .int 0, .int 0, .long 0, .long 0, .int 0, .int 0, .int 0, .int 0, .int 0, .null, .int 0]))) z9 ≠ none → fr M sz z9 := hF_put hF (hF _ (by rw [m0]; exact Option.some_ne_none _))
  have m0 : (mp_up M h0 (.inr (2, [.int 0, .null, .null, .int 0, .int 0, .long 0, .long 0, .int 0, .int 0, .int 0, .int 0, .int 0, .null, .int 0]))) h0 = some (.inr (2, [.int 0, .null, .null, .int 0, .int 0, .long 0, .long 0, .int 0, .int 0, .int 0, .int 0, .int 0, .null, .int 0])) := mp_self _ _ _
  refine lv_aload_n hx hb dd_N_init_9 rfl (lv_at hl 0 rfl) ?_
  refine lv_iconst (v := -1) hx hb dd_N_init_10 (by decide) ?_
  refine mg_put (v := .int (-1)) hx hb ht ii_N tt_N tt_N_ok nn_N hown hK hM hS (hF _ (by rw [m0]; exact Option.some_ne_none _)) m0 rfl 9 (by decide) wd_2_52 (fun _ h => h) (Or.inl rfl) rfl rfl rfl (Nat.le_of_ble_eq_true rfl) dd_N_init_11 (fun H locs hM hz hoq hS => ?_)
  have hsz := hz.trans hsz
  rw [mp_mp] at hM
  have hM : hm G (mp_up M h0 (.inr (2, [.int 0, .null, .null, .int 0, .int 0, .long 0, .long 0, .int 0, .int 0, .int (-1), .int 0, .int 0, .null, .int 0]))) H := hM
  have hF : ∀ z9, (mp_up M h0 (.inr (2, [.int 0, .null, .null, .int 0, .int 0, .long 0, .long 0, .int 0, .int 0, .int (-1), .int 0, .int 0, .null, .int 0]))) z9 ≠ none → fr M sz z9 := hF_same hF
  have m0 : (mp_up M h0 (.inr (2, [.int 0, .null, .null, .int 0, .int 0, .long 0, .long 0, .int 0, .int 0, .int (-1), .int 0, .int 0, .null, .int 0]))) h0 = some (.inr (2, [.int 0, .null, .null, .int 0, .int 0, .long 0, .long 0, .int 0, .int 0, .int (-1), .int 0, .int 0, .null, .int 0])) := mp_self _ _ _
  refine lv_aload_n hx hb dd_N_init_14 rfl (lv_at hl 0 rfl) ?_
  refine lv_iconst (v := -1) hx hb dd_N_init_15 (by decide) ?_
  refine mg_put (v := .int (-1)) hx hb ht ii_N tt_N tt_N_ok nn_N hown hK hM hS (hF _ (by rw [m0]; exact Option.some_ne_none _)) m0 rfl 10 (by decide) wd_2_54 (fun _ h => h) (Or.inl rfl) rfl rfl rfl (Nat.le_of_ble_eq_true rfl) dd_N_init_16 (fun H locs hM hz hoq hS => ?_)
  have hsz := hz.trans hsz
  rw [mp_mp] at hM
  have hM : hm G (mp_up M h0 (.inr (2, [.int 0, .null, .null, .int 0, .int 0, .long 0, .long 0, .int 0, .int 0, .int (-1), .int (-1), .int 0, .null, .int 0]))) H := hM
  have hF : ∀ z9, (mp_up M h0 (.inr (2, [.int 0, .null, .null, .int 0, .int 0, .long 0, .long 0, .int 0, .int 0, .int (-1), .int (-1), .int 0, .null, .int 0]))) z9 ≠ none → fr M sz z9 := hF_same hF
  have m0 : (mp_up M h0 (.inr (2, [.int 0, .null, .null, .int 0, .int 0, .long 0, .long 0, .int 0, .int 0, .int (-1), .int (-1), .int 0, .null, .int 0]))) h0 = some (.inr (2, [.int 0, .null, .null, .int 0, .int 0, .long 0, .long 0, .int 0, .int 0, .int (-1), .int (-1), .int 0, .null, .int 0])) := mp_self _ _ _
  refine lv_aload_n hx hb dd_N_init_19 rfl (lv_at hl 0 rfl) ?_
  refine lv_iconst (v := -1) hx hb dd_N_init_20 (by decide) ?_
  refine mg_put (v := .int (-1)) hx hb ht ii_N tt_N tt_N_ok nn_N hown hK hM hS (hF _ (by rw [m0]; exact Option.some_ne_none _)) m0 rfl 11 (by decide) wd_2_55 (fun _ h => h) (Or.inl rfl) rfl rfl rfl (Nat.le_of_ble_eq_true rfl) dd_N_init_21 (fun H locs hM hz hoq hS => ?_)
  have hsz := hz.trans hsz
  rw [mp_mp] at hM
  have hM : hm G (mp_up M h0 (.inr (2, [.int 0, .null, .null, .int 0, .int 0, .long 0, .long 0, .int 0, .int 0, .int (-1), .int (-1), .int (-1), .null, .int 0]))) H := hM
  have hF : ∀ z9, (mp_up M h0 (.inr (2, [.int 0, .null, .null, .int 0, .int 0, .long 0, .long 0, .int 0, .int 0, .int (-1), .int (-1), .int (-1), .null, .int 0]))) z9 ≠ none → fr M sz z9 := hF_same hF
  have m0 : (mp_up M h0 (.inr (2, [.int 0, .null, .null, .int 0, .int 0, .long 0, .long 0, .int 0, .int 0, .int (-1), .int (-1), .int (-1), .null, .int 0]))) h0 = some (.inr (2, [.int 0, .null, .null, .int 0, .int 0, .long 0, .long 0, .int 0, .int 0, .int (-1), .int (-1), .int (-1), .null, .int 0])) := mp_self _ _ _
  refine lv_aload_n hx hb dd_N_init_24 rfl (lv_at hl 0 rfl) ?_
  refine lv_null hx hb dd_N_init_25 ?_
  refine mg_put (v := .null) hx hb ht ii_N tt_N tt_N_ok nn_N hown hK hM hS (hF _ (by rw [m0]; exact Option.some_ne_none _)) m0 rfl 12 (by decide) wd_2_57 (fun _ h => h) (Or.inl rfl) rfl rfl rfl (Nat.le_of_ble_eq_true rfl) dd_N_init_26 (fun H locs hM hz hoq hS => ?_)
  have hsz := hz.trans hsz
  rw [mp_mp] at hM
  have hM : hm G (mp_up M h0 (.inr (2, [.int 0, .null, .null, .int 0, .int 0, .long 0, .long 0, .int 0, .int 0, .int (-1), .int (-1), .int (-1), .null, .int 0]))) H := hM
  have hF : ∀ z9, (mp_up M h0 (.inr (2, [.int 0, .null, .null, .int 0, .int 0, .long 0, .long 0, .int 0, .int 0, .int (-1), .int (-1), .int (-1), .null, .int 0]))) z9 ≠ none → fr M sz z9 := hF_same hF
  have m0 : (mp_up M h0 (.inr (2, [.int 0, .null, .null, .int 0, .int 0, .long 0, .long 0, .int 0, .int 0, .int (-1), .int (-1), .int (-1), .null, .int 0]))) h0 = some (.inr (2, [.int 0, .null, .null, .int 0, .int 0, .long 0, .long 0, .int 0, .int 0, .int (-1), .int (-1), .int (-1), .null, .int 0])) := mp_self _ _ _
  refine lv_aload_n hx hb dd_N_init_29 rfl (lv_at hl 0 rfl) ?_
  refine lv_iconst (v := 0) hx hb dd_N_init_30 (by decide) ?_
  refine mg_put (v := .int 0) hx hb ht ii_N tt_N tt_N_ok nn_N hown hK hM hS (hF _ (by rw [m0]; exact Option.some_ne_none _)) m0 rfl 13 (by decide) wd_2_59 (fun _ h => h) (Or.inl rfl) rfl rfl rfl (Nat.le_of_ble_eq_true rfl) dd_N_init_31 (fun H locs hM hz hoq hS => ?_)
  have hsz := hz.trans hsz
  rw [mp_mp] at hM
  have hM : hm G (mp_up M h0 (.inr (2, [.int 0, .null, .null, .int 0, .int 0, .long 0, .long 0, .int 0, .int 0, .int (-1), .int (-1), .int (-1), .null, .int 0]))) H := hM
  have hF : ∀ z9, (mp_up M h0 (.inr (2, [.int 0, .null, .null, .int 0, .int 0, .long 0, .long 0, .int 0, .int 0, .int (-1), .int (-1), .int (-1), .null, .int 0]))) z9 ≠ none → fr M sz z9 := hF_same hF
  have m0 : (mp_up M h0 (.inr (2, [.int 0, .null, .null, .int 0, .int 0, .long 0, .long 0, .int 0, .int 0, .int (-1), .int (-1), .int (-1), .null, .int 0]))) h0 = some (.inr (2, [.int 0, .null, .null, .int 0, .int 0, .long 0, .long 0, .int 0, .int 0, .int (-1), .int (-1), .int (-1), .null, .int 0])) := mp_self _ _ _
  refine lv_aload_n hx hb dd_N_init_34 rfl (lv_at hl 0 rfl) ?_
  refine lv_iload_n hx hb dd_N_init_35 rfl (lv_at hl 1 rfl) ?_
  refine mg_put (v := .int k0) hx hb ht ii_N tt_N tt_N_ok nn_N hown hK hM hS (hF _ (by rw [m0]; exact Option.some_ne_none _)) m0 rfl 0 (by decide) wd_2_32 (fun _ h => h) (Or.inr ⟨rfl, hname, rfl⟩) rfl rfl rfl (Nat.le_of_ble_eq_true rfl) dd_N_init_36 (fun H locs hM hz hoq hS => ?_)
  have hsz := hz.trans hsz
  rw [mp_mp] at hM
  have hM : hm G (mp_up M h0 (.inr (2, [.int k0, .null, .null, .int 0, .int 0, .long 0, .long 0, .int 0, .int 0, .int (-1), .int (-1), .int (-1), .null, .int 0]))) H := hM
  have hF : ∀ z9, (mp_up M h0 (.inr (2, [.int k0, .null, .null, .int 0, .int 0, .long 0, .long 0, .int 0, .int 0, .int (-1), .int (-1), .int (-1), .null, .int 0]))) z9 ≠ none → fr M sz z9 := hF_same hF
  have m0 : (mp_up M h0 (.inr (2, [.int k0, .null, .null, .int 0, .int 0, .long 0, .long 0, .int 0, .int 0, .int (-1), .int (-1), .int (-1), .null, .int 0]))) h0 = some (.inr (2, [.int k0, .null, .null, .int 0, .int 0, .long 0, .long 0, .int 0, .int 0, .int (-1), .int (-1), .int (-1), .null, .int 0])) := mp_self _ _ _
  refine lv_aload_n hx hb dd_N_init_39 rfl (lv_at hl 0 rfl) ?_
  refine lv_aload_n hx hb dd_N_init_40 rfl (lv_at hl 2 rfl) ?_
  refine mg_put (v := .ref hd) hx hb ht ii_N tt_N tt_N_ok nn_N hown hK hM hS (hF _ (by rw [m0]; exact Option.some_ne_none _)) m0 rfl 1 (by decide) wd_2_34 (fun _ h => h) (Or.inr ⟨rfl, hname, rfl⟩) rfl rfl rfl (Nat.le_of_ble_eq_true rfl) dd_N_init_41 (fun H locs hM hz hoq hS => ?_)
  have hsz := hz.trans hsz
  rw [mp_mp] at hM
  have hM : hm G (mp_up M h0 (.inr (2, [.int k0, .ref hd, .null, .int 0, .int 0, .long 0, .long 0, .int 0, .int 0, .int (-1), .int (-1), .int (-1), .null, .int 0]))) H := hM
  have hF : ∀ z9, (mp_up M h0 (.inr (2, [.int k0, .ref hd, .null, .int 0, .int 0, .long 0, .long 0, .int 0, .int 0, .int (-1), .int (-1), .int (-1), .null, .int 0]))) z9 ≠ none → fr M sz z9 := hF_same hF
  have m0 : (mp_up M h0 (.inr (2, [.int k0, .ref hd, .null, .int 0, .int 0, .long 0, .long 0, .int 0, .int 0, .int (-1), .int (-1), .int (-1), .null, .int 0]))) h0 = some (.inr (2, [.int k0, .ref hd, .null, .int 0, .int 0, .long 0, .long 0, .int 0, .int 0, .int (-1), .int (-1), .int (-1), .null, .int 0])) := mp_self _ _ _
  refine lv_aload_n hx hb dd_N_init_44 rfl (lv_at hl 0 rfl) ?_
  refine lv_aload_n hx hb dd_N_init_45 rfl (lv_at hl 2 rfl) ?_
  have md := mp_at (M := M) (a := h0) (e := (.inr (2, [.int k0, .ref hd, .null, .int 0, .int 0, .long 0, .long 0, .int 0, .int 0, .int (-1), .int (-1), .int (-1), .null, .int 0]))) hnd md
  refine mg_get hx hb ht ii_D hown hK hM md rfl 8 (by decide) wd_1_145 (fun _ h => h) rfl dd_N_init_46 ?_
  refine mg_put (v := va_rf (d_op d)) hx hb ht ii_N tt_N tt_N_ok nn_N hown hK hM hS (hF _ (by rw [m0]; exact Option.some_ne_none _)) m0 rfl 2 (by decide) wd_2_36 (fun _ h => h) (Or.inr ⟨rfl, hname, rfl⟩) rfl rf_nar rf_fit (Nat.le_of_ble_eq_true rfl) dd_N_init_49 (fun H locs hM hz hoq hS => ?_)
  have hsz := hz.trans hsz
  rw [mp_mp] at hM
  have hM : hm G (mp_up M h0 (.inr (2, [.int k0, .ref hd, va_rf (d_op d), .int 0, .int 0, .long 0, .long 0, .int 0, .int 0, .int (-1), .int (-1), .int (-1), .null, .int 0]))) H := hM
  have hF : ∀ z9, (mp_up M h0 (.inr (2, [.int k0, .ref hd, va_rf (d_op d), .int 0, .int 0, .long 0, .long 0, .int 0, .int 0, .int (-1), .int (-1), .int (-1), .null, .int 0]))) z9 ≠ none → fr M sz z9 := hF_same hF
  have m0 : (mp_up M h0 (.inr (2, [.int k0, .ref hd, va_rf (d_op d), .int 0, .int 0, .long 0, .long 0, .int 0, .int 0, .int (-1), .int (-1), .int (-1), .null, .int 0]))) h0 = some (.inr (2, [.int k0, .ref hd, va_rf (d_op d), .int 0, .int 0, .long 0, .long 0, .int 0, .int 0, .int (-1), .int (-1), .int (-1), .null, .int 0])) := mp_self _ _ _
  refine lv_aload_n hx hb dd_N_init_52 rfl (lv_at hl 0 rfl) ?_
  refine lv_aload_n hx hb dd_N_init_53 rfl (lv_at hl 2 rfl) ?_
  have md := mp_re (M := M) (a := h0) (e' := (.inr (2, [.int k0, .ref hd, va_rf (d_op d), .int 0, .int 0, .long 0, .long 0, .int 0, .int 0, .int (-1), .int (-1), .int (-1), .null, .int 0]))) hnd md
  refine mg_get hx hb ht ii_D hown hK hM md rfl 8 (by decide) wd_1_145 (fun _ h => h) rfl dd_N_init_54 ?_
  refine lr_ifnonnull (tgt := 64) hx hb dd_N_init_57 (by decide) (fun y1 ey1 => ?_) (fun ey1 => ?_)
  · have my1 := mp y1 ey1
    refine lv_aload_n hx hb dd_N_init_64 rfl (lv_at hl 2 rfl) ?_
    refine mg_get (v := .ref y1) hx hb ht ii_D hown hK hM md rfl 8 (by decide) wd_1_145 (fun _ h => h) (congrArg (fun z => some (va_rf z)) ey1) dd_N_init_65 ?_
    have my1 := mp_at (M := M) (a := h0) (e := (.inr (2, [.int k0, .ref hd, va_rf (d_op d), .int 0, .int 0, .long 0, .long 0, .int 0, .int 0, .int (-1), .int (-1), .int (-1), .null, .int 0]))) (hne _ ey1) my1
    refine mg_get hx hb ht ii_N hown hK hM my1 rfl 8 (by decide) wd_2_50 (fun _ h => h) rfl dd_N_init_68 ?_
    refine mg_put (v := .int (n_fl q)) hx hb ht ii_N tt_N tt_N_ok nn_N hown hK hM hS (hF _ (by rw [m0]; exact Option.some_ne_none _)) m0 rfl 3 (by decide) wd_2_39 (fun _ h => h) (Or.inr ⟨rfl, hname, rfl⟩) rfl rfl rfl (Nat.le_of_ble_eq_true rfl) dd_N_init_71 (fun H locs hM hz hoq hS => ?_)
    have hsz := hz.trans hsz
    rw [mp_mp] at hM
    have hM : hm G (mp_up M h0 (.inr (2, [.int k0, .ref hd, va_rf (d_op d), .int (n_fl q), .int 0, .long 0, .long 0, .int 0, .int 0, .int (-1), .int (-1), .int (-1), .null, .int 0]))) H := hM
    have hF : ∀ z9, (mp_up M h0 (.inr (2, [.int k0, .ref hd, va_rf (d_op d), .int (n_fl q), .int 0, .long 0, .long 0, .int 0, .int 0, .int (-1), .int (-1), .int (-1), .null, .int 0]))) z9 ≠ none → fr M sz z9 := hF_same hF
    have m0 : (mp_up M h0 (.inr (2, [.int k0, .ref hd, va_rf (d_op d), .int (n_fl q), .int 0, .long 0, .long 0, .int 0, .int 0, .int (-1), .int (-1), .int (-1), .null, .int 0]))) h0 = some (.inr (2, [.int k0, .ref hd, va_rf (d_op d), .int (n_fl q), .int 0, .long 0, .long 0, .int 0, .int 0, .int (-1), .int (-1), .int (-1), .null, .int 0])) := mp_self _ _ _
    refine lv_aload_n hx hb dd_N_init_74 rfl (lv_at hl 0 rfl) ?_
    refine lv_iload_n hx hb dd_N_init_75 rfl (lv_at hl 3 rfl) ?_
    refine mg_put (v := .int k1) hx hb ht ii_N tt_N tt_N_ok nn_N hown hK hM hS (hF _ (by rw [m0]; exact Option.some_ne_none _)) m0 rfl 4 (by decide) wd_2_41 (fun _ h => h) (Or.inr ⟨rfl, hname, rfl⟩) rfl rfl rfl (Nat.le_of_ble_eq_true rfl) dd_N_init_76 (fun H locs hM hz hoq hS => ?_)
    have hsz := hz.trans hsz
    rw [mp_mp] at hM
    have hM : hm G (mp_up M h0 (.inr (2, [.int k0, .ref hd, va_rf (d_op d), .int (n_fl q), .int k1, .long 0, .long 0, .int 0, .int 0, .int (-1), .int (-1), .int (-1), .null, .int 0]))) H := hM
    have hF : ∀ z9, (mp_up M h0 (.inr (2, [.int k0, .ref hd, va_rf (d_op d), .int (n_fl q), .int k1, .long 0, .long 0, .int 0, .int 0, .int (-1), .int (-1), .int (-1), .null, .int 0]))) z9 ≠ none → fr M sz z9 := hF_same hF
    have m0 : (mp_up M h0 (.inr (2, [.int k0, .ref hd, va_rf (d_op d), .int (n_fl q), .int k1, .long 0, .long 0, .int 0, .int 0, .int (-1), .int (-1), .int (-1), .null, .int 0]))) h0 = some (.inr (2, [.int k0, .ref hd, va_rf (d_op d), .int (n_fl q), .int k1, .long 0, .long 0, .int 0, .int 0, .int (-1), .int (-1), .int (-1), .null, .int 0])) := mp_self _ _ _
    refine lv_aload_n hx hb dd_N_init_79 rfl (lv_at hl 0 rfl) ?_
    refine lv_lload hx hb dd_N_init_80 (lv_at hl 4 rfl) ?_
    refine mg_put (v := .long k2) hx hb ht ii_N tt_N tt_N_ok nn_N hown hK hM hS (hF _ (by rw [m0]; exact Option.some_ne_none _)) m0 rfl 5 (by decide) wd_2_44 (fun _ h => h) (Or.inr ⟨rfl, hname, rfl⟩) rfl rfl rfl (Nat.le_of_ble_eq_true rfl) dd_N_init_82 (fun H locs hM hz hoq hS => ?_)
    have hsz := hz.trans hsz
    rw [mp_mp] at hM
    have hM : hm G (mp_up M h0 (.inr (2, [.int k0, .ref hd, va_rf (d_op d), .int (n_fl q), .int k1, .long k2, .long 0, .int 0, .int 0, .int (-1), .int (-1), .int (-1), .null, .int 0]))) H := hM
    have hF : ∀ z9, (mp_up M h0 (.inr (2, [.int k0, .ref hd, va_rf (d_op d), .int (n_fl q), .int k1, .long k2, .long 0, .int 0, .int 0, .int (-1), .int (-1), .int (-1), .null, .int 0]))) z9 ≠ none → fr M sz z9 := hF_same hF
    have m0 : (mp_up M h0 (.inr (2, [.int k0, .ref hd, va_rf (d_op d), .int (n_fl q), .int k1, .long k2, .long 0, .int 0, .int 0, .int (-1), .int (-1), .int (-1), .null, .int 0]))) h0 = some (.inr (2, [.int k0, .ref hd, va_rf (d_op d), .int (n_fl q), .int k1, .long k2, .long 0, .int 0, .int 0, .int (-1), .int (-1), .int (-1), .null, .int 0])) := mp_self _ _ _
    refine lv_aload_n hx hb dd_N_init_85 rfl (lv_at hl 0 rfl) ?_
    refine lv_lload hx hb dd_N_init_86 (lv_at hl 5 rfl) ?_
    refine mg_put (v := .long k3) hx hb ht ii_N tt_N tt_N_ok nn_N hown hK hM hS (hF _ (by rw [m0]; exact Option.some_ne_none _)) m0 rfl 6 (by decide) wd_2_46 (fun _ h => h) (Or.inr ⟨rfl, hname, rfl⟩) rfl rfl rfl (Nat.le_of_ble_eq_true rfl) dd_N_init_88 (fun H locs hM hz hoq hS => ?_)
    have hsz := hz.trans hsz
    rw [mp_mp] at hM
    have hM : hm G (mp_up M h0 (.inr (2, [.int k0, .ref hd, va_rf (d_op d), .int (n_fl q), .int k1, .long k2, .long k3, .int 0, .int 0, .int (-1), .int (-1), .int (-1), .null, .int 0]))) H := hM
    have hF : ∀ z9, (mp_up M h0 (.inr (2, [.int k0, .ref hd, va_rf (d_op d), .int (n_fl q), .int k1, .long k2, .long k3, .int 0, .int 0, .int (-1), .int (-1), .int (-1), .null, .int 0]))) z9 ≠ none → fr M sz z9 := hF_same hF
    have m0 : (mp_up M h0 (.inr (2, [.int k0, .ref hd, va_rf (d_op d), .int (n_fl q), .int k1, .long k2, .long k3, .int 0, .int 0, .int (-1), .int (-1), .int (-1), .null, .int 0]))) h0 = some (.inr (2, [.int k0, .ref hd, va_rf (d_op d), .int (n_fl q), .int k1, .long k2, .long k3, .int 0, .int 0, .int (-1), .int (-1), .int (-1), .null, .int 0])) := mp_self _ _ _
    refine lv_aload_n hx hb dd_N_init_91 rfl (lv_at hl 0 rfl) ?_
    refine lv_iload hx hb dd_N_init_92 (lv_at hl 6 rfl) ?_
    refine mg_put (v := .int k4) hx hb ht ii_N tt_N tt_N_ok nn_N hown hK hM hS (hF _ (by rw [m0]; exact Option.some_ne_none _)) m0 rfl 7 (by decide) wd_2_47 (fun _ h => h) (Or.inr ⟨rfl, hname, rfl⟩) rfl rfl rfl (Nat.le_of_ble_eq_true rfl) dd_N_init_94 (fun H locs hM hz hoq hS => ?_)
    have hsz := hz.trans hsz
    rw [mp_mp] at hM
    have hM : hm G (mp_up M h0 (.inr (2, [.int k0, .ref hd, va_rf (d_op d), .int (n_fl q), .int k1, .long k2, .long k3, .int k4, .int 0, .int (-1), .int (-1), .int (-1), .null, .int 0]))) H := hM
    have hF : ∀ z9, (mp_up M h0 (.inr (2, [.int k0, .ref hd, va_rf (d_op d), .int (n_fl q), .int k1, .long k2, .long k3, .int k4, .int 0, .int (-1), .int (-1), .int (-1), .null, .int 0]))) z9 ≠ none → fr M sz z9 := hF_same hF
    have m0 : (mp_up M h0 (.inr (2, [.int k0, .ref hd, va_rf (d_op d), .int (n_fl q), .int k1, .long k2, .long k3, .int k4, .int 0, .int (-1), .int (-1), .int (-1), .null, .int 0]))) h0 = some (.inr (2, [.int k0, .ref hd, va_rf (d_op d), .int (n_fl q), .int k1, .long k2, .long k3, .int k4, .int 0, .int (-1), .int (-1), .int (-1), .null, .int 0])) := mp_self _ _ _
    exact mw_v hx hb hr hlocks hM hF hS (Nat.zero_le _) (Nat.zero_le _) ⟨rfl, congrArg (a₁ := (n_fl q)) (a₂ := d_slot d q) (fun z : Int32 => mp_up M h0 (nC (k0, hd, d_op d, z, k1, k2, k3, k4, 0, -1, -1, -1, none, 0))) (by simp [d_slot, ey1])⟩ dd_N_init_97
  · refine lv_iconst (v := 0) hx hb dd_N_init_60 (by decide) ?_
    refine lv_goto (tgt := 71) hx hb dd_N_init_61 (by decide) ?_
    refine mg_put (v := .int 0) hx hb ht ii_N tt_N tt_N_ok nn_N hown hK hM hS (hF _ (by rw [m0]; exact Option.some_ne_none _)) m0 rfl 3 (by decide) wd_2_39 (fun _ h => h) (Or.inr ⟨rfl, hname, rfl⟩) rfl rfl rfl (Nat.le_of_ble_eq_true rfl) dd_N_init_71 (fun H locs hM hz hoq hS => ?_)
    have hsz := hz.trans hsz
    rw [mp_mp] at hM
    have hM : hm G (mp_up M h0 (.inr (2, [.int k0, .ref hd, va_rf (d_op d), .int 0, .int 0, .long 0, .long 0, .int 0, .int 0, .int (-1), .int (-1), .int (-1), .null, .int 0]))) H := hM
    have hF : ∀ z9, (mp_up M h0 (.inr (2, [.int k0, .ref hd, va_rf (d_op d), .int 0, .int 0, .long 0, .long 0, .int 0, .int 0, .int (-1), .int (-1), .int (-1), .null, .int 0]))) z9 ≠ none → fr M sz z9 := hF_same hF
    have m0 : (mp_up M h0 (.inr (2, [.int k0, .ref hd, va_rf (d_op d), .int 0, .int 0, .long 0, .long 0, .int 0, .int 0, .int (-1), .int (-1), .int (-1), .null, .int 0]))) h0 = some (.inr (2, [.int k0, .ref hd, va_rf (d_op d), .int 0, .int 0, .long 0, .long 0, .int 0, .int 0, .int (-1), .int (-1), .int (-1), .null, .int 0])) := mp_self _ _ _
    refine lv_aload_n hx hb dd_N_init_74 rfl (lv_at hl 0 rfl) ?_
    refine lv_iload_n hx hb dd_N_init_75 rfl (lv_at hl 3 rfl) ?_
    refine mg_put (v := .int k1) hx hb ht ii_N tt_N tt_N_ok nn_N hown hK hM hS (hF _ (by rw [m0]; exact Option.some_ne_none _)) m0 rfl 4 (by decide) wd_2_41 (fun _ h => h) (Or.inr ⟨rfl, hname, rfl⟩) rfl rfl rfl (Nat.le_of_ble_eq_true rfl) dd_N_init_76 (fun H locs hM hz hoq hS => ?_)
    have hsz := hz.trans hsz
    rw [mp_mp] at hM
    have hM : hm G (mp_up M h0 (.inr (2, [.int k0, .ref hd, va_rf (d_op d), .int 0, .int k1, .long 0, .long 0, .int 0, .int 0, .int (-1), .int (-1), .int (-1), .null, .int 0]))) H := hM
    have hF : ∀ z9, (mp_up M h0 (.inr (2, [.int k0, .ref hd, va_rf (d_op d), .int 0, .int k1, .long 0, .long 0, .int 0, .int 0, .int (-1), .int (-1), .int (-1), .null, .int 0]))) z9 ≠ none → fr M sz z9 := hF_same hF
    have m0 : (mp_up M h0 (.inr (2, [.int k0, .ref hd, va_rf (d_op d), .int 0, .int k1, .long 0, .long 0, .int 0, .int 0, .int (-1), .int (-1), .int (-1), .null, .int 0]))) h0 = some (.inr (2, [.int k0, .ref hd, va_rf (d_op d), .int 0, .int k1, .long 0, .long 0, .int 0, .int 0, .int (-1), .int (-1), .int (-1), .null, .int 0])) := mp_self _ _ _
    refine lv_aload_n hx hb dd_N_init_79 rfl (lv_at hl 0 rfl) ?_
    refine lv_lload hx hb dd_N_init_80 (lv_at hl 4 rfl) ?_
    refine mg_put (v := .long k2) hx hb ht ii_N tt_N tt_N_ok nn_N hown hK hM hS (hF _ (by rw [m0]; exact Option.some_ne_none _)) m0 rfl 5 (by decide) wd_2_44 (fun _ h => h) (Or.inr ⟨rfl, hname, rfl⟩) rfl rfl rfl (Nat.le_of_ble_eq_true rfl) dd_N_init_82 (fun H locs hM hz hoq hS => ?_)
    have hsz := hz.trans hsz
    rw [mp_mp] at hM
    have hM : hm G (mp_up M h0 (.inr (2, [.int k0, .ref hd, va_rf (d_op d), .int 0, .int k1, .long k2, .long 0, .int 0, .int 0, .int (-1), .int (-1), .int (-1), .null, .int 0]))) H := hM
    have hF : ∀ z9, (mp_up M h0 (.inr (2, [.int k0, .ref hd, va_rf (d_op d), .int 0, .int k1, .long k2, .long 0, .int 0, .int 0, .int (-1), .int (-1), .int (-1), .null, .int 0]))) z9 ≠ none → fr M sz z9 := hF_same hF
    have m0 : (mp_up M h0 (.inr (2, [.int k0, .ref hd, va_rf (d_op d), .int 0, .int k1, .long k2, .long 0, .int 0, .int 0, .int (-1), .int (-1), .int (-1), .null, .int 0]))) h0 = some (.inr (2, [.int k0, .ref hd, va_rf (d_op d), .int 0, .int k1, .long k2, .long 0, .int 0, .int 0, .int (-1), .int (-1), .int (-1), .null, .int 0])) := mp_self _ _ _
    refine lv_aload_n hx hb dd_N_init_85 rfl (lv_at hl 0 rfl) ?_
    refine lv_lload hx hb dd_N_init_86 (lv_at hl 5 rfl) ?_
    refine mg_put (v := .long k3) hx hb ht ii_N tt_N tt_N_ok nn_N hown hK hM hS (hF _ (by rw [m0]; exact Option.some_ne_none _)) m0 rfl 6 (by decide) wd_2_46 (fun _ h => h) (Or.inr ⟨rfl, hname, rfl⟩) rfl rfl rfl (Nat.le_of_ble_eq_true rfl) dd_N_init_88 (fun H locs hM hz hoq hS => ?_)
    have hsz := hz.trans hsz
    rw [mp_mp] at hM
    have hM : hm G (mp_up M h0 (.inr (2, [.int k0, .ref hd, va_rf (d_op d), .int 0, .int k1, .long k2, .long k3, .int 0, .int 0, .int (-1), .int (-1), .int (-1), .null, .int 0]))) H := hM
    have hF : ∀ z9, (mp_up M h0 (.inr (2, [.int k0, .ref hd, va_rf (d_op d), .int 0, .int k1, .long k2, .long k3, .int 0, .int 0, .int (-1), .int (-1), .int (-1), .null, .int 0]))) z9 ≠ none → fr M sz z9 := hF_same hF
    have m0 : (mp_up M h0 (.inr (2, [.int k0, .ref hd, va_rf (d_op d), .int 0, .int k1, .long k2, .long k3, .int 0, .int 0, .int (-1), .int (-1), .int (-1), .null, .int 0]))) h0 = some (.inr (2, [.int k0, .ref hd, va_rf (d_op d), .int 0, .int k1, .long k2, .long k3, .int 0, .int 0, .int (-1), .int (-1), .int (-1), .null, .int 0])) := mp_self _ _ _
    refine lv_aload_n hx hb dd_N_init_91 rfl (lv_at hl 0 rfl) ?_
    refine lv_iload hx hb dd_N_init_92 (lv_at hl 6 rfl) ?_
    refine mg_put (v := .int k4) hx hb ht ii_N tt_N tt_N_ok nn_N hown hK hM hS (hF _ (by rw [m0]; exact Option.some_ne_none _)) m0 rfl 7 (by decide) wd_2_47 (fun _ h => h) (Or.inr ⟨rfl, hname, rfl⟩) rfl rfl rfl (Nat.le_of_ble_eq_true rfl) dd_N_init_94 (fun H locs hM hz hoq hS => ?_)
    have hsz := hz.trans hsz
    rw [mp_mp] at hM
    have hM : hm G (mp_up M h0 (.inr (2, [.int k0, .ref hd, va_rf (d_op d), .int 0, .int k1, .long k2, .long k3, .int k4, .int 0, .int (-1), .int (-1), .int (-1), .null, .int 0]))) H := hM
    have hF : ∀ z9, (mp_up M h0 (.inr (2, [.int k0, .ref hd, va_rf (d_op d), .int 0, .int k1, .long k2, .long k3, .int k4, .int 0, .int (-1), .int (-1), .int (-1), .null, .int 0]))) z9 ≠ none → fr M sz z9 := hF_same hF
    have m0 : (mp_up M h0 (.inr (2, [.int k0, .ref hd, va_rf (d_op d), .int 0, .int k1, .long k2, .long k3, .int k4, .int 0, .int (-1), .int (-1), .int (-1), .null, .int 0]))) h0 = some (.inr (2, [.int k0, .ref hd, va_rf (d_op d), .int 0, .int k1, .long k2, .long k3, .int k4, .int 0, .int (-1), .int (-1), .int (-1), .null, .int 0])) := mp_self _ _ _
    exact mw_v hx hb hr hlocks hM hF hS (Nat.zero_le _) (Nat.zero_le _) ⟨rfl, congrArg (a₁ := 0) (a₂ := d_slot d q) (fun z : Int32 => mp_up M h0 (nC (k0, hd, d_op d, z, k1, k2, k3, k4, 0, -1, -1, -1, none, 0))) (by simp [d_slot, ey1])⟩ dd_N_init_97
