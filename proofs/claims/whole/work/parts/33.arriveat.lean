set_option maxHeartbeats 4000000 in
set_option maxRecDepth 100000 in
theorem cc_L_arriveAt {l : Launch} {G : gC} {M : mC} {sz : Nat} {x ld ln ed en nd nn : Nat} {aD aN : Nat → Nat} {D : Nat → dR} {N : Nat → nR} {pn : Nat → Nat → Int64} {pt : Nat → Nat → Int32} {kn : Bool} {ft fn mv : Int32} (hR : rp G M x ld ln ed en nd nn aD aN D N pn pt kn ft fn mv) {ho : Nat → Nat} {pa ca op : Nat → Option Nat} (hI : rl nd nn aD aN D N ho pa ca op) {j : Nat} (hj : j < nn) : cW l yy_L_arriveAt bb_L_arriveAt 2 (some .boolean) 4 0 0 G M sz [.ref x, .ref (aN j)] (fun v u => v = some (.int (bI (c_arrive nd aD D pn pt N ho pa nn j).2)) ∧ rp G u x ld ln ed en nd nn aD aN D (va_up N j (c_arrive nd aD D pn pt N ho pa nn j).1) pn pt kn ft fn mv) := by
  refine me_W (by decide) (Nat.le_of_ble_eq_true rfl) ?_
  intro p e s m below meth c ls hx hb hr hlocks hml hown hname ht hsz hM hK hZ hl
  have hown : s.vm.findClass RR_L = some m.cls := hown
  have hl : lv_has ls 2 [(0, .ref x), (1, .ref (aN j))] := hl
  have hS : va_S (fr M sz) s.heap s.heap [] := va_S.rf
  have hF : ∀ q, M q ≠ none → fr M sz q := fr_M
  have hA : ∀ q, s.heap.size ≤ q → fr M sz q := fun q h => fr_A q (by rw [← hsz]; exact h)
  obtain ⟨mx, hLd, hLn, hD, hN, hAp, hnd, hnn⟩ := id hR
  obtain ⟨cl, ml⟩ := ls_obj hLd
  obtain ⟨ck, mk⟩ := ls_obj hLn
  have hE := mz_E hZ
  have h00 := mz_none hZ
  have me := (hN j hj).1
  have md : M (n_ho (N j)) = some (dC (D (ho j))) := by rw [(hI.1 j hj).1]; exact (hD _ (hI.1 j hj).2.1).1
  refine lv_aload_n hx hb dd_L_arriveAt_0 rfl (lv_at hl 1 rfl) ?_
  have hFr := hF_fr hF hS hA
  refine mx_V (As := []) (rest := []) 0 (cc_N_countVariables me md (q := c_q N (pa j)) (rl_q hI hN hj) (rl_qne hI hN hnn hj)) hx hb hml hown ht hM hK hZ hS hFr hl.1 lk_L_193 (by decide +kernel) (by decide) me rfl rfl rfl (Nat.le_of_ble_eq_true rfl) dd_L_arriveAt_1 ⟨Nat.zero_le _, Nat.zero_le _⟩ (fun v u1 H locs hp hM hd hle hk hS => ?_)
  obtain ⟨rfl, hu⟩ := hp
  have hF := fun z9 h => hFr z9 (hd z9 h)
  have h01 := e_none hF hE
  obtain ⟨r1, er1⟩ : ∃ z, z = n_s_va (N j) (n_count (N j) (c_q N (pa j)) (D (ho j))) := ⟨_, rfl⟩
  rw [← er1] at hu
  have hk1 : n_kd r1 = n_kd (N j) := by rw [er1]
  have hf1 : n_fi r1 = n_fi (N j) := by rw [er1]
  have hp1 : n_pa r1 = n_pa (N j) := by rw [er1]
  have hh1 : n_ho r1 = n_ho (N j) := by rw [er1]
  have hn1 : n_num r1 = n_num (N j) := by rw [er1]
  have hR1 := rp_setN hR h00 hj hn1
  rw [← hu] at hR1
  obtain ⟨mx, hLd, hLn, hD, hN, -, -, -⟩ := id hR1
  obtain ⟨cl, ml⟩ := ls_obj hLd
  obtain ⟨ck, mk⟩ := ls_obj hLn
  have me : u1 (aN j) = some (nC r1) := by rw [hu]; exact mp_self _ _ _
  refine lv_aload_n hx hb dd_L_arriveAt_4 rfl (lv_at hl 1 rfl) ?_
  refine mg_get hx hb ht ii_N hown hK hM me rfl 4 (by decide) wd_2_43 (fun _ h => h) rfl dd_L_arriveAt_5 ?_
  refine lv_iconst (v := 1) hx hb dd_L_arriveAt_8 (by decide) ?_
  refine lv_icmp_ne (tgt := 17) hx hb dd_L_arriveAt_9 (by decide) (fun c1 => ?_) (fun c1 => ?_)
  · refine lv_aload_n hx hb dd_L_arriveAt_17 rfl (lv_at hl 1 rfl) ?_
    refine mg_get hx hb ht ii_N hown hK hM me rfl 4 (by decide) wd_2_43 (fun _ h => h) rfl dd_L_arriveAt_18 ?_
    refine mc_S (As := [.int (n_kd r1)]) (rest := []) 1 (cc_K_isCall (k := (n_kd r1))) hx hb hml hown ht hM hK hl.1 lk_L_199 (by decide +kernel) (by decide) rfl rfl (Nat.le_of_ble_eq_true rfl) dd_L_arriveAt_21 ⟨Nat.zero_le _, Nat.zero_le _⟩ ?_
    refine lb_if_eq (tgt := 40) hx hb dd_L_arriveAt_24 (by decide) (fun c2 => ?_) (fun c2 => ?_)
    · refine lv_aload_n hx hb dd_L_arriveAt_40 rfl (lv_at hl 1 rfl) ?_
      refine lv_aload_n hx hb dd_L_arriveAt_41 rfl (lv_at hl 1 rfl) ?_
      refine mg_get hx hb ht ii_N hown hK hM me rfl 4 (by decide) wd_2_43 (fun _ h => h) rfl dd_L_arriveAt_42 ?_
      refine mc_S (As := [.int (n_kd r1)]) (rest := [.ref (aN j)]) 1 (cc_K_ownType (k := (n_kd r1))) hx hb hml hown ht hM hK hl.1 lk_L_209 (by decide +kernel) (by decide) rfl rfl (Nat.le_of_ble_eq_true rfl) dd_L_arriveAt_45 ⟨Nat.zero_le _, Nat.zero_le _⟩ ?_
      refine mg_put (v := .int (k_ownType (n_kd r1))) hx hb ht ii_N tt_N tt_N_ok nn_N hown hK hM hS (hF _ (by rw [me]; exact Option.some_ne_none _)) me rfl 9 (by decide) wd_2_53 (fun _ h => h) (Or.inl rfl) rfl rfl rfl (Nat.le_of_ble_eq_true rfl) dd_L_arriveAt_48 (fun H locs hM hz hoq hS => ?_)
      have hM : hm G (mp_up u1 (aN j) (nC (n_s_vt r1 (k_ownType (n_kd r1))))) H := hM
      have hF : ∀ z9, (mp_up u1 (aN j) (nC (n_s_vt r1 (k_ownType (n_kd r1))))) z9 ≠ none → fr M sz z9 := hF_put hF (hF _ (by rw [me]; exact Option.some_ne_none _))
      have me : (mp_up u1 (aN j) (nC (n_s_vt r1 (k_ownType (n_kd r1))))) (aN j) = some (nC (n_s_vt r1 (k_ownType (n_kd r1)))) := mp_self _ _ _
      refine lv_iconst (v := 1) hx hb dd_L_arriveAt_51 (by decide) ?_
      have kc1 := c1
      rw [hk1] at kc1
      have kc2 := c2
      rw [hk1] at kc2
      have hca : c_arrive nd aD D pn pt N ho pa nn j = (n_s_vt r1 (k_ownType (n_kd (N j))), true) := by unfold c_arrive; rw [if_neg kc1, if_neg (by rw [kc2]; decide), ← er1]
      have hR2 := rp_setN hR1 h01 hj (r := n_s_vt r1 (k_ownType (n_kd r1))) (by rw [va_up_self])
      rw [bx_uu, hk1] at hR2
      exact mw_i hx hb hr hlocks rfl hM hF hS (Nat.zero_le _) (Nat.zero_le _) ⟨by rw [hca]; rfl, by rw [hca, hk1]; exact hR2⟩ dd_L_arriveAt_52
    · refine lv_aload_n hx hb dd_L_arriveAt_27 rfl (lv_at hl 1 rfl) ?_
      refine lv_aload_n hx hb dd_L_arriveAt_28 rfl (lv_at hl 0 rfl) ?_
      refine lv_aload_n hx hb dd_L_arriveAt_29 rfl (lv_at hl 1 rfl) ?_
      refine mg_get hx hb ht ii_N hown hK hM me rfl 5 (by decide) wd_2_45 (fun _ h => h) rfl dd_L_arriveAt_30 ?_
      refine mc_V (As := [.long (n_fi r1)]) (rest := [.ref (aN j)]) 1 (cc_L_definitionNamed hR1 (nm := n_fi r1)) hx hb hml hown ht hM hK hl.1 lk_L_53 (by decide +kernel) (by decide) mx rfl rfl rfl (Nat.le_of_ble_eq_true rfl) dd_L_arriveAt_33 ⟨Nat.zero_le _, Nat.zero_le _⟩ ?_
      rw [hf1]
      rcases ey3 : ((c_named D (n_fi (N j)) nd 0).map aD) with _ | y3
      · have hFr := hF_fr hF hS hA
        refine mx_V (As := [.null]) (rest := []) 1 (cc_N_aimAt_n me) hx hb hml hown ht hM hK hZ hS hFr hl.1 lk_L_205 (by decide +kernel) (by decide) me rfl rfl rfl (Nat.le_of_ble_eq_true rfl) dd_L_arriveAt_36 ⟨Nat.zero_le _, Nat.zero_le _⟩ (fun v u2 H locs hp hM hd hle hk hS => ?_)
        obtain ⟨rfl, hu2⟩ := hp
        have hF := fun z9 h => hFr z9 (hd z9 h)
        have kc1 := c1
        rw [hk1] at kc1
        have kc2 := c2
        rw [hk1] at kc2
        have hca : c_arrive nd aD D pn pt N ho pa nn j = (r1, false) := by unfold c_arrive; rw [if_neg kc1, if_pos kc2, map_none ey3, ← er1]
        rw [← hu2] at hR1
        exact mw_i hx hb hr hlocks rfl hM hF hS (Nat.zero_le _) (Nat.zero_le _) ⟨by rw [hca]; rfl, by rw [hca]; exact hR1⟩ dd_L_arriveAt_39
      · obtain ⟨t9, et9, ea9⟩ := map_some ey3
        have ht9 : t9 < nd := by have := c_named_lt nd 0 t9 et9; omega
        have my3 : u1 y3 = some (dC (D t9)) := by rw [ea9]; exact (hD t9 ht9).1
        have hFr := hF_fr hF hS hA
        refine mx_V (As := [.ref y3]) (rest := []) 1 (cc_N_aimAt_s me my3 (hm_nd my3 me)) hx hb hml hown ht hM hK hZ hS hFr hl.1 lk_L_205 (by decide +kernel) (by decide) me rfl rfl rfl (Nat.le_of_ble_eq_true rfl) dd_L_arriveAt_36 ⟨Nat.zero_le _, Nat.zero_le _⟩ (fun v u2 H locs hp hM hd hle hk hS => ?_)
        obtain ⟨rfl, hu2⟩ := hp
        have hF := fun z9 h => hFr z9 (hd z9 h)
        have kc1 := c1
        rw [hk1] at kc1
        have kc2 := c2
        rw [hk1] at kc2
        have hca : c_arrive nd aD D pn pt N ho pa nn j = (if n_aimOk r1 (D t9) = true then (n_s_vt (n_s_ca r1 (some (aD t9))) (d_vt (D t9)), true) else (r1, false)) := by unfold c_arrive; rw [if_neg kc1, if_pos kc2, et9, ← er1]
        have hR2 : rp G u2 x ld ln ed en nd nn aD aN D (va_up N j (c_arrive nd aD D pn pt N ho pa nn j).1) pn pt kn ft fn mv ∧ (c_arrive nd aD D pn pt N ho pa nn j).2 = n_aimOk r1 (D t9) := by
          rw [hca]
          by_cases hok : n_aimOk r1 (D t9) = true
          · rw [if_pos hok] at hu2 ⊢
            refine ⟨?_, hok.symm⟩
            have hR2 := rp_setN hR1 h01 hj (r := n_s_vt (n_s_ca r1 (some (aD t9))) (d_vt (D t9))) (by rw [va_up_self])
            rw [bx_uu] at hR2
            rw [hu2, ea9]
            exact hR2
          · rw [if_neg hok] at hu2 ⊢
            refine ⟨?_, (Bool.eq_false_iff.mpr hok).symm⟩
            rw [hu2]
            exact hR1
        exact mw_i hx hb hr hlocks bI_z hM hF hS (Nat.zero_le _) (Nat.zero_le _) ⟨by rw [hR2.2], hR2.1⟩ dd_L_arriveAt_39
  · refine lv_aload_n hx hb dd_L_arriveAt_12 rfl (lv_at hl 1 rfl) ?_
    have hpp := rl_pp hI hp1
    have hch := chn_L hN hpp (nn + 1) (pa j) (fun p hp => by have := (hpp j hj).2 p hp; omega)
    have hcd := chd_L hN hnn hj hpp (nn + 1) (pa j) (fun p hp => by have := (hpp j hj).2 p hp; omega)
    have hpj : (pa j).map aN = n_pa r1 := by rw [hp1]; exact (hI.1 j hj).2.2.1.symm
    rw [hpj] at hch hcd
    have hhj : n_ho r1 = aD (ho j) := hh1.trans (hI.1 j hj).1
    obtain ⟨g1, g2, g3, -⟩ := hD (ho j) (hI.1 j hj).2.1
    have hFr := hF_fr hF hS hA
    refine mx_V (As := []) (rest := []) 0 (cc_N_bind me (by rw [hhj]; exact g1) g2 g3 hch hcd) hx hb hml hown ht hM hK hZ hS hFr hl.1 lk_L_196 (by decide +kernel) (by decide) me rfl rfl rfl (Nat.le_of_ble_eq_true rfl) dd_L_arriveAt_13 ⟨Nat.zero_le _, Nat.zero_le _⟩ (fun v u2 H locs hp hM hd hle hk hS => ?_)
    obtain ⟨rfl, hu2⟩ := hp
    have hF := fun z9 h => hFr z9 (hd z9 h)
    rw [hf1] at hu2 ⊢
    have kc1 := c1
    rw [hk1] at kc1
    have hca : c_arrive nd aD D pn pt N ho pa nn j = (n_s_vt (n_s_bb r1 (n_bv (n_bnd (n_fi (N j)) r1 (c_chL (va_up N j r1) pa (nn + 1) (pa j))) (d_index (D (ho j)) (pn (ho j)) (n_fi (N j))))) (n_bt (n_bnd (n_fi (N j)) r1 (c_chL (va_up N j r1) pa (nn + 1) (pa j))) (n_fi (N j)) (D (ho j)) (pt (ho j)) (d_index (D (ho j)) (pn (ho j)) (n_fi (N j)))), n_bok (n_bnd (n_fi (N j)) r1 (c_chL (va_up N j r1) pa (nn + 1) (pa j))) (d_index (D (ho j)) (pn (ho j)) (n_fi (N j)))) := by unfold c_arrive; rw [if_pos kc1, ← er1]
    have hR2 := rp_setN hR1 h01 hj (r := n_s_vt (n_s_bb r1 (n_bv (n_bnd (n_fi (N j)) r1 (c_chL (va_up N j r1) pa (nn + 1) (pa j))) (d_index (D (ho j)) (pn (ho j)) (n_fi (N j))))) (n_bt (n_bnd (n_fi (N j)) r1 (c_chL (va_up N j r1) pa (nn + 1) (pa j))) (n_fi (N j)) (D (ho j)) (pt (ho j)) (d_index (D (ho j)) (pn (ho j)) (n_fi (N j))))) (by rw [va_up_self])
    rw [← hu2, bx_uu] at hR2
    exact mw_i hx hb hr hlocks bI_z hM hF hS (Nat.zero_le _) (Nat.zero_le _) ⟨by rw [hca], by rw [hca]; exact hR2⟩ dd_L_arriveAt_16
