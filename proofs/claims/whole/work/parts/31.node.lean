set_option maxHeartbeats 4000000 in
set_option maxRecDepth 100000 in
theorem cc_L_node_n {l : Launch} {G : gC} {M : mC} {sz : Nat} {x ld ln ed en nn : Nat} {aD aN : Nat → Nat} {D : Nat → dR} {N : Nat → nR} {pn : Nat → Nat → Int64} {pt : Nat → Nat → Int32} {kn : Bool} {ft fn mv : Int32} (hR : rp G M x ld ln ed en 0 nn aD aN D N pn pt kn ft fn mv) {kd pts : Int32} {fi se : Int64} : cW l yy_L_node bb_L_node 9 (some .int) 7 8 4000 G M sz [.ref x, .int kd, .long fi, .long se, .int pts] (fun v u => v = some (.int (-1)) ∧ u = M) := by
  refine me_W (by decide) (Nat.le_of_ble_eq_true rfl) ?_
  intro p e s m below meth c ls hx hb hr hlocks hml hown hname ht hsz hM hK hZ hl
  have hown : s.vm.findClass RR_L = some m.cls := hown
  have hl : lv_has ls 9 [(0, .ref x), (1, .int kd), (2, .long fi), (4, .long se), (6, .int pts)] := hl
  have hS : va_S (fr M sz) s.heap s.heap [] := va_S.rf
  have hF : ∀ q, M q ≠ none → fr M sz q := fr_M
  have hA : ∀ q, s.heap.size ≤ q → fr M sz q := fun q h => fr_A q (by rw [← hsz]; exact h)
  obtain ⟨mx, hLd, hLn, hD, hN, hAp, hnd, hnn⟩ := id hR
  obtain ⟨cl, ml⟩ := ls_obj hLd
  obtain ⟨ck, mk⟩ := ls_obj hLn
  refine lv_aload_n hx hb dd_L_node_0 rfl (lv_at hl 0 rfl) ?_
  refine mc_V (As := []) (rest := []) 0 (cc_L_lastDefinition_n hR) hx hb hml hown ht hM hK hl.1 lk_L_69 (by decide +kernel) (by decide) mx rfl rfl rfl (Nat.le_of_ble_eq_true rfl) dd_L_node_1 ⟨Nat.le_of_ble_eq_true rfl, Nat.le_of_ble_eq_true rfl⟩ ?_
  refine lv_astoreN (lv' := [(7, .null), (0, .ref x), (1, .int kd), (2, .long fi), (4, .long se), (6, .int pts)]) hx hb dd_L_node_4 hl (by decide) rfl (fun ls hl => ?_)
  refine lv_aloadN hx hb dd_L_node_6 (lv_at hl 0 rfl) ?_
  refine lv_ifnullN (tgt := 32) hx hb dd_L_node_8 (by decide) ?_
  refine lv_iconst (v := -1) hx hb dd_L_node_32 (by decide) ?_
  exact mw_i hx hb hr hlocks rfl hM hF hS (Nat.le_of_ble_eq_true rfl) (Nat.le_of_ble_eq_true rfl) ⟨rfl, rfl⟩ dd_L_node_33

set_option maxHeartbeats 4000000 in
set_option maxRecDepth 100000 in
theorem cc_L_node_s {l : Launch} {G : gC} {M : mC} {sz : Nat} {x ld ln ed en k nn : Nat} {aD aN : Nat → Nat} {D : Nat → dR} {N : Nat → nR} {pn : Nat → Nat → Int64} {pt : Nat → Nat → Int32} {kn : Bool} {ft fn mv : Int32} (hR : rp G M x ld ln ed en (k + 1) nn aD aN D N pn pt kn ft fn mv) {ho : Nat → Nat} {pa ca op : Nat → Option Nat} (hI : rl (k + 1) nn aD aN D N ho pa ca op) (hn6 : nn < 600) {kd pts : Int32} {fi se : Int64} : cW l yy_L_node bb_L_node 9 (some .int) 7 8 4000 G M sz [.ref x, .int kd, .long fi, .long se, .int pts] (fun v u => (c_nodeOk kd fi se pts (D k) (N ((op k).getD 0)) nn = false ∧ v = some (.int (-1)) ∧ u = M) ∨ (c_nodeOk kd fi se pts (D k) (N ((op k).getD 0)) nn = true ∧ v = some (.int (nI nn)) ∧ ∃ a en', rp G u x ld ln ed en' (k + 1) (nn + 1) aD (va_up aN nn a) (va_up D k (d_s_op (d_s_beg (D k) true) ((c_rest (c_bump (va_up N nn (c_new nn (aD k) (d_op (D k)) (d_slot (D k) (N ((op k).getD 0))) kd fi se pts)) (op k)) (va_up pa nn (op k)) (nn + 2) (some nn)).map (va_up aN nn a)))) (c_bump (va_up N nn (c_new nn (aD k) (d_op (D k)) (d_slot (D k) (N ((op k).getD 0))) kd fi se pts)) (op k)) pn pt false ft fn mv)) := by
  refine me_W (by decide) (Nat.le_of_ble_eq_true rfl) ?_
  intro p e s m below meth c ls hx hb hr hlocks hml hown hname ht hsz hM hK hZ hl
  have hown : s.vm.findClass RR_L = some m.cls := hown
  have hl : lv_has ls 9 [(0, .ref x), (1, .int kd), (2, .long fi), (4, .long se), (6, .int pts)] := hl
  have hS : va_S (fr M sz) s.heap s.heap [] := va_S.rf
  have hF : ∀ q, M q ≠ none → fr M sz q := fr_M
  have hA : ∀ q, s.heap.size ≤ q → fr M sz q := fun q h => fr_A q (by rw [← hsz]; exact h)
  obtain ⟨mx, hLd, hLn, hD, hN, hAp, hnd, hnn⟩ := id hR
  obtain ⟨cl, ml⟩ := ls_obj hLd
  obtain ⟨ck, mk⟩ := ls_obj hLn
  have hE := mz_E hZ
  have mq : ∀ y, d_op (D k) = some y → M y = some (nC (N ((op k).getD 0))) := fun y hy => by
    obtain ⟨o, ho9, eo, ea⟩ := rl_op hI (Nat.lt_succ_self k) hy
    rw [ea, eo]
    exact (hN o ho9).1
  refine lv_aload_n hx hb dd_L_node_0 rfl (lv_at hl 0 rfl) ?_
  refine mc_V (As := []) (rest := []) 0 (cc_L_lastDefinition_s hR) hx hb hml hown ht hM hK hl.1 lk_L_69 (by decide +kernel) (by decide) mx rfl rfl rfl (Nat.le_of_ble_eq_true rfl) dd_L_node_1 ⟨Nat.le_of_ble_eq_true rfl, Nat.le_of_ble_eq_true rfl⟩ ?_
  obtain ⟨me, mn, mt, -⟩ := hD k (Nat.lt_succ_self k)
  refine lv_astore (lv' := [(7, .ref (aD k)), (0, .ref x), (1, .int kd), (2, .long fi), (4, .long se), (6, .int pts)]) hx hb dd_L_node_4 hl (by decide) rfl (fun ls hl => ?_)
  refine lv_aload hx hb dd_L_node_6 (lv_at hl 0 rfl) ?_
  refine lv_ifnull hx hb dd_L_node_8 ?_
  refine lv_aload hx hb dd_L_node_11 (lv_at hl 0 rfl) ?_
  refine mc_V (As := []) (rest := []) 0 (cc_D_isWhole me) hx hb hml hown ht hM hK hl.1 lk_L_87 (by decide +kernel) (by decide) me rfl rfl rfl (Nat.le_of_ble_eq_true rfl) dd_L_node_13 ⟨Nat.zero_le _, Nat.zero_le _⟩ ?_
  refine lb_if_ne (tgt := 32) hx hb dd_L_node_16 (by decide) (fun c1 => ?_) (fun c1 => ?_)
  · refine lv_iconst (v := -1) hx hb dd_L_node_32 (by decide) ?_
    exact mw_i hx hb hr hlocks rfl hM hF hS (Nat.le_of_ble_eq_true rfl) (Nat.le_of_ble_eq_true rfl) (Or.inl ⟨by simp [c_nodeOk, c1], rfl, rfl⟩) dd_L_node_33
  · refine lv_aload_n hx hb dd_L_node_19 rfl (lv_at hl 1 rfl) ?_
    refine mg_get hx hb ht ii_L hown hK hM mx rfl 1 (by decide) wd_1_51 (fun _ h => h) rfl dd_L_node_20 ?_
    refine mc_V (As := []) (rest := []) 0 (ls_size hLn) hx hb hml hown ht hM hK hl.1 lk_L_49 (by decide +kernel) (by decide) mk rfl rfl rfl (Nat.le_of_ble_eq_true rfl) dd_L_node_23 ⟨Nat.le_of_ble_eq_true rfl, Nat.le_of_ble_eq_true rfl⟩ ?_
    refine lv_sipush (v := 4096) hx hb dd_L_node_26 (by decide) ?_
    refine lv_icmp_lt (tgt := 34) hx hb dd_L_node_29 (by decide) (fun c2 => ?_) (fun c2 => ?_)
    · refine lv_iload_n hx hb dd_L_node_34 rfl (lv_at hl 2 rfl) ?_
      refine mc_S (As := [.int kd]) (rest := []) 1 (cc_K_isKind (k := kd)) hx hb hml hown ht hM hK hl.1 lk_L_90 (by decide +kernel) (by decide) rfl rfl (Nat.le_of_ble_eq_true rfl) dd_L_node_35 ⟨Nat.zero_le _, Nat.zero_le _⟩ ?_
      refine lb_if_eq (tgt := 53) hx hb dd_L_node_38 (by decide) (fun c3 => ?_) (fun c3 => ?_)
      · refine lv_iconst (v := -1) hx hb dd_L_node_53 (by decide) ?_
        exact mw_i hx hb hr hlocks rfl hM hF hS (Nat.le_of_ble_eq_true rfl) (Nat.le_of_ble_eq_true rfl) (Or.inl ⟨by simp [c_nodeOk, c1, c2, c3], rfl, rfl⟩) dd_L_node_54
      · refine lv_iload_n hx hb dd_L_node_41 rfl (lv_at hl 2 rfl) ?_
        refine mc_S (As := [.int kd]) (rest := []) 1 (cc_K_isChange (k := kd)) hx hb hml hown ht hM hK hl.1 lk_L_95 (by decide +kernel) (by decide) rfl rfl (Nat.le_of_ble_eq_true rfl) dd_L_node_42 ⟨Nat.zero_le _, Nat.zero_le _⟩ ?_
        refine lv_aload hx hb dd_L_node_45 (lv_at hl 0 rfl) ?_
        refine mc_V (As := []) (rest := [.int (bI (k_isChange kd))]) 0 (cc_D_wantsChange me (q := (N ((op k).getD 0))) mq) hx hb hml hown ht hM hK hl.1 lk_L_98 (by decide +kernel) (by decide) me rfl rfl rfl (Nat.le_of_ble_eq_true rfl) dd_L_node_47 ⟨Nat.le_of_ble_eq_true rfl, Nat.le_of_ble_eq_true rfl⟩ ?_
        refine lv_icmp_eq (tgt := 55) hx hb dd_L_node_50 (by decide) (fun c4 => ?_) (fun c4 => ?_)
        · have c4 := (beq_iff_eq.mpr (bI_eq.mp c4) : ((k_isChange kd) == (d_wants (D k) (N ((op k).getD 0)))) = true)
          refine lv_iload_n hx hb dd_L_node_55 rfl (lv_at hl 2 rfl) ?_
          refine lv_iload hx hb dd_L_node_56 (lv_at hl 5 rfl) ?_
          have hFr := hF_fr hF hS hA
          refine mx_S (As := [.int kd, .int pts]) (rest := []) 2 (cc_K_partsFit (k := kd) (n := pts)) hx hb hml hown ht hM hK hZ hS hFr hl.1 lk_L_101 (by decide +kernel) (by decide) rfl rfl (Nat.le_of_ble_eq_true rfl) dd_L_node_58 ⟨Nat.le_of_ble_eq_true rfl, Nat.le_of_ble_eq_true rfl⟩ (fun v u H locs hp hM hd hle hk hS => ?_)
          obtain ⟨rfl, hu⟩ := hp
          rw [hu] at hM hd
          clear hu
          have hF := fun z9 h => hFr z9 (hd z9 h)
          obtain ⟨az, hsz⟩ : ∃ z9, H.size = z9 := ⟨_, rfl⟩
          refine lb_if_eq (tgt := 74) hx hb dd_L_node_61 (by decide) (fun c5 => ?_) (fun c5 => ?_)
          · refine lv_iconst (v := -1) hx hb dd_L_node_74 (by decide) ?_
            exact mw_i hx hb hr hlocks rfl hM hF hS (Nat.le_of_ble_eq_true rfl) (Nat.le_of_ble_eq_true rfl) (Or.inl ⟨by simp [c_nodeOk, c1, c2, c3, c4, c5], rfl, rfl⟩) dd_L_node_75
          · refine lv_iload_n hx hb dd_L_node_64 rfl (lv_at hl 2 rfl) ?_
            refine lv_lload_n hx hb dd_L_node_65 rfl (lv_at hl 3 rfl) ?_
            refine lv_lload hx hb dd_L_node_66 (lv_at hl 4 rfl) ?_
            refine mc_S (As := [.int kd, .long fi, .long se]) (rest := []) 3 (cc_K_namesFit (k := kd) (f := fi) (z := se)) hx hb hml hown ht hM hK hl.1 lk_L_105 (by decide +kernel) (by decide) rfl rfl (Nat.le_of_ble_eq_true rfl) dd_L_node_68 ⟨Nat.zero_le _, Nat.zero_le _⟩ ?_
            refine lb_if_ne (tgt := 76) hx hb dd_L_node_71 (by decide) (fun c6 => ?_) (fun c6 => ?_)
            · have hlt : nn < 600 := hn6
              have hn0 : M az = none := hm_new hM (by rw [hsz]; exact Nat.le_refl _)
              have hneD : aD k ≠ az := hm_ne me hn0
              have hneQ : ∀ y, d_op (D k) = some y → y ≠ az := fun y hy => hm_ne (mq y hy) hn0
              have hn7 : M az = none := hm_new hM (by rw [hsz]; exact Nat.le_refl _)
              refine mg_new (ci := 2) hx hb ht ii_N tt_N tt_N_ok hown wd_2_26 wd_2_27 wd_1_15 hK hM hS rfl [.int 0, .null, .null, .int 0, .int 0, .long 0, .long 0, .int 0, .int 0, .int 0, .int 0, .int 0, .null, .int 0] (fun j hj => by rcases (show j = 0 ∨ j = 1 ∨ j = 2 ∨ j = 3 ∨ j = 4 ∨ j = 5 ∨ j = 6 ∨ j = 7 ∨ j = 8 ∨ j = 9 ∨ j = 10 ∨ j = 11 ∨ j = 12 ∨ j = 13 by omega) with rfl | rfl | rfl | rfl | rfl | rfl | rfl | rfl | rfl | rfl | rfl | rfl | rfl | rfl <;> rfl) (Nat.le_of_ble_eq_true rfl) (Nat.le_of_ble_eq_true rfl) dd_L_node_76 (fun H hM hz hS => ?_)
              rw [hsz] at hM hz ⊢
              have hsz := hz
              have hM : hm G (mp_up M az (.inr (2, [.int 0, .null, .null, .int 0, .int 0, .long 0, .long 0, .int 0, .int 0, .int 0, .int 0, .int 0, .null, .int 0]))) H := hM
              have hF : ∀ z9, (mp_up M az (.inr (2, [.int 0, .null, .null, .int 0, .int 0, .long 0, .long 0, .int 0, .int 0, .int 0, .int 0, .int 0, .null, .int 0]))) z9 ≠ none → fr M sz z9 := hF_put hF (hA _ (by have := hS.1; omega))
              have ma : (mp_up M az (.inr (2, [.int 0, .null, .null, .int 0, .int 0, .long 0, .long 0, .int 0, .int 0, .int 0, .int 0, .int 0, .null, .int 0]))) az = some (.inr (2, [.int 0, .null, .null, .int 0, .int 0, .long 0, .long 0, .int 0, .int 0, .int 0, .int 0, .int 0, .null, .int 0])) := mp_self _ _ _
              have hR1 := rp_mono hR (fun q e h => mp_old (e := .inr (2, [.int 0, .null, .null, .int 0, .int 0, .long 0, .long 0, .int 0, .int 0, .int 0, .int 0, .int 0, .null, .int 0])) h hn0)
              obtain ⟨mx, hLd, hLn, hD, hN, -, -, -⟩ := id hR1
              obtain ⟨cl, ml⟩ := ls_obj hLd
              obtain ⟨ck, mk⟩ := ls_obj hLn
              have me := (hD k (Nat.lt_succ_self k)).1
              have mq := fun y hy => mp_at (e := .inr (2, [.int 0, .null, .null, .int 0, .int 0, .long 0, .long 0, .int 0, .int 0, .int 0, .int 0, .int 0, .null, .int 0])) (hneQ y hy) (mq y hy)
              refine lv_dup hx hb dd_L_node_79 rfl ?_
              refine lv_aload_n hx hb dd_L_node_80 rfl (lv_at hl 1 rfl) ?_
              refine mg_get hx hb ht ii_L hown hK hM mx rfl 1 (by decide) wd_1_51 (fun _ h => h) rfl dd_L_node_81 ?_
              refine mc_V (As := []) (rest := [.ref az, .ref az]) 0 (ls_size hLn) hx hb hml hown ht hM hK hl.1 lk_L_49 (by decide +kernel) (by decide) mk rfl rfl rfl (Nat.le_of_ble_eq_true rfl) dd_L_node_84 ⟨Nat.le_of_ble_eq_true rfl, Nat.le_of_ble_eq_true rfl⟩ ?_
              refine lv_aload hx hb dd_L_node_87 (lv_at hl 0 rfl) ?_
              refine lv_iload_n hx hb dd_L_node_89 rfl (lv_at hl 2 rfl) ?_
              refine lv_lload_n hx hb dd_L_node_90 rfl (lv_at hl 3 rfl) ?_
              refine lv_lload hx hb dd_L_node_91 (lv_at hl 4 rfl) ?_
              refine lv_iload hx hb dd_L_node_93 (lv_at hl 5 rfl) ?_
              have hFr := hF_fr hF hS hA
              refine mx_I (As := [.int (nI nn), .ref (aD k), .int kd, .long fi, .long se, .int pts]) (rest := [.ref az]) 6 (cc_N_init ma me hneD (q := (N ((op k).getD 0))) mq hneQ) hx hb hml hown ht hM hK hZ hS hFr hl.1 wd_2_30 wd_1_15 wd_2_28 wd_2_29 rfl (by decide +kernel) (by decide) rfl rfl (Nat.le_of_ble_eq_true rfl) dd_L_node_95 ⟨Nat.le_of_ble_eq_true rfl, Nat.le_of_ble_eq_true rfl⟩ (fun v u2 H locs hp hM hd hle hk hS => ?_)
              obtain ⟨rfl, hu⟩ := hp
              rw [mp_mp] at hu
              have hF := fun z9 h => hFr z9 (hd z9 h)
              have j1 : u2 az = some (nC (c_new nn (aD k) (d_op (D k)) (d_slot (D k) (N ((op k).getD 0))) kd fi se pts)) := by rw [hu]; exact mp_self _ _ _
              have j4 : ∀ q e, M q = some e → u2 q = some e := fun q e h => by rw [hu]; exact mp_old h hn0
              have hR2 := rp_mono hR j4
              obtain ⟨mx, hLd, hLn, hD, hN, -, -, -⟩ := id hR2
              obtain ⟨cl, ml⟩ := ls_obj hLd
              obtain ⟨ck, mk⟩ := ls_obj hLn
              have h02 := e_none hF hE
              refine lv_astore (lv' := [(8, .ref az), (7, .ref (aD k)), (0, .ref x), (1, .int kd), (2, .long fi), (4, .long se), (6, .int pts)]) hx hb dd_L_node_98 hl (by decide) rfl (fun ls hl => ?_)
              refine lv_aload_n hx hb dd_L_node_100 rfl (lv_at hl 2 rfl) ?_
              refine mg_get hx hb ht ii_L hown hK hM mx rfl 1 (by decide) wd_1_51 (fun _ h => h) rfl dd_L_node_101 ?_
              refine lv_aload hx hb dd_L_node_104 (lv_at hl 0 rfl) ?_
              have hFr := hF_fr hF hS hA
              refine mx_V (As := [.ref az]) (rest := []) 1 (cc_A_add hLn hnn (Or.inl ⟨_, j1⟩) (fun i hi => Or.inl ⟨_, (hN i hi).1⟩)) hx hb hml hown ht hM hK hZ hS hFr hl.1 lk_L_62 (by decide +kernel) (by decide) mk rfl rfl rfl (Nat.le_of_ble_eq_true rfl) dd_L_node_106 ⟨Nat.le_of_ble_eq_true rfl, Nat.le_of_ble_eq_true rfl⟩ (fun v u3 H locs hp hM hd hle hk hS => ?_)
              obtain ⟨rfl, en', hL3, hed, hq⟩ := hp
              have hF := fun z9 h => hFr z9 (hd z9 h)
              have h03 := e_none hF hE
              have hed2 : (en' = en ∧ ∃ cap f, u2 en = some (oA G cap f)) ∨ u2 en' = none := hed.elim Or.inl (fun h => Or.inr (by rw [h.1]; exact h.2))
              have hR3 := rp_addN hR hlt j4 j1 rfl h02 hL3 hed2 hq
              obtain ⟨mx, hLd, hLn, hD, hN, -, -, -⟩ := id hR3
              obtain ⟨cl, ml⟩ := ls_obj hLd
              obtain ⟨ck, mk⟩ := ls_obj hLn
              obtain ⟨Nm, hNn, hNs, hRm, h04⟩ := rp_bump (op k) hR3 h03 (fun j hj => by have := ((hI.2 k (Nat.lt_succ_self k)).2 j hj).1; omega)
              have hpp := node_pa (a := az) hI (Nat.lt_succ_self k) (r := (c_new nn (aD k) (d_op (D k)) (d_slot (D k) (N ((op k).getD 0))) kd fi se pts)) rfl
              have hch := chn_L hRm.2.2.2.2.1 hpp (nn + 2) (some nn) (fun j hj => by cases hj; omega)
              have e9 : (some nn).map (va_up aN nn az) = some az := by show some (va_up aN nn az nn) = _; rw [va_up_self]
              rw [e9] at hch
              have hrest := rest_L hpp (nn + 2) (some nn) (fun j hj => by cases hj; omega)
              rw [e9] at hrest
              have me := (hD k (Nat.lt_succ_self k)).1
              have j1 := (hN nn (Nat.lt_succ_self nn)).1
              rw [va_up_self, va_up_self] at j1
              refine lv_pop hx hb dd_L_node_109 rfl ?_
              refine lv_aload hx hb dd_L_node_110 (lv_at hl 1 rfl) ?_
              refine lv_aload hx hb dd_L_node_112 (lv_at hl 0 rfl) ?_
              have mq3 : ∀ y, d_op (D k) = some y → u3 y = some (nC (N ((op k).getD 0))) := fun y hy => by obtain ⟨o, ho9, eo, ea⟩ := rl_op hI (Nat.lt_succ_self k) hy; have := (hN o (by omega)).1; rw [va_up_ne _ _ (by omega), va_up_ne _ _ (by omega)] at this; rw [ea, eo]; exact this
              have hNs3 : ∀ y, d_op (D k) = some y → Nm = mp_up u3 y (nC (n_s_fl (N ((op k).getD 0)) (n_fl (N ((op k).getD 0)) + 1))) := fun y hy => by obtain ⟨o, ho9, eo, ea⟩ := rl_op hI (Nat.lt_succ_self k) hy; have := hNs o eo; rw [va_up_ne _ _ (by omega), va_up_ne _ _ (by omega)] at this; rw [ea, eo]; exact this
              have hNn3 : d_op (D k) = none → Nm = u3 := fun h => hNn (by rw [(hI.2 k (Nat.lt_succ_self k)).1] at h; exact map_none h)
              have hFr := hF_fr hF hS hA
              refine mx_V (As := [.ref az]) (rest := []) 1 (cc_D_take me mq3 hNn3 hNs3 hch) hx hb hml hown ht hM hK hZ hS hFr hl.1 lk_L_114 (by decide +kernel) (by decide) me rfl rfl rfl (Nat.le_of_ble_eq_true rfl) dd_L_node_114 ⟨Nat.le_of_ble_eq_true rfl, Nat.le_of_ble_eq_true rfl⟩ (fun v u4 H locs hp hM hd hle hk hS => ?_)
              obtain ⟨rfl, hu4⟩ := hp
              rw [hrest] at hu4
              have hF := fun z9 h => hFr z9 (hd z9 h)
              have h05 := e_none hF hE
              have hR4 := rp_setD hRm h04 (Nat.lt_succ_self k) (d := d_s_op (d_s_beg (D k) true) ((c_rest (c_bump (va_up N nn (c_new nn (aD k) (d_op (D k)) (d_slot (D k) (N ((op k).getD 0))) kd fi se pts)) (op k)) (va_up pa nn (op k)) (nn + 2) (some nn)).map (va_up aN nn az))) rfl rfl rfl
              rw [← hu4] at hR4
              obtain ⟨mx, hLd, hLn, hD, hN, -, -, -⟩ := id hR4
              obtain ⟨cl, ml⟩ := ls_obj hLd
              obtain ⟨ck, mk⟩ := ls_obj hLn
              have j1 := (hN nn (Nat.lt_succ_self nn)).1
              have j2 := (hN nn (Nat.lt_succ_self nn)).2
              rw [va_up_self] at j1
              have hxz : az ≠ x := fun z => by rw [z, mx] at j1; cases j1
              refine lv_aload_n hx hb dd_L_node_117 rfl (lv_at hl 2 rfl) ?_
              refine lv_iconst (v := 0) hx hb dd_L_node_118 (by decide) ?_
              refine mg_put (v := .int 0) hx hb ht ii_L tt_L tt_L_ok nn_L hown hK hM hS (hF _ (by rw [mx]; exact Option.some_ne_none _)) mx rfl 2 (by decide) wd_1_52 (fun _ h => h) (Or.inl rfl) rfl rfl rfl (Nat.le_of_ble_eq_true rfl) dd_L_node_119 (fun H locs hM hz hoq hS => ?_)
              have hM : hm G (mp_up u4 x (.inr (0, [.ref ld, .ref ln, .int 0, .int ft, .int fn, .int mv]))) H := hM
              have hF : ∀ z9, (mp_up u4 x (.inr (0, [.ref ld, .ref ln, .int 0, .int ft, .int fn, .int mv]))) z9 ≠ none → fr M sz z9 := hF_put hF (hF _ (by rw [mx]; exact Option.some_ne_none _))
              have mx : (mp_up u4 x (.inr (0, [.ref ld, .ref ln, .int 0, .int ft, .int fn, .int mv]))) x = some (.inr (0, [.ref ld, .ref ln, .int 0, .int ft, .int fn, .int mv])) := mp_self _ _ _
              refine lv_aload hx hb dd_L_node_122 (lv_at hl 0 rfl) ?_
              have j1 := mp_at (M := u4) (a := x) (e := (.inr (0, [.ref ld, .ref ln, .int 0, .int ft, .int fn, .int mv]))) hxz j1
              refine mg_get hx hb ht ii_N hown hK hM j1 rfl 0 (by decide) wd_2_33 (fun _ h => h) rfl dd_L_node_124 ?_
              exact mw_i hx hb hr hlocks rfl hM hF hS (Nat.le_of_ble_eq_true rfl) (Nat.le_of_ble_eq_true rfl) (Or.inr ⟨by simp [c_nodeOk, c1, c2, c3, c4, c5, c6], congrArg (fun z => some (Value.int z)) j2, az, en', rp_setX (kn' := false) hR4 h05⟩) dd_L_node_127
            · refine lv_iconst (v := -1) hx hb dd_L_node_74 (by decide) ?_
              exact mw_i hx hb hr hlocks rfl hM hF hS (Nat.le_of_ble_eq_true rfl) (Nat.le_of_ble_eq_true rfl) (Or.inl ⟨by simp [c_nodeOk, c1, c2, c3, c4, c5, c6], rfl, rfl⟩) dd_L_node_75
        · have c4 := (beq_eq_false_iff_ne.mpr (fun h => c4 (bI_eq.mpr h)) : ((k_isChange kd) == (d_wants (D k) (N ((op k).getD 0)))) = false)
          refine lv_iconst (v := -1) hx hb dd_L_node_53 (by decide) ?_
          exact mw_i hx hb hr hlocks rfl hM hF hS (Nat.le_of_ble_eq_true rfl) (Nat.le_of_ble_eq_true rfl) (Or.inl ⟨by simp [c_nodeOk, c1, c2, c3, c4], rfl, rfl⟩) dd_L_node_54
    · refine lv_iconst (v := -1) hx hb dd_L_node_32 (by decide) ?_
      exact mw_i hx hb hr hlocks rfl hM hF hS (Nat.le_of_ble_eq_true rfl) (Nat.le_of_ble_eq_true rfl) (Or.inl ⟨by simp [c_nodeOk, c1, c2], rfl, rfl⟩) dd_L_node_33
