set_option maxHeartbeats 4000000 in
set_option maxRecDepth 100000 in
theorem cc_M_node_n {l : Launch} {G : gC} {M : mC} {sz : Nat} {y b nn : Nat} {I : Nat → Nat → Int32} {J : Nat → Nat → Int64} {Z : Nat → Int32} {kn : Bool} {ft fn mo th : Int32} (hR : rm G M y b 0 nn I J Z kn ft fn mo th) {D : Nat → dR} {N : Nat → nR} {pn : Nat → Nat → Int64} {pt : Nat → Nat → Int32} {np bg ho : Nat → Nat} {pa : Nat → Option Nat} (hD : tD 0 D pn pt np bg I J Z) (hN : tN 0 nn N ho pa I J) {kd pts : Int32} {fi se : Int64} : cW l yy_M_node bb_M_node 12 (some .int) 3 8 4000 G M sz [.ref y, .int kd, .long fi, .long se, .int pts] (fun v u => v = some (.int (-1)) ∧ rm G u y b 0 nn I J Z kn ft fn mo 0) := by
  refine me_W (by decide) (Nat.le_of_ble_eq_true rfl) ?_
  intro p e s m below meth c ls hx hb hr hlocks hml hown hname ht hsz hM hK hZ hl
  have hown : s.vm.findClass RR_M = some m.cls := hown
  have hl : lv_has ls 12 [(0, .ref y), (1, .int kd), (2, .long fi), (4, .long se), (6, .int pts)] := hl
  have hS : va_S (fr M sz) s.heap s.heap [] := va_S.rf
  have hF : ∀ q, M q ≠ none → fr M sz q := fr_M
  have hA : ∀ q, s.heap.size ≤ q → fr M sz q := fun q h => fr_A q (by rw [← hsz]; exact h)
  obtain ⟨hyb, my, hA9, hnd, hnn⟩ := id hR
  obtain ⟨a0, a1, a2, a3, a4, a5, a6, a7, a8, a9, a10, a11, a12, a13, a14, a15, a16, a17⟩ := id hA9
  refine lv_aload_n hx hb dd_M_node_0 rfl (lv_at hl 0 rfl) ?_
  refine lv_iconst (v := 0) hx hb dd_M_node_1 (by decide) ?_
  refine mg_put (v := .int 0) hx hb ht ii_M tt_M tt_M_ok nn_M hown hK hM hS (hF _ (by rw [my]; exact Option.some_ne_none _)) my rfl 0 (by decide) wd_2_213 (fun _ h => h) (Or.inl rfl) rfl rfl rfl (Nat.le_of_ble_eq_true rfl) dd_M_node_2 (fun H locs hM hz hoq hS => ?_)
  have hM : hm G (mp_up M y (yC b 0 nn kn ft fn mo 0)) H := hM
  have hF : ∀ z9, (mp_up M y (yC b 0 nn kn ft fn mo 0)) z9 ≠ none → fr M sz z9 := hF_put hF (hF _ (by rw [my]; exact Option.some_ne_none _))
  have hR : rm G (mp_up M y (yC b 0 nn kn ft fn mo 0)) y b 0 nn I J Z kn ft fn mo 0 := rm_setX hR (by omega) (by omega)
  obtain ⟨u1, eu1⟩ : ∃ z, z = (mp_up M y (yC b 0 nn kn ft fn mo 0)) := ⟨_, rfl⟩
  rw [← eu1] at hM hF hR
  clear eu1
  obtain ⟨hyb, my, hA9, hnd, hnn⟩ := id hR
  obtain ⟨a0, a1, a2, a3, a4, a5, a6, a7, a8, a9, a10, a11, a12, a13, a14, a15, a16, a17⟩ := id hA9
  refine lv_aload_n hx hb dd_M_node_5 rfl (lv_at hl 0 rfl) ?_
  refine mg_get hx hb ht ii_M hown hK hM my rfl 1 (by decide) wd_2_214 (fun _ h => h) rfl dd_M_node_6 ?_
  refine lv_if_eq (tgt := 34) hx hb dd_M_node_9 (by decide) (fun _ => ?_) (fun z => absurd nI_0 z)
  refine lv_iconst (v := -1) hx hb dd_M_node_34 (by decide) ?_
  exact mw_i hx hb hr hlocks rfl hM hF hS (Nat.le_of_ble_eq_true rfl) (Nat.le_of_ble_eq_true rfl) ⟨rfl, hR⟩ dd_M_node_35

set_option maxHeartbeats 4000000 in
set_option maxRecDepth 100000 in
theorem cc_M_node_s {l : Launch} {G : gC} {M : mC} {sz : Nat} {y b k nn : Nat} {I : Nat → Nat → Int32} {J : Nat → Nat → Int64} {Z : Nat → Int32} {kn : Bool} {ft fn mo th : Int32} (hR : rm G M y b (k + 1) nn I J Z kn ft fn mo th) {D : Nat → dR} {N : Nat → nR} {pn : Nat → Nat → Int64} {pt : Nat → Nat → Int32} {np bg ho : Nat → Nat} {pa : Nat → Option Nat} (hD : tD (k + 1) D pn pt np bg I J Z) (hN : tN (k + 1) nn N ho pa I J) {kd pts : Int32} {fi se : Int64} {r9 : nR} (hn6 : nn < 600) (e1 : n_kd r9 = kd) (e2 : n_fi r9 = fi) (e3 : n_se r9 = se) (e4 : n_pt r9 = pts) (e5 : n_pl r9 = m_slot N (m_lack (k + 1) nn bg N pa)) (e6 : n_fl r9 = 0) : cW l yy_M_node bb_M_node 12 (some .int) 3 8 4000 G M sz [.ref y, .int kd, .long fi, .long se, .int pts] (fun v u => ((m_nodeOk k nn bg D N pa kd fi se pts) = false ∧ v = some (.int (-1)) ∧ rm G u y b (k + 1) nn I J Z kn ft fn mo 0) ∨ ((m_nodeOk k nn bg D N pa kd fi se pts) = true ∧ v = some (.int (nI nn)) ∧ ∃ I' J', rm G u y b (k + 1) (nn + 1) I' J' Z false ft fn mo 0 ∧ tD (k + 1) D pn pt np bg I' J' Z ∧ tN (k + 1) (nn + 1) (c_bump (va_up N nn r9) (m_lack (k + 1) nn bg N pa)) (va_up ho nn k) (va_up pa nn (m_lack (k + 1) nn bg N pa)) I' J')) := by
  refine me_W (by decide) (Nat.le_of_ble_eq_true rfl) ?_
  intro p e s m below meth c ls hx hb hr hlocks hml hown hname ht hsz hM hK hZ hl
  have hown : s.vm.findClass RR_M = some m.cls := hown
  have hl : lv_has ls 12 [(0, .ref y), (1, .int kd), (2, .long fi), (4, .long se), (6, .int pts)] := hl
  have hS : va_S (fr M sz) s.heap s.heap [] := va_S.rf
  have hF : ∀ q, M q ≠ none → fr M sz q := fr_M
  have hA : ∀ q, s.heap.size ≤ q → fr M sz q := fun q h => fr_A q (by rw [← hsz]; exact h)
  obtain ⟨hyb, my, hA9, hnd, hnn⟩ := id hR
  obtain ⟨a0, a1, a2, a3, a4, a5, a6, a7, a8, a9, a10, a11, a12, a13, a14, a15, a16, a17⟩ := id hA9
  refine lv_aload_n hx hb dd_M_node_0 rfl (lv_at hl 0 rfl) ?_
  refine lv_iconst (v := 0) hx hb dd_M_node_1 (by decide) ?_
  refine mg_put (v := .int 0) hx hb ht ii_M tt_M tt_M_ok nn_M hown hK hM hS (hF _ (by rw [my]; exact Option.some_ne_none _)) my rfl 0 (by decide) wd_2_213 (fun _ h => h) (Or.inl rfl) rfl rfl rfl (Nat.le_of_ble_eq_true rfl) dd_M_node_2 (fun H locs hM hz hoq hS => ?_)
  have hM : hm G (mp_up M y (yC b (k + 1) nn kn ft fn mo 0)) H := hM
  have hF : ∀ z9, (mp_up M y (yC b (k + 1) nn kn ft fn mo 0)) z9 ≠ none → fr M sz z9 := hF_put hF (hF _ (by rw [my]; exact Option.some_ne_none _))
  have hR : rm G (mp_up M y (yC b (k + 1) nn kn ft fn mo 0)) y b (k + 1) nn I J Z kn ft fn mo 0 := rm_setX hR (by omega) (by omega)
  obtain ⟨u1, eu1⟩ : ∃ z, z = (mp_up M y (yC b (k + 1) nn kn ft fn mo 0)) := ⟨_, rfl⟩
  rw [← eu1] at hM hF hR
  clear eu1
  obtain ⟨hyb, my, hA9, hnd, hnn⟩ := id hR
  obtain ⟨a0, a1, a2, a3, a4, a5, a6, a7, a8, a9, a10, a11, a12, a13, a14, a15, a16, a17⟩ := id hA9
  refine lv_aload_n hx hb dd_M_node_5 rfl (lv_at hl 0 rfl) ?_
  refine mg_get hx hb ht ii_M hown hK hM my rfl 1 (by decide) wd_2_214 (fun _ h => h) rfl dd_M_node_6 ?_
  refine lv_if_eq (tgt := 34) hx hb dd_M_node_9 (by decide) (fun z => absurd z (nI_ne0 (by omega) (by omega))) (fun _ => ?_)
  refine lv_aload_n hx hb dd_M_node_12 rfl (lv_at hl 0 rfl) ?_
  refine mg_get hx hb ht ii_M hown hK hM my rfl 9 (by decide) wd_2_222 (fun _ h => h) rfl dd_M_node_13 ?_
  refine lv_sipush (v := 4096) hx hb dd_M_node_16 (by decide) ?_
  refine lv_icmp_eq (tgt := 34) hx hb dd_M_node_19 (by decide) (fun c2 => ?_) (fun c2 => ?_)
  · refine lv_iconst (v := -1) hx hb dd_M_node_34 (by decide) ?_
    exact mw_i hx hb hr hlocks rfl hM hF hS (Nat.le_of_ble_eq_true rfl) (Nat.le_of_ble_eq_true rfl) (Or.inl ⟨by simp [m_nodeOk, m_wants, eq_true c2], rfl, hR⟩) dd_M_node_35
  · refine lv_iload_n hx hb dd_M_node_22 rfl (lv_at hl 1 rfl) ?_
    refine lv_lload_n hx hb dd_M_node_23 rfl (lv_at hl 2 rfl) ?_
    refine lv_lload hx hb dd_M_node_24 (lv_at hl 3 rfl) ?_
    refine lv_iload hx hb dd_M_node_26 (lv_at hl 4 rfl) ?_
    refine mc_S (As := [.int kd, .long fi, .long se, .int pts]) (rest := []) 4 (cc_M_isNode (k := kd) (f := fi) (z := se) (n := pts)) hx hb hml hown ht hM hK hl.1 lk_M_105 (by decide +kernel) (by decide) rfl rfl (Nat.le_of_ble_eq_true rfl) dd_M_node_28 ⟨Nat.zero_le _, Nat.zero_le _⟩ ?_
    refine lb_if_ne (tgt := 36) hx hb dd_M_node_31 (by decide) (fun c3 => ?_) (fun c3 => ?_)
    · refine lv_aload_n hx hb dd_M_node_36 rfl (lv_at hl 0 rfl) ?_
      refine mg_get hx hb ht ii_M hown hK hM my rfl 1 (by decide) wd_2_214 (fun _ h => h) rfl dd_M_node_37 ?_
      refine lv_iconst (v := 1) hx hb dd_M_node_40 (by decide) ?_
      refine lv_isub hx hb dd_M_node_41 ?_
      rw [nI_pred]
      refine lv_istore (lv' := [(7, .int (nI k)), (0, .ref y), (1, .int kd), (2, .long fi), (4, .long se), (6, .int pts)]) hx hb dd_M_node_42 hl (by decide) rfl (fun ls hl => ?_)
      refine lv_aload_n hx hb dd_M_node_44 rfl (lv_at hl 1 rfl) ?_
      refine mg_get hx hb ht ii_M hown hK hM my rfl 9 (by decide) wd_2_222 (fun _ h => h) rfl dd_M_node_45 ?_
      refine lv_aload_n hx hb dd_M_node_48 rfl (lv_at hl 1 rfl) ?_
      refine mg_get hx hb ht ii_M hown hK hM my rfl 8 (by decide) wd_2_221 (fun _ h => h) rfl dd_M_node_49 ?_
      refine lv_iload hx hb dd_M_node_52 (lv_at hl 0 rfl) ?_
      refine mg_iald hx hb hK hM a6 (vp_in_nI (show k < 65 by omega) (by decide)) dd_M_node_54 ?_
      rw [nI_clamp (show k < 2 ^ 31 by omega)]
      rw [(hD k (show k < k + 1 by omega)).2.2.2.2.1]
      refine lv_icmp_le (tgt := 62) hx hb dd_M_node_55 (by decide) (fun c4 => ?_) (fun c4 => ?_)
      · refine lv_iconst (v := 0) hx hb dd_M_node_62 (by decide) ?_
        refine lv_istore (lv' := [(8, .int 0), (7, .int (nI k)), (0, .ref y), (1, .int kd), (2, .long fi), (4, .long se), (6, .int pts)]) hx hb dd_M_node_63 hl (by decide) rfl (fun ls hl => ?_)
        refine lv_aload_n hx hb dd_M_node_65 rfl (lv_at hl 2 rfl) ?_
        refine mc_V (As := []) (rest := []) 0 (cc_M_lacking hR hD hN) hx hb hml hown ht hM hK hl.1 lk_M_86 (by decide +kernel) (by decide) my rfl rfl rfl (Nat.le_of_ble_eq_true rfl) dd_M_node_66 ⟨Nat.le_of_ble_eq_true rfl, Nat.le_of_ble_eq_true rfl⟩ ?_
        rcases hp5 : m_lack (k + 1) nn bg N pa with _ | p5
        · rw [cn_none]
          refine lv_istore (lv' := [(9, .int (-1)), (8, .int 0), (7, .int (nI k)), (0, .ref y), (1, .int kd), (2, .long fi), (4, .long se), (6, .int pts)]) hx hb dd_M_node_69 hl (by decide) rfl (fun ls hl => ?_)
          refine lv_iload hx hb dd_M_node_71 (lv_at hl 1 rfl) ?_
          refine lv_if_eq (tgt := 83) hx hb dd_M_node_73 (by decide) (fun _ => ?_) (fun z => absurd (by decide) z)
          refine lv_iload hx hb dd_M_node_83 (lv_at hl 0 rfl) ?_
          refine lv_if_ge (tgt := 98) hx hb dd_M_node_85 (by decide) (fun z => absurd z (by decide)) (fun _ => ?_)
          refine lv_aload_n hx hb dd_M_node_88 rfl (lv_at hl 3 rfl) ?_
          refine mg_get hx hb ht ii_M hown hK hM my rfl 2 (by decide) wd_2_215 (fun _ h => h) rfl dd_M_node_89 ?_
          refine lv_iload hx hb dd_M_node_92 (lv_at hl 2 rfl) ?_
          refine mg_zald hx hb hK hM a0 (vp_in_nI (show k < 64 by omega) (by decide)) dd_M_node_94 ?_
          rw [nI_clamp (show k < 2 ^ 31 by omega)]
          rw [(hD k (show k < k + 1 by omega)).1]
          refine lv_goto (tgt := 115) hx hb dd_M_node_95 (by decide) ?_
          refine lv_istore (lv' := [(10, .int (bI (d_chg (D k)))), (9, .int (-1)), (8, .int 0), (7, .int (nI k)), (0, .ref y), (1, .int kd), (2, .long fi), (4, .long se), (6, .int pts)]) hx hb dd_M_node_115 hl (by decide) rfl (fun ls hl => ?_)
          refine lv_iload hx hb dd_M_node_117 (lv_at hl 0 rfl) ?_
          refine lv_iload_n hx hb dd_M_node_119 rfl (lv_at hl 5 rfl) ?_
          refine lv_bipush (v := 17) hx hb dd_M_node_120 (by decide) ?_
          refine lv_icmp_le (tgt := 129) hx hb dd_M_node_122 (by decide) (fun c6 => ?_) (fun c6 => ?_)
          · refine lv_iconst (v := 0) hx hb dd_M_node_129 (by decide) ?_
            refine lv_icmp_eq (tgt := 135) hx hb dd_M_node_130 (by decide) (fun c7 => ?_) (fun c7 => ?_)
            · have c7 := bI_0.mp c7
              refine lv_aload_n hx hb dd_M_node_135 rfl (lv_at hl 4 rfl) ?_
              refine mg_get hx hb ht ii_M hown hK hM my rfl 9 (by decide) wd_2_222 (fun _ h => h) rfl dd_M_node_136 ?_
              refine lv_istore (lv' := [(11, .int (nI nn)), (10, .int (bI (d_chg (D k)))), (9, .int (-1)), (8, .int 0), (7, .int (nI k)), (0, .ref y), (1, .int kd), (2, .long fi), (4, .long se), (6, .int pts)]) hx hb dd_M_node_139 hl (by decide) rfl (fun ls hl => ?_)
              refine lv_aload_n hx hb dd_M_node_141 rfl (lv_at hl 5 rfl) ?_
              refine lv_dup hx hb dd_M_node_142 rfl ?_
              refine mg_get hx hb ht ii_M hown hK hM my rfl 9 (by decide) wd_2_222 (fun _ h => h) rfl dd_M_node_143 ?_
              refine lv_iconst (v := 1) hx hb dd_M_node_146 (by decide) ?_
              refine lv_iadd hx hb dd_M_node_147 ?_
              rw [nI_1]
              refine mg_put (v := .int (nI (nn + 1))) hx hb ht ii_M tt_M tt_M_ok nn_M hown hK hM hS (hF _ (by rw [my]; exact Option.some_ne_none _)) my rfl 9 (by decide) wd_2_222 (fun _ h => h) (Or.inl rfl) rfl rfl rfl (Nat.le_of_ble_eq_true rfl) dd_M_node_148 (fun H locs hM hz hoq hS => ?_)
              have hM : hm G (mp_up u1 y (yC b (k + 1) (nn + 1) kn ft fn mo 0)) H := hM
              have hF : ∀ z9, (mp_up u1 y (yC b (k + 1) (nn + 1) kn ft fn mo 0)) z9 ≠ none → fr M sz z9 := hF_put hF (hF _ (by rw [my]; exact Option.some_ne_none _))
              have hR : rm G (mp_up u1 y (yC b (k + 1) (nn + 1) kn ft fn mo 0)) y b (k + 1) (nn + 1) I J Z kn ft fn mo 0 := rm_setX hR (by omega) (by omega)
              obtain ⟨u8, eu8⟩ : ∃ z, z = (mp_up u1 y (yC b (k + 1) (nn + 1) kn ft fn mo 0)) := ⟨_, rfl⟩
              rw [← eu8] at hM hF hR
              clear eu8
              obtain ⟨hyb, my, hA9, hnd, hnn⟩ := id hR
              obtain ⟨a0, a1, a2, a3, a4, a5, a6, a7, a8, a9, a10, a11, a12, a13, a14, a15, a16, a17⟩ := id hA9
              refine lv_aload_n hx hb dd_M_node_151 rfl (lv_at hl 5 rfl) ?_
              refine mg_get hx hb ht ii_M hown hK hM my rfl 10 (by decide) wd_2_223 (fun _ h => h) rfl dd_M_node_152 ?_
              refine lv_iload hx hb dd_M_node_155 (lv_at hl 0 rfl) ?_
              refine lv_iload_n hx hb dd_M_node_157 rfl (lv_at hl 6 rfl) ?_
              refine mg_iast hx hb hK hM hS (hF _ (by rw [a7]; exact Option.some_ne_none _)) a7 (vp_in_nI (show nn < 4096 by omega) (by decide)) dd_M_node_158 (fun H locs hM hz hS => ?_)
              rw [nI_clamp (show nn < 2 ^ 31 by omega)] at hM
              have hM : hm G (mp_up u8 (b + 7) (iA G 4096 (upd (I 7) nn kd))) H := hM
              have hF : ∀ z9, (mp_up u8 (b + 7) (iA G 4096 (upd (I 7) nn kd))) z9 ≠ none → fr M sz z9 := hF_put hF (hF _ (by rw [a7]; exact Option.some_ne_none _))
              obtain ⟨I9, eI9⟩ : ∃ z, z = va_up I 7 (upd (I 7) nn kd) := ⟨_, rfl⟩
              have hR : rm G (mp_up u8 (b + 7) (iA G 4096 (upd (I 7) nn kd))) y b (k + 1) (nn + 1) I9 J Z kn ft fn mo 0 := ⟨hR.1, mp_at (by omega) hR.2.1, by rw [eI9]; exact rmA_s7 hR.2.2.1 (upd (I 7) nn kd), hR.2.2.2⟩
              obtain ⟨u10, eu10⟩ : ∃ z, z = (mp_up u8 (b + 7) (iA G 4096 (upd (I 7) nn kd))) := ⟨_, rfl⟩
              rw [← eu10] at hM hF hR
              clear eu10
              obtain ⟨hyb, my, hA9, hnd, hnn⟩ := id hR
              obtain ⟨a0, a1, a2, a3, a4, a5, a6, a7, a8, a9, a10, a11, a12, a13, a14, a15, a16, a17⟩ := id hA9
              refine lv_aload_n hx hb dd_M_node_159 rfl (lv_at hl 5 rfl) ?_
              refine mg_get hx hb ht ii_M hown hK hM my rfl 11 (by decide) wd_2_224 (fun _ h => h) rfl dd_M_node_160 ?_
              refine lv_iload hx hb dd_M_node_163 (lv_at hl 0 rfl) ?_
              refine lv_lload_n hx hb dd_M_node_165 rfl (lv_at hl 7 rfl) ?_
              refine mg_last hx hb hK hM hS (hF _ (by rw [a8]; exact Option.some_ne_none _)) a8 (vp_in_nI (show nn < 4096 by omega) (by decide)) dd_M_node_166 (fun H locs hM hz hS => ?_)
              rw [nI_clamp (show nn < 2 ^ 31 by omega)] at hM
              have hM : hm G (mp_up u10 (b + 8) (lA G 4096 (vp_updL (J 8) nn fi))) H := hM
              have hF : ∀ z9, (mp_up u10 (b + 8) (lA G 4096 (vp_updL (J 8) nn fi))) z9 ≠ none → fr M sz z9 := hF_put hF (hF _ (by rw [a8]; exact Option.some_ne_none _))
              obtain ⟨J11, eJ11⟩ : ∃ z, z = va_up J 8 (vp_updL (J 8) nn fi) := ⟨_, rfl⟩
              have hR : rm G (mp_up u10 (b + 8) (lA G 4096 (vp_updL (J 8) nn fi))) y b (k + 1) (nn + 1) I9 J11 Z kn ft fn mo 0 := ⟨hR.1, mp_at (by omega) hR.2.1, by rw [eJ11]; exact rmA_s8 hR.2.2.1 (vp_updL (J 8) nn fi), hR.2.2.2⟩
              obtain ⟨u12, eu12⟩ : ∃ z, z = (mp_up u10 (b + 8) (lA G 4096 (vp_updL (J 8) nn fi))) := ⟨_, rfl⟩
              rw [← eu12] at hM hF hR
              clear eu12
              obtain ⟨hyb, my, hA9, hnd, hnn⟩ := id hR
              obtain ⟨a0, a1, a2, a3, a4, a5, a6, a7, a8, a9, a10, a11, a12, a13, a14, a15, a16, a17⟩ := id hA9
              refine lv_aload_n hx hb dd_M_node_167 rfl (lv_at hl 5 rfl) ?_
              refine mg_get hx hb ht ii_M hown hK hM my rfl 12 (by decide) wd_2_225 (fun _ h => h) rfl dd_M_node_168 ?_
              refine lv_iload hx hb dd_M_node_171 (lv_at hl 0 rfl) ?_
              refine lv_lload hx hb dd_M_node_173 (lv_at hl 8 rfl) ?_
              refine mg_last hx hb hK hM hS (hF _ (by rw [a9]; exact Option.some_ne_none _)) a9 (vp_in_nI (show nn < 4096 by omega) (by decide)) dd_M_node_175 (fun H locs hM hz hS => ?_)
              rw [nI_clamp (show nn < 2 ^ 31 by omega)] at hM
              have hM : hm G (mp_up u12 (b + 9) (lA G 4096 (vp_updL (J11 9) nn se))) H := hM
              have hF : ∀ z9, (mp_up u12 (b + 9) (lA G 4096 (vp_updL (J11 9) nn se))) z9 ≠ none → fr M sz z9 := hF_put hF (hF _ (by rw [a9]; exact Option.some_ne_none _))
              obtain ⟨J13, eJ13⟩ : ∃ z, z = va_up J11 9 (vp_updL (J11 9) nn se) := ⟨_, rfl⟩
              have hR : rm G (mp_up u12 (b + 9) (lA G 4096 (vp_updL (J11 9) nn se))) y b (k + 1) (nn + 1) I9 J13 Z kn ft fn mo 0 := ⟨hR.1, mp_at (by omega) hR.2.1, by rw [eJ13]; exact rmA_s9 hR.2.2.1 (vp_updL (J11 9) nn se), hR.2.2.2⟩
              obtain ⟨u14, eu14⟩ : ∃ z, z = (mp_up u12 (b + 9) (lA G 4096 (vp_updL (J11 9) nn se))) := ⟨_, rfl⟩
              rw [← eu14] at hM hF hR
              clear eu14
              obtain ⟨hyb, my, hA9, hnd, hnn⟩ := id hR
              obtain ⟨a0, a1, a2, a3, a4, a5, a6, a7, a8, a9, a10, a11, a12, a13, a14, a15, a16, a17⟩ := id hA9
              refine lv_aload_n hx hb dd_M_node_176 rfl (lv_at hl 5 rfl) ?_
              refine mg_get hx hb ht ii_M hown hK hM my rfl 13 (by decide) wd_2_226 (fun _ h => h) rfl dd_M_node_177 ?_
              refine lv_iload hx hb dd_M_node_180 (lv_at hl 0 rfl) ?_
              refine lv_iload hx hb dd_M_node_182 (lv_at hl 9 rfl) ?_
              refine mg_iast hx hb hK hM hS (hF _ (by rw [a10]; exact Option.some_ne_none _)) a10 (vp_in_nI (show nn < 4096 by omega) (by decide)) dd_M_node_184 (fun H locs hM hz hS => ?_)
              rw [nI_clamp (show nn < 2 ^ 31 by omega)] at hM
              have hM : hm G (mp_up u14 (b + 10) (iA G 4096 (upd (I9 10) nn pts))) H := hM
              have hF : ∀ z9, (mp_up u14 (b + 10) (iA G 4096 (upd (I9 10) nn pts))) z9 ≠ none → fr M sz z9 := hF_put hF (hF _ (by rw [a10]; exact Option.some_ne_none _))
              obtain ⟨I15, eI15⟩ : ∃ z, z = va_up I9 10 (upd (I9 10) nn pts) := ⟨_, rfl⟩
              have hR : rm G (mp_up u14 (b + 10) (iA G 4096 (upd (I9 10) nn pts))) y b (k + 1) (nn + 1) I15 J13 Z kn ft fn mo 0 := ⟨hR.1, mp_at (by omega) hR.2.1, by rw [eI15]; exact rmA_s10 hR.2.2.1 (upd (I9 10) nn pts), hR.2.2.2⟩
              obtain ⟨u16, eu16⟩ : ∃ z, z = (mp_up u14 (b + 10) (iA G 4096 (upd (I9 10) nn pts))) := ⟨_, rfl⟩
              rw [← eu16] at hM hF hR
              clear eu16
              obtain ⟨hyb, my, hA9, hnd, hnn⟩ := id hR
              obtain ⟨a0, a1, a2, a3, a4, a5, a6, a7, a8, a9, a10, a11, a12, a13, a14, a15, a16, a17⟩ := id hA9
              refine lv_aload_n hx hb dd_M_node_185 rfl (lv_at hl 5 rfl) ?_
              refine mg_get hx hb ht ii_M hown hK hM my rfl 14 (by decide) wd_2_227 (fun _ h => h) rfl dd_M_node_186 ?_
              refine lv_iload hx hb dd_M_node_189 (lv_at hl 0 rfl) ?_
              refine lv_iload hx hb dd_M_node_191 (lv_at hl 2 rfl) ?_
              refine mg_iast hx hb hK hM hS (hF _ (by rw [a11]; exact Option.some_ne_none _)) a11 (vp_in_nI (show nn < 4096 by omega) (by decide)) dd_M_node_193 (fun H locs hM hz hS => ?_)
              rw [nI_clamp (show nn < 2 ^ 31 by omega)] at hM
              have hM : hm G (mp_up u16 (b + 11) (iA G 4096 (upd (I15 11) nn (-1)))) H := hM
              have hF : ∀ z9, (mp_up u16 (b + 11) (iA G 4096 (upd (I15 11) nn (-1)))) z9 ≠ none → fr M sz z9 := hF_put hF (hF _ (by rw [a11]; exact Option.some_ne_none _))
              obtain ⟨I17, eI17⟩ : ∃ z, z = va_up I15 11 (upd (I15 11) nn (-1)) := ⟨_, rfl⟩
              have hR : rm G (mp_up u16 (b + 11) (iA G 4096 (upd (I15 11) nn (-1)))) y b (k + 1) (nn + 1) I17 J13 Z kn ft fn mo 0 := ⟨hR.1, mp_at (by omega) hR.2.1, by rw [eI17]; exact rmA_s11 hR.2.2.1 (upd (I15 11) nn (-1)), hR.2.2.2⟩
              obtain ⟨u18, eu18⟩ : ∃ z, z = (mp_up u16 (b + 11) (iA G 4096 (upd (I15 11) nn (-1)))) := ⟨_, rfl⟩
              rw [← eu18] at hM hF hR
              clear eu18
              obtain ⟨hyb, my, hA9, hnd, hnn⟩ := id hR
              obtain ⟨a0, a1, a2, a3, a4, a5, a6, a7, a8, a9, a10, a11, a12, a13, a14, a15, a16, a17⟩ := id hA9
              refine lv_aload_n hx hb dd_M_node_194 rfl (lv_at hl 5 rfl) ?_
              refine mg_get hx hb ht ii_M hown hK hM my rfl 15 (by decide) wd_2_228 (fun _ h => h) rfl dd_M_node_195 ?_
              refine lv_iload hx hb dd_M_node_198 (lv_at hl 0 rfl) ?_
              refine lv_iload hx hb dd_M_node_200 (lv_at hl 2 rfl) ?_
              refine lv_if_ge (tgt := 209) hx hb dd_M_node_202 (by decide) (fun z => absurd z (by decide)) (fun _ => ?_)
              refine lv_iconst (v := 0) hx hb dd_M_node_205 (by decide) ?_
              refine lv_goto (tgt := 216) hx hb dd_M_node_206 (by decide) ?_
              refine mg_iast hx hb hK hM hS (hF _ (by rw [a12]; exact Option.some_ne_none _)) a12 (vp_in_nI (show nn < 4096 by omega) (by decide)) dd_M_node_216 (fun H locs hM hz hS => ?_)
              rw [nI_clamp (show nn < 2 ^ 31 by omega)] at hM
              have hM : hm G (mp_up u18 (b + 12) (iA G 4096 (upd (I17 12) nn 0))) H := hM
              have hF : ∀ z9, (mp_up u18 (b + 12) (iA G 4096 (upd (I17 12) nn 0))) z9 ≠ none → fr M sz z9 := hF_put hF (hF _ (by rw [a12]; exact Option.some_ne_none _))
              obtain ⟨I19, eI19⟩ : ∃ z, z = va_up I17 12 (upd (I17 12) nn 0) := ⟨_, rfl⟩
              have hR : rm G (mp_up u18 (b + 12) (iA G 4096 (upd (I17 12) nn 0))) y b (k + 1) (nn + 1) I19 J13 Z kn ft fn mo 0 := ⟨hR.1, mp_at (by omega) hR.2.1, by rw [eI19]; exact rmA_s12 hR.2.2.1 (upd (I17 12) nn 0), hR.2.2.2⟩
              obtain ⟨u20, eu20⟩ : ∃ z, z = (mp_up u18 (b + 12) (iA G 4096 (upd (I17 12) nn 0))) := ⟨_, rfl⟩
              rw [← eu20] at hM hF hR
              clear eu20
              obtain ⟨hyb, my, hA9, hnd, hnn⟩ := id hR
              obtain ⟨a0, a1, a2, a3, a4, a5, a6, a7, a8, a9, a10, a11, a12, a13, a14, a15, a16, a17⟩ := id hA9
              refine lv_aload_n hx hb dd_M_node_217 rfl (lv_at hl 5 rfl) ?_
              refine mg_get hx hb ht ii_M hown hK hM my rfl 16 (by decide) wd_2_229 (fun _ h => h) rfl dd_M_node_218 ?_
              refine lv_iload hx hb dd_M_node_221 (lv_at hl 0 rfl) ?_
              refine lv_iload hx hb dd_M_node_223 (lv_at hl 4 rfl) ?_
              refine mg_iast hx hb hK hM hS (hF _ (by rw [a13]; exact Option.some_ne_none _)) a13 (vp_in_nI (show nn < 4096 by omega) (by decide)) dd_M_node_225 (fun H locs hM hz hS => ?_)
              rw [nI_clamp (show nn < 2 ^ 31 by omega)] at hM
              have hM : hm G (mp_up u20 (b + 13) (iA G 4096 (upd (I19 13) nn (nI k)))) H := hM
              have hF : ∀ z9, (mp_up u20 (b + 13) (iA G 4096 (upd (I19 13) nn (nI k)))) z9 ≠ none → fr M sz z9 := hF_put hF (hF _ (by rw [a13]; exact Option.some_ne_none _))
              obtain ⟨I21, eI21⟩ : ∃ z, z = va_up I19 13 (upd (I19 13) nn (nI k)) := ⟨_, rfl⟩
              have hR : rm G (mp_up u20 (b + 13) (iA G 4096 (upd (I19 13) nn (nI k)))) y b (k + 1) (nn + 1) I21 J13 Z kn ft fn mo 0 := ⟨hR.1, mp_at (by omega) hR.2.1, by rw [eI21]; exact rmA_s13 hR.2.2.1 (upd (I19 13) nn (nI k)), hR.2.2.2⟩
              obtain ⟨u22, eu22⟩ : ∃ z, z = (mp_up u20 (b + 13) (iA G 4096 (upd (I19 13) nn (nI k)))) := ⟨_, rfl⟩
              rw [← eu22] at hM hF hR
              clear eu22
              obtain ⟨hyb, my, hA9, hnd, hnn⟩ := id hR
              obtain ⟨a0, a1, a2, a3, a4, a5, a6, a7, a8, a9, a10, a11, a12, a13, a14, a15, a16, a17⟩ := id hA9
              refine lv_aload_n hx hb dd_M_node_226 rfl (lv_at hl 5 rfl) ?_
              refine mg_get hx hb ht ii_M hown hK hM my rfl 17 (by decide) wd_2_230 (fun _ h => h) rfl dd_M_node_227 ?_
              refine lv_iload hx hb dd_M_node_230 (lv_at hl 0 rfl) ?_
              refine lv_iconst (v := 0) hx hb dd_M_node_232 (by decide) ?_
              refine mg_iast hx hb hK hM hS (hF _ (by rw [a14]; exact Option.some_ne_none _)) a14 (vp_in_nI (show nn < 4096 by omega) (by decide)) dd_M_node_233 (fun H locs hM hz hS => ?_)
              rw [nI_clamp (show nn < 2 ^ 31 by omega)] at hM
              have hM : hm G (mp_up u22 (b + 14) (iA G 4096 (upd (I21 14) nn 0))) H := hM
              have hF : ∀ z9, (mp_up u22 (b + 14) (iA G 4096 (upd (I21 14) nn 0))) z9 ≠ none → fr M sz z9 := hF_put hF (hF _ (by rw [a14]; exact Option.some_ne_none _))
              obtain ⟨I23, eI23⟩ : ∃ z, z = va_up I21 14 (upd (I21 14) nn 0) := ⟨_, rfl⟩
              have hR : rm G (mp_up u22 (b + 14) (iA G 4096 (upd (I21 14) nn 0))) y b (k + 1) (nn + 1) I23 J13 Z kn ft fn mo 0 := ⟨hR.1, mp_at (by omega) hR.2.1, by rw [eI23]; exact rmA_s14 hR.2.2.1 (upd (I21 14) nn 0), hR.2.2.2⟩
              obtain ⟨u24, eu24⟩ : ∃ z, z = (mp_up u22 (b + 14) (iA G 4096 (upd (I21 14) nn 0))) := ⟨_, rfl⟩
              rw [← eu24] at hM hF hR
              clear eu24
              obtain ⟨hyb, my, hA9, hnd, hnn⟩ := id hR
              obtain ⟨a0, a1, a2, a3, a4, a5, a6, a7, a8, a9, a10, a11, a12, a13, a14, a15, a16, a17⟩ := id hA9
              refine lv_iload hx hb dd_M_node_234 (lv_at hl 2 rfl) ?_
              refine lv_if_lt (tgt := 250) hx hb dd_M_node_236 (by decide) (fun _ => ?_) (fun z => absurd (by decide) z)
              refine lv_aload_n hx hb dd_M_node_250 rfl (lv_at hl 5 rfl) ?_
              refine lv_iconst (v := 0) hx hb dd_M_node_251 (by decide) ?_
              refine mg_put (v := .int 0) hx hb ht ii_M tt_M tt_M_ok nn_M hown hK hM hS (hF _ (by rw [my]; exact Option.some_ne_none _)) my rfl 21 (by decide) wd_2_234 (fun _ h => h) (Or.inl rfl) rfl rfl rfl (Nat.le_of_ble_eq_true rfl) dd_M_node_252 (fun H locs hM hz hoq hS => ?_)
              have hM : hm G (mp_up u24 y (yC b (k + 1) (nn + 1) false ft fn mo 0)) H := hM
              have hF : ∀ z9, (mp_up u24 y (yC b (k + 1) (nn + 1) false ft fn mo 0)) z9 ≠ none → fr M sz z9 := hF_put hF (hF _ (by rw [my]; exact Option.some_ne_none _))
              have hR : rm G (mp_up u24 y (yC b (k + 1) (nn + 1) false ft fn mo 0)) y b (k + 1) (nn + 1) I23 J13 Z false ft fn mo 0 := rm_setX hR (by omega) (by omega)
              obtain ⟨u25, eu25⟩ : ∃ z, z = (mp_up u24 y (yC b (k + 1) (nn + 1) false ft fn mo 0)) := ⟨_, rfl⟩
              rw [← eu25] at hM hF hR
              clear eu25
              obtain ⟨hyb, my, hA9, hnd, hnn⟩ := id hR
              obtain ⟨a0, a1, a2, a3, a4, a5, a6, a7, a8, a9, a10, a11, a12, a13, a14, a15, a16, a17⟩ := id hA9
              refine lv_iload hx hb dd_M_node_255 (lv_at hl 0 rfl) ?_
              have ho9 : ∀ j, (m_lack (k + 1) nn bg N pa) = some j → j < nn := fun j h => m_lack_lt (fun j hj => (hN j hj).2.2.2.2.2.2.2.2.2) h
              rw [hp5] at ho9 e5
              exact mw_i hx hb hr hlocks rfl hM hF hS (Nat.le_of_ble_eq_true rfl) (Nat.le_of_ble_eq_true rfl) (Or.inr ⟨by simp [m_nodeOk, m_wants, c2, c3, c4, hp5, c6, c7], rfl, I23, J13, hR, tD_cg hD (by simp [eI9, eJ11, eJ13, eI15, eI17, eI19, eI21, eI23, va_up]) (by simp [eI9, eJ11, eJ13, eI15, eI17, eI19, eI21, eI23, va_up]) (by simp [eI9, eJ11, eJ13, eI15, eI17, eI19, eI21, eI23, va_up]) (by simp [eI9, eJ11, eJ13, eI15, eI17, eI19, eI21, eI23, va_up]) (by simp [eI9, eJ11, eJ13, eI15, eI17, eI19, eI21, eI23, va_up]) (by simp [eI9, eJ11, eJ13, eI15, eI17, eI19, eI21, eI23, va_up]), tN_node (r9 := r9) hN ho9 e6 (by intro i; simp [eI9, eJ11, eJ13, eI15, eI17, eI19, eI21, eI23, va_up, upd, e1]) (by intro i; simp [eI9, eJ11, eJ13, eI15, eI17, eI19, eI21, eI23, va_up, vp_updL, e2]) (by intro i; simp [eI9, eJ11, eJ13, eI15, eI17, eI19, eI21, eI23, va_up, vp_updL, e3]) (by intro i; simp [eI9, eJ11, eJ13, eI15, eI17, eI19, eI21, eI23, va_up, upd, e4]) (by intro i; simp [eI9, eJ11, eJ13, eI15, eI17, eI19, eI21, eI23, va_up, upd, c_num]) (by intro i; simp [eI9, eJ11, eJ13, eI15, eI17, eI19, eI21, eI23, va_up, upd, e5, m_slot]) (by intro i; simp [eI9, eJ11, eJ13, eI15, eI17, eI19, eI21, eI23, va_up, upd]) (by intro i; simp [eI9, eJ11, eJ13, eI15, eI17, eI19, eI21, eI23, va_up, upd])⟩) dd_M_node_257
            · have c7 := bI_n.mp c7
              refine lv_iconst (v := -1) hx hb dd_M_node_133 (by decide) ?_
              exact mw_i hx hb hr hlocks rfl hM hF hS (Nat.le_of_ble_eq_true rfl) (Nat.le_of_ble_eq_true rfl) (Or.inl ⟨by simp [m_nodeOk, m_wants, c2, c3, c4, hp5, c6, c7], rfl, hR⟩) dd_M_node_134
          · refine lv_iconst (v := 1) hx hb dd_M_node_125 (by decide) ?_
            refine lv_goto (tgt := 130) hx hb dd_M_node_126 (by decide) ?_
            refine lv_icmp_eq (tgt := 135) hx hb dd_M_node_130 (by decide) (fun c26 => ?_) (fun c26 => ?_)
            · have c26 := bI_1.mp c26
              refine lv_aload_n hx hb dd_M_node_135 rfl (lv_at hl 4 rfl) ?_
              refine mg_get hx hb ht ii_M hown hK hM my rfl 9 (by decide) wd_2_222 (fun _ h => h) rfl dd_M_node_136 ?_
              refine lv_istore (lv' := [(11, .int (nI nn)), (10, .int (bI (d_chg (D k)))), (9, .int (-1)), (8, .int 0), (7, .int (nI k)), (0, .ref y), (1, .int kd), (2, .long fi), (4, .long se), (6, .int pts)]) hx hb dd_M_node_139 hl (by decide) rfl (fun ls hl => ?_)
              refine lv_aload_n hx hb dd_M_node_141 rfl (lv_at hl 5 rfl) ?_
              refine lv_dup hx hb dd_M_node_142 rfl ?_
              refine mg_get hx hb ht ii_M hown hK hM my rfl 9 (by decide) wd_2_222 (fun _ h => h) rfl dd_M_node_143 ?_
              refine lv_iconst (v := 1) hx hb dd_M_node_146 (by decide) ?_
              refine lv_iadd hx hb dd_M_node_147 ?_
              rw [nI_1]
              refine mg_put (v := .int (nI (nn + 1))) hx hb ht ii_M tt_M tt_M_ok nn_M hown hK hM hS (hF _ (by rw [my]; exact Option.some_ne_none _)) my rfl 9 (by decide) wd_2_222 (fun _ h => h) (Or.inl rfl) rfl rfl rfl (Nat.le_of_ble_eq_true rfl) dd_M_node_148 (fun H locs hM hz hoq hS => ?_)
              have hM : hm G (mp_up u1 y (yC b (k + 1) (nn + 1) kn ft fn mo 0)) H := hM
              have hF : ∀ z9, (mp_up u1 y (yC b (k + 1) (nn + 1) kn ft fn mo 0)) z9 ≠ none → fr M sz z9 := hF_put hF (hF _ (by rw [my]; exact Option.some_ne_none _))
              have hR : rm G (mp_up u1 y (yC b (k + 1) (nn + 1) kn ft fn mo 0)) y b (k + 1) (nn + 1) I J Z kn ft fn mo 0 := rm_setX hR (by omega) (by omega)
              obtain ⟨u27, eu27⟩ : ∃ z, z = (mp_up u1 y (yC b (k + 1) (nn + 1) kn ft fn mo 0)) := ⟨_, rfl⟩
              rw [← eu27] at hM hF hR
              clear eu27
              obtain ⟨hyb, my, hA9, hnd, hnn⟩ := id hR
              obtain ⟨a0, a1, a2, a3, a4, a5, a6, a7, a8, a9, a10, a11, a12, a13, a14, a15, a16, a17⟩ := id hA9
              refine lv_aload_n hx hb dd_M_node_151 rfl (lv_at hl 5 rfl) ?_
              refine mg_get hx hb ht ii_M hown hK hM my rfl 10 (by decide) wd_2_223 (fun _ h => h) rfl dd_M_node_152 ?_
              refine lv_iload hx hb dd_M_node_155 (lv_at hl 0 rfl) ?_
              refine lv_iload_n hx hb dd_M_node_157 rfl (lv_at hl 6 rfl) ?_
              refine mg_iast hx hb hK hM hS (hF _ (by rw [a7]; exact Option.some_ne_none _)) a7 (vp_in_nI (show nn < 4096 by omega) (by decide)) dd_M_node_158 (fun H locs hM hz hS => ?_)
              rw [nI_clamp (show nn < 2 ^ 31 by omega)] at hM
              have hM : hm G (mp_up u27 (b + 7) (iA G 4096 (upd (I 7) nn kd))) H := hM
              have hF : ∀ z9, (mp_up u27 (b + 7) (iA G 4096 (upd (I 7) nn kd))) z9 ≠ none → fr M sz z9 := hF_put hF (hF _ (by rw [a7]; exact Option.some_ne_none _))
              obtain ⟨I28, eI28⟩ : ∃ z, z = va_up I 7 (upd (I 7) nn kd) := ⟨_, rfl⟩
              have hR : rm G (mp_up u27 (b + 7) (iA G 4096 (upd (I 7) nn kd))) y b (k + 1) (nn + 1) I28 J Z kn ft fn mo 0 := ⟨hR.1, mp_at (by omega) hR.2.1, by rw [eI28]; exact rmA_s7 hR.2.2.1 (upd (I 7) nn kd), hR.2.2.2⟩
              obtain ⟨u29, eu29⟩ : ∃ z, z = (mp_up u27 (b + 7) (iA G 4096 (upd (I 7) nn kd))) := ⟨_, rfl⟩
              rw [← eu29] at hM hF hR
              clear eu29
              obtain ⟨hyb, my, hA9, hnd, hnn⟩ := id hR
              obtain ⟨a0, a1, a2, a3, a4, a5, a6, a7, a8, a9, a10, a11, a12, a13, a14, a15, a16, a17⟩ := id hA9
              refine lv_aload_n hx hb dd_M_node_159 rfl (lv_at hl 5 rfl) ?_
              refine mg_get hx hb ht ii_M hown hK hM my rfl 11 (by decide) wd_2_224 (fun _ h => h) rfl dd_M_node_160 ?_
              refine lv_iload hx hb dd_M_node_163 (lv_at hl 0 rfl) ?_
              refine lv_lload_n hx hb dd_M_node_165 rfl (lv_at hl 7 rfl) ?_
              refine mg_last hx hb hK hM hS (hF _ (by rw [a8]; exact Option.some_ne_none _)) a8 (vp_in_nI (show nn < 4096 by omega) (by decide)) dd_M_node_166 (fun H locs hM hz hS => ?_)
              rw [nI_clamp (show nn < 2 ^ 31 by omega)] at hM
              have hM : hm G (mp_up u29 (b + 8) (lA G 4096 (vp_updL (J 8) nn fi))) H := hM
              have hF : ∀ z9, (mp_up u29 (b + 8) (lA G 4096 (vp_updL (J 8) nn fi))) z9 ≠ none → fr M sz z9 := hF_put hF (hF _ (by rw [a8]; exact Option.some_ne_none _))
              obtain ⟨J30, eJ30⟩ : ∃ z, z = va_up J 8 (vp_updL (J 8) nn fi) := ⟨_, rfl⟩
              have hR : rm G (mp_up u29 (b + 8) (lA G 4096 (vp_updL (J 8) nn fi))) y b (k + 1) (nn + 1) I28 J30 Z kn ft fn mo 0 := ⟨hR.1, mp_at (by omega) hR.2.1, by rw [eJ30]; exact rmA_s8 hR.2.2.1 (vp_updL (J 8) nn fi), hR.2.2.2⟩
              obtain ⟨u31, eu31⟩ : ∃ z, z = (mp_up u29 (b + 8) (lA G 4096 (vp_updL (J 8) nn fi))) := ⟨_, rfl⟩
              rw [← eu31] at hM hF hR
              clear eu31
              obtain ⟨hyb, my, hA9, hnd, hnn⟩ := id hR
              obtain ⟨a0, a1, a2, a3, a4, a5, a6, a7, a8, a9, a10, a11, a12, a13, a14, a15, a16, a17⟩ := id hA9
              refine lv_aload_n hx hb dd_M_node_167 rfl (lv_at hl 5 rfl) ?_
              refine mg_get hx hb ht ii_M hown hK hM my rfl 12 (by decide) wd_2_225 (fun _ h => h) rfl dd_M_node_168 ?_
              refine lv_iload hx hb dd_M_node_171 (lv_at hl 0 rfl) ?_
              refine lv_lload hx hb dd_M_node_173 (lv_at hl 8 rfl) ?_
              refine mg_last hx hb hK hM hS (hF _ (by rw [a9]; exact Option.some_ne_none _)) a9 (vp_in_nI (show nn < 4096 by omega) (by decide)) dd_M_node_175 (fun H locs hM hz hS => ?_)
              rw [nI_clamp (show nn < 2 ^ 31 by omega)] at hM
              have hM : hm G (mp_up u31 (b + 9) (lA G 4096 (vp_updL (J30 9) nn se))) H := hM
              have hF : ∀ z9, (mp_up u31 (b + 9) (lA G 4096 (vp_updL (J30 9) nn se))) z9 ≠ none → fr M sz z9 := hF_put hF (hF _ (by rw [a9]; exact Option.some_ne_none _))
              obtain ⟨J32, eJ32⟩ : ∃ z, z = va_up J30 9 (vp_updL (J30 9) nn se) := ⟨_, rfl⟩
              have hR : rm G (mp_up u31 (b + 9) (lA G 4096 (vp_updL (J30 9) nn se))) y b (k + 1) (nn + 1) I28 J32 Z kn ft fn mo 0 := ⟨hR.1, mp_at (by omega) hR.2.1, by rw [eJ32]; exact rmA_s9 hR.2.2.1 (vp_updL (J30 9) nn se), hR.2.2.2⟩
              obtain ⟨u33, eu33⟩ : ∃ z, z = (mp_up u31 (b + 9) (lA G 4096 (vp_updL (J30 9) nn se))) := ⟨_, rfl⟩
              rw [← eu33] at hM hF hR
              clear eu33
              obtain ⟨hyb, my, hA9, hnd, hnn⟩ := id hR
              obtain ⟨a0, a1, a2, a3, a4, a5, a6, a7, a8, a9, a10, a11, a12, a13, a14, a15, a16, a17⟩ := id hA9
              refine lv_aload_n hx hb dd_M_node_176 rfl (lv_at hl 5 rfl) ?_
              refine mg_get hx hb ht ii_M hown hK hM my rfl 13 (by decide) wd_2_226 (fun _ h => h) rfl dd_M_node_177 ?_
              refine lv_iload hx hb dd_M_node_180 (lv_at hl 0 rfl) ?_
              refine lv_iload hx hb dd_M_node_182 (lv_at hl 9 rfl) ?_
              refine mg_iast hx hb hK hM hS (hF _ (by rw [a10]; exact Option.some_ne_none _)) a10 (vp_in_nI (show nn < 4096 by omega) (by decide)) dd_M_node_184 (fun H locs hM hz hS => ?_)
              rw [nI_clamp (show nn < 2 ^ 31 by omega)] at hM
              have hM : hm G (mp_up u33 (b + 10) (iA G 4096 (upd (I28 10) nn pts))) H := hM
              have hF : ∀ z9, (mp_up u33 (b + 10) (iA G 4096 (upd (I28 10) nn pts))) z9 ≠ none → fr M sz z9 := hF_put hF (hF _ (by rw [a10]; exact Option.some_ne_none _))
              obtain ⟨I34, eI34⟩ : ∃ z, z = va_up I28 10 (upd (I28 10) nn pts) := ⟨_, rfl⟩
              have hR : rm G (mp_up u33 (b + 10) (iA G 4096 (upd (I28 10) nn pts))) y b (k + 1) (nn + 1) I34 J32 Z kn ft fn mo 0 := ⟨hR.1, mp_at (by omega) hR.2.1, by rw [eI34]; exact rmA_s10 hR.2.2.1 (upd (I28 10) nn pts), hR.2.2.2⟩
              obtain ⟨u35, eu35⟩ : ∃ z, z = (mp_up u33 (b + 10) (iA G 4096 (upd (I28 10) nn pts))) := ⟨_, rfl⟩
              rw [← eu35] at hM hF hR
              clear eu35
              obtain ⟨hyb, my, hA9, hnd, hnn⟩ := id hR
              obtain ⟨a0, a1, a2, a3, a4, a5, a6, a7, a8, a9, a10, a11, a12, a13, a14, a15, a16, a17⟩ := id hA9
              refine lv_aload_n hx hb dd_M_node_185 rfl (lv_at hl 5 rfl) ?_
              refine mg_get hx hb ht ii_M hown hK hM my rfl 14 (by decide) wd_2_227 (fun _ h => h) rfl dd_M_node_186 ?_
              refine lv_iload hx hb dd_M_node_189 (lv_at hl 0 rfl) ?_
              refine lv_iload hx hb dd_M_node_191 (lv_at hl 2 rfl) ?_
              refine mg_iast hx hb hK hM hS (hF _ (by rw [a11]; exact Option.some_ne_none _)) a11 (vp_in_nI (show nn < 4096 by omega) (by decide)) dd_M_node_193 (fun H locs hM hz hS => ?_)
              rw [nI_clamp (show nn < 2 ^ 31 by omega)] at hM
              have hM : hm G (mp_up u35 (b + 11) (iA G 4096 (upd (I34 11) nn (-1)))) H := hM
              have hF : ∀ z9, (mp_up u35 (b + 11) (iA G 4096 (upd (I34 11) nn (-1)))) z9 ≠ none → fr M sz z9 := hF_put hF (hF _ (by rw [a11]; exact Option.some_ne_none _))
              obtain ⟨I36, eI36⟩ : ∃ z, z = va_up I34 11 (upd (I34 11) nn (-1)) := ⟨_, rfl⟩
              have hR : rm G (mp_up u35 (b + 11) (iA G 4096 (upd (I34 11) nn (-1)))) y b (k + 1) (nn + 1) I36 J32 Z kn ft fn mo 0 := ⟨hR.1, mp_at (by omega) hR.2.1, by rw [eI36]; exact rmA_s11 hR.2.2.1 (upd (I34 11) nn (-1)), hR.2.2.2⟩
              obtain ⟨u37, eu37⟩ : ∃ z, z = (mp_up u35 (b + 11) (iA G 4096 (upd (I34 11) nn (-1)))) := ⟨_, rfl⟩
              rw [← eu37] at hM hF hR
              clear eu37
              obtain ⟨hyb, my, hA9, hnd, hnn⟩ := id hR
              obtain ⟨a0, a1, a2, a3, a4, a5, a6, a7, a8, a9, a10, a11, a12, a13, a14, a15, a16, a17⟩ := id hA9
              refine lv_aload_n hx hb dd_M_node_194 rfl (lv_at hl 5 rfl) ?_
              refine mg_get hx hb ht ii_M hown hK hM my rfl 15 (by decide) wd_2_228 (fun _ h => h) rfl dd_M_node_195 ?_
              refine lv_iload hx hb dd_M_node_198 (lv_at hl 0 rfl) ?_
              refine lv_iload hx hb dd_M_node_200 (lv_at hl 2 rfl) ?_
              refine lv_if_ge (tgt := 209) hx hb dd_M_node_202 (by decide) (fun z => absurd z (by decide)) (fun _ => ?_)
              refine lv_iconst (v := 0) hx hb dd_M_node_205 (by decide) ?_
              refine lv_goto (tgt := 216) hx hb dd_M_node_206 (by decide) ?_
              refine mg_iast hx hb hK hM hS (hF _ (by rw [a12]; exact Option.some_ne_none _)) a12 (vp_in_nI (show nn < 4096 by omega) (by decide)) dd_M_node_216 (fun H locs hM hz hS => ?_)
              rw [nI_clamp (show nn < 2 ^ 31 by omega)] at hM
              have hM : hm G (mp_up u37 (b + 12) (iA G 4096 (upd (I36 12) nn 0))) H := hM
              have hF : ∀ z9, (mp_up u37 (b + 12) (iA G 4096 (upd (I36 12) nn 0))) z9 ≠ none → fr M sz z9 := hF_put hF (hF _ (by rw [a12]; exact Option.some_ne_none _))
              obtain ⟨I38, eI38⟩ : ∃ z, z = va_up I36 12 (upd (I36 12) nn 0) := ⟨_, rfl⟩
              have hR : rm G (mp_up u37 (b + 12) (iA G 4096 (upd (I36 12) nn 0))) y b (k + 1) (nn + 1) I38 J32 Z kn ft fn mo 0 := ⟨hR.1, mp_at (by omega) hR.2.1, by rw [eI38]; exact rmA_s12 hR.2.2.1 (upd (I36 12) nn 0), hR.2.2.2⟩
              obtain ⟨u39, eu39⟩ : ∃ z, z = (mp_up u37 (b + 12) (iA G 4096 (upd (I36 12) nn 0))) := ⟨_, rfl⟩
              rw [← eu39] at hM hF hR
              clear eu39
              obtain ⟨hyb, my, hA9, hnd, hnn⟩ := id hR
              obtain ⟨a0, a1, a2, a3, a4, a5, a6, a7, a8, a9, a10, a11, a12, a13, a14, a15, a16, a17⟩ := id hA9
              refine lv_aload_n hx hb dd_M_node_217 rfl (lv_at hl 5 rfl) ?_
              refine mg_get hx hb ht ii_M hown hK hM my rfl 16 (by decide) wd_2_229 (fun _ h => h) rfl dd_M_node_218 ?_
              refine lv_iload hx hb dd_M_node_221 (lv_at hl 0 rfl) ?_
              refine lv_iload hx hb dd_M_node_223 (lv_at hl 4 rfl) ?_
              refine mg_iast hx hb hK hM hS (hF _ (by rw [a13]; exact Option.some_ne_none _)) a13 (vp_in_nI (show nn < 4096 by omega) (by decide)) dd_M_node_225 (fun H locs hM hz hS => ?_)
              rw [nI_clamp (show nn < 2 ^ 31 by omega)] at hM
              have hM : hm G (mp_up u39 (b + 13) (iA G 4096 (upd (I38 13) nn (nI k)))) H := hM
              have hF : ∀ z9, (mp_up u39 (b + 13) (iA G 4096 (upd (I38 13) nn (nI k)))) z9 ≠ none → fr M sz z9 := hF_put hF (hF _ (by rw [a13]; exact Option.some_ne_none _))
              obtain ⟨I40, eI40⟩ : ∃ z, z = va_up I38 13 (upd (I38 13) nn (nI k)) := ⟨_, rfl⟩
              have hR : rm G (mp_up u39 (b + 13) (iA G 4096 (upd (I38 13) nn (nI k)))) y b (k + 1) (nn + 1) I40 J32 Z kn ft fn mo 0 := ⟨hR.1, mp_at (by omega) hR.2.1, by rw [eI40]; exact rmA_s13 hR.2.2.1 (upd (I38 13) nn (nI k)), hR.2.2.2⟩
              obtain ⟨u41, eu41⟩ : ∃ z, z = (mp_up u39 (b + 13) (iA G 4096 (upd (I38 13) nn (nI k)))) := ⟨_, rfl⟩
              rw [← eu41] at hM hF hR
              clear eu41
              obtain ⟨hyb, my, hA9, hnd, hnn⟩ := id hR
              obtain ⟨a0, a1, a2, a3, a4, a5, a6, a7, a8, a9, a10, a11, a12, a13, a14, a15, a16, a17⟩ := id hA9
              refine lv_aload_n hx hb dd_M_node_226 rfl (lv_at hl 5 rfl) ?_
              refine mg_get hx hb ht ii_M hown hK hM my rfl 17 (by decide) wd_2_230 (fun _ h => h) rfl dd_M_node_227 ?_
              refine lv_iload hx hb dd_M_node_230 (lv_at hl 0 rfl) ?_
              refine lv_iconst (v := 0) hx hb dd_M_node_232 (by decide) ?_
              refine mg_iast hx hb hK hM hS (hF _ (by rw [a14]; exact Option.some_ne_none _)) a14 (vp_in_nI (show nn < 4096 by omega) (by decide)) dd_M_node_233 (fun H locs hM hz hS => ?_)
              rw [nI_clamp (show nn < 2 ^ 31 by omega)] at hM
              have hM : hm G (mp_up u41 (b + 14) (iA G 4096 (upd (I40 14) nn 0))) H := hM
              have hF : ∀ z9, (mp_up u41 (b + 14) (iA G 4096 (upd (I40 14) nn 0))) z9 ≠ none → fr M sz z9 := hF_put hF (hF _ (by rw [a14]; exact Option.some_ne_none _))
              obtain ⟨I42, eI42⟩ : ∃ z, z = va_up I40 14 (upd (I40 14) nn 0) := ⟨_, rfl⟩
              have hR : rm G (mp_up u41 (b + 14) (iA G 4096 (upd (I40 14) nn 0))) y b (k + 1) (nn + 1) I42 J32 Z kn ft fn mo 0 := ⟨hR.1, mp_at (by omega) hR.2.1, by rw [eI42]; exact rmA_s14 hR.2.2.1 (upd (I40 14) nn 0), hR.2.2.2⟩
              obtain ⟨u43, eu43⟩ : ∃ z, z = (mp_up u41 (b + 14) (iA G 4096 (upd (I40 14) nn 0))) := ⟨_, rfl⟩
              rw [← eu43] at hM hF hR
              clear eu43
              obtain ⟨hyb, my, hA9, hnd, hnn⟩ := id hR
              obtain ⟨a0, a1, a2, a3, a4, a5, a6, a7, a8, a9, a10, a11, a12, a13, a14, a15, a16, a17⟩ := id hA9
              refine lv_iload hx hb dd_M_node_234 (lv_at hl 2 rfl) ?_
              refine lv_if_lt (tgt := 250) hx hb dd_M_node_236 (by decide) (fun _ => ?_) (fun z => absurd (by decide) z)
              refine lv_aload_n hx hb dd_M_node_250 rfl (lv_at hl 5 rfl) ?_
              refine lv_iconst (v := 0) hx hb dd_M_node_251 (by decide) ?_
              refine mg_put (v := .int 0) hx hb ht ii_M tt_M tt_M_ok nn_M hown hK hM hS (hF _ (by rw [my]; exact Option.some_ne_none _)) my rfl 21 (by decide) wd_2_234 (fun _ h => h) (Or.inl rfl) rfl rfl rfl (Nat.le_of_ble_eq_true rfl) dd_M_node_252 (fun H locs hM hz hoq hS => ?_)
              have hM : hm G (mp_up u43 y (yC b (k + 1) (nn + 1) false ft fn mo 0)) H := hM
              have hF : ∀ z9, (mp_up u43 y (yC b (k + 1) (nn + 1) false ft fn mo 0)) z9 ≠ none → fr M sz z9 := hF_put hF (hF _ (by rw [my]; exact Option.some_ne_none _))
              have hR : rm G (mp_up u43 y (yC b (k + 1) (nn + 1) false ft fn mo 0)) y b (k + 1) (nn + 1) I42 J32 Z false ft fn mo 0 := rm_setX hR (by omega) (by omega)
              obtain ⟨u44, eu44⟩ : ∃ z, z = (mp_up u43 y (yC b (k + 1) (nn + 1) false ft fn mo 0)) := ⟨_, rfl⟩
              rw [← eu44] at hM hF hR
              clear eu44
              obtain ⟨hyb, my, hA9, hnd, hnn⟩ := id hR
              obtain ⟨a0, a1, a2, a3, a4, a5, a6, a7, a8, a9, a10, a11, a12, a13, a14, a15, a16, a17⟩ := id hA9
              refine lv_iload hx hb dd_M_node_255 (lv_at hl 0 rfl) ?_
              have ho9 : ∀ j, (m_lack (k + 1) nn bg N pa) = some j → j < nn := fun j h => m_lack_lt (fun j hj => (hN j hj).2.2.2.2.2.2.2.2.2) h
              rw [hp5] at ho9 e5
              exact mw_i hx hb hr hlocks rfl hM hF hS (Nat.le_of_ble_eq_true rfl) (Nat.le_of_ble_eq_true rfl) (Or.inr ⟨by simp [m_nodeOk, m_wants, c2, c3, c4, hp5, c6, c26], rfl, I42, J32, hR, tD_cg hD (by simp [eI28, eJ30, eJ32, eI34, eI36, eI38, eI40, eI42, va_up]) (by simp [eI28, eJ30, eJ32, eI34, eI36, eI38, eI40, eI42, va_up]) (by simp [eI28, eJ30, eJ32, eI34, eI36, eI38, eI40, eI42, va_up]) (by simp [eI28, eJ30, eJ32, eI34, eI36, eI38, eI40, eI42, va_up]) (by simp [eI28, eJ30, eJ32, eI34, eI36, eI38, eI40, eI42, va_up]) (by simp [eI28, eJ30, eJ32, eI34, eI36, eI38, eI40, eI42, va_up]), tN_node (r9 := r9) hN ho9 e6 (by intro i; simp [eI28, eJ30, eJ32, eI34, eI36, eI38, eI40, eI42, va_up, upd, e1]) (by intro i; simp [eI28, eJ30, eJ32, eI34, eI36, eI38, eI40, eI42, va_up, vp_updL, e2]) (by intro i; simp [eI28, eJ30, eJ32, eI34, eI36, eI38, eI40, eI42, va_up, vp_updL, e3]) (by intro i; simp [eI28, eJ30, eJ32, eI34, eI36, eI38, eI40, eI42, va_up, upd, e4]) (by intro i; simp [eI28, eJ30, eJ32, eI34, eI36, eI38, eI40, eI42, va_up, upd, c_num]) (by intro i; simp [eI28, eJ30, eJ32, eI34, eI36, eI38, eI40, eI42, va_up, upd, e5, m_slot]) (by intro i; simp [eI28, eJ30, eJ32, eI34, eI36, eI38, eI40, eI42, va_up, upd]) (by intro i; simp [eI28, eJ30, eJ32, eI34, eI36, eI38, eI40, eI42, va_up, upd])⟩) dd_M_node_257
            · have c26 := bI_m.mp c26
              refine lv_iconst (v := -1) hx hb dd_M_node_133 (by decide) ?_
              exact mw_i hx hb hr hlocks rfl hM hF hS (Nat.le_of_ble_eq_true rfl) (Nat.le_of_ble_eq_true rfl) (Or.inl ⟨by simp [m_nodeOk, m_wants, c2, c3, c4, hp5, c6, c26], rfl, hR⟩) dd_M_node_134
        · rw [cn_some]
          have hlp5 := m_lack_lt (fun j hj => (hN j hj).2.2.2.2.2.2.2.2.2) hp5
          refine lv_istore (lv' := [(9, .int (nI p5)), (8, .int 0), (7, .int (nI k)), (0, .ref y), (1, .int kd), (2, .long fi), (4, .long se), (6, .int pts)]) hx hb dd_M_node_69 hl (by decide) rfl (fun ls hl => ?_)
          refine lv_iload hx hb dd_M_node_71 (lv_at hl 1 rfl) ?_
          refine lv_if_eq (tgt := 83) hx hb dd_M_node_73 (by decide) (fun _ => ?_) (fun z => absurd (by decide) z)
          refine lv_iload hx hb dd_M_node_83 (lv_at hl 0 rfl) ?_
          refine lv_if_ge (tgt := 98) hx hb dd_M_node_85 (by decide) (fun _ => ?_) (fun z => absurd (nI_pos' (by omega)) z)
          refine lv_aload_n hx hb dd_M_node_98 rfl (lv_at hl 3 rfl) ?_
          refine mg_get hx hb ht ii_M hown hK hM my rfl 10 (by decide) wd_2_223 (fun _ h => h) rfl dd_M_node_99 ?_
          refine lv_iload hx hb dd_M_node_102 (lv_at hl 0 rfl) ?_
          refine mg_iald hx hb hK hM a7 (vp_in_nI (show p5 < 4096 by omega) (by decide)) dd_M_node_104 ?_
          rw [nI_clamp (show p5 < 2 ^ 31 by omega)]
          rw [(hN p5 (show p5 < nn by omega)).1]
          refine lv_aload_n hx hb dd_M_node_105 rfl (lv_at hl 3 rfl) ?_
          refine mg_get hx hb ht ii_M hown hK hM my rfl 17 (by decide) wd_2_230 (fun _ h => h) rfl dd_M_node_106 ?_
          refine lv_iload hx hb dd_M_node_109 (lv_at hl 0 rfl) ?_
          refine mg_iald hx hb hK hM a14 (vp_in_nI (show p5 < 4096 by omega) (by decide)) dd_M_node_111 ?_
          rw [nI_clamp (show p5 < 2 ^ 31 by omega)]
          rw [(hN p5 (by omega)).2.2.2.2.2.2.2.1]
          refine mc_S (As := [.int (n_kd (N p5)), .int (n_fl (N p5))]) (rest := []) 2 (cc_M_isChangeable (k := (n_kd (N p5))) (p9 := (n_fl (N p5)))) hx hb hml hown ht hM hK hl.1 lk_M_109 (by decide +kernel) (by decide) rfl rfl (Nat.le_of_ble_eq_true rfl) dd_M_node_112 ⟨Nat.zero_le _, Nat.zero_le _⟩ ?_
          refine lv_istore (lv' := [(10, .int (bI (m_chg (n_kd (N p5)) (n_fl (N p5))))), (9, .int (nI p5)), (8, .int 0), (7, .int (nI k)), (0, .ref y), (1, .int kd), (2, .long fi), (4, .long se), (6, .int pts)]) hx hb dd_M_node_115 hl (by decide) rfl (fun ls hl => ?_)
          refine lv_iload hx hb dd_M_node_117 (lv_at hl 0 rfl) ?_
          refine lv_iload_n hx hb dd_M_node_119 rfl (lv_at hl 5 rfl) ?_
          refine lv_bipush (v := 17) hx hb dd_M_node_120 (by decide) ?_
          refine lv_icmp_le (tgt := 129) hx hb dd_M_node_122 (by decide) (fun c45 => ?_) (fun c45 => ?_)
          · refine lv_iconst (v := 0) hx hb dd_M_node_129 (by decide) ?_
            refine lv_icmp_eq (tgt := 135) hx hb dd_M_node_130 (by decide) (fun c46 => ?_) (fun c46 => ?_)
            · have c46 := bI_0.mp c46
              refine lv_aload_n hx hb dd_M_node_135 rfl (lv_at hl 4 rfl) ?_
              refine mg_get hx hb ht ii_M hown hK hM my rfl 9 (by decide) wd_2_222 (fun _ h => h) rfl dd_M_node_136 ?_
              refine lv_istore (lv' := [(11, .int (nI nn)), (10, .int (bI (m_chg (n_kd (N p5)) (n_fl (N p5))))), (9, .int (nI p5)), (8, .int 0), (7, .int (nI k)), (0, .ref y), (1, .int kd), (2, .long fi), (4, .long se), (6, .int pts)]) hx hb dd_M_node_139 hl (by decide) rfl (fun ls hl => ?_)
              refine lv_aload_n hx hb dd_M_node_141 rfl (lv_at hl 5 rfl) ?_
              refine lv_dup hx hb dd_M_node_142 rfl ?_
              refine mg_get hx hb ht ii_M hown hK hM my rfl 9 (by decide) wd_2_222 (fun _ h => h) rfl dd_M_node_143 ?_
              refine lv_iconst (v := 1) hx hb dd_M_node_146 (by decide) ?_
              refine lv_iadd hx hb dd_M_node_147 ?_
              rw [nI_1]
              refine mg_put (v := .int (nI (nn + 1))) hx hb ht ii_M tt_M tt_M_ok nn_M hown hK hM hS (hF _ (by rw [my]; exact Option.some_ne_none _)) my rfl 9 (by decide) wd_2_222 (fun _ h => h) (Or.inl rfl) rfl rfl rfl (Nat.le_of_ble_eq_true rfl) dd_M_node_148 (fun H locs hM hz hoq hS => ?_)
              have hM : hm G (mp_up u1 y (yC b (k + 1) (nn + 1) kn ft fn mo 0)) H := hM
              have hF : ∀ z9, (mp_up u1 y (yC b (k + 1) (nn + 1) kn ft fn mo 0)) z9 ≠ none → fr M sz z9 := hF_put hF (hF _ (by rw [my]; exact Option.some_ne_none _))
              have hR : rm G (mp_up u1 y (yC b (k + 1) (nn + 1) kn ft fn mo 0)) y b (k + 1) (nn + 1) I J Z kn ft fn mo 0 := rm_setX hR (by omega) (by omega)
              obtain ⟨u47, eu47⟩ : ∃ z, z = (mp_up u1 y (yC b (k + 1) (nn + 1) kn ft fn mo 0)) := ⟨_, rfl⟩
              rw [← eu47] at hM hF hR
              clear eu47
              obtain ⟨hyb, my, hA9, hnd, hnn⟩ := id hR
              obtain ⟨a0, a1, a2, a3, a4, a5, a6, a7, a8, a9, a10, a11, a12, a13, a14, a15, a16, a17⟩ := id hA9
              refine lv_aload_n hx hb dd_M_node_151 rfl (lv_at hl 5 rfl) ?_
              refine mg_get hx hb ht ii_M hown hK hM my rfl 10 (by decide) wd_2_223 (fun _ h => h) rfl dd_M_node_152 ?_
              refine lv_iload hx hb dd_M_node_155 (lv_at hl 0 rfl) ?_
              refine lv_iload_n hx hb dd_M_node_157 rfl (lv_at hl 6 rfl) ?_
              refine mg_iast hx hb hK hM hS (hF _ (by rw [a7]; exact Option.some_ne_none _)) a7 (vp_in_nI (show nn < 4096 by omega) (by decide)) dd_M_node_158 (fun H locs hM hz hS => ?_)
              rw [nI_clamp (show nn < 2 ^ 31 by omega)] at hM
              have hM : hm G (mp_up u47 (b + 7) (iA G 4096 (upd (I 7) nn kd))) H := hM
              have hF : ∀ z9, (mp_up u47 (b + 7) (iA G 4096 (upd (I 7) nn kd))) z9 ≠ none → fr M sz z9 := hF_put hF (hF _ (by rw [a7]; exact Option.some_ne_none _))
              obtain ⟨I48, eI48⟩ : ∃ z, z = va_up I 7 (upd (I 7) nn kd) := ⟨_, rfl⟩
              have hR : rm G (mp_up u47 (b + 7) (iA G 4096 (upd (I 7) nn kd))) y b (k + 1) (nn + 1) I48 J Z kn ft fn mo 0 := ⟨hR.1, mp_at (by omega) hR.2.1, by rw [eI48]; exact rmA_s7 hR.2.2.1 (upd (I 7) nn kd), hR.2.2.2⟩
              obtain ⟨u49, eu49⟩ : ∃ z, z = (mp_up u47 (b + 7) (iA G 4096 (upd (I 7) nn kd))) := ⟨_, rfl⟩
              rw [← eu49] at hM hF hR
              clear eu49
              obtain ⟨hyb, my, hA9, hnd, hnn⟩ := id hR
              obtain ⟨a0, a1, a2, a3, a4, a5, a6, a7, a8, a9, a10, a11, a12, a13, a14, a15, a16, a17⟩ := id hA9
              refine lv_aload_n hx hb dd_M_node_159 rfl (lv_at hl 5 rfl) ?_
              refine mg_get hx hb ht ii_M hown hK hM my rfl 11 (by decide) wd_2_224 (fun _ h => h) rfl dd_M_node_160 ?_
              refine lv_iload hx hb dd_M_node_163 (lv_at hl 0 rfl) ?_
              refine lv_lload_n hx hb dd_M_node_165 rfl (lv_at hl 7 rfl) ?_
              refine mg_last hx hb hK hM hS (hF _ (by rw [a8]; exact Option.some_ne_none _)) a8 (vp_in_nI (show nn < 4096 by omega) (by decide)) dd_M_node_166 (fun H locs hM hz hS => ?_)
              rw [nI_clamp (show nn < 2 ^ 31 by omega)] at hM
              have hM : hm G (mp_up u49 (b + 8) (lA G 4096 (vp_updL (J 8) nn fi))) H := hM
              have hF : ∀ z9, (mp_up u49 (b + 8) (lA G 4096 (vp_updL (J 8) nn fi))) z9 ≠ none → fr M sz z9 := hF_put hF (hF _ (by rw [a8]; exact Option.some_ne_none _))
              obtain ⟨J50, eJ50⟩ : ∃ z, z = va_up J 8 (vp_updL (J 8) nn fi) := ⟨_, rfl⟩
              have hR : rm G (mp_up u49 (b + 8) (lA G 4096 (vp_updL (J 8) nn fi))) y b (k + 1) (nn + 1) I48 J50 Z kn ft fn mo 0 := ⟨hR.1, mp_at (by omega) hR.2.1, by rw [eJ50]; exact rmA_s8 hR.2.2.1 (vp_updL (J 8) nn fi), hR.2.2.2⟩
              obtain ⟨u51, eu51⟩ : ∃ z, z = (mp_up u49 (b + 8) (lA G 4096 (vp_updL (J 8) nn fi))) := ⟨_, rfl⟩
              rw [← eu51] at hM hF hR
              clear eu51
              obtain ⟨hyb, my, hA9, hnd, hnn⟩ := id hR
              obtain ⟨a0, a1, a2, a3, a4, a5, a6, a7, a8, a9, a10, a11, a12, a13, a14, a15, a16, a17⟩ := id hA9
              refine lv_aload_n hx hb dd_M_node_167 rfl (lv_at hl 5 rfl) ?_
              refine mg_get hx hb ht ii_M hown hK hM my rfl 12 (by decide) wd_2_225 (fun _ h => h) rfl dd_M_node_168 ?_
              refine lv_iload hx hb dd_M_node_171 (lv_at hl 0 rfl) ?_
              refine lv_lload hx hb dd_M_node_173 (lv_at hl 8 rfl) ?_
              refine mg_last hx hb hK hM hS (hF _ (by rw [a9]; exact Option.some_ne_none _)) a9 (vp_in_nI (show nn < 4096 by omega) (by decide)) dd_M_node_175 (fun H locs hM hz hS => ?_)
              rw [nI_clamp (show nn < 2 ^ 31 by omega)] at hM
              have hM : hm G (mp_up u51 (b + 9) (lA G 4096 (vp_updL (J50 9) nn se))) H := hM
              have hF : ∀ z9, (mp_up u51 (b + 9) (lA G 4096 (vp_updL (J50 9) nn se))) z9 ≠ none → fr M sz z9 := hF_put hF (hF _ (by rw [a9]; exact Option.some_ne_none _))
              obtain ⟨J52, eJ52⟩ : ∃ z, z = va_up J50 9 (vp_updL (J50 9) nn se) := ⟨_, rfl⟩
              have hR : rm G (mp_up u51 (b + 9) (lA G 4096 (vp_updL (J50 9) nn se))) y b (k + 1) (nn + 1) I48 J52 Z kn ft fn mo 0 := ⟨hR.1, mp_at (by omega) hR.2.1, by rw [eJ52]; exact rmA_s9 hR.2.2.1 (vp_updL (J50 9) nn se), hR.2.2.2⟩
              obtain ⟨u53, eu53⟩ : ∃ z, z = (mp_up u51 (b + 9) (lA G 4096 (vp_updL (J50 9) nn se))) := ⟨_, rfl⟩
              rw [← eu53] at hM hF hR
              clear eu53
              obtain ⟨hyb, my, hA9, hnd, hnn⟩ := id hR
              obtain ⟨a0, a1, a2, a3, a4, a5, a6, a7, a8, a9, a10, a11, a12, a13, a14, a15, a16, a17⟩ := id hA9
              refine lv_aload_n hx hb dd_M_node_176 rfl (lv_at hl 5 rfl) ?_
              refine mg_get hx hb ht ii_M hown hK hM my rfl 13 (by decide) wd_2_226 (fun _ h => h) rfl dd_M_node_177 ?_
              refine lv_iload hx hb dd_M_node_180 (lv_at hl 0 rfl) ?_
              refine lv_iload hx hb dd_M_node_182 (lv_at hl 9 rfl) ?_
              refine mg_iast hx hb hK hM hS (hF _ (by rw [a10]; exact Option.some_ne_none _)) a10 (vp_in_nI (show nn < 4096 by omega) (by decide)) dd_M_node_184 (fun H locs hM hz hS => ?_)
              rw [nI_clamp (show nn < 2 ^ 31 by omega)] at hM
              have hM : hm G (mp_up u53 (b + 10) (iA G 4096 (upd (I48 10) nn pts))) H := hM
              have hF : ∀ z9, (mp_up u53 (b + 10) (iA G 4096 (upd (I48 10) nn pts))) z9 ≠ none → fr M sz z9 := hF_put hF (hF _ (by rw [a10]; exact Option.some_ne_none _))
              obtain ⟨I54, eI54⟩ : ∃ z, z = va_up I48 10 (upd (I48 10) nn pts) := ⟨_, rfl⟩
              have hR : rm G (mp_up u53 (b + 10) (iA G 4096 (upd (I48 10) nn pts))) y b (k + 1) (nn + 1) I54 J52 Z kn ft fn mo 0 := ⟨hR.1, mp_at (by omega) hR.2.1, by rw [eI54]; exact rmA_s10 hR.2.2.1 (upd (I48 10) nn pts), hR.2.2.2⟩
              obtain ⟨u55, eu55⟩ : ∃ z, z = (mp_up u53 (b + 10) (iA G 4096 (upd (I48 10) nn pts))) := ⟨_, rfl⟩
              rw [← eu55] at hM hF hR
              clear eu55
              obtain ⟨hyb, my, hA9, hnd, hnn⟩ := id hR
              obtain ⟨a0, a1, a2, a3, a4, a5, a6, a7, a8, a9, a10, a11, a12, a13, a14, a15, a16, a17⟩ := id hA9
              refine lv_aload_n hx hb dd_M_node_185 rfl (lv_at hl 5 rfl) ?_
              refine mg_get hx hb ht ii_M hown hK hM my rfl 14 (by decide) wd_2_227 (fun _ h => h) rfl dd_M_node_186 ?_
              refine lv_iload hx hb dd_M_node_189 (lv_at hl 0 rfl) ?_
              refine lv_iload hx hb dd_M_node_191 (lv_at hl 2 rfl) ?_
              refine mg_iast hx hb hK hM hS (hF _ (by rw [a11]; exact Option.some_ne_none _)) a11 (vp_in_nI (show nn < 4096 by omega) (by decide)) dd_M_node_193 (fun H locs hM hz hS => ?_)
              rw [nI_clamp (show nn < 2 ^ 31 by omega)] at hM
              have hM : hm G (mp_up u55 (b + 11) (iA G 4096 (upd (I54 11) nn (nI p5)))) H := hM
              have hF : ∀ z9, (mp_up u55 (b + 11) (iA G 4096 (upd (I54 11) nn (nI p5)))) z9 ≠ none → fr M sz z9 := hF_put hF (hF _ (by rw [a11]; exact Option.some_ne_none _))
              obtain ⟨I56, eI56⟩ : ∃ z, z = va_up I54 11 (upd (I54 11) nn (nI p5)) := ⟨_, rfl⟩
              have hR : rm G (mp_up u55 (b + 11) (iA G 4096 (upd (I54 11) nn (nI p5)))) y b (k + 1) (nn + 1) I56 J52 Z kn ft fn mo 0 := ⟨hR.1, mp_at (by omega) hR.2.1, by rw [eI56]; exact rmA_s11 hR.2.2.1 (upd (I54 11) nn (nI p5)), hR.2.2.2⟩
              obtain ⟨u57, eu57⟩ : ∃ z, z = (mp_up u55 (b + 11) (iA G 4096 (upd (I54 11) nn (nI p5)))) := ⟨_, rfl⟩
              rw [← eu57] at hM hF hR
              clear eu57
              obtain ⟨hyb, my, hA9, hnd, hnn⟩ := id hR
              obtain ⟨a0, a1, a2, a3, a4, a5, a6, a7, a8, a9, a10, a11, a12, a13, a14, a15, a16, a17⟩ := id hA9
              refine lv_aload_n hx hb dd_M_node_194 rfl (lv_at hl 5 rfl) ?_
              refine mg_get hx hb ht ii_M hown hK hM my rfl 15 (by decide) wd_2_228 (fun _ h => h) rfl dd_M_node_195 ?_
              refine lv_iload hx hb dd_M_node_198 (lv_at hl 0 rfl) ?_
              refine lv_iload hx hb dd_M_node_200 (lv_at hl 2 rfl) ?_
              refine lv_if_ge (tgt := 209) hx hb dd_M_node_202 (by decide) (fun _ => ?_) (fun z => absurd (nI_pos' (by omega)) z)
              refine lv_aload_n hx hb dd_M_node_209 rfl (lv_at hl 5 rfl) ?_
              refine mg_get hx hb ht ii_M hown hK hM my rfl 17 (by decide) wd_2_230 (fun _ h => h) rfl dd_M_node_210 ?_
              refine lv_iload hx hb dd_M_node_213 (lv_at hl 2 rfl) ?_
              refine mg_iald hx hb hK hM a14 (vp_in_nI (show p5 < 4096 by omega) (by decide)) dd_M_node_215 ?_
              rw [nI_clamp (show p5 < 2 ^ 31 by omega)]
              rw [show I56 14 p5 = n_fl (N p5) from by simp [eI48, eJ50, eJ52, eI54, eI56, va_up, upd, show ¬ p5 = nn by omega]; exact (hN p5 (by omega)).2.2.2.2.2.2.2.1]
              refine mg_iast hx hb hK hM hS (hF _ (by rw [a12]; exact Option.some_ne_none _)) a12 (vp_in_nI (show nn < 4096 by omega) (by decide)) dd_M_node_216 (fun H locs hM hz hS => ?_)
              rw [nI_clamp (show nn < 2 ^ 31 by omega)] at hM
              have hM : hm G (mp_up u57 (b + 12) (iA G 4096 (upd (I56 12) nn (n_fl (N p5))))) H := hM
              have hF : ∀ z9, (mp_up u57 (b + 12) (iA G 4096 (upd (I56 12) nn (n_fl (N p5))))) z9 ≠ none → fr M sz z9 := hF_put hF (hF _ (by rw [a12]; exact Option.some_ne_none _))
              obtain ⟨I58, eI58⟩ : ∃ z, z = va_up I56 12 (upd (I56 12) nn (n_fl (N p5))) := ⟨_, rfl⟩
              have hR : rm G (mp_up u57 (b + 12) (iA G 4096 (upd (I56 12) nn (n_fl (N p5))))) y b (k + 1) (nn + 1) I58 J52 Z kn ft fn mo 0 := ⟨hR.1, mp_at (by omega) hR.2.1, by rw [eI58]; exact rmA_s12 hR.2.2.1 (upd (I56 12) nn (n_fl (N p5))), hR.2.2.2⟩
              obtain ⟨u59, eu59⟩ : ∃ z, z = (mp_up u57 (b + 12) (iA G 4096 (upd (I56 12) nn (n_fl (N p5))))) := ⟨_, rfl⟩
              rw [← eu59] at hM hF hR
              clear eu59
              obtain ⟨hyb, my, hA9, hnd, hnn⟩ := id hR
              obtain ⟨a0, a1, a2, a3, a4, a5, a6, a7, a8, a9, a10, a11, a12, a13, a14, a15, a16, a17⟩ := id hA9
              refine lv_aload_n hx hb dd_M_node_217 rfl (lv_at hl 5 rfl) ?_
              refine mg_get hx hb ht ii_M hown hK hM my rfl 16 (by decide) wd_2_229 (fun _ h => h) rfl dd_M_node_218 ?_
              refine lv_iload hx hb dd_M_node_221 (lv_at hl 0 rfl) ?_
              refine lv_iload hx hb dd_M_node_223 (lv_at hl 4 rfl) ?_
              refine mg_iast hx hb hK hM hS (hF _ (by rw [a13]; exact Option.some_ne_none _)) a13 (vp_in_nI (show nn < 4096 by omega) (by decide)) dd_M_node_225 (fun H locs hM hz hS => ?_)
              rw [nI_clamp (show nn < 2 ^ 31 by omega)] at hM
              have hM : hm G (mp_up u59 (b + 13) (iA G 4096 (upd (I58 13) nn (nI k)))) H := hM
              have hF : ∀ z9, (mp_up u59 (b + 13) (iA G 4096 (upd (I58 13) nn (nI k)))) z9 ≠ none → fr M sz z9 := hF_put hF (hF _ (by rw [a13]; exact Option.some_ne_none _))
              obtain ⟨I60, eI60⟩ : ∃ z, z = va_up I58 13 (upd (I58 13) nn (nI k)) := ⟨_, rfl⟩
              have hR : rm G (mp_up u59 (b + 13) (iA G 4096 (upd (I58 13) nn (nI k)))) y b (k + 1) (nn + 1) I60 J52 Z kn ft fn mo 0 := ⟨hR.1, mp_at (by omega) hR.2.1, by rw [eI60]; exact rmA_s13 hR.2.2.1 (upd (I58 13) nn (nI k)), hR.2.2.2⟩
              obtain ⟨u61, eu61⟩ : ∃ z, z = (mp_up u59 (b + 13) (iA G 4096 (upd (I58 13) nn (nI k)))) := ⟨_, rfl⟩
              rw [← eu61] at hM hF hR
              clear eu61
              obtain ⟨hyb, my, hA9, hnd, hnn⟩ := id hR
              obtain ⟨a0, a1, a2, a3, a4, a5, a6, a7, a8, a9, a10, a11, a12, a13, a14, a15, a16, a17⟩ := id hA9
              refine lv_aload_n hx hb dd_M_node_226 rfl (lv_at hl 5 rfl) ?_
              refine mg_get hx hb ht ii_M hown hK hM my rfl 17 (by decide) wd_2_230 (fun _ h => h) rfl dd_M_node_227 ?_
              refine lv_iload hx hb dd_M_node_230 (lv_at hl 0 rfl) ?_
              refine lv_iconst (v := 0) hx hb dd_M_node_232 (by decide) ?_
              refine mg_iast hx hb hK hM hS (hF _ (by rw [a14]; exact Option.some_ne_none _)) a14 (vp_in_nI (show nn < 4096 by omega) (by decide)) dd_M_node_233 (fun H locs hM hz hS => ?_)
              rw [nI_clamp (show nn < 2 ^ 31 by omega)] at hM
              have hM : hm G (mp_up u61 (b + 14) (iA G 4096 (upd (I60 14) nn 0))) H := hM
              have hF : ∀ z9, (mp_up u61 (b + 14) (iA G 4096 (upd (I60 14) nn 0))) z9 ≠ none → fr M sz z9 := hF_put hF (hF _ (by rw [a14]; exact Option.some_ne_none _))
              obtain ⟨I62, eI62⟩ : ∃ z, z = va_up I60 14 (upd (I60 14) nn 0) := ⟨_, rfl⟩
              have hR : rm G (mp_up u61 (b + 14) (iA G 4096 (upd (I60 14) nn 0))) y b (k + 1) (nn + 1) I62 J52 Z kn ft fn mo 0 := ⟨hR.1, mp_at (by omega) hR.2.1, by rw [eI62]; exact rmA_s14 hR.2.2.1 (upd (I60 14) nn 0), hR.2.2.2⟩
              obtain ⟨u63, eu63⟩ : ∃ z, z = (mp_up u61 (b + 14) (iA G 4096 (upd (I60 14) nn 0))) := ⟨_, rfl⟩
              rw [← eu63] at hM hF hR
              clear eu63
              obtain ⟨hyb, my, hA9, hnd, hnn⟩ := id hR
              obtain ⟨a0, a1, a2, a3, a4, a5, a6, a7, a8, a9, a10, a11, a12, a13, a14, a15, a16, a17⟩ := id hA9
              refine lv_iload hx hb dd_M_node_234 (lv_at hl 2 rfl) ?_
              refine lv_if_lt (tgt := 250) hx hb dd_M_node_236 (by decide) (fun z => absurd z (nI_pos (by omega))) (fun _ => ?_)
              refine lv_aload_n hx hb dd_M_node_239 rfl (lv_at hl 5 rfl) ?_
              refine mg_get hx hb ht ii_M hown hK hM my rfl 17 (by decide) wd_2_230 (fun _ h => h) rfl dd_M_node_240 ?_
              refine lv_iload hx hb dd_M_node_243 (lv_at hl 2 rfl) ?_
              refine lv_dup2_11 hx hb dd_M_node_245 rfl rfl ?_
              refine mg_iald hx hb hK hM a14 (vp_in_nI (show p5 < 4096 by omega) (by decide)) dd_M_node_246 ?_
              rw [nI_clamp (show p5 < 2 ^ 31 by omega)]
              rw [show I62 14 p5 = n_fl (N p5) from by simp [eI48, eJ50, eJ52, eI54, eI56, eI58, eI60, eI62, va_up, upd, show ¬ p5 = nn by omega]; exact (hN p5 (by omega)).2.2.2.2.2.2.2.1]
              refine lv_iconst (v := 1) hx hb dd_M_node_247 (by decide) ?_
              refine lv_iadd hx hb dd_M_node_248 ?_
              refine mg_iast hx hb hK hM hS (hF _ (by rw [a14]; exact Option.some_ne_none _)) a14 (vp_in_nI (show p5 < 4096 by omega) (by decide)) dd_M_node_249 (fun H locs hM hz hS => ?_)
              rw [nI_clamp (show p5 < 2 ^ 31 by omega)] at hM
              have hM : hm G (mp_up u63 (b + 14) (iA G 4096 (upd (I62 14) p5 ((n_fl (N p5)) + 1)))) H := hM
              have hF : ∀ z9, (mp_up u63 (b + 14) (iA G 4096 (upd (I62 14) p5 ((n_fl (N p5)) + 1)))) z9 ≠ none → fr M sz z9 := hF_put hF (hF _ (by rw [a14]; exact Option.some_ne_none _))
              obtain ⟨I64, eI64⟩ : ∃ z, z = va_up I62 14 (upd (I62 14) p5 ((n_fl (N p5)) + 1)) := ⟨_, rfl⟩
              have hR : rm G (mp_up u63 (b + 14) (iA G 4096 (upd (I62 14) p5 ((n_fl (N p5)) + 1)))) y b (k + 1) (nn + 1) I64 J52 Z kn ft fn mo 0 := ⟨hR.1, mp_at (by omega) hR.2.1, by rw [eI64]; exact rmA_s14 hR.2.2.1 (upd (I62 14) p5 ((n_fl (N p5)) + 1)), hR.2.2.2⟩
              obtain ⟨u65, eu65⟩ : ∃ z, z = (mp_up u63 (b + 14) (iA G 4096 (upd (I62 14) p5 ((n_fl (N p5)) + 1)))) := ⟨_, rfl⟩
              rw [← eu65] at hM hF hR
              clear eu65
              obtain ⟨hyb, my, hA9, hnd, hnn⟩ := id hR
              obtain ⟨a0, a1, a2, a3, a4, a5, a6, a7, a8, a9, a10, a11, a12, a13, a14, a15, a16, a17⟩ := id hA9
              refine lv_aload_n hx hb dd_M_node_250 rfl (lv_at hl 5 rfl) ?_
              refine lv_iconst (v := 0) hx hb dd_M_node_251 (by decide) ?_
              refine mg_put (v := .int 0) hx hb ht ii_M tt_M tt_M_ok nn_M hown hK hM hS (hF _ (by rw [my]; exact Option.some_ne_none _)) my rfl 21 (by decide) wd_2_234 (fun _ h => h) (Or.inl rfl) rfl rfl rfl (Nat.le_of_ble_eq_true rfl) dd_M_node_252 (fun H locs hM hz hoq hS => ?_)
              have hM : hm G (mp_up u65 y (yC b (k + 1) (nn + 1) false ft fn mo 0)) H := hM
              have hF : ∀ z9, (mp_up u65 y (yC b (k + 1) (nn + 1) false ft fn mo 0)) z9 ≠ none → fr M sz z9 := hF_put hF (hF _ (by rw [my]; exact Option.some_ne_none _))
              have hR : rm G (mp_up u65 y (yC b (k + 1) (nn + 1) false ft fn mo 0)) y b (k + 1) (nn + 1) I64 J52 Z false ft fn mo 0 := rm_setX hR (by omega) (by omega)
              obtain ⟨u66, eu66⟩ : ∃ z, z = (mp_up u65 y (yC b (k + 1) (nn + 1) false ft fn mo 0)) := ⟨_, rfl⟩
              rw [← eu66] at hM hF hR
              clear eu66
              obtain ⟨hyb, my, hA9, hnd, hnn⟩ := id hR
              obtain ⟨a0, a1, a2, a3, a4, a5, a6, a7, a8, a9, a10, a11, a12, a13, a14, a15, a16, a17⟩ := id hA9
              refine lv_iload hx hb dd_M_node_255 (lv_at hl 0 rfl) ?_
              have ho9 : ∀ j, (m_lack (k + 1) nn bg N pa) = some j → j < nn := fun j h => m_lack_lt (fun j hj => (hN j hj).2.2.2.2.2.2.2.2.2) h
              rw [hp5] at ho9 e5
              have hI14 : ∀ i, I64 14 i = if some p5 = some i then I 14 i + 1 else if i = nn then 0 else I 14 i := by
                intro i
                by_cases q2 : i = p5
                · subst q2; rw [if_pos rfl, (hN i (by omega)).2.2.2.2.2.2.2.1]; simp [eI48, eJ50, eJ52, eI54, eI56, eI58, eI60, eI62, eI64, va_up, upd]
                · rw [if_neg (fun z => q2 (by cases z; rfl))]; simp [eI48, eJ50, eJ52, eI54, eI56, eI58, eI60, eI62, eI64, va_up, upd, q2]
              exact mw_i hx hb hr hlocks rfl hM hF hS (Nat.le_of_ble_eq_true rfl) (Nat.le_of_ble_eq_true rfl) (Or.inr ⟨by simp [m_nodeOk, m_wants, c2, c3, c4, hp5, c45, c46], rfl, I64, J52, hR, tD_cg hD (by simp [eI48, eJ50, eJ52, eI54, eI56, eI58, eI60, eI62, eI64, va_up]) (by simp [eI48, eJ50, eJ52, eI54, eI56, eI58, eI60, eI62, eI64, va_up]) (by simp [eI48, eJ50, eJ52, eI54, eI56, eI58, eI60, eI62, eI64, va_up]) (by simp [eI48, eJ50, eJ52, eI54, eI56, eI58, eI60, eI62, eI64, va_up]) (by simp [eI48, eJ50, eJ52, eI54, eI56, eI58, eI60, eI62, eI64, va_up]) (by simp [eI48, eJ50, eJ52, eI54, eI56, eI58, eI60, eI62, eI64, va_up]), tN_node (r9 := r9) hN ho9 e6 (by intro i; simp [eI48, eJ50, eJ52, eI54, eI56, eI58, eI60, eI62, eI64, va_up, upd, e1]) (by intro i; simp [eI48, eJ50, eJ52, eI54, eI56, eI58, eI60, eI62, eI64, va_up, vp_updL, e2]) (by intro i; simp [eI48, eJ50, eJ52, eI54, eI56, eI58, eI60, eI62, eI64, va_up, vp_updL, e3]) (by intro i; simp [eI48, eJ50, eJ52, eI54, eI56, eI58, eI60, eI62, eI64, va_up, upd, e4]) (by intro i; simp [eI48, eJ50, eJ52, eI54, eI56, eI58, eI60, eI62, eI64, va_up, upd, c_num]) (by intro i; simp [eI48, eJ50, eJ52, eI54, eI56, eI58, eI60, eI62, eI64, va_up, upd, e5, m_slot]) (by intro i; simp [eI48, eJ50, eJ52, eI54, eI56, eI58, eI60, eI62, eI64, va_up, upd]) (by intro i; rw [hI14 i])⟩) dd_M_node_257
            · have c46 := bI_n.mp c46
              refine lv_iconst (v := -1) hx hb dd_M_node_133 (by decide) ?_
              exact mw_i hx hb hr hlocks rfl hM hF hS (Nat.le_of_ble_eq_true rfl) (Nat.le_of_ble_eq_true rfl) (Or.inl ⟨by simp [m_nodeOk, m_wants, c2, c3, c4, hp5, c45, c46], rfl, hR⟩) dd_M_node_134
          · refine lv_iconst (v := 1) hx hb dd_M_node_125 (by decide) ?_
            refine lv_goto (tgt := 130) hx hb dd_M_node_126 (by decide) ?_
            refine lv_icmp_eq (tgt := 135) hx hb dd_M_node_130 (by decide) (fun c67 => ?_) (fun c67 => ?_)
            · have c67 := bI_1.mp c67
              refine lv_aload_n hx hb dd_M_node_135 rfl (lv_at hl 4 rfl) ?_
              refine mg_get hx hb ht ii_M hown hK hM my rfl 9 (by decide) wd_2_222 (fun _ h => h) rfl dd_M_node_136 ?_
              refine lv_istore (lv' := [(11, .int (nI nn)), (10, .int (bI (m_chg (n_kd (N p5)) (n_fl (N p5))))), (9, .int (nI p5)), (8, .int 0), (7, .int (nI k)), (0, .ref y), (1, .int kd), (2, .long fi), (4, .long se), (6, .int pts)]) hx hb dd_M_node_139 hl (by decide) rfl (fun ls hl => ?_)
              refine lv_aload_n hx hb dd_M_node_141 rfl (lv_at hl 5 rfl) ?_
              refine lv_dup hx hb dd_M_node_142 rfl ?_
              refine mg_get hx hb ht ii_M hown hK hM my rfl 9 (by decide) wd_2_222 (fun _ h => h) rfl dd_M_node_143 ?_
              refine lv_iconst (v := 1) hx hb dd_M_node_146 (by decide) ?_
              refine lv_iadd hx hb dd_M_node_147 ?_
              rw [nI_1]
              refine mg_put (v := .int (nI (nn + 1))) hx hb ht ii_M tt_M tt_M_ok nn_M hown hK hM hS (hF _ (by rw [my]; exact Option.some_ne_none _)) my rfl 9 (by decide) wd_2_222 (fun _ h => h) (Or.inl rfl) rfl rfl rfl (Nat.le_of_ble_eq_true rfl) dd_M_node_148 (fun H locs hM hz hoq hS => ?_)
              have hM : hm G (mp_up u1 y (yC b (k + 1) (nn + 1) kn ft fn mo 0)) H := hM
              have hF : ∀ z9, (mp_up u1 y (yC b (k + 1) (nn + 1) kn ft fn mo 0)) z9 ≠ none → fr M sz z9 := hF_put hF (hF _ (by rw [my]; exact Option.some_ne_none _))
              have hR : rm G (mp_up u1 y (yC b (k + 1) (nn + 1) kn ft fn mo 0)) y b (k + 1) (nn + 1) I J Z kn ft fn mo 0 := rm_setX hR (by omega) (by omega)
              obtain ⟨u68, eu68⟩ : ∃ z, z = (mp_up u1 y (yC b (k + 1) (nn + 1) kn ft fn mo 0)) := ⟨_, rfl⟩
              rw [← eu68] at hM hF hR
              clear eu68
              obtain ⟨hyb, my, hA9, hnd, hnn⟩ := id hR
              obtain ⟨a0, a1, a2, a3, a4, a5, a6, a7, a8, a9, a10, a11, a12, a13, a14, a15, a16, a17⟩ := id hA9
              refine lv_aload_n hx hb dd_M_node_151 rfl (lv_at hl 5 rfl) ?_
              refine mg_get hx hb ht ii_M hown hK hM my rfl 10 (by decide) wd_2_223 (fun _ h => h) rfl dd_M_node_152 ?_
              refine lv_iload hx hb dd_M_node_155 (lv_at hl 0 rfl) ?_
              refine lv_iload_n hx hb dd_M_node_157 rfl (lv_at hl 6 rfl) ?_
              refine mg_iast hx hb hK hM hS (hF _ (by rw [a7]; exact Option.some_ne_none _)) a7 (vp_in_nI (show nn < 4096 by omega) (by decide)) dd_M_node_158 (fun H locs hM hz hS => ?_)
              rw [nI_clamp (show nn < 2 ^ 31 by omega)] at hM
              have hM : hm G (mp_up u68 (b + 7) (iA G 4096 (upd (I 7) nn kd))) H := hM
              have hF : ∀ z9, (mp_up u68 (b + 7) (iA G 4096 (upd (I 7) nn kd))) z9 ≠ none → fr M sz z9 := hF_put hF (hF _ (by rw [a7]; exact Option.some_ne_none _))
              obtain ⟨I69, eI69⟩ : ∃ z, z = va_up I 7 (upd (I 7) nn kd) := ⟨_, rfl⟩
              have hR : rm G (mp_up u68 (b + 7) (iA G 4096 (upd (I 7) nn kd))) y b (k + 1) (nn + 1) I69 J Z kn ft fn mo 0 := ⟨hR.1, mp_at (by omega) hR.2.1, by rw [eI69]; exact rmA_s7 hR.2.2.1 (upd (I 7) nn kd), hR.2.2.2⟩
              obtain ⟨u70, eu70⟩ : ∃ z, z = (mp_up u68 (b + 7) (iA G 4096 (upd (I 7) nn kd))) := ⟨_, rfl⟩
              rw [← eu70] at hM hF hR
              clear eu70
              obtain ⟨hyb, my, hA9, hnd, hnn⟩ := id hR
              obtain ⟨a0, a1, a2, a3, a4, a5, a6, a7, a8, a9, a10, a11, a12, a13, a14, a15, a16, a17⟩ := id hA9
              refine lv_aload_n hx hb dd_M_node_159 rfl (lv_at hl 5 rfl) ?_
              refine mg_get hx hb ht ii_M hown hK hM my rfl 11 (by decide) wd_2_224 (fun _ h => h) rfl dd_M_node_160 ?_
              refine lv_iload hx hb dd_M_node_163 (lv_at hl 0 rfl) ?_
              refine lv_lload_n hx hb dd_M_node_165 rfl (lv_at hl 7 rfl) ?_
              refine mg_last hx hb hK hM hS (hF _ (by rw [a8]; exact Option.some_ne_none _)) a8 (vp_in_nI (show nn < 4096 by omega) (by decide)) dd_M_node_166 (fun H locs hM hz hS => ?_)
              rw [nI_clamp (show nn < 2 ^ 31 by omega)] at hM
              have hM : hm G (mp_up u70 (b + 8) (lA G 4096 (vp_updL (J 8) nn fi))) H := hM
              have hF : ∀ z9, (mp_up u70 (b + 8) (lA G 4096 (vp_updL (J 8) nn fi))) z9 ≠ none → fr M sz z9 := hF_put hF (hF _ (by rw [a8]; exact Option.some_ne_none _))
              obtain ⟨J71, eJ71⟩ : ∃ z, z = va_up J 8 (vp_updL (J 8) nn fi) := ⟨_, rfl⟩
              have hR : rm G (mp_up u70 (b + 8) (lA G 4096 (vp_updL (J 8) nn fi))) y b (k + 1) (nn + 1) I69 J71 Z kn ft fn mo 0 := ⟨hR.1, mp_at (by omega) hR.2.1, by rw [eJ71]; exact rmA_s8 hR.2.2.1 (vp_updL (J 8) nn fi), hR.2.2.2⟩
              obtain ⟨u72, eu72⟩ : ∃ z, z = (mp_up u70 (b + 8) (lA G 4096 (vp_updL (J 8) nn fi))) := ⟨_, rfl⟩
              rw [← eu72] at hM hF hR
              clear eu72
              obtain ⟨hyb, my, hA9, hnd, hnn⟩ := id hR
              obtain ⟨a0, a1, a2, a3, a4, a5, a6, a7, a8, a9, a10, a11, a12, a13, a14, a15, a16, a17⟩ := id hA9
              refine lv_aload_n hx hb dd_M_node_167 rfl (lv_at hl 5 rfl) ?_
              refine mg_get hx hb ht ii_M hown hK hM my rfl 12 (by decide) wd_2_225 (fun _ h => h) rfl dd_M_node_168 ?_
              refine lv_iload hx hb dd_M_node_171 (lv_at hl 0 rfl) ?_
              refine lv_lload hx hb dd_M_node_173 (lv_at hl 8 rfl) ?_
              refine mg_last hx hb hK hM hS (hF _ (by rw [a9]; exact Option.some_ne_none _)) a9 (vp_in_nI (show nn < 4096 by omega) (by decide)) dd_M_node_175 (fun H locs hM hz hS => ?_)
              rw [nI_clamp (show nn < 2 ^ 31 by omega)] at hM
              have hM : hm G (mp_up u72 (b + 9) (lA G 4096 (vp_updL (J71 9) nn se))) H := hM
              have hF : ∀ z9, (mp_up u72 (b + 9) (lA G 4096 (vp_updL (J71 9) nn se))) z9 ≠ none → fr M sz z9 := hF_put hF (hF _ (by rw [a9]; exact Option.some_ne_none _))
              obtain ⟨J73, eJ73⟩ : ∃ z, z = va_up J71 9 (vp_updL (J71 9) nn se) := ⟨_, rfl⟩
              have hR : rm G (mp_up u72 (b + 9) (lA G 4096 (vp_updL (J71 9) nn se))) y b (k + 1) (nn + 1) I69 J73 Z kn ft fn mo 0 := ⟨hR.1, mp_at (by omega) hR.2.1, by rw [eJ73]; exact rmA_s9 hR.2.2.1 (vp_updL (J71 9) nn se), hR.2.2.2⟩
              obtain ⟨u74, eu74⟩ : ∃ z, z = (mp_up u72 (b + 9) (lA G 4096 (vp_updL (J71 9) nn se))) := ⟨_, rfl⟩
              rw [← eu74] at hM hF hR
              clear eu74
              obtain ⟨hyb, my, hA9, hnd, hnn⟩ := id hR
              obtain ⟨a0, a1, a2, a3, a4, a5, a6, a7, a8, a9, a10, a11, a12, a13, a14, a15, a16, a17⟩ := id hA9
              refine lv_aload_n hx hb dd_M_node_176 rfl (lv_at hl 5 rfl) ?_
              refine mg_get hx hb ht ii_M hown hK hM my rfl 13 (by decide) wd_2_226 (fun _ h => h) rfl dd_M_node_177 ?_
              refine lv_iload hx hb dd_M_node_180 (lv_at hl 0 rfl) ?_
              refine lv_iload hx hb dd_M_node_182 (lv_at hl 9 rfl) ?_
              refine mg_iast hx hb hK hM hS (hF _ (by rw [a10]; exact Option.some_ne_none _)) a10 (vp_in_nI (show nn < 4096 by omega) (by decide)) dd_M_node_184 (fun H locs hM hz hS => ?_)
              rw [nI_clamp (show nn < 2 ^ 31 by omega)] at hM
              have hM : hm G (mp_up u74 (b + 10) (iA G 4096 (upd (I69 10) nn pts))) H := hM
              have hF : ∀ z9, (mp_up u74 (b + 10) (iA G 4096 (upd (I69 10) nn pts))) z9 ≠ none → fr M sz z9 := hF_put hF (hF _ (by rw [a10]; exact Option.some_ne_none _))
              obtain ⟨I75, eI75⟩ : ∃ z, z = va_up I69 10 (upd (I69 10) nn pts) := ⟨_, rfl⟩
              have hR : rm G (mp_up u74 (b + 10) (iA G 4096 (upd (I69 10) nn pts))) y b (k + 1) (nn + 1) I75 J73 Z kn ft fn mo 0 := ⟨hR.1, mp_at (by omega) hR.2.1, by rw [eI75]; exact rmA_s10 hR.2.2.1 (upd (I69 10) nn pts), hR.2.2.2⟩
              obtain ⟨u76, eu76⟩ : ∃ z, z = (mp_up u74 (b + 10) (iA G 4096 (upd (I69 10) nn pts))) := ⟨_, rfl⟩
              rw [← eu76] at hM hF hR
              clear eu76
              obtain ⟨hyb, my, hA9, hnd, hnn⟩ := id hR
              obtain ⟨a0, a1, a2, a3, a4, a5, a6, a7, a8, a9, a10, a11, a12, a13, a14, a15, a16, a17⟩ := id hA9
              refine lv_aload_n hx hb dd_M_node_185 rfl (lv_at hl 5 rfl) ?_
              refine mg_get hx hb ht ii_M hown hK hM my rfl 14 (by decide) wd_2_227 (fun _ h => h) rfl dd_M_node_186 ?_
              refine lv_iload hx hb dd_M_node_189 (lv_at hl 0 rfl) ?_
              refine lv_iload hx hb dd_M_node_191 (lv_at hl 2 rfl) ?_
              refine mg_iast hx hb hK hM hS (hF _ (by rw [a11]; exact Option.some_ne_none _)) a11 (vp_in_nI (show nn < 4096 by omega) (by decide)) dd_M_node_193 (fun H locs hM hz hS => ?_)
              rw [nI_clamp (show nn < 2 ^ 31 by omega)] at hM
              have hM : hm G (mp_up u76 (b + 11) (iA G 4096 (upd (I75 11) nn (nI p5)))) H := hM
              have hF : ∀ z9, (mp_up u76 (b + 11) (iA G 4096 (upd (I75 11) nn (nI p5)))) z9 ≠ none → fr M sz z9 := hF_put hF (hF _ (by rw [a11]; exact Option.some_ne_none _))
              obtain ⟨I77, eI77⟩ : ∃ z, z = va_up I75 11 (upd (I75 11) nn (nI p5)) := ⟨_, rfl⟩
              have hR : rm G (mp_up u76 (b + 11) (iA G 4096 (upd (I75 11) nn (nI p5)))) y b (k + 1) (nn + 1) I77 J73 Z kn ft fn mo 0 := ⟨hR.1, mp_at (by omega) hR.2.1, by rw [eI77]; exact rmA_s11 hR.2.2.1 (upd (I75 11) nn (nI p5)), hR.2.2.2⟩
              obtain ⟨u78, eu78⟩ : ∃ z, z = (mp_up u76 (b + 11) (iA G 4096 (upd (I75 11) nn (nI p5)))) := ⟨_, rfl⟩
              rw [← eu78] at hM hF hR
              clear eu78
              obtain ⟨hyb, my, hA9, hnd, hnn⟩ := id hR
              obtain ⟨a0, a1, a2, a3, a4, a5, a6, a7, a8, a9, a10, a11, a12, a13, a14, a15, a16, a17⟩ := id hA9
              refine lv_aload_n hx hb dd_M_node_194 rfl (lv_at hl 5 rfl) ?_
              refine mg_get hx hb ht ii_M hown hK hM my rfl 15 (by decide) wd_2_228 (fun _ h => h) rfl dd_M_node_195 ?_
              refine lv_iload hx hb dd_M_node_198 (lv_at hl 0 rfl) ?_
              refine lv_iload hx hb dd_M_node_200 (lv_at hl 2 rfl) ?_
              refine lv_if_ge (tgt := 209) hx hb dd_M_node_202 (by decide) (fun _ => ?_) (fun z => absurd (nI_pos' (by omega)) z)
              refine lv_aload_n hx hb dd_M_node_209 rfl (lv_at hl 5 rfl) ?_
              refine mg_get hx hb ht ii_M hown hK hM my rfl 17 (by decide) wd_2_230 (fun _ h => h) rfl dd_M_node_210 ?_
              refine lv_iload hx hb dd_M_node_213 (lv_at hl 2 rfl) ?_
              refine mg_iald hx hb hK hM a14 (vp_in_nI (show p5 < 4096 by omega) (by decide)) dd_M_node_215 ?_
              rw [nI_clamp (show p5 < 2 ^ 31 by omega)]
              rw [show I77 14 p5 = n_fl (N p5) from by simp [eI69, eJ71, eJ73, eI75, eI77, va_up, upd, show ¬ p5 = nn by omega]; exact (hN p5 (by omega)).2.2.2.2.2.2.2.1]
              refine mg_iast hx hb hK hM hS (hF _ (by rw [a12]; exact Option.some_ne_none _)) a12 (vp_in_nI (show nn < 4096 by omega) (by decide)) dd_M_node_216 (fun H locs hM hz hS => ?_)
              rw [nI_clamp (show nn < 2 ^ 31 by omega)] at hM
              have hM : hm G (mp_up u78 (b + 12) (iA G 4096 (upd (I77 12) nn (n_fl (N p5))))) H := hM
              have hF : ∀ z9, (mp_up u78 (b + 12) (iA G 4096 (upd (I77 12) nn (n_fl (N p5))))) z9 ≠ none → fr M sz z9 := hF_put hF (hF _ (by rw [a12]; exact Option.some_ne_none _))
              obtain ⟨I79, eI79⟩ : ∃ z, z = va_up I77 12 (upd (I77 12) nn (n_fl (N p5))) := ⟨_, rfl⟩
              have hR : rm G (mp_up u78 (b + 12) (iA G 4096 (upd (I77 12) nn (n_fl (N p5))))) y b (k + 1) (nn + 1) I79 J73 Z kn ft fn mo 0 := ⟨hR.1, mp_at (by omega) hR.2.1, by rw [eI79]; exact rmA_s12 hR.2.2.1 (upd (I77 12) nn (n_fl (N p5))), hR.2.2.2⟩
              obtain ⟨u80, eu80⟩ : ∃ z, z = (mp_up u78 (b + 12) (iA G 4096 (upd (I77 12) nn (n_fl (N p5))))) := ⟨_, rfl⟩
              rw [← eu80] at hM hF hR
              clear eu80
              obtain ⟨hyb, my, hA9, hnd, hnn⟩ := id hR
              obtain ⟨a0, a1, a2, a3, a4, a5, a6, a7, a8, a9, a10, a11, a12, a13, a14, a15, a16, a17⟩ := id hA9
              refine lv_aload_n hx hb dd_M_node_217 rfl (lv_at hl 5 rfl) ?_
              refine mg_get hx hb ht ii_M hown hK hM my rfl 16 (by decide) wd_2_229 (fun _ h => h) rfl dd_M_node_218 ?_
              refine lv_iload hx hb dd_M_node_221 (lv_at hl 0 rfl) ?_
              refine lv_iload hx hb dd_M_node_223 (lv_at hl 4 rfl) ?_
              refine mg_iast hx hb hK hM hS (hF _ (by rw [a13]; exact Option.some_ne_none _)) a13 (vp_in_nI (show nn < 4096 by omega) (by decide)) dd_M_node_225 (fun H locs hM hz hS => ?_)
              rw [nI_clamp (show nn < 2 ^ 31 by omega)] at hM
              have hM : hm G (mp_up u80 (b + 13) (iA G 4096 (upd (I79 13) nn (nI k)))) H := hM
              have hF : ∀ z9, (mp_up u80 (b + 13) (iA G 4096 (upd (I79 13) nn (nI k)))) z9 ≠ none → fr M sz z9 := hF_put hF (hF _ (by rw [a13]; exact Option.some_ne_none _))
              obtain ⟨I81, eI81⟩ : ∃ z, z = va_up I79 13 (upd (I79 13) nn (nI k)) := ⟨_, rfl⟩
              have hR : rm G (mp_up u80 (b + 13) (iA G 4096 (upd (I79 13) nn (nI k)))) y b (k + 1) (nn + 1) I81 J73 Z kn ft fn mo 0 := ⟨hR.1, mp_at (by omega) hR.2.1, by rw [eI81]; exact rmA_s13 hR.2.2.1 (upd (I79 13) nn (nI k)), hR.2.2.2⟩
              obtain ⟨u82, eu82⟩ : ∃ z, z = (mp_up u80 (b + 13) (iA G 4096 (upd (I79 13) nn (nI k)))) := ⟨_, rfl⟩
              rw [← eu82] at hM hF hR
              clear eu82
              obtain ⟨hyb, my, hA9, hnd, hnn⟩ := id hR
              obtain ⟨a0, a1, a2, a3, a4, a5, a6, a7, a8, a9, a10, a11, a12, a13, a14, a15, a16, a17⟩ := id hA9
              refine lv_aload_n hx hb dd_M_node_226 rfl (lv_at hl 5 rfl) ?_
              refine mg_get hx hb ht ii_M hown hK hM my rfl 17 (by decide) wd_2_230 (fun _ h => h) rfl dd_M_node_227 ?_
              refine lv_iload hx hb dd_M_node_230 (lv_at hl 0 rfl) ?_
              refine lv_iconst (v := 0) hx hb dd_M_node_232 (by decide) ?_
              refine mg_iast hx hb hK hM hS (hF _ (by rw [a14]; exact Option.some_ne_none _)) a14 (vp_in_nI (show nn < 4096 by omega) (by decide)) dd_M_node_233 (fun H locs hM hz hS => ?_)
              rw [nI_clamp (show nn < 2 ^ 31 by omega)] at hM
              have hM : hm G (mp_up u82 (b + 14) (iA G 4096 (upd (I81 14) nn 0))) H := hM
              have hF : ∀ z9, (mp_up u82 (b + 14) (iA G 4096 (upd (I81 14) nn 0))) z9 ≠ none → fr M sz z9 := hF_put hF (hF _ (by rw [a14]; exact Option.some_ne_none _))
              obtain ⟨I83, eI83⟩ : ∃ z, z = va_up I81 14 (upd (I81 14) nn 0) := ⟨_, rfl⟩
              have hR : rm G (mp_up u82 (b + 14) (iA G 4096 (upd (I81 14) nn 0))) y b (k + 1) (nn + 1) I83 J73 Z kn ft fn mo 0 := ⟨hR.1, mp_at (by omega) hR.2.1, by rw [eI83]; exact rmA_s14 hR.2.2.1 (upd (I81 14) nn 0), hR.2.2.2⟩
              obtain ⟨u84, eu84⟩ : ∃ z, z = (mp_up u82 (b + 14) (iA G 4096 (upd (I81 14) nn 0))) := ⟨_, rfl⟩
              rw [← eu84] at hM hF hR
              clear eu84
              obtain ⟨hyb, my, hA9, hnd, hnn⟩ := id hR
              obtain ⟨a0, a1, a2, a3, a4, a5, a6, a7, a8, a9, a10, a11, a12, a13, a14, a15, a16, a17⟩ := id hA9
              refine lv_iload hx hb dd_M_node_234 (lv_at hl 2 rfl) ?_
              refine lv_if_lt (tgt := 250) hx hb dd_M_node_236 (by decide) (fun z => absurd z (nI_pos (by omega))) (fun _ => ?_)
              refine lv_aload_n hx hb dd_M_node_239 rfl (lv_at hl 5 rfl) ?_
              refine mg_get hx hb ht ii_M hown hK hM my rfl 17 (by decide) wd_2_230 (fun _ h => h) rfl dd_M_node_240 ?_
              refine lv_iload hx hb dd_M_node_243 (lv_at hl 2 rfl) ?_
              refine lv_dup2_11 hx hb dd_M_node_245 rfl rfl ?_
              refine mg_iald hx hb hK hM a14 (vp_in_nI (show p5 < 4096 by omega) (by decide)) dd_M_node_246 ?_
              rw [nI_clamp (show p5 < 2 ^ 31 by omega)]
              rw [show I83 14 p5 = n_fl (N p5) from by simp [eI69, eJ71, eJ73, eI75, eI77, eI79, eI81, eI83, va_up, upd, show ¬ p5 = nn by omega]; exact (hN p5 (by omega)).2.2.2.2.2.2.2.1]
              refine lv_iconst (v := 1) hx hb dd_M_node_247 (by decide) ?_
              refine lv_iadd hx hb dd_M_node_248 ?_
              refine mg_iast hx hb hK hM hS (hF _ (by rw [a14]; exact Option.some_ne_none _)) a14 (vp_in_nI (show p5 < 4096 by omega) (by decide)) dd_M_node_249 (fun H locs hM hz hS => ?_)
              rw [nI_clamp (show p5 < 2 ^ 31 by omega)] at hM
              have hM : hm G (mp_up u84 (b + 14) (iA G 4096 (upd (I83 14) p5 ((n_fl (N p5)) + 1)))) H := hM
              have hF : ∀ z9, (mp_up u84 (b + 14) (iA G 4096 (upd (I83 14) p5 ((n_fl (N p5)) + 1)))) z9 ≠ none → fr M sz z9 := hF_put hF (hF _ (by rw [a14]; exact Option.some_ne_none _))
              obtain ⟨I85, eI85⟩ : ∃ z, z = va_up I83 14 (upd (I83 14) p5 ((n_fl (N p5)) + 1)) := ⟨_, rfl⟩
              have hR : rm G (mp_up u84 (b + 14) (iA G 4096 (upd (I83 14) p5 ((n_fl (N p5)) + 1)))) y b (k + 1) (nn + 1) I85 J73 Z kn ft fn mo 0 := ⟨hR.1, mp_at (by omega) hR.2.1, by rw [eI85]; exact rmA_s14 hR.2.2.1 (upd (I83 14) p5 ((n_fl (N p5)) + 1)), hR.2.2.2⟩
              obtain ⟨u86, eu86⟩ : ∃ z, z = (mp_up u84 (b + 14) (iA G 4096 (upd (I83 14) p5 ((n_fl (N p5)) + 1)))) := ⟨_, rfl⟩
              rw [← eu86] at hM hF hR
              clear eu86
              obtain ⟨hyb, my, hA9, hnd, hnn⟩ := id hR
              obtain ⟨a0, a1, a2, a3, a4, a5, a6, a7, a8, a9, a10, a11, a12, a13, a14, a15, a16, a17⟩ := id hA9
              refine lv_aload_n hx hb dd_M_node_250 rfl (lv_at hl 5 rfl) ?_
              refine lv_iconst (v := 0) hx hb dd_M_node_251 (by decide) ?_
              refine mg_put (v := .int 0) hx hb ht ii_M tt_M tt_M_ok nn_M hown hK hM hS (hF _ (by rw [my]; exact Option.some_ne_none _)) my rfl 21 (by decide) wd_2_234 (fun _ h => h) (Or.inl rfl) rfl rfl rfl (Nat.le_of_ble_eq_true rfl) dd_M_node_252 (fun H locs hM hz hoq hS => ?_)
              have hM : hm G (mp_up u86 y (yC b (k + 1) (nn + 1) false ft fn mo 0)) H := hM
              have hF : ∀ z9, (mp_up u86 y (yC b (k + 1) (nn + 1) false ft fn mo 0)) z9 ≠ none → fr M sz z9 := hF_put hF (hF _ (by rw [my]; exact Option.some_ne_none _))
              have hR : rm G (mp_up u86 y (yC b (k + 1) (nn + 1) false ft fn mo 0)) y b (k + 1) (nn + 1) I85 J73 Z false ft fn mo 0 := rm_setX hR (by omega) (by omega)
              obtain ⟨u87, eu87⟩ : ∃ z, z = (mp_up u86 y (yC b (k + 1) (nn + 1) false ft fn mo 0)) := ⟨_, rfl⟩
              rw [← eu87] at hM hF hR
              clear eu87
              obtain ⟨hyb, my, hA9, hnd, hnn⟩ := id hR
              obtain ⟨a0, a1, a2, a3, a4, a5, a6, a7, a8, a9, a10, a11, a12, a13, a14, a15, a16, a17⟩ := id hA9
              refine lv_iload hx hb dd_M_node_255 (lv_at hl 0 rfl) ?_
              have ho9 : ∀ j, (m_lack (k + 1) nn bg N pa) = some j → j < nn := fun j h => m_lack_lt (fun j hj => (hN j hj).2.2.2.2.2.2.2.2.2) h
              rw [hp5] at ho9 e5
              have hI14 : ∀ i, I85 14 i = if some p5 = some i then I 14 i + 1 else if i = nn then 0 else I 14 i := by
                intro i
                by_cases q2 : i = p5
                · subst q2; rw [if_pos rfl, (hN i (by omega)).2.2.2.2.2.2.2.1]; simp [eI69, eJ71, eJ73, eI75, eI77, eI79, eI81, eI83, eI85, va_up, upd]
                · rw [if_neg (fun z => q2 (by cases z; rfl))]; simp [eI69, eJ71, eJ73, eI75, eI77, eI79, eI81, eI83, eI85, va_up, upd, q2]
              exact mw_i hx hb hr hlocks rfl hM hF hS (Nat.le_of_ble_eq_true rfl) (Nat.le_of_ble_eq_true rfl) (Or.inr ⟨by simp [m_nodeOk, m_wants, c2, c3, c4, hp5, c45, c67], rfl, I85, J73, hR, tD_cg hD (by simp [eI69, eJ71, eJ73, eI75, eI77, eI79, eI81, eI83, eI85, va_up]) (by simp [eI69, eJ71, eJ73, eI75, eI77, eI79, eI81, eI83, eI85, va_up]) (by simp [eI69, eJ71, eJ73, eI75, eI77, eI79, eI81, eI83, eI85, va_up]) (by simp [eI69, eJ71, eJ73, eI75, eI77, eI79, eI81, eI83, eI85, va_up]) (by simp [eI69, eJ71, eJ73, eI75, eI77, eI79, eI81, eI83, eI85, va_up]) (by simp [eI69, eJ71, eJ73, eI75, eI77, eI79, eI81, eI83, eI85, va_up]), tN_node (r9 := r9) hN ho9 e6 (by intro i; simp [eI69, eJ71, eJ73, eI75, eI77, eI79, eI81, eI83, eI85, va_up, upd, e1]) (by intro i; simp [eI69, eJ71, eJ73, eI75, eI77, eI79, eI81, eI83, eI85, va_up, vp_updL, e2]) (by intro i; simp [eI69, eJ71, eJ73, eI75, eI77, eI79, eI81, eI83, eI85, va_up, vp_updL, e3]) (by intro i; simp [eI69, eJ71, eJ73, eI75, eI77, eI79, eI81, eI83, eI85, va_up, upd, e4]) (by intro i; simp [eI69, eJ71, eJ73, eI75, eI77, eI79, eI81, eI83, eI85, va_up, upd, c_num]) (by intro i; simp [eI69, eJ71, eJ73, eI75, eI77, eI79, eI81, eI83, eI85, va_up, upd, e5, m_slot]) (by intro i; simp [eI69, eJ71, eJ73, eI75, eI77, eI79, eI81, eI83, eI85, va_up, upd]) (by intro i; rw [hI14 i])⟩) dd_M_node_257
            · have c67 := bI_m.mp c67
              refine lv_iconst (v := -1) hx hb dd_M_node_133 (by decide) ?_
              exact mw_i hx hb hr hlocks rfl hM hF hS (Nat.le_of_ble_eq_true rfl) (Nat.le_of_ble_eq_true rfl) (Or.inl ⟨by simp [m_nodeOk, m_wants, c2, c3, c4, hp5, c45, c67], rfl, hR⟩) dd_M_node_134
      · refine lv_iconst (v := 1) hx hb dd_M_node_58 (by decide) ?_
        refine lv_goto (tgt := 63) hx hb dd_M_node_59 (by decide) ?_
        refine lv_istore (lv' := [(8, .int 1), (7, .int (nI k)), (0, .ref y), (1, .int kd), (2, .long fi), (4, .long se), (6, .int pts)]) hx hb dd_M_node_63 hl (by decide) rfl (fun ls hl => ?_)
        refine lv_aload_n hx hb dd_M_node_65 rfl (lv_at hl 2 rfl) ?_
        refine mc_V (As := []) (rest := []) 0 (cc_M_lacking hR hD hN) hx hb hml hown ht hM hK hl.1 lk_M_86 (by decide +kernel) (by decide) my rfl rfl rfl (Nat.le_of_ble_eq_true rfl) dd_M_node_66 ⟨Nat.le_of_ble_eq_true rfl, Nat.le_of_ble_eq_true rfl⟩ ?_
        rcases hp88 : m_lack (k + 1) nn bg N pa with _ | p88
        · rw [cn_none]
          refine lv_istore (lv' := [(9, .int (-1)), (8, .int 1), (7, .int (nI k)), (0, .ref y), (1, .int kd), (2, .long fi), (4, .long se), (6, .int pts)]) hx hb dd_M_node_69 hl (by decide) rfl (fun ls hl => ?_)
          refine lv_iload hx hb dd_M_node_71 (lv_at hl 1 rfl) ?_
          refine lv_if_eq (tgt := 83) hx hb dd_M_node_73 (by decide) (fun z => absurd z (by decide)) (fun _ => ?_)
          refine lv_iload hx hb dd_M_node_76 (lv_at hl 0 rfl) ?_
          refine lv_if_ge (tgt := 83) hx hb dd_M_node_78 (by decide) (fun z => absurd z (by decide)) (fun _ => ?_)
          refine lv_iconst (v := -1) hx hb dd_M_node_81 (by decide) ?_
          exact mw_i hx hb hr hlocks rfl hM hF hS (Nat.le_of_ble_eq_true rfl) (Nat.le_of_ble_eq_true rfl) (Or.inl ⟨by simp [m_nodeOk, m_wants, c2, c3, c4, hp88], rfl, hR⟩) dd_M_node_82
        · rw [cn_some]
          have hlp88 := m_lack_lt (fun j hj => (hN j hj).2.2.2.2.2.2.2.2.2) hp88
          refine lv_istore (lv' := [(9, .int (nI p88)), (8, .int 1), (7, .int (nI k)), (0, .ref y), (1, .int kd), (2, .long fi), (4, .long se), (6, .int pts)]) hx hb dd_M_node_69 hl (by decide) rfl (fun ls hl => ?_)
          refine lv_iload hx hb dd_M_node_71 (lv_at hl 1 rfl) ?_
          refine lv_if_eq (tgt := 83) hx hb dd_M_node_73 (by decide) (fun z => absurd z (by decide)) (fun _ => ?_)
          refine lv_iload hx hb dd_M_node_76 (lv_at hl 0 rfl) ?_
          refine lv_if_ge (tgt := 83) hx hb dd_M_node_78 (by decide) (fun _ => ?_) (fun z => absurd (nI_pos' (by omega)) z)
          refine lv_iload hx hb dd_M_node_83 (lv_at hl 0 rfl) ?_
          refine lv_if_ge (tgt := 98) hx hb dd_M_node_85 (by decide) (fun _ => ?_) (fun z => absurd (nI_pos' (by omega)) z)
          refine lv_aload_n hx hb dd_M_node_98 rfl (lv_at hl 3 rfl) ?_
          refine mg_get hx hb ht ii_M hown hK hM my rfl 10 (by decide) wd_2_223 (fun _ h => h) rfl dd_M_node_99 ?_
          refine lv_iload hx hb dd_M_node_102 (lv_at hl 0 rfl) ?_
          refine mg_iald hx hb hK hM a7 (vp_in_nI (show p88 < 4096 by omega) (by decide)) dd_M_node_104 ?_
          rw [nI_clamp (show p88 < 2 ^ 31 by omega)]
          rw [(hN p88 (show p88 < nn by omega)).1]
          refine lv_aload_n hx hb dd_M_node_105 rfl (lv_at hl 3 rfl) ?_
          refine mg_get hx hb ht ii_M hown hK hM my rfl 17 (by decide) wd_2_230 (fun _ h => h) rfl dd_M_node_106 ?_
          refine lv_iload hx hb dd_M_node_109 (lv_at hl 0 rfl) ?_
          refine mg_iald hx hb hK hM a14 (vp_in_nI (show p88 < 4096 by omega) (by decide)) dd_M_node_111 ?_
          rw [nI_clamp (show p88 < 2 ^ 31 by omega)]
          rw [(hN p88 (by omega)).2.2.2.2.2.2.2.1]
          refine mc_S (As := [.int (n_kd (N p88)), .int (n_fl (N p88))]) (rest := []) 2 (cc_M_isChangeable (k := (n_kd (N p88))) (p9 := (n_fl (N p88)))) hx hb hml hown ht hM hK hl.1 lk_M_109 (by decide +kernel) (by decide) rfl rfl (Nat.le_of_ble_eq_true rfl) dd_M_node_112 ⟨Nat.zero_le _, Nat.zero_le _⟩ ?_
          refine lv_istore (lv' := [(10, .int (bI (m_chg (n_kd (N p88)) (n_fl (N p88))))), (9, .int (nI p88)), (8, .int 1), (7, .int (nI k)), (0, .ref y), (1, .int kd), (2, .long fi), (4, .long se), (6, .int pts)]) hx hb dd_M_node_115 hl (by decide) rfl (fun ls hl => ?_)
          refine lv_iload hx hb dd_M_node_117 (lv_at hl 0 rfl) ?_
          refine lv_iload_n hx hb dd_M_node_119 rfl (lv_at hl 5 rfl) ?_
          refine lv_bipush (v := 17) hx hb dd_M_node_120 (by decide) ?_
          refine lv_icmp_le (tgt := 129) hx hb dd_M_node_122 (by decide) (fun c89 => ?_) (fun c89 => ?_)
          · refine lv_iconst (v := 0) hx hb dd_M_node_129 (by decide) ?_
            refine lv_icmp_eq (tgt := 135) hx hb dd_M_node_130 (by decide) (fun c90 => ?_) (fun c90 => ?_)
            · have c90 := bI_0.mp c90
              refine lv_aload_n hx hb dd_M_node_135 rfl (lv_at hl 4 rfl) ?_
              refine mg_get hx hb ht ii_M hown hK hM my rfl 9 (by decide) wd_2_222 (fun _ h => h) rfl dd_M_node_136 ?_
              refine lv_istore (lv' := [(11, .int (nI nn)), (10, .int (bI (m_chg (n_kd (N p88)) (n_fl (N p88))))), (9, .int (nI p88)), (8, .int 1), (7, .int (nI k)), (0, .ref y), (1, .int kd), (2, .long fi), (4, .long se), (6, .int pts)]) hx hb dd_M_node_139 hl (by decide) rfl (fun ls hl => ?_)
              refine lv_aload_n hx hb dd_M_node_141 rfl (lv_at hl 5 rfl) ?_
              refine lv_dup hx hb dd_M_node_142 rfl ?_
              refine mg_get hx hb ht ii_M hown hK hM my rfl 9 (by decide) wd_2_222 (fun _ h => h) rfl dd_M_node_143 ?_
              refine lv_iconst (v := 1) hx hb dd_M_node_146 (by decide) ?_
              refine lv_iadd hx hb dd_M_node_147 ?_
              rw [nI_1]
              refine mg_put (v := .int (nI (nn + 1))) hx hb ht ii_M tt_M tt_M_ok nn_M hown hK hM hS (hF _ (by rw [my]; exact Option.some_ne_none _)) my rfl 9 (by decide) wd_2_222 (fun _ h => h) (Or.inl rfl) rfl rfl rfl (Nat.le_of_ble_eq_true rfl) dd_M_node_148 (fun H locs hM hz hoq hS => ?_)
              have hM : hm G (mp_up u1 y (yC b (k + 1) (nn + 1) kn ft fn mo 0)) H := hM
              have hF : ∀ z9, (mp_up u1 y (yC b (k + 1) (nn + 1) kn ft fn mo 0)) z9 ≠ none → fr M sz z9 := hF_put hF (hF _ (by rw [my]; exact Option.some_ne_none _))
              have hR : rm G (mp_up u1 y (yC b (k + 1) (nn + 1) kn ft fn mo 0)) y b (k + 1) (nn + 1) I J Z kn ft fn mo 0 := rm_setX hR (by omega) (by omega)
              obtain ⟨u91, eu91⟩ : ∃ z, z = (mp_up u1 y (yC b (k + 1) (nn + 1) kn ft fn mo 0)) := ⟨_, rfl⟩
              rw [← eu91] at hM hF hR
              clear eu91
              obtain ⟨hyb, my, hA9, hnd, hnn⟩ := id hR
              obtain ⟨a0, a1, a2, a3, a4, a5, a6, a7, a8, a9, a10, a11, a12, a13, a14, a15, a16, a17⟩ := id hA9
              refine lv_aload_n hx hb dd_M_node_151 rfl (lv_at hl 5 rfl) ?_
              refine mg_get hx hb ht ii_M hown hK hM my rfl 10 (by decide) wd_2_223 (fun _ h => h) rfl dd_M_node_152 ?_
              refine lv_iload hx hb dd_M_node_155 (lv_at hl 0 rfl) ?_
              refine lv_iload_n hx hb dd_M_node_157 rfl (lv_at hl 6 rfl) ?_
              refine mg_iast hx hb hK hM hS (hF _ (by rw [a7]; exact Option.some_ne_none _)) a7 (vp_in_nI (show nn < 4096 by omega) (by decide)) dd_M_node_158 (fun H locs hM hz hS => ?_)
              rw [nI_clamp (show nn < 2 ^ 31 by omega)] at hM
              have hM : hm G (mp_up u91 (b + 7) (iA G 4096 (upd (I 7) nn kd))) H := hM
              have hF : ∀ z9, (mp_up u91 (b + 7) (iA G 4096 (upd (I 7) nn kd))) z9 ≠ none → fr M sz z9 := hF_put hF (hF _ (by rw [a7]; exact Option.some_ne_none _))
              obtain ⟨I92, eI92⟩ : ∃ z, z = va_up I 7 (upd (I 7) nn kd) := ⟨_, rfl⟩
              have hR : rm G (mp_up u91 (b + 7) (iA G 4096 (upd (I 7) nn kd))) y b (k + 1) (nn + 1) I92 J Z kn ft fn mo 0 := ⟨hR.1, mp_at (by omega) hR.2.1, by rw [eI92]; exact rmA_s7 hR.2.2.1 (upd (I 7) nn kd), hR.2.2.2⟩
              obtain ⟨u93, eu93⟩ : ∃ z, z = (mp_up u91 (b + 7) (iA G 4096 (upd (I 7) nn kd))) := ⟨_, rfl⟩
              rw [← eu93] at hM hF hR
              clear eu93
              obtain ⟨hyb, my, hA9, hnd, hnn⟩ := id hR
              obtain ⟨a0, a1, a2, a3, a4, a5, a6, a7, a8, a9, a10, a11, a12, a13, a14, a15, a16, a17⟩ := id hA9
              refine lv_aload_n hx hb dd_M_node_159 rfl (lv_at hl 5 rfl) ?_
              refine mg_get hx hb ht ii_M hown hK hM my rfl 11 (by decide) wd_2_224 (fun _ h => h) rfl dd_M_node_160 ?_
              refine lv_iload hx hb dd_M_node_163 (lv_at hl 0 rfl) ?_
              refine lv_lload_n hx hb dd_M_node_165 rfl (lv_at hl 7 rfl) ?_
              refine mg_last hx hb hK hM hS (hF _ (by rw [a8]; exact Option.some_ne_none _)) a8 (vp_in_nI (show nn < 4096 by omega) (by decide)) dd_M_node_166 (fun H locs hM hz hS => ?_)
              rw [nI_clamp (show nn < 2 ^ 31 by omega)] at hM
              have hM : hm G (mp_up u93 (b + 8) (lA G 4096 (vp_updL (J 8) nn fi))) H := hM
              have hF : ∀ z9, (mp_up u93 (b + 8) (lA G 4096 (vp_updL (J 8) nn fi))) z9 ≠ none → fr M sz z9 := hF_put hF (hF _ (by rw [a8]; exact Option.some_ne_none _))
              obtain ⟨J94, eJ94⟩ : ∃ z, z = va_up J 8 (vp_updL (J 8) nn fi) := ⟨_, rfl⟩
              have hR : rm G (mp_up u93 (b + 8) (lA G 4096 (vp_updL (J 8) nn fi))) y b (k + 1) (nn + 1) I92 J94 Z kn ft fn mo 0 := ⟨hR.1, mp_at (by omega) hR.2.1, by rw [eJ94]; exact rmA_s8 hR.2.2.1 (vp_updL (J 8) nn fi), hR.2.2.2⟩
              obtain ⟨u95, eu95⟩ : ∃ z, z = (mp_up u93 (b + 8) (lA G 4096 (vp_updL (J 8) nn fi))) := ⟨_, rfl⟩
              rw [← eu95] at hM hF hR
              clear eu95
              obtain ⟨hyb, my, hA9, hnd, hnn⟩ := id hR
              obtain ⟨a0, a1, a2, a3, a4, a5, a6, a7, a8, a9, a10, a11, a12, a13, a14, a15, a16, a17⟩ := id hA9
              refine lv_aload_n hx hb dd_M_node_167 rfl (lv_at hl 5 rfl) ?_
              refine mg_get hx hb ht ii_M hown hK hM my rfl 12 (by decide) wd_2_225 (fun _ h => h) rfl dd_M_node_168 ?_
              refine lv_iload hx hb dd_M_node_171 (lv_at hl 0 rfl) ?_
              refine lv_lload hx hb dd_M_node_173 (lv_at hl 8 rfl) ?_
              refine mg_last hx hb hK hM hS (hF _ (by rw [a9]; exact Option.some_ne_none _)) a9 (vp_in_nI (show nn < 4096 by omega) (by decide)) dd_M_node_175 (fun H locs hM hz hS => ?_)
              rw [nI_clamp (show nn < 2 ^ 31 by omega)] at hM
              have hM : hm G (mp_up u95 (b + 9) (lA G 4096 (vp_updL (J94 9) nn se))) H := hM
              have hF : ∀ z9, (mp_up u95 (b + 9) (lA G 4096 (vp_updL (J94 9) nn se))) z9 ≠ none → fr M sz z9 := hF_put hF (hF _ (by rw [a9]; exact Option.some_ne_none _))
              obtain ⟨J96, eJ96⟩ : ∃ z, z = va_up J94 9 (vp_updL (J94 9) nn se) := ⟨_, rfl⟩
              have hR : rm G (mp_up u95 (b + 9) (lA G 4096 (vp_updL (J94 9) nn se))) y b (k + 1) (nn + 1) I92 J96 Z kn ft fn mo 0 := ⟨hR.1, mp_at (by omega) hR.2.1, by rw [eJ96]; exact rmA_s9 hR.2.2.1 (vp_updL (J94 9) nn se), hR.2.2.2⟩
              obtain ⟨u97, eu97⟩ : ∃ z, z = (mp_up u95 (b + 9) (lA G 4096 (vp_updL (J94 9) nn se))) := ⟨_, rfl⟩
              rw [← eu97] at hM hF hR
              clear eu97
              obtain ⟨hyb, my, hA9, hnd, hnn⟩ := id hR
              obtain ⟨a0, a1, a2, a3, a4, a5, a6, a7, a8, a9, a10, a11, a12, a13, a14, a15, a16, a17⟩ := id hA9
              refine lv_aload_n hx hb dd_M_node_176 rfl (lv_at hl 5 rfl) ?_
              refine mg_get hx hb ht ii_M hown hK hM my rfl 13 (by decide) wd_2_226 (fun _ h => h) rfl dd_M_node_177 ?_
              refine lv_iload hx hb dd_M_node_180 (lv_at hl 0 rfl) ?_
              refine lv_iload hx hb dd_M_node_182 (lv_at hl 9 rfl) ?_
              refine mg_iast hx hb hK hM hS (hF _ (by rw [a10]; exact Option.some_ne_none _)) a10 (vp_in_nI (show nn < 4096 by omega) (by decide)) dd_M_node_184 (fun H locs hM hz hS => ?_)
              rw [nI_clamp (show nn < 2 ^ 31 by omega)] at hM
              have hM : hm G (mp_up u97 (b + 10) (iA G 4096 (upd (I92 10) nn pts))) H := hM
              have hF : ∀ z9, (mp_up u97 (b + 10) (iA G 4096 (upd (I92 10) nn pts))) z9 ≠ none → fr M sz z9 := hF_put hF (hF _ (by rw [a10]; exact Option.some_ne_none _))
              obtain ⟨I98, eI98⟩ : ∃ z, z = va_up I92 10 (upd (I92 10) nn pts) := ⟨_, rfl⟩
              have hR : rm G (mp_up u97 (b + 10) (iA G 4096 (upd (I92 10) nn pts))) y b (k + 1) (nn + 1) I98 J96 Z kn ft fn mo 0 := ⟨hR.1, mp_at (by omega) hR.2.1, by rw [eI98]; exact rmA_s10 hR.2.2.1 (upd (I92 10) nn pts), hR.2.2.2⟩
              obtain ⟨u99, eu99⟩ : ∃ z, z = (mp_up u97 (b + 10) (iA G 4096 (upd (I92 10) nn pts))) := ⟨_, rfl⟩
              rw [← eu99] at hM hF hR
              clear eu99
              obtain ⟨hyb, my, hA9, hnd, hnn⟩ := id hR
              obtain ⟨a0, a1, a2, a3, a4, a5, a6, a7, a8, a9, a10, a11, a12, a13, a14, a15, a16, a17⟩ := id hA9
              refine lv_aload_n hx hb dd_M_node_185 rfl (lv_at hl 5 rfl) ?_
              refine mg_get hx hb ht ii_M hown hK hM my rfl 14 (by decide) wd_2_227 (fun _ h => h) rfl dd_M_node_186 ?_
              refine lv_iload hx hb dd_M_node_189 (lv_at hl 0 rfl) ?_
              refine lv_iload hx hb dd_M_node_191 (lv_at hl 2 rfl) ?_
              refine mg_iast hx hb hK hM hS (hF _ (by rw [a11]; exact Option.some_ne_none _)) a11 (vp_in_nI (show nn < 4096 by omega) (by decide)) dd_M_node_193 (fun H locs hM hz hS => ?_)
              rw [nI_clamp (show nn < 2 ^ 31 by omega)] at hM
              have hM : hm G (mp_up u99 (b + 11) (iA G 4096 (upd (I98 11) nn (nI p88)))) H := hM
              have hF : ∀ z9, (mp_up u99 (b + 11) (iA G 4096 (upd (I98 11) nn (nI p88)))) z9 ≠ none → fr M sz z9 := hF_put hF (hF _ (by rw [a11]; exact Option.some_ne_none _))
              obtain ⟨I100, eI100⟩ : ∃ z, z = va_up I98 11 (upd (I98 11) nn (nI p88)) := ⟨_, rfl⟩
              have hR : rm G (mp_up u99 (b + 11) (iA G 4096 (upd (I98 11) nn (nI p88)))) y b (k + 1) (nn + 1) I100 J96 Z kn ft fn mo 0 := ⟨hR.1, mp_at (by omega) hR.2.1, by rw [eI100]; exact rmA_s11 hR.2.2.1 (upd (I98 11) nn (nI p88)), hR.2.2.2⟩
              obtain ⟨u101, eu101⟩ : ∃ z, z = (mp_up u99 (b + 11) (iA G 4096 (upd (I98 11) nn (nI p88)))) := ⟨_, rfl⟩
              rw [← eu101] at hM hF hR
              clear eu101
              obtain ⟨hyb, my, hA9, hnd, hnn⟩ := id hR
              obtain ⟨a0, a1, a2, a3, a4, a5, a6, a7, a8, a9, a10, a11, a12, a13, a14, a15, a16, a17⟩ := id hA9
              refine lv_aload_n hx hb dd_M_node_194 rfl (lv_at hl 5 rfl) ?_
              refine mg_get hx hb ht ii_M hown hK hM my rfl 15 (by decide) wd_2_228 (fun _ h => h) rfl dd_M_node_195 ?_
              refine lv_iload hx hb dd_M_node_198 (lv_at hl 0 rfl) ?_
              refine lv_iload hx hb dd_M_node_200 (lv_at hl 2 rfl) ?_
              refine lv_if_ge (tgt := 209) hx hb dd_M_node_202 (by decide) (fun _ => ?_) (fun z => absurd (nI_pos' (by omega)) z)
              refine lv_aload_n hx hb dd_M_node_209 rfl (lv_at hl 5 rfl) ?_
              refine mg_get hx hb ht ii_M hown hK hM my rfl 17 (by decide) wd_2_230 (fun _ h => h) rfl dd_M_node_210 ?_
              refine lv_iload hx hb dd_M_node_213 (lv_at hl 2 rfl) ?_
              refine mg_iald hx hb hK hM a14 (vp_in_nI (show p88 < 4096 by omega) (by decide)) dd_M_node_215 ?_
              rw [nI_clamp (show p88 < 2 ^ 31 by omega)]
              rw [show I100 14 p88 = n_fl (N p88) from by simp [eI92, eJ94, eJ96, eI98, eI100, va_up, upd, show ¬ p88 = nn by omega]; exact (hN p88 (by omega)).2.2.2.2.2.2.2.1]
              refine mg_iast hx hb hK hM hS (hF _ (by rw [a12]; exact Option.some_ne_none _)) a12 (vp_in_nI (show nn < 4096 by omega) (by decide)) dd_M_node_216 (fun H locs hM hz hS => ?_)
              rw [nI_clamp (show nn < 2 ^ 31 by omega)] at hM
              have hM : hm G (mp_up u101 (b + 12) (iA G 4096 (upd (I100 12) nn (n_fl (N p88))))) H := hM
              have hF : ∀ z9, (mp_up u101 (b + 12) (iA G 4096 (upd (I100 12) nn (n_fl (N p88))))) z9 ≠ none → fr M sz z9 := hF_put hF (hF _ (by rw [a12]; exact Option.some_ne_none _))
              obtain ⟨I102, eI102⟩ : ∃ z, z = va_up I100 12 (upd (I100 12) nn (n_fl (N p88))) := ⟨_, rfl⟩
              have hR : rm G (mp_up u101 (b + 12) (iA G 4096 (upd (I100 12) nn (n_fl (N p88))))) y b (k + 1) (nn + 1) I102 J96 Z kn ft fn mo 0 := ⟨hR.1, mp_at (by omega) hR.2.1, by rw [eI102]; exact rmA_s12 hR.2.2.1 (upd (I100 12) nn (n_fl (N p88))), hR.2.2.2⟩
              obtain ⟨u103, eu103⟩ : ∃ z, z = (mp_up u101 (b + 12) (iA G 4096 (upd (I100 12) nn (n_fl (N p88))))) := ⟨_, rfl⟩
              rw [← eu103] at hM hF hR
              clear eu103
              obtain ⟨hyb, my, hA9, hnd, hnn⟩ := id hR
              obtain ⟨a0, a1, a2, a3, a4, a5, a6, a7, a8, a9, a10, a11, a12, a13, a14, a15, a16, a17⟩ := id hA9
              refine lv_aload_n hx hb dd_M_node_217 rfl (lv_at hl 5 rfl) ?_
              refine mg_get hx hb ht ii_M hown hK hM my rfl 16 (by decide) wd_2_229 (fun _ h => h) rfl dd_M_node_218 ?_
              refine lv_iload hx hb dd_M_node_221 (lv_at hl 0 rfl) ?_
              refine lv_iload hx hb dd_M_node_223 (lv_at hl 4 rfl) ?_
              refine mg_iast hx hb hK hM hS (hF _ (by rw [a13]; exact Option.some_ne_none _)) a13 (vp_in_nI (show nn < 4096 by omega) (by decide)) dd_M_node_225 (fun H locs hM hz hS => ?_)
              rw [nI_clamp (show nn < 2 ^ 31 by omega)] at hM
              have hM : hm G (mp_up u103 (b + 13) (iA G 4096 (upd (I102 13) nn (nI k)))) H := hM
              have hF : ∀ z9, (mp_up u103 (b + 13) (iA G 4096 (upd (I102 13) nn (nI k)))) z9 ≠ none → fr M sz z9 := hF_put hF (hF _ (by rw [a13]; exact Option.some_ne_none _))
              obtain ⟨I104, eI104⟩ : ∃ z, z = va_up I102 13 (upd (I102 13) nn (nI k)) := ⟨_, rfl⟩
              have hR : rm G (mp_up u103 (b + 13) (iA G 4096 (upd (I102 13) nn (nI k)))) y b (k + 1) (nn + 1) I104 J96 Z kn ft fn mo 0 := ⟨hR.1, mp_at (by omega) hR.2.1, by rw [eI104]; exact rmA_s13 hR.2.2.1 (upd (I102 13) nn (nI k)), hR.2.2.2⟩
              obtain ⟨u105, eu105⟩ : ∃ z, z = (mp_up u103 (b + 13) (iA G 4096 (upd (I102 13) nn (nI k)))) := ⟨_, rfl⟩
              rw [← eu105] at hM hF hR
              clear eu105
              obtain ⟨hyb, my, hA9, hnd, hnn⟩ := id hR
              obtain ⟨a0, a1, a2, a3, a4, a5, a6, a7, a8, a9, a10, a11, a12, a13, a14, a15, a16, a17⟩ := id hA9
              refine lv_aload_n hx hb dd_M_node_226 rfl (lv_at hl 5 rfl) ?_
              refine mg_get hx hb ht ii_M hown hK hM my rfl 17 (by decide) wd_2_230 (fun _ h => h) rfl dd_M_node_227 ?_
              refine lv_iload hx hb dd_M_node_230 (lv_at hl 0 rfl) ?_
              refine lv_iconst (v := 0) hx hb dd_M_node_232 (by decide) ?_
              refine mg_iast hx hb hK hM hS (hF _ (by rw [a14]; exact Option.some_ne_none _)) a14 (vp_in_nI (show nn < 4096 by omega) (by decide)) dd_M_node_233 (fun H locs hM hz hS => ?_)
              rw [nI_clamp (show nn < 2 ^ 31 by omega)] at hM
              have hM : hm G (mp_up u105 (b + 14) (iA G 4096 (upd (I104 14) nn 0))) H := hM
              have hF : ∀ z9, (mp_up u105 (b + 14) (iA G 4096 (upd (I104 14) nn 0))) z9 ≠ none → fr M sz z9 := hF_put hF (hF _ (by rw [a14]; exact Option.some_ne_none _))
              obtain ⟨I106, eI106⟩ : ∃ z, z = va_up I104 14 (upd (I104 14) nn 0) := ⟨_, rfl⟩
              have hR : rm G (mp_up u105 (b + 14) (iA G 4096 (upd (I104 14) nn 0))) y b (k + 1) (nn + 1) I106 J96 Z kn ft fn mo 0 := ⟨hR.1, mp_at (by omega) hR.2.1, by rw [eI106]; exact rmA_s14 hR.2.2.1 (upd (I104 14) nn 0), hR.2.2.2⟩
              obtain ⟨u107, eu107⟩ : ∃ z, z = (mp_up u105 (b + 14) (iA G 4096 (upd (I104 14) nn 0))) := ⟨_, rfl⟩
              rw [← eu107] at hM hF hR
              clear eu107
              obtain ⟨hyb, my, hA9, hnd, hnn⟩ := id hR
              obtain ⟨a0, a1, a2, a3, a4, a5, a6, a7, a8, a9, a10, a11, a12, a13, a14, a15, a16, a17⟩ := id hA9
              refine lv_iload hx hb dd_M_node_234 (lv_at hl 2 rfl) ?_
              refine lv_if_lt (tgt := 250) hx hb dd_M_node_236 (by decide) (fun z => absurd z (nI_pos (by omega))) (fun _ => ?_)
              refine lv_aload_n hx hb dd_M_node_239 rfl (lv_at hl 5 rfl) ?_
              refine mg_get hx hb ht ii_M hown hK hM my rfl 17 (by decide) wd_2_230 (fun _ h => h) rfl dd_M_node_240 ?_
              refine lv_iload hx hb dd_M_node_243 (lv_at hl 2 rfl) ?_
              refine lv_dup2_11 hx hb dd_M_node_245 rfl rfl ?_
              refine mg_iald hx hb hK hM a14 (vp_in_nI (show p88 < 4096 by omega) (by decide)) dd_M_node_246 ?_
              rw [nI_clamp (show p88 < 2 ^ 31 by omega)]
              rw [show I106 14 p88 = n_fl (N p88) from by simp [eI92, eJ94, eJ96, eI98, eI100, eI102, eI104, eI106, va_up, upd, show ¬ p88 = nn by omega]; exact (hN p88 (by omega)).2.2.2.2.2.2.2.1]
              refine lv_iconst (v := 1) hx hb dd_M_node_247 (by decide) ?_
              refine lv_iadd hx hb dd_M_node_248 ?_
              refine mg_iast hx hb hK hM hS (hF _ (by rw [a14]; exact Option.some_ne_none _)) a14 (vp_in_nI (show p88 < 4096 by omega) (by decide)) dd_M_node_249 (fun H locs hM hz hS => ?_)
              rw [nI_clamp (show p88 < 2 ^ 31 by omega)] at hM
              have hM : hm G (mp_up u107 (b + 14) (iA G 4096 (upd (I106 14) p88 ((n_fl (N p88)) + 1)))) H := hM
              have hF : ∀ z9, (mp_up u107 (b + 14) (iA G 4096 (upd (I106 14) p88 ((n_fl (N p88)) + 1)))) z9 ≠ none → fr M sz z9 := hF_put hF (hF _ (by rw [a14]; exact Option.some_ne_none _))
              obtain ⟨I108, eI108⟩ : ∃ z, z = va_up I106 14 (upd (I106 14) p88 ((n_fl (N p88)) + 1)) := ⟨_, rfl⟩
              have hR : rm G (mp_up u107 (b + 14) (iA G 4096 (upd (I106 14) p88 ((n_fl (N p88)) + 1)))) y b (k + 1) (nn + 1) I108 J96 Z kn ft fn mo 0 := ⟨hR.1, mp_at (by omega) hR.2.1, by rw [eI108]; exact rmA_s14 hR.2.2.1 (upd (I106 14) p88 ((n_fl (N p88)) + 1)), hR.2.2.2⟩
              obtain ⟨u109, eu109⟩ : ∃ z, z = (mp_up u107 (b + 14) (iA G 4096 (upd (I106 14) p88 ((n_fl (N p88)) + 1)))) := ⟨_, rfl⟩
              rw [← eu109] at hM hF hR
              clear eu109
              obtain ⟨hyb, my, hA9, hnd, hnn⟩ := id hR
              obtain ⟨a0, a1, a2, a3, a4, a5, a6, a7, a8, a9, a10, a11, a12, a13, a14, a15, a16, a17⟩ := id hA9
              refine lv_aload_n hx hb dd_M_node_250 rfl (lv_at hl 5 rfl) ?_
              refine lv_iconst (v := 0) hx hb dd_M_node_251 (by decide) ?_
              refine mg_put (v := .int 0) hx hb ht ii_M tt_M tt_M_ok nn_M hown hK hM hS (hF _ (by rw [my]; exact Option.some_ne_none _)) my rfl 21 (by decide) wd_2_234 (fun _ h => h) (Or.inl rfl) rfl rfl rfl (Nat.le_of_ble_eq_true rfl) dd_M_node_252 (fun H locs hM hz hoq hS => ?_)
              have hM : hm G (mp_up u109 y (yC b (k + 1) (nn + 1) false ft fn mo 0)) H := hM
              have hF : ∀ z9, (mp_up u109 y (yC b (k + 1) (nn + 1) false ft fn mo 0)) z9 ≠ none → fr M sz z9 := hF_put hF (hF _ (by rw [my]; exact Option.some_ne_none _))
              have hR : rm G (mp_up u109 y (yC b (k + 1) (nn + 1) false ft fn mo 0)) y b (k + 1) (nn + 1) I108 J96 Z false ft fn mo 0 := rm_setX hR (by omega) (by omega)
              obtain ⟨u110, eu110⟩ : ∃ z, z = (mp_up u109 y (yC b (k + 1) (nn + 1) false ft fn mo 0)) := ⟨_, rfl⟩
              rw [← eu110] at hM hF hR
              clear eu110
              obtain ⟨hyb, my, hA9, hnd, hnn⟩ := id hR
              obtain ⟨a0, a1, a2, a3, a4, a5, a6, a7, a8, a9, a10, a11, a12, a13, a14, a15, a16, a17⟩ := id hA9
              refine lv_iload hx hb dd_M_node_255 (lv_at hl 0 rfl) ?_
              have ho9 : ∀ j, (m_lack (k + 1) nn bg N pa) = some j → j < nn := fun j h => m_lack_lt (fun j hj => (hN j hj).2.2.2.2.2.2.2.2.2) h
              rw [hp88] at ho9 e5
              have hI14 : ∀ i, I108 14 i = if some p88 = some i then I 14 i + 1 else if i = nn then 0 else I 14 i := by
                intro i
                by_cases q2 : i = p88
                · subst q2; rw [if_pos rfl, (hN i (by omega)).2.2.2.2.2.2.2.1]; simp [eI92, eJ94, eJ96, eI98, eI100, eI102, eI104, eI106, eI108, va_up, upd]
                · rw [if_neg (fun z => q2 (by cases z; rfl))]; simp [eI92, eJ94, eJ96, eI98, eI100, eI102, eI104, eI106, eI108, va_up, upd, q2]
              exact mw_i hx hb hr hlocks rfl hM hF hS (Nat.le_of_ble_eq_true rfl) (Nat.le_of_ble_eq_true rfl) (Or.inr ⟨by simp [m_nodeOk, m_wants, c2, c3, c4, hp88, c89, c90], rfl, I108, J96, hR, tD_cg hD (by simp [eI92, eJ94, eJ96, eI98, eI100, eI102, eI104, eI106, eI108, va_up]) (by simp [eI92, eJ94, eJ96, eI98, eI100, eI102, eI104, eI106, eI108, va_up]) (by simp [eI92, eJ94, eJ96, eI98, eI100, eI102, eI104, eI106, eI108, va_up]) (by simp [eI92, eJ94, eJ96, eI98, eI100, eI102, eI104, eI106, eI108, va_up]) (by simp [eI92, eJ94, eJ96, eI98, eI100, eI102, eI104, eI106, eI108, va_up]) (by simp [eI92, eJ94, eJ96, eI98, eI100, eI102, eI104, eI106, eI108, va_up]), tN_node (r9 := r9) hN ho9 e6 (by intro i; simp [eI92, eJ94, eJ96, eI98, eI100, eI102, eI104, eI106, eI108, va_up, upd, e1]) (by intro i; simp [eI92, eJ94, eJ96, eI98, eI100, eI102, eI104, eI106, eI108, va_up, vp_updL, e2]) (by intro i; simp [eI92, eJ94, eJ96, eI98, eI100, eI102, eI104, eI106, eI108, va_up, vp_updL, e3]) (by intro i; simp [eI92, eJ94, eJ96, eI98, eI100, eI102, eI104, eI106, eI108, va_up, upd, e4]) (by intro i; simp [eI92, eJ94, eJ96, eI98, eI100, eI102, eI104, eI106, eI108, va_up, upd, c_num]) (by intro i; simp [eI92, eJ94, eJ96, eI98, eI100, eI102, eI104, eI106, eI108, va_up, upd, e5, m_slot]) (by intro i; simp [eI92, eJ94, eJ96, eI98, eI100, eI102, eI104, eI106, eI108, va_up, upd]) (by intro i; rw [hI14 i])⟩) dd_M_node_257
            · have c90 := bI_n.mp c90
              refine lv_iconst (v := -1) hx hb dd_M_node_133 (by decide) ?_
              exact mw_i hx hb hr hlocks rfl hM hF hS (Nat.le_of_ble_eq_true rfl) (Nat.le_of_ble_eq_true rfl) (Or.inl ⟨by simp [m_nodeOk, m_wants, c2, c3, c4, hp88, c89, c90], rfl, hR⟩) dd_M_node_134
          · refine lv_iconst (v := 1) hx hb dd_M_node_125 (by decide) ?_
            refine lv_goto (tgt := 130) hx hb dd_M_node_126 (by decide) ?_
            refine lv_icmp_eq (tgt := 135) hx hb dd_M_node_130 (by decide) (fun c111 => ?_) (fun c111 => ?_)
            · have c111 := bI_1.mp c111
              refine lv_aload_n hx hb dd_M_node_135 rfl (lv_at hl 4 rfl) ?_
              refine mg_get hx hb ht ii_M hown hK hM my rfl 9 (by decide) wd_2_222 (fun _ h => h) rfl dd_M_node_136 ?_
              refine lv_istore (lv' := [(11, .int (nI nn)), (10, .int (bI (m_chg (n_kd (N p88)) (n_fl (N p88))))), (9, .int (nI p88)), (8, .int 1), (7, .int (nI k)), (0, .ref y), (1, .int kd), (2, .long fi), (4, .long se), (6, .int pts)]) hx hb dd_M_node_139 hl (by decide) rfl (fun ls hl => ?_)
              refine lv_aload_n hx hb dd_M_node_141 rfl (lv_at hl 5 rfl) ?_
              refine lv_dup hx hb dd_M_node_142 rfl ?_
              refine mg_get hx hb ht ii_M hown hK hM my rfl 9 (by decide) wd_2_222 (fun _ h => h) rfl dd_M_node_143 ?_
              refine lv_iconst (v := 1) hx hb dd_M_node_146 (by decide) ?_
              refine lv_iadd hx hb dd_M_node_147 ?_
              rw [nI_1]
              refine mg_put (v := .int (nI (nn + 1))) hx hb ht ii_M tt_M tt_M_ok nn_M hown hK hM hS (hF _ (by rw [my]; exact Option.some_ne_none _)) my rfl 9 (by decide) wd_2_222 (fun _ h => h) (Or.inl rfl) rfl rfl rfl (Nat.le_of_ble_eq_true rfl) dd_M_node_148 (fun H locs hM hz hoq hS => ?_)
              have hM : hm G (mp_up u1 y (yC b (k + 1) (nn + 1) kn ft fn mo 0)) H := hM
              have hF : ∀ z9, (mp_up u1 y (yC b (k + 1) (nn + 1) kn ft fn mo 0)) z9 ≠ none → fr M sz z9 := hF_put hF (hF _ (by rw [my]; exact Option.some_ne_none _))
              have hR : rm G (mp_up u1 y (yC b (k + 1) (nn + 1) kn ft fn mo 0)) y b (k + 1) (nn + 1) I J Z kn ft fn mo 0 := rm_setX hR (by omega) (by omega)
              obtain ⟨u112, eu112⟩ : ∃ z, z = (mp_up u1 y (yC b (k + 1) (nn + 1) kn ft fn mo 0)) := ⟨_, rfl⟩
              rw [← eu112] at hM hF hR
              clear eu112
              obtain ⟨hyb, my, hA9, hnd, hnn⟩ := id hR
              obtain ⟨a0, a1, a2, a3, a4, a5, a6, a7, a8, a9, a10, a11, a12, a13, a14, a15, a16, a17⟩ := id hA9
              refine lv_aload_n hx hb dd_M_node_151 rfl (lv_at hl 5 rfl) ?_
              refine mg_get hx hb ht ii_M hown hK hM my rfl 10 (by decide) wd_2_223 (fun _ h => h) rfl dd_M_node_152 ?_
              refine lv_iload hx hb dd_M_node_155 (lv_at hl 0 rfl) ?_
              refine lv_iload_n hx hb dd_M_node_157 rfl (lv_at hl 6 rfl) ?_
              refine mg_iast hx hb hK hM hS (hF _ (by rw [a7]; exact Option.some_ne_none _)) a7 (vp_in_nI (show nn < 4096 by omega) (by decide)) dd_M_node_158 (fun H locs hM hz hS => ?_)
              rw [nI_clamp (show nn < 2 ^ 31 by omega)] at hM
              have hM : hm G (mp_up u112 (b + 7) (iA G 4096 (upd (I 7) nn kd))) H := hM
              have hF : ∀ z9, (mp_up u112 (b + 7) (iA G 4096 (upd (I 7) nn kd))) z9 ≠ none → fr M sz z9 := hF_put hF (hF _ (by rw [a7]; exact Option.some_ne_none _))
              obtain ⟨I113, eI113⟩ : ∃ z, z = va_up I 7 (upd (I 7) nn kd) := ⟨_, rfl⟩
              have hR : rm G (mp_up u112 (b + 7) (iA G 4096 (upd (I 7) nn kd))) y b (k + 1) (nn + 1) I113 J Z kn ft fn mo 0 := ⟨hR.1, mp_at (by omega) hR.2.1, by rw [eI113]; exact rmA_s7 hR.2.2.1 (upd (I 7) nn kd), hR.2.2.2⟩
              obtain ⟨u114, eu114⟩ : ∃ z, z = (mp_up u112 (b + 7) (iA G 4096 (upd (I 7) nn kd))) := ⟨_, rfl⟩
              rw [← eu114] at hM hF hR
              clear eu114
              obtain ⟨hyb, my, hA9, hnd, hnn⟩ := id hR
              obtain ⟨a0, a1, a2, a3, a4, a5, a6, a7, a8, a9, a10, a11, a12, a13, a14, a15, a16, a17⟩ := id hA9
              refine lv_aload_n hx hb dd_M_node_159 rfl (lv_at hl 5 rfl) ?_
              refine mg_get hx hb ht ii_M hown hK hM my rfl 11 (by decide) wd_2_224 (fun _ h => h) rfl dd_M_node_160 ?_
              refine lv_iload hx hb dd_M_node_163 (lv_at hl 0 rfl) ?_
              refine lv_lload_n hx hb dd_M_node_165 rfl (lv_at hl 7 rfl) ?_
              refine mg_last hx hb hK hM hS (hF _ (by rw [a8]; exact Option.some_ne_none _)) a8 (vp_in_nI (show nn < 4096 by omega) (by decide)) dd_M_node_166 (fun H locs hM hz hS => ?_)
              rw [nI_clamp (show nn < 2 ^ 31 by omega)] at hM
              have hM : hm G (mp_up u114 (b + 8) (lA G 4096 (vp_updL (J 8) nn fi))) H := hM
              have hF : ∀ z9, (mp_up u114 (b + 8) (lA G 4096 (vp_updL (J 8) nn fi))) z9 ≠ none → fr M sz z9 := hF_put hF (hF _ (by rw [a8]; exact Option.some_ne_none _))
              obtain ⟨J115, eJ115⟩ : ∃ z, z = va_up J 8 (vp_updL (J 8) nn fi) := ⟨_, rfl⟩
              have hR : rm G (mp_up u114 (b + 8) (lA G 4096 (vp_updL (J 8) nn fi))) y b (k + 1) (nn + 1) I113 J115 Z kn ft fn mo 0 := ⟨hR.1, mp_at (by omega) hR.2.1, by rw [eJ115]; exact rmA_s8 hR.2.2.1 (vp_updL (J 8) nn fi), hR.2.2.2⟩
              obtain ⟨u116, eu116⟩ : ∃ z, z = (mp_up u114 (b + 8) (lA G 4096 (vp_updL (J 8) nn fi))) := ⟨_, rfl⟩
              rw [← eu116] at hM hF hR
              clear eu116
              obtain ⟨hyb, my, hA9, hnd, hnn⟩ := id hR
              obtain ⟨a0, a1, a2, a3, a4, a5, a6, a7, a8, a9, a10, a11, a12, a13, a14, a15, a16, a17⟩ := id hA9
              refine lv_aload_n hx hb dd_M_node_167 rfl (lv_at hl 5 rfl) ?_
              refine mg_get hx hb ht ii_M hown hK hM my rfl 12 (by decide) wd_2_225 (fun _ h => h) rfl dd_M_node_168 ?_
              refine lv_iload hx hb dd_M_node_171 (lv_at hl 0 rfl) ?_
              refine lv_lload hx hb dd_M_node_173 (lv_at hl 8 rfl) ?_
              refine mg_last hx hb hK hM hS (hF _ (by rw [a9]; exact Option.some_ne_none _)) a9 (vp_in_nI (show nn < 4096 by omega) (by decide)) dd_M_node_175 (fun H locs hM hz hS => ?_)
              rw [nI_clamp (show nn < 2 ^ 31 by omega)] at hM
              have hM : hm G (mp_up u116 (b + 9) (lA G 4096 (vp_updL (J115 9) nn se))) H := hM
              have hF : ∀ z9, (mp_up u116 (b + 9) (lA G 4096 (vp_updL (J115 9) nn se))) z9 ≠ none → fr M sz z9 := hF_put hF (hF _ (by rw [a9]; exact Option.some_ne_none _))
              obtain ⟨J117, eJ117⟩ : ∃ z, z = va_up J115 9 (vp_updL (J115 9) nn se) := ⟨_, rfl⟩
              have hR : rm G (mp_up u116 (b + 9) (lA G 4096 (vp_updL (J115 9) nn se))) y b (k + 1) (nn + 1) I113 J117 Z kn ft fn mo 0 := ⟨hR.1, mp_at (by omega) hR.2.1, by rw [eJ117]; exact rmA_s9 hR.2.2.1 (vp_updL (J115 9) nn se), hR.2.2.2⟩
              obtain ⟨u118, eu118⟩ : ∃ z, z = (mp_up u116 (b + 9) (lA G 4096 (vp_updL (J115 9) nn se))) := ⟨_, rfl⟩
              rw [← eu118] at hM hF hR
              clear eu118
              obtain ⟨hyb, my, hA9, hnd, hnn⟩ := id hR
              obtain ⟨a0, a1, a2, a3, a4, a5, a6, a7, a8, a9, a10, a11, a12, a13, a14, a15, a16, a17⟩ := id hA9
              refine lv_aload_n hx hb dd_M_node_176 rfl (lv_at hl 5 rfl) ?_
              refine mg_get hx hb ht ii_M hown hK hM my rfl 13 (by decide) wd_2_226 (fun _ h => h) rfl dd_M_node_177 ?_
              refine lv_iload hx hb dd_M_node_180 (lv_at hl 0 rfl) ?_
              refine lv_iload hx hb dd_M_node_182 (lv_at hl 9 rfl) ?_
              refine mg_iast hx hb hK hM hS (hF _ (by rw [a10]; exact Option.some_ne_none _)) a10 (vp_in_nI (show nn < 4096 by omega) (by decide)) dd_M_node_184 (fun H locs hM hz hS => ?_)
              rw [nI_clamp (show nn < 2 ^ 31 by omega)] at hM
              have hM : hm G (mp_up u118 (b + 10) (iA G 4096 (upd (I113 10) nn pts))) H := hM
              have hF : ∀ z9, (mp_up u118 (b + 10) (iA G 4096 (upd (I113 10) nn pts))) z9 ≠ none → fr M sz z9 := hF_put hF (hF _ (by rw [a10]; exact Option.some_ne_none _))
              obtain ⟨I119, eI119⟩ : ∃ z, z = va_up I113 10 (upd (I113 10) nn pts) := ⟨_, rfl⟩
              have hR : rm G (mp_up u118 (b + 10) (iA G 4096 (upd (I113 10) nn pts))) y b (k + 1) (nn + 1) I119 J117 Z kn ft fn mo 0 := ⟨hR.1, mp_at (by omega) hR.2.1, by rw [eI119]; exact rmA_s10 hR.2.2.1 (upd (I113 10) nn pts), hR.2.2.2⟩
              obtain ⟨u120, eu120⟩ : ∃ z, z = (mp_up u118 (b + 10) (iA G 4096 (upd (I113 10) nn pts))) := ⟨_, rfl⟩
              rw [← eu120] at hM hF hR
              clear eu120
              obtain ⟨hyb, my, hA9, hnd, hnn⟩ := id hR
              obtain ⟨a0, a1, a2, a3, a4, a5, a6, a7, a8, a9, a10, a11, a12, a13, a14, a15, a16, a17⟩ := id hA9
              refine lv_aload_n hx hb dd_M_node_185 rfl (lv_at hl 5 rfl) ?_
              refine mg_get hx hb ht ii_M hown hK hM my rfl 14 (by decide) wd_2_227 (fun _ h => h) rfl dd_M_node_186 ?_
              refine lv_iload hx hb dd_M_node_189 (lv_at hl 0 rfl) ?_
              refine lv_iload hx hb dd_M_node_191 (lv_at hl 2 rfl) ?_
              refine mg_iast hx hb hK hM hS (hF _ (by rw [a11]; exact Option.some_ne_none _)) a11 (vp_in_nI (show nn < 4096 by omega) (by decide)) dd_M_node_193 (fun H locs hM hz hS => ?_)
              rw [nI_clamp (show nn < 2 ^ 31 by omega)] at hM
              have hM : hm G (mp_up u120 (b + 11) (iA G 4096 (upd (I119 11) nn (nI p88)))) H := hM
              have hF : ∀ z9, (mp_up u120 (b + 11) (iA G 4096 (upd (I119 11) nn (nI p88)))) z9 ≠ none → fr M sz z9 := hF_put hF (hF _ (by rw [a11]; exact Option.some_ne_none _))
              obtain ⟨I121, eI121⟩ : ∃ z, z = va_up I119 11 (upd (I119 11) nn (nI p88)) := ⟨_, rfl⟩
              have hR : rm G (mp_up u120 (b + 11) (iA G 4096 (upd (I119 11) nn (nI p88)))) y b (k + 1) (nn + 1) I121 J117 Z kn ft fn mo 0 := ⟨hR.1, mp_at (by omega) hR.2.1, by rw [eI121]; exact rmA_s11 hR.2.2.1 (upd (I119 11) nn (nI p88)), hR.2.2.2⟩
              obtain ⟨u122, eu122⟩ : ∃ z, z = (mp_up u120 (b + 11) (iA G 4096 (upd (I119 11) nn (nI p88)))) := ⟨_, rfl⟩
              rw [← eu122] at hM hF hR
              clear eu122
              obtain ⟨hyb, my, hA9, hnd, hnn⟩ := id hR
              obtain ⟨a0, a1, a2, a3, a4, a5, a6, a7, a8, a9, a10, a11, a12, a13, a14, a15, a16, a17⟩ := id hA9
              refine lv_aload_n hx hb dd_M_node_194 rfl (lv_at hl 5 rfl) ?_
              refine mg_get hx hb ht ii_M hown hK hM my rfl 15 (by decide) wd_2_228 (fun _ h => h) rfl dd_M_node_195 ?_
              refine lv_iload hx hb dd_M_node_198 (lv_at hl 0 rfl) ?_
              refine lv_iload hx hb dd_M_node_200 (lv_at hl 2 rfl) ?_
              refine lv_if_ge (tgt := 209) hx hb dd_M_node_202 (by decide) (fun _ => ?_) (fun z => absurd (nI_pos' (by omega)) z)
              refine lv_aload_n hx hb dd_M_node_209 rfl (lv_at hl 5 rfl) ?_
              refine mg_get hx hb ht ii_M hown hK hM my rfl 17 (by decide) wd_2_230 (fun _ h => h) rfl dd_M_node_210 ?_
              refine lv_iload hx hb dd_M_node_213 (lv_at hl 2 rfl) ?_
              refine mg_iald hx hb hK hM a14 (vp_in_nI (show p88 < 4096 by omega) (by decide)) dd_M_node_215 ?_
              rw [nI_clamp (show p88 < 2 ^ 31 by omega)]
              rw [show I121 14 p88 = n_fl (N p88) from by simp [eI113, eJ115, eJ117, eI119, eI121, va_up, upd, show ¬ p88 = nn by omega]; exact (hN p88 (by omega)).2.2.2.2.2.2.2.1]
              refine mg_iast hx hb hK hM hS (hF _ (by rw [a12]; exact Option.some_ne_none _)) a12 (vp_in_nI (show nn < 4096 by omega) (by decide)) dd_M_node_216 (fun H locs hM hz hS => ?_)
              rw [nI_clamp (show nn < 2 ^ 31 by omega)] at hM
              have hM : hm G (mp_up u122 (b + 12) (iA G 4096 (upd (I121 12) nn (n_fl (N p88))))) H := hM
              have hF : ∀ z9, (mp_up u122 (b + 12) (iA G 4096 (upd (I121 12) nn (n_fl (N p88))))) z9 ≠ none → fr M sz z9 := hF_put hF (hF _ (by rw [a12]; exact Option.some_ne_none _))
              obtain ⟨I123, eI123⟩ : ∃ z, z = va_up I121 12 (upd (I121 12) nn (n_fl (N p88))) := ⟨_, rfl⟩
              have hR : rm G (mp_up u122 (b + 12) (iA G 4096 (upd (I121 12) nn (n_fl (N p88))))) y b (k + 1) (nn + 1) I123 J117 Z kn ft fn mo 0 := ⟨hR.1, mp_at (by omega) hR.2.1, by rw [eI123]; exact rmA_s12 hR.2.2.1 (upd (I121 12) nn (n_fl (N p88))), hR.2.2.2⟩
              obtain ⟨u124, eu124⟩ : ∃ z, z = (mp_up u122 (b + 12) (iA G 4096 (upd (I121 12) nn (n_fl (N p88))))) := ⟨_, rfl⟩
              rw [← eu124] at hM hF hR
              clear eu124
              obtain ⟨hyb, my, hA9, hnd, hnn⟩ := id hR
              obtain ⟨a0, a1, a2, a3, a4, a5, a6, a7, a8, a9, a10, a11, a12, a13, a14, a15, a16, a17⟩ := id hA9
              refine lv_aload_n hx hb dd_M_node_217 rfl (lv_at hl 5 rfl) ?_
              refine mg_get hx hb ht ii_M hown hK hM my rfl 16 (by decide) wd_2_229 (fun _ h => h) rfl dd_M_node_218 ?_
              refine lv_iload hx hb dd_M_node_221 (lv_at hl 0 rfl) ?_
              refine lv_iload hx hb dd_M_node_223 (lv_at hl 4 rfl) ?_
              refine mg_iast hx hb hK hM hS (hF _ (by rw [a13]; exact Option.some_ne_none _)) a13 (vp_in_nI (show nn < 4096 by omega) (by decide)) dd_M_node_225 (fun H locs hM hz hS => ?_)
              rw [nI_clamp (show nn < 2 ^ 31 by omega)] at hM
              have hM : hm G (mp_up u124 (b + 13) (iA G 4096 (upd (I123 13) nn (nI k)))) H := hM
              have hF : ∀ z9, (mp_up u124 (b + 13) (iA G 4096 (upd (I123 13) nn (nI k)))) z9 ≠ none → fr M sz z9 := hF_put hF (hF _ (by rw [a13]; exact Option.some_ne_none _))
              obtain ⟨I125, eI125⟩ : ∃ z, z = va_up I123 13 (upd (I123 13) nn (nI k)) := ⟨_, rfl⟩
              have hR : rm G (mp_up u124 (b + 13) (iA G 4096 (upd (I123 13) nn (nI k)))) y b (k + 1) (nn + 1) I125 J117 Z kn ft fn mo 0 := ⟨hR.1, mp_at (by omega) hR.2.1, by rw [eI125]; exact rmA_s13 hR.2.2.1 (upd (I123 13) nn (nI k)), hR.2.2.2⟩
              obtain ⟨u126, eu126⟩ : ∃ z, z = (mp_up u124 (b + 13) (iA G 4096 (upd (I123 13) nn (nI k)))) := ⟨_, rfl⟩
              rw [← eu126] at hM hF hR
              clear eu126
              obtain ⟨hyb, my, hA9, hnd, hnn⟩ := id hR
              obtain ⟨a0, a1, a2, a3, a4, a5, a6, a7, a8, a9, a10, a11, a12, a13, a14, a15, a16, a17⟩ := id hA9
              refine lv_aload_n hx hb dd_M_node_226 rfl (lv_at hl 5 rfl) ?_
              refine mg_get hx hb ht ii_M hown hK hM my rfl 17 (by decide) wd_2_230 (fun _ h => h) rfl dd_M_node_227 ?_
              refine lv_iload hx hb dd_M_node_230 (lv_at hl 0 rfl) ?_
              refine lv_iconst (v := 0) hx hb dd_M_node_232 (by decide) ?_
              refine mg_iast hx hb hK hM hS (hF _ (by rw [a14]; exact Option.some_ne_none _)) a14 (vp_in_nI (show nn < 4096 by omega) (by decide)) dd_M_node_233 (fun H locs hM hz hS => ?_)
              rw [nI_clamp (show nn < 2 ^ 31 by omega)] at hM
              have hM : hm G (mp_up u126 (b + 14) (iA G 4096 (upd (I125 14) nn 0))) H := hM
              have hF : ∀ z9, (mp_up u126 (b + 14) (iA G 4096 (upd (I125 14) nn 0))) z9 ≠ none → fr M sz z9 := hF_put hF (hF _ (by rw [a14]; exact Option.some_ne_none _))
              obtain ⟨I127, eI127⟩ : ∃ z, z = va_up I125 14 (upd (I125 14) nn 0) := ⟨_, rfl⟩
              have hR : rm G (mp_up u126 (b + 14) (iA G 4096 (upd (I125 14) nn 0))) y b (k + 1) (nn + 1) I127 J117 Z kn ft fn mo 0 := ⟨hR.1, mp_at (by omega) hR.2.1, by rw [eI127]; exact rmA_s14 hR.2.2.1 (upd (I125 14) nn 0), hR.2.2.2⟩
              obtain ⟨u128, eu128⟩ : ∃ z, z = (mp_up u126 (b + 14) (iA G 4096 (upd (I125 14) nn 0))) := ⟨_, rfl⟩
              rw [← eu128] at hM hF hR
              clear eu128
              obtain ⟨hyb, my, hA9, hnd, hnn⟩ := id hR
              obtain ⟨a0, a1, a2, a3, a4, a5, a6, a7, a8, a9, a10, a11, a12, a13, a14, a15, a16, a17⟩ := id hA9
              refine lv_iload hx hb dd_M_node_234 (lv_at hl 2 rfl) ?_
              refine lv_if_lt (tgt := 250) hx hb dd_M_node_236 (by decide) (fun z => absurd z (nI_pos (by omega))) (fun _ => ?_)
              refine lv_aload_n hx hb dd_M_node_239 rfl (lv_at hl 5 rfl) ?_
              refine mg_get hx hb ht ii_M hown hK hM my rfl 17 (by decide) wd_2_230 (fun _ h => h) rfl dd_M_node_240 ?_
              refine lv_iload hx hb dd_M_node_243 (lv_at hl 2 rfl) ?_
              refine lv_dup2_11 hx hb dd_M_node_245 rfl rfl ?_
              refine mg_iald hx hb hK hM a14 (vp_in_nI (show p88 < 4096 by omega) (by decide)) dd_M_node_246 ?_
              rw [nI_clamp (show p88 < 2 ^ 31 by omega)]
              rw [show I127 14 p88 = n_fl (N p88) from by simp [eI113, eJ115, eJ117, eI119, eI121, eI123, eI125, eI127, va_up, upd, show ¬ p88 = nn by omega]; exact (hN p88 (by omega)).2.2.2.2.2.2.2.1]
              refine lv_iconst (v := 1) hx hb dd_M_node_247 (by decide) ?_
              refine lv_iadd hx hb dd_M_node_248 ?_
              refine mg_iast hx hb hK hM hS (hF _ (by rw [a14]; exact Option.some_ne_none _)) a14 (vp_in_nI (show p88 < 4096 by omega) (by decide)) dd_M_node_249 (fun H locs hM hz hS => ?_)
              rw [nI_clamp (show p88 < 2 ^ 31 by omega)] at hM
              have hM : hm G (mp_up u128 (b + 14) (iA G 4096 (upd (I127 14) p88 ((n_fl (N p88)) + 1)))) H := hM
              have hF : ∀ z9, (mp_up u128 (b + 14) (iA G 4096 (upd (I127 14) p88 ((n_fl (N p88)) + 1)))) z9 ≠ none → fr M sz z9 := hF_put hF (hF _ (by rw [a14]; exact Option.some_ne_none _))
              obtain ⟨I129, eI129⟩ : ∃ z, z = va_up I127 14 (upd (I127 14) p88 ((n_fl (N p88)) + 1)) := ⟨_, rfl⟩
              have hR : rm G (mp_up u128 (b + 14) (iA G 4096 (upd (I127 14) p88 ((n_fl (N p88)) + 1)))) y b (k + 1) (nn + 1) I129 J117 Z kn ft fn mo 0 := ⟨hR.1, mp_at (by omega) hR.2.1, by rw [eI129]; exact rmA_s14 hR.2.2.1 (upd (I127 14) p88 ((n_fl (N p88)) + 1)), hR.2.2.2⟩
              obtain ⟨u130, eu130⟩ : ∃ z, z = (mp_up u128 (b + 14) (iA G 4096 (upd (I127 14) p88 ((n_fl (N p88)) + 1)))) := ⟨_, rfl⟩
              rw [← eu130] at hM hF hR
              clear eu130
              obtain ⟨hyb, my, hA9, hnd, hnn⟩ := id hR
              obtain ⟨a0, a1, a2, a3, a4, a5, a6, a7, a8, a9, a10, a11, a12, a13, a14, a15, a16, a17⟩ := id hA9
              refine lv_aload_n hx hb dd_M_node_250 rfl (lv_at hl 5 rfl) ?_
              refine lv_iconst (v := 0) hx hb dd_M_node_251 (by decide) ?_
              refine mg_put (v := .int 0) hx hb ht ii_M tt_M tt_M_ok nn_M hown hK hM hS (hF _ (by rw [my]; exact Option.some_ne_none _)) my rfl 21 (by decide) wd_2_234 (fun _ h => h) (Or.inl rfl) rfl rfl rfl (Nat.le_of_ble_eq_true rfl) dd_M_node_252 (fun H locs hM hz hoq hS => ?_)
              have hM : hm G (mp_up u130 y (yC b (k + 1) (nn + 1) false ft fn mo 0)) H := hM
              have hF : ∀ z9, (mp_up u130 y (yC b (k + 1) (nn + 1) false ft fn mo 0)) z9 ≠ none → fr M sz z9 := hF_put hF (hF _ (by rw [my]; exact Option.some_ne_none _))
              have hR : rm G (mp_up u130 y (yC b (k + 1) (nn + 1) false ft fn mo 0)) y b (k + 1) (nn + 1) I129 J117 Z false ft fn mo 0 := rm_setX hR (by omega) (by omega)
              obtain ⟨u131, eu131⟩ : ∃ z, z = (mp_up u130 y (yC b (k + 1) (nn + 1) false ft fn mo 0)) := ⟨_, rfl⟩
              rw [← eu131] at hM hF hR
              clear eu131
              obtain ⟨hyb, my, hA9, hnd, hnn⟩ := id hR
              obtain ⟨a0, a1, a2, a3, a4, a5, a6, a7, a8, a9, a10, a11, a12, a13, a14, a15, a16, a17⟩ := id hA9
              refine lv_iload hx hb dd_M_node_255 (lv_at hl 0 rfl) ?_
              have ho9 : ∀ j, (m_lack (k + 1) nn bg N pa) = some j → j < nn := fun j h => m_lack_lt (fun j hj => (hN j hj).2.2.2.2.2.2.2.2.2) h
              rw [hp88] at ho9 e5
              have hI14 : ∀ i, I129 14 i = if some p88 = some i then I 14 i + 1 else if i = nn then 0 else I 14 i := by
                intro i
                by_cases q2 : i = p88
                · subst q2; rw [if_pos rfl, (hN i (by omega)).2.2.2.2.2.2.2.1]; simp [eI113, eJ115, eJ117, eI119, eI121, eI123, eI125, eI127, eI129, va_up, upd]
                · rw [if_neg (fun z => q2 (by cases z; rfl))]; simp [eI113, eJ115, eJ117, eI119, eI121, eI123, eI125, eI127, eI129, va_up, upd, q2]
              exact mw_i hx hb hr hlocks rfl hM hF hS (Nat.le_of_ble_eq_true rfl) (Nat.le_of_ble_eq_true rfl) (Or.inr ⟨by simp [m_nodeOk, m_wants, c2, c3, c4, hp88, c89, c111], rfl, I129, J117, hR, tD_cg hD (by simp [eI113, eJ115, eJ117, eI119, eI121, eI123, eI125, eI127, eI129, va_up]) (by simp [eI113, eJ115, eJ117, eI119, eI121, eI123, eI125, eI127, eI129, va_up]) (by simp [eI113, eJ115, eJ117, eI119, eI121, eI123, eI125, eI127, eI129, va_up]) (by simp [eI113, eJ115, eJ117, eI119, eI121, eI123, eI125, eI127, eI129, va_up]) (by simp [eI113, eJ115, eJ117, eI119, eI121, eI123, eI125, eI127, eI129, va_up]) (by simp [eI113, eJ115, eJ117, eI119, eI121, eI123, eI125, eI127, eI129, va_up]), tN_node (r9 := r9) hN ho9 e6 (by intro i; simp [eI113, eJ115, eJ117, eI119, eI121, eI123, eI125, eI127, eI129, va_up, upd, e1]) (by intro i; simp [eI113, eJ115, eJ117, eI119, eI121, eI123, eI125, eI127, eI129, va_up, vp_updL, e2]) (by intro i; simp [eI113, eJ115, eJ117, eI119, eI121, eI123, eI125, eI127, eI129, va_up, vp_updL, e3]) (by intro i; simp [eI113, eJ115, eJ117, eI119, eI121, eI123, eI125, eI127, eI129, va_up, upd, e4]) (by intro i; simp [eI113, eJ115, eJ117, eI119, eI121, eI123, eI125, eI127, eI129, va_up, upd, c_num]) (by intro i; simp [eI113, eJ115, eJ117, eI119, eI121, eI123, eI125, eI127, eI129, va_up, upd, e5, m_slot]) (by intro i; simp [eI113, eJ115, eJ117, eI119, eI121, eI123, eI125, eI127, eI129, va_up, upd]) (by intro i; rw [hI14 i])⟩) dd_M_node_257
            · have c111 := bI_m.mp c111
              refine lv_iconst (v := -1) hx hb dd_M_node_133 (by decide) ?_
              exact mw_i hx hb hr hlocks rfl hM hF hS (Nat.le_of_ble_eq_true rfl) (Nat.le_of_ble_eq_true rfl) (Or.inl ⟨by simp [m_nodeOk, m_wants, c2, c3, c4, hp88, c89, c111], rfl, hR⟩) dd_M_node_134
    · refine lv_iconst (v := -1) hx hb dd_M_node_34 (by decide) ?_
      exact mw_i hx hb hr hlocks rfl hM hF hS (Nat.le_of_ble_eq_true rfl) (Nat.le_of_ble_eq_true rfl) (Or.inl ⟨by simp [m_nodeOk, m_wants, c2, c3], rfl, hR⟩) dd_M_node_35
