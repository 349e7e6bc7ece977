set_option maxHeartbeats 4000000 in
set_option maxRecDepth 100000 in
theorem cc_L_define {l : Launch} {G : gC} {M : mC} {sz : Nat} {x ld ln ed en nd nn : Nat} {aD aN : Nat → Nat} {D : Nat → dR} {N : Nat → nR} {pn : Nat → Nat → Int64} {pt : Nat → Nat → Int32} {kn : Bool} {ft fn mv : Int32} (hR : rp G M x ld ln ed en nd nn aD aN D N pn pt kn ft fn mv) {chg : Bool} {nm : Int64} {ty : Int32} : cW l yy_L_define bb_L_define 7 (some .int) 7 8 4000 G M sz [.ref x, .int (bI chg), .long nm, .int ty] (fun v u => (c_defOk chg nm ty nd D = false ∧ v = some (.int (-1)) ∧ u = M) ∨ (c_defOk chg nm ty nd D = true ∧ v = some (.int (nI nd)) ∧ ∃ a b c ed', rp G u x ld ln ed' en (nd + 1) nn (va_up aD nd a) aN (va_up D nd (nI nd, chg, nm, ty, b, c, 0, false, none)) N (va_up pn nd (fun _ => 0)) (va_up pt nd (fun _ => 0)) false ft fn mv)) := by
  refine me_W (by decide) (Nat.le_of_ble_eq_true rfl) ?_
  intro p e s m below meth c ls hx hb hr hlocks hml hown hname ht hsz hM hK hZ hl
  have hown : s.vm.findClass RR_L = some m.cls := hown
  have hl : lv_has ls 7 [(0, .ref x), (1, .int (bI chg)), (2, .long nm), (4, .int ty)] := hl
  have hS : va_S (fr M sz) s.heap s.heap [] := va_S.rf
  have hF : ∀ q, M q ≠ none → fr M sz q := fr_M
  have hA : ∀ q, s.heap.size ≤ q → fr M sz q := fun q h => fr_A q (by rw [← hsz]; exact h)
  obtain ⟨mx, hLd, hLn, hD, hN, hAp, hnd, hnn⟩ := id hR
  obtain ⟨cl, ml⟩ := ls_obj hLd
  obtain ⟨ck, mk⟩ := ls_obj hLn
  have hE := mz_E hZ
  refine lv_iload_n hx hb dd_L_define_0 rfl (lv_at hl 1 rfl) ?_
  refine lb_if_eq (tgt := 12) hx hb dd_L_define_1 (by decide) (fun c1 => ?_) (fun c1 => ?_)
  · refine lv_iload hx hb dd_L_define_12 (lv_at hl 3 rfl) ?_
    refine mc_S (As := [.int ty]) (rest := []) 1 (cc_T_isType (k := ty)) hx hb hml hown ht hM hK hl.1 lk_L_42 (by decide +kernel) (by decide) rfl rfl (Nat.le_of_ble_eq_true rfl) dd_L_define_14 ⟨Nat.zero_le _, Nat.zero_le _⟩ ?_
    refine lv_istore (lv' := [(5, .int (bI (k_isType ty))), (0, .ref x), (1, .int (bI chg)), (2, .long nm), (4, .int ty)]) hx hb dd_L_define_17 hl (by decide) rfl (fun ls hl => ?_)
    refine lv_aload_n hx hb dd_L_define_19 rfl (lv_at hl 1 rfl) ?_
    refine mc_V (As := []) (rest := []) 0 (cc_L_lastIsWhole hR) hx hb hml hown ht hM hK hl.1 lk_L_45 (by decide +kernel) (by decide) mx rfl rfl rfl (Nat.le_of_ble_eq_true rfl) dd_L_define_20 ⟨Nat.zero_le _, Nat.zero_le _⟩ ?_
    refine lb_if_eq (tgt := 38) hx hb dd_L_define_23 (by decide) (fun c2 => ?_) (fun c2 => ?_)
    · refine lv_iconst (v := -1) hx hb dd_L_define_38 (by decide) ?_
      exact mw_i hx hb hr hlocks rfl hM hF hS (Nat.le_of_ble_eq_true rfl) (Nat.le_of_ble_eq_true rfl) (Or.inl ⟨by simp [c_defOk, c1, c2], rfl, rfl⟩) dd_L_define_39
    · refine lv_aload_n hx hb dd_L_define_26 rfl (lv_at hl 1 rfl) ?_
      refine mg_get hx hb ht ii_L hown hK hM mx rfl 0 (by decide) wd_1_50 (fun _ h => h) rfl dd_L_define_27 ?_
      refine mc_V (As := []) (rest := []) 0 (ls_size hLd) hx hb hml hown ht hM hK hl.1 lk_L_49 (by decide +kernel) (by decide) ml rfl rfl rfl (Nat.le_of_ble_eq_true rfl) dd_L_define_30 ⟨Nat.le_of_ble_eq_true rfl, Nat.le_of_ble_eq_true rfl⟩ ?_
      refine lv_bipush (v := 64) hx hb dd_L_define_33 (by decide) ?_
      refine lv_icmp_lt (tgt := 40) hx hb dd_L_define_35 (by decide) (fun c3 => ?_) (fun c3 => ?_)
      · refine lv_lload_n hx hb dd_L_define_40 rfl (lv_at hl 3 rfl) ?_
        refine lv_lconst (v := 0) hx hb dd_L_define_41 (by decide) ?_
        refine W.lcmp hx hb dd_L_define_42 ?_
        refine lc_if_le (tgt := 59) hx hb dd_L_define_43 (by decide) (fun c4 => ?_) (fun c4 => ?_)
        · refine lv_iconst (v := -1) hx hb dd_L_define_59 (by decide) ?_
          exact mw_i hx hb hr hlocks rfl hM hF hS (Nat.le_of_ble_eq_true rfl) (Nat.le_of_ble_eq_true rfl) (Or.inl ⟨by simp [c_defOk, c1, c2, c3, c4], rfl, rfl⟩) dd_L_define_60
        · refine lv_iload hx hb dd_L_define_46 (lv_at hl 0 rfl) ?_
          refine lb_if_eq (tgt := 59) hx hb dd_L_define_48 (by decide) (fun c5 => ?_) (fun c5 => ?_)
          · refine lv_iconst (v := -1) hx hb dd_L_define_59 (by decide) ?_
            exact mw_i hx hb hr hlocks rfl hM hF hS (Nat.le_of_ble_eq_true rfl) (Nat.le_of_ble_eq_true rfl) (Or.inl ⟨by simp [c_defOk, c1, c2, c3, c4, c5], rfl, rfl⟩) dd_L_define_60
          · refine lv_aload_n hx hb dd_L_define_51 rfl (lv_at hl 1 rfl) ?_
            refine lv_lload_n hx hb dd_L_define_52 rfl (lv_at hl 3 rfl) ?_
            refine mc_V (As := [.long nm]) (rest := []) 1 (cc_L_definitionNamed hR (nm := nm)) hx hb hml hown ht hM hK hl.1 lk_L_53 (by decide +kernel) (by decide) mx rfl rfl rfl (Nat.le_of_ble_eq_true rfl) dd_L_define_53 ⟨Nat.zero_le _, Nat.zero_le _⟩ ?_
            refine lr_ifnull (tgt := 61) hx hb dd_L_define_56 (by decide) (fun ey6 => ?_) (fun y6 ey6 => ?_)
            · have hlt : nd < 64 := (nI_ltI (b := 64) (by omega) (by decide)).mp c3
              have hn0 : ∀ q, sz ≤ q → M q = none := fun q h => hm_new hM (by rw [hsz]; exact h)
              have hn7 : M sz = none := hm_new hM (by rw [hsz]; exact Nat.le_refl _)
              refine mg_new (ci := 1) hx hb ht ii_D tt_D tt_D_ok hown wd_1_113 wd_1_122 wd_1_9 hK hM hS rfl [.int 0, .int 0, .long 0, .int 0, .null, .null, .int 0, .int 0, .null] (fun j hj => by rcases (show j = 0 ∨ j = 1 ∨ j = 2 ∨ j = 3 ∨ j = 4 ∨ j = 5 ∨ j = 6 ∨ j = 7 ∨ j = 8 by omega) with rfl | rfl | rfl | rfl | rfl | rfl | rfl | rfl | rfl <;> rfl) (Nat.le_of_ble_eq_true rfl) (Nat.le_of_ble_eq_true rfl) dd_L_define_61 (fun H hM hz hS => ?_)
              rw [hsz] at hM hz ⊢
              have hsz := hz
              have hM : hm G (mp_up M sz (.inr (1, [.int 0, .int 0, .long 0, .int 0, .null, .null, .int 0, .int 0, .null]))) H := hM
              have hF : ∀ z9, (mp_up M sz (.inr (1, [.int 0, .int 0, .long 0, .int 0, .null, .null, .int 0, .int 0, .null]))) z9 ≠ none → fr M sz z9 := hF_put hF (hA _ (by have := hS.1; omega))
              have ma : (mp_up M sz (.inr (1, [.int 0, .int 0, .long 0, .int 0, .null, .null, .int 0, .int 0, .null]))) sz = some (.inr (1, [.int 0, .int 0, .long 0, .int 0, .null, .null, .int 0, .int 0, .null])) := mp_self _ _ _
              have hR1 := rp_mono hR (fun q e h => mp_old (e := .inr (1, [.int 0, .int 0, .long 0, .int 0, .null, .null, .int 0, .int 0, .null])) h hn7)
              obtain ⟨mx, hLd, hLn, hD, hN, -, -, -⟩ := id hR1
              obtain ⟨cl, ml⟩ := ls_obj hLd
              obtain ⟨ck, mk⟩ := ls_obj hLn
              refine lv_dup hx hb dd_L_define_64 rfl ?_
              refine lv_aload_n hx hb dd_L_define_65 rfl (lv_at hl 1 rfl) ?_
              refine mg_get hx hb ht ii_L hown hK hM mx rfl 0 (by decide) wd_1_50 (fun _ h => h) rfl dd_L_define_66 ?_
              refine mc_V (As := []) (rest := [.ref sz, .ref sz]) 0 (ls_size hLd) hx hb hml hown ht hM hK hl.1 lk_L_49 (by decide +kernel) (by decide) ml rfl rfl rfl (Nat.le_of_ble_eq_true rfl) dd_L_define_69 ⟨Nat.le_of_ble_eq_true rfl, Nat.le_of_ble_eq_true rfl⟩ ?_
              refine lv_iload_n hx hb dd_L_define_72 rfl (lv_at hl 2 rfl) ?_
              refine lv_lload_n hx hb dd_L_define_73 rfl (lv_at hl 3 rfl) ?_
              refine lv_iload hx hb dd_L_define_74 (lv_at hl 4 rfl) ?_
              have hFr := hF_fr hF hS hA
              refine mx_I (As := [.int (nI nd), .int (bI chg), .long nm, .int ty]) (rest := [.ref sz]) 4 (cc_D_init ma) hx hb hml hown ht hM hK hZ hS hFr hl.1 wd_1_125 wd_1_9 wd_1_123 wd_1_124 rfl (by decide +kernel) (by decide) rfl rfl (Nat.le_of_ble_eq_true rfl) dd_L_define_76 ⟨Nat.le_of_ble_eq_true rfl, Nat.le_of_ble_eq_true rfl⟩ (fun v u2 H locs hp hM hd hle hk hS => ?_)
              rw [hsz] at hp
              obtain ⟨rfl, hu⟩ := hp
              have hF := fun z9 h => hFr z9 (hd z9 h)
              obtain ⟨j1, j2, j3, j4⟩ : u2 sz = _ ∧ u2 (sz + 1) = _ ∧ u2 (sz + 1 + 1) = _ ∧ ∀ q e, M q = some e → u2 q = some e := by rw [hu]; exact def_maps hn0
              have hR2 := rp_mono hR j4
              obtain ⟨mx, hLd, hLn, hD, hN, -, -, -⟩ := id hR2
              obtain ⟨cl, ml⟩ := ls_obj hLd
              obtain ⟨ck, mk⟩ := ls_obj hLn
              have h02 := e_none hF hE
              refine lv_astore (lv' := [(6, .ref sz), (5, .int (bI (k_isType ty))), (0, .ref x), (1, .int (bI chg)), (2, .long nm), (4, .int ty)]) hx hb dd_L_define_79 hl (by decide) rfl (fun ls hl => ?_)
              refine lv_aload_n hx hb dd_L_define_81 rfl (lv_at hl 2 rfl) ?_
              refine mg_get hx hb ht ii_L hown hK hM mx rfl 0 (by decide) wd_1_50 (fun _ h => h) rfl dd_L_define_82 ?_
              refine lv_aload hx hb dd_L_define_85 (lv_at hl 0 rfl) ?_
              have hFr := hF_fr hF hS hA
              refine mx_V (As := [.ref sz]) (rest := []) 1 (cc_A_add hLd (by omega) (Or.inr ⟨_, j1⟩) (fun i hi => Or.inr ⟨_, (hD i hi).1⟩)) hx hb hml hown ht hM hK hZ hS hFr hl.1 lk_L_62 (by decide +kernel) (by decide) ml rfl rfl rfl (Nat.le_of_ble_eq_true rfl) dd_L_define_87 ⟨Nat.le_of_ble_eq_true rfl, Nat.le_of_ble_eq_true rfl⟩ (fun v u3 H locs hp hM hd hle hk hS => ?_)
              obtain ⟨rfl, ed', hL3, hed, hq⟩ := hp
              have hF := fun z9 h => hFr z9 (hd z9 h)
              have h03 := e_none hF hE
              have hed2 : (ed' = ed ∧ ∃ cap f, u2 ed = some (oA G cap f)) ∨ u2 ed' = none := hed.elim Or.inl (fun h => Or.inr (by rw [h.1]; exact h.2))
              have hed3 : (∃ cap f, u2 ed' = some (oA G cap f)) ∨ u2 ed' = none := hed2.elim (fun h => Or.inl (by rw [h.1]; exact h.2)) Or.inr
              have mx := add_keep hq ml hed3 mx (fun _ z => by cases z) (fun _ _ z => by cases z)
              have j1' := add_keep hq ml hed3 j1 (fun _ z => by cases z) (fun _ _ z => by cases z)
              have hxz : sz ≠ x := fun z => by rw [z, mx] at j1'; cases j1'
              refine lv_pop hx hb dd_L_define_90 rfl ?_
              refine lv_aload_n hx hb dd_L_define_91 rfl (lv_at hl 2 rfl) ?_
              refine lv_iconst (v := 0) hx hb dd_L_define_92 (by decide) ?_
              refine mg_put (v := .int 0) hx hb ht ii_L tt_L tt_L_ok nn_L hown hK hM hS (hF _ (by rw [mx]; exact Option.some_ne_none _)) mx rfl 2 (by decide) wd_1_52 (fun _ h => h) (Or.inl rfl) rfl rfl rfl (Nat.le_of_ble_eq_true rfl) dd_L_define_93 (fun H locs hM hz hoq hS => ?_)
              have hM : hm G (mp_up u3 x (.inr (0, [.ref ld, .ref ln, .int 0, .int ft, .int fn, .int mv]))) H := hM
              have hF : ∀ z9, (mp_up u3 x (.inr (0, [.ref ld, .ref ln, .int 0, .int ft, .int fn, .int mv]))) z9 ≠ none → fr M sz z9 := hF_put hF (hF _ (by rw [mx]; exact Option.some_ne_none _))
              have mx : (mp_up u3 x (.inr (0, [.ref ld, .ref ln, .int 0, .int ft, .int fn, .int mv]))) x = some (.inr (0, [.ref ld, .ref ln, .int 0, .int ft, .int fn, .int mv])) := mp_self _ _ _
              refine lv_aload hx hb dd_L_define_96 (lv_at hl 0 rfl) ?_
              have j1' := mp_at (M := u3) (a := x) (e := (.inr (0, [.ref ld, .ref ln, .int 0, .int ft, .int fn, .int mv]))) hxz j1'
              refine mg_get hx hb ht ii_D hown hK hM j1' rfl 0 (by decide) wd_1_128 (fun _ h => h) rfl dd_L_define_98 ?_
              exact mw_i hx hb hr hlocks rfl hM hF hS (Nat.le_of_ble_eq_true rfl) (Nat.le_of_ble_eq_true rfl) (Or.inr ⟨by simp [c_defOk, c1, c2, c3, c4, c5, map_none ey6], rfl, sz, sz + 1, sz + 1 + 1, ed', rp_def (d := (nI nd, chg, nm, ty, sz + 1, sz + 1 + 1, 0, false, none)) hR hlt j4 j1 j2 j3 rfl (hn0 _ (Nat.le_succ _)) (hn0 _ (show sz ≤ sz + 1 + 1 by omega)) h02 h03 hL3 hed2 hq⟩) dd_L_define_101
            · refine lv_iconst (v := -1) hx hb dd_L_define_59 (by decide) ?_
              exact mw_i hx hb hr hlocks rfl hM hF hS (Nat.le_of_ble_eq_true rfl) (Nat.le_of_ble_eq_true rfl) (Or.inl ⟨by simp [c_defOk, c1, c2, c3, c4, c5, c_nn ey6], rfl, rfl⟩) dd_L_define_60
      · refine lv_iconst (v := -1) hx hb dd_L_define_38 (by decide) ?_
        exact mw_i hx hb hr hlocks rfl hM hF hS (Nat.le_of_ble_eq_true rfl) (Nat.le_of_ble_eq_true rfl) (Or.inl ⟨by simp [c_defOk, c1, c2, c3], rfl, rfl⟩) dd_L_define_39
  · refine lv_iload hx hb dd_L_define_4 (lv_at hl 3 rfl) ?_
    refine mc_S (As := [.int ty]) (rest := []) 1 (cc_T_isWritten (k := ty)) hx hb hml hown ht hM hK hl.1 lk_L_36 (by decide +kernel) (by decide) rfl rfl (Nat.le_of_ble_eq_true rfl) dd_L_define_6 ⟨Nat.zero_le _, Nat.zero_le _⟩ ?_
    refine lv_goto (tgt := 17) hx hb dd_L_define_9 (by decide) ?_
    refine lv_istore (lv' := [(5, .int (bI (k_isWritten ty))), (0, .ref x), (1, .int (bI chg)), (2, .long nm), (4, .int ty)]) hx hb dd_L_define_17 hl (by decide) rfl (fun ls hl => ?_)
    refine lv_aload_n hx hb dd_L_define_19 rfl (lv_at hl 1 rfl) ?_
    refine mc_V (As := []) (rest := []) 0 (cc_L_lastIsWhole hR) hx hb hml hown ht hM hK hl.1 lk_L_45 (by decide +kernel) (by decide) mx rfl rfl rfl (Nat.le_of_ble_eq_true rfl) dd_L_define_20 ⟨Nat.zero_le _, Nat.zero_le _⟩ ?_
    refine lb_if_eq (tgt := 38) hx hb dd_L_define_23 (by decide) (fun c8 => ?_) (fun c8 => ?_)
    · refine lv_iconst (v := -1) hx hb dd_L_define_38 (by decide) ?_
      exact mw_i hx hb hr hlocks rfl hM hF hS (Nat.le_of_ble_eq_true rfl) (Nat.le_of_ble_eq_true rfl) (Or.inl ⟨by simp [c_defOk, c1, c8], rfl, rfl⟩) dd_L_define_39
    · refine lv_aload_n hx hb dd_L_define_26 rfl (lv_at hl 1 rfl) ?_
      refine mg_get hx hb ht ii_L hown hK hM mx rfl 0 (by decide) wd_1_50 (fun _ h => h) rfl dd_L_define_27 ?_
      refine mc_V (As := []) (rest := []) 0 (ls_size hLd) hx hb hml hown ht hM hK hl.1 lk_L_49 (by decide +kernel) (by decide) ml rfl rfl rfl (Nat.le_of_ble_eq_true rfl) dd_L_define_30 ⟨Nat.le_of_ble_eq_true rfl, Nat.le_of_ble_eq_true rfl⟩ ?_
      refine lv_bipush (v := 64) hx hb dd_L_define_33 (by decide) ?_
      refine lv_icmp_lt (tgt := 40) hx hb dd_L_define_35 (by decide) (fun c9 => ?_) (fun c9 => ?_)
      · refine lv_lload_n hx hb dd_L_define_40 rfl (lv_at hl 3 rfl) ?_
        refine lv_lconst (v := 0) hx hb dd_L_define_41 (by decide) ?_
        refine W.lcmp hx hb dd_L_define_42 ?_
        refine lc_if_le (tgt := 59) hx hb dd_L_define_43 (by decide) (fun c10 => ?_) (fun c10 => ?_)
        · refine lv_iconst (v := -1) hx hb dd_L_define_59 (by decide) ?_
          exact mw_i hx hb hr hlocks rfl hM hF hS (Nat.le_of_ble_eq_true rfl) (Nat.le_of_ble_eq_true rfl) (Or.inl ⟨by simp [c_defOk, c1, c8, c9, c10], rfl, rfl⟩) dd_L_define_60
        · refine lv_iload hx hb dd_L_define_46 (lv_at hl 0 rfl) ?_
          refine lb_if_eq (tgt := 59) hx hb dd_L_define_48 (by decide) (fun c11 => ?_) (fun c11 => ?_)
          · refine lv_iconst (v := -1) hx hb dd_L_define_59 (by decide) ?_
            exact mw_i hx hb hr hlocks rfl hM hF hS (Nat.le_of_ble_eq_true rfl) (Nat.le_of_ble_eq_true rfl) (Or.inl ⟨by simp [c_defOk, c1, c8, c9, c10, c11], rfl, rfl⟩) dd_L_define_60
          · refine lv_aload_n hx hb dd_L_define_51 rfl (lv_at hl 1 rfl) ?_
            refine lv_lload_n hx hb dd_L_define_52 rfl (lv_at hl 3 rfl) ?_
            refine mc_V (As := [.long nm]) (rest := []) 1 (cc_L_definitionNamed hR (nm := nm)) hx hb hml hown ht hM hK hl.1 lk_L_53 (by decide +kernel) (by decide) mx rfl rfl rfl (Nat.le_of_ble_eq_true rfl) dd_L_define_53 ⟨Nat.zero_le _, Nat.zero_le _⟩ ?_
            refine lr_ifnull (tgt := 61) hx hb dd_L_define_56 (by decide) (fun ey12 => ?_) (fun y12 ey12 => ?_)
            · have hlt : nd < 64 := (nI_ltI (b := 64) (by omega) (by decide)).mp c9
              have hn0 : ∀ q, sz ≤ q → M q = none := fun q h => hm_new hM (by rw [hsz]; exact h)
              have hn13 : M sz = none := hm_new hM (by rw [hsz]; exact Nat.le_refl _)
              refine mg_new (ci := 1) hx hb ht ii_D tt_D tt_D_ok hown wd_1_113 wd_1_122 wd_1_9 hK hM hS rfl [.int 0, .int 0, .long 0, .int 0, .null, .null, .int 0, .int 0, .null] (fun j hj => by rcases (show j = 0 ∨ j = 1 ∨ j = 2 ∨ j = 3 ∨ j = 4 ∨ j = 5 ∨ j = 6 ∨ j = 7 ∨ j = 8 by omega) with rfl | rfl | rfl | rfl | rfl | rfl | rfl | rfl | rfl <;> rfl) (Nat.le_of_ble_eq_true rfl) (Nat.le_of_ble_eq_true rfl) dd_L_define_61 (fun H hM hz hS => ?_)
              rw [hsz] at hM hz ⊢
              have hsz := hz
              have hM : hm G (mp_up M sz (.inr (1, [.int 0, .int 0, .long 0, .int 0, .null, .null, .int 0, .int 0, .null]))) H := hM
              have hF : ∀ z9, (mp_up M sz (.inr (1, [.int 0, .int 0, .long 0, .int 0, .null, .null, .int 0, .int 0, .null]))) z9 ≠ none → fr M sz z9 := hF_put hF (hA _ (by have := hS.1; omega))
              have ma : (mp_up M sz (.inr (1, [.int 0, .int 0, .long 0, .int 0, .null, .null, .int 0, .int 0, .null]))) sz = some (.inr (1, [.int 0, .int 0, .long 0, .int 0, .null, .null, .int 0, .int 0, .null])) := mp_self _ _ _
              have hR1 := rp_mono hR (fun q e h => mp_old (e := .inr (1, [.int 0, .int 0, .long 0, .int 0, .null, .null, .int 0, .int 0, .null])) h hn13)
              obtain ⟨mx, hLd, hLn, hD, hN, -, -, -⟩ := id hR1
              obtain ⟨cl, ml⟩ := ls_obj hLd
              obtain ⟨ck, mk⟩ := ls_obj hLn
              refine lv_dup hx hb dd_L_define_64 rfl ?_
              refine lv_aload_n hx hb dd_L_define_65 rfl (lv_at hl 1 rfl) ?_
              refine mg_get hx hb ht ii_L hown hK hM mx rfl 0 (by decide) wd_1_50 (fun _ h => h) rfl dd_L_define_66 ?_
              refine mc_V (As := []) (rest := [.ref sz, .ref sz]) 0 (ls_size hLd) hx hb hml hown ht hM hK hl.1 lk_L_49 (by decide +kernel) (by decide) ml rfl rfl rfl (Nat.le_of_ble_eq_true rfl) dd_L_define_69 ⟨Nat.le_of_ble_eq_true rfl, Nat.le_of_ble_eq_true rfl⟩ ?_
              refine lv_iload_n hx hb dd_L_define_72 rfl (lv_at hl 2 rfl) ?_
              refine lv_lload_n hx hb dd_L_define_73 rfl (lv_at hl 3 rfl) ?_
              refine lv_iload hx hb dd_L_define_74 (lv_at hl 4 rfl) ?_
              have hFr := hF_fr hF hS hA
              refine mx_I (As := [.int (nI nd), .int (bI chg), .long nm, .int ty]) (rest := [.ref sz]) 4 (cc_D_init ma) hx hb hml hown ht hM hK hZ hS hFr hl.1 wd_1_125 wd_1_9 wd_1_123 wd_1_124 rfl (by decide +kernel) (by decide) rfl rfl (Nat.le_of_ble_eq_true rfl) dd_L_define_76 ⟨Nat.le_of_ble_eq_true rfl, Nat.le_of_ble_eq_true rfl⟩ (fun v u2 H locs hp hM hd hle hk hS => ?_)
              rw [hsz] at hp
              obtain ⟨rfl, hu⟩ := hp
              have hF := fun z9 h => hFr z9 (hd z9 h)
              obtain ⟨j1, j2, j3, j4⟩ : u2 sz = _ ∧ u2 (sz + 1) = _ ∧ u2 (sz + 1 + 1) = _ ∧ ∀ q e, M q = some e → u2 q = some e := by rw [hu]; exact def_maps hn0
              have hR2 := rp_mono hR j4
              obtain ⟨mx, hLd, hLn, hD, hN, -, -, -⟩ := id hR2
              obtain ⟨cl, ml⟩ := ls_obj hLd
              obtain ⟨ck, mk⟩ := ls_obj hLn
              have h02 := e_none hF hE
              refine lv_astore (lv' := [(6, .ref sz), (5, .int (bI (k_isWritten ty))), (0, .ref x), (1, .int (bI chg)), (2, .long nm), (4, .int ty)]) hx hb dd_L_define_79 hl (by decide) rfl (fun ls hl => ?_)
              refine lv_aload_n hx hb dd_L_define_81 rfl (lv_at hl 2 rfl) ?_
              refine mg_get hx hb ht ii_L hown hK hM mx rfl 0 (by decide) wd_1_50 (fun _ h => h) rfl dd_L_define_82 ?_
              refine lv_aload hx hb dd_L_define_85 (lv_at hl 0 rfl) ?_
              have hFr := hF_fr hF hS hA
              refine mx_V (As := [.ref sz]) (rest := []) 1 (cc_A_add hLd (by omega) (Or.inr ⟨_, j1⟩) (fun i hi => Or.inr ⟨_, (hD i hi).1⟩)) hx hb hml hown ht hM hK hZ hS hFr hl.1 lk_L_62 (by decide +kernel) (by decide) ml rfl rfl rfl (Nat.le_of_ble_eq_true rfl) dd_L_define_87 ⟨Nat.le_of_ble_eq_true rfl, Nat.le_of_ble_eq_true rfl⟩ (fun v u3 H locs hp hM hd hle hk hS => ?_)
              obtain ⟨rfl, ed', hL3, hed, hq⟩ := hp
              have hF := fun z9 h => hFr z9 (hd z9 h)
              have h03 := e_none hF hE
              have hed2 : (ed' = ed ∧ ∃ cap f, u2 ed = some (oA G cap f)) ∨ u2 ed' = none := hed.elim Or.inl (fun h => Or.inr (by rw [h.1]; exact h.2))
              have hed3 : (∃ cap f, u2 ed' = some (oA G cap f)) ∨ u2 ed' = none := hed2.elim (fun h => Or.inl (by rw [h.1]; exact h.2)) Or.inr
              have mx := add_keep hq ml hed3 mx (fun _ z => by cases z) (fun _ _ z => by cases z)
              have j1' := add_keep hq ml hed3 j1 (fun _ z => by cases z) (fun _ _ z => by cases z)
              have hxz : sz ≠ x := fun z => by rw [z, mx] at j1'; cases j1'
              refine lv_pop hx hb dd_L_define_90 rfl ?_
              refine lv_aload_n hx hb dd_L_define_91 rfl (lv_at hl 2 rfl) ?_
              refine lv_iconst (v := 0) hx hb dd_L_define_92 (by decide) ?_
              refine mg_put (v := .int 0) hx hb ht ii_L tt_L tt_L_ok nn_L hown hK hM hS (hF _ (by rw [mx]; exact Option.some_ne_none _)) mx rfl 2 (by decide) wd_1_52 (fun _ h => h) (Or.inl rfl) rfl rfl rfl (Nat.le_of_ble_eq_true rfl) dd_L_define_93 (fun H locs hM hz hoq hS => ?_)
              have hM : hm G (mp_up u3 x (.inr (0, [.ref ld, .ref ln, .int 0, .int ft, .int fn, .int mv]))) H := hM
              have hF : ∀ z9, (mp_up u3 x (.inr (0, [.ref ld, .ref ln, .int 0, .int ft, .int fn, .int mv]))) z9 ≠ none → fr M sz z9 := hF_put hF (hF _ (by rw [mx]; exact Option.some_ne_none _))
              have mx : (mp_up u3 x (.inr (0, [.ref ld, .ref ln, .int 0, .int ft, .int fn, .int mv]))) x = some (.inr (0, [.ref ld, .ref ln, .int 0, .int ft, .int fn, .int mv])) := mp_self _ _ _
              refine lv_aload hx hb dd_L_define_96 (lv_at hl 0 rfl) ?_
              have j1' := mp_at (M := u3) (a := x) (e := (.inr (0, [.ref ld, .ref ln, .int 0, .int ft, .int fn, .int mv]))) hxz j1'
              refine mg_get hx hb ht ii_D hown hK hM j1' rfl 0 (by decide) wd_1_128 (fun _ h => h) rfl dd_L_define_98 ?_
              exact mw_i hx hb hr hlocks rfl hM hF hS (Nat.le_of_ble_eq_true rfl) (Nat.le_of_ble_eq_true rfl) (Or.inr ⟨by simp [c_defOk, c1, c8, c9, c10, c11, map_none ey12], rfl, sz, sz + 1, sz + 1 + 1, ed', rp_def (d := (nI nd, chg, nm, ty, sz + 1, sz + 1 + 1, 0, false, none)) hR hlt j4 j1 j2 j3 rfl (hn0 _ (Nat.le_succ _)) (hn0 _ (show sz ≤ sz + 1 + 1 by omega)) h02 h03 hL3 hed2 hq⟩) dd_L_define_101
            · refine lv_iconst (v := -1) hx hb dd_L_define_59 (by decide) ?_
              exact mw_i hx hb hr hlocks rfl hM hF hS (Nat.le_of_ble_eq_true rfl) (Nat.le_of_ble_eq_true rfl) (Or.inl ⟨by simp [c_defOk, c1, c8, c9, c10, c11, c_nn ey12], rfl, rfl⟩) dd_L_define_60
      · refine lv_iconst (v := -1) hx hb dd_L_define_38 (by decide) ?_
        exact mw_i hx hb hr hlocks rfl hM hF hS (Nat.le_of_ble_eq_true rfl) (Nat.le_of_ble_eq_true rfl) (Or.inl ⟨by simp [c_defOk, c1, c8, c9], rfl, rfl⟩) dd_L_define_39
