set_option maxHeartbeats 4000000 in
set_option maxRecDepth 100000 in
theorem cc_L_parameter_n {l : Launch} {G : gC} {M : mC} {sz : Nat} {x ld ln ed en nn : Nat} {aD aN : Nat → Nat} {D : Nat → dR} {N : Nat → nR} {pn : Nat → Nat → Int64} {pt : Nat → Nat → Int32} {kn : Bool} {ft fn mv : Int32} (hR : rp G M x ld ln ed en 0 nn aD aN D N pn pt kn ft fn mv) {nm : Int64} {ty : Int32} : cW l yy_L_parameter bb_L_parameter 5 (some .int) 4 8 4000 G M sz [.ref x, .long nm, .int ty] (fun v u => v = some (.int (-1)) ∧ u = M) := by
  refine me_W (by decide) (Nat.le_of_ble_eq_true rfl) ?_
  intro p e s m below meth c ls hx hb hr hlocks hml hown hname ht hsz hM hK hZ hl
  have hown : s.vm.findClass RR_L = some m.cls := hown
  have hl : lv_has ls 5 [(0, .ref x), (1, .long nm), (3, .int ty)] := hl
  have hS : va_S (fr M sz) s.heap s.heap [] := va_S.rf
  have hF : ∀ q, M q ≠ none → fr M sz q := fr_M
  have hA : ∀ q, s.heap.size ≤ q → fr M sz q := fun q h => fr_A q (by rw [← hsz]; exact h)
  obtain ⟨mx, hLd, hLn, hD, hN, hAp, hnd, hnn⟩ := id hR
  obtain ⟨cl, ml⟩ := ls_obj hLd
  obtain ⟨ck, mk⟩ := ls_obj hLn
  refine lv_aload_n hx hb dd_L_parameter_0 rfl (lv_at hl 0 rfl) ?_
  refine mc_V (As := []) (rest := []) 0 (cc_L_lastDefinition_n hR) hx hb hml hown ht hM hK hl.1 lk_L_69 (by decide +kernel) (by decide) mx rfl rfl rfl (Nat.le_of_ble_eq_true rfl) dd_L_parameter_1 ⟨Nat.le_of_ble_eq_true rfl, Nat.le_of_ble_eq_true rfl⟩ ?_
  refine lv_astoreN (lv' := [(4, .null), (0, .ref x), (1, .long nm), (3, .int ty)]) hx hb dd_L_parameter_4 hl (by decide) rfl (fun ls hl => ?_)
  refine lv_aloadN hx hb dd_L_parameter_6 (lv_at hl 0 rfl) ?_
  refine lv_ifnullN (tgt := 29) hx hb dd_L_parameter_8 (by decide) ?_
  refine lv_iconst (v := -1) hx hb dd_L_parameter_29 (by decide) ?_
  exact mw_i hx hb hr hlocks rfl hM hF hS (Nat.le_of_ble_eq_true rfl) (Nat.le_of_ble_eq_true rfl) ⟨rfl, rfl⟩ dd_L_parameter_30

set_option maxHeartbeats 4000000 in
set_option maxRecDepth 100000 in
theorem cc_L_parameter_s {l : Launch} {G : gC} {M : mC} {sz : Nat} {x ld ln ed en k nn : Nat} {aD aN : Nat → Nat} {D : Nat → dR} {N : Nat → nR} {pn : Nat → Nat → Int64} {pt : Nat → Nat → Int32} {kn : Bool} {ft fn mv : Int32} (hR : rp G M x ld ln ed en (k + 1) nn aD aN D N pn pt kn ft fn mv) {nm : Int64} {ty : Int32} {c9 : Nat} (hnp : d_np (D k) = nI c9) (hc9 : c9 ≤ 8) : cW l yy_L_parameter bb_L_parameter 5 (some .int) 4 8 4000 G M sz [.ref x, .long nm, .int ty] (fun v u => (c_parOk (D k) (pn k) nm ty = false ∧ v = some (.int (-1)) ∧ u = M) ∨ (c_parOk (D k) (pn k) nm ty = true ∧ v = some (.int (nI (c9 + 1))) ∧ rp G u x ld ln ed en (k + 1) nn aD aN (va_up D k (d_s_np (D k) (nI (c9 + 1)))) N (va_up pn k (vp_updL (pn k) c9 nm)) (va_up pt k (upd (pt k) c9 ty)) false ft fn mv)) := by
  refine me_W (by decide) (Nat.le_of_ble_eq_true rfl) ?_
  intro p e s m below meth c ls hx hb hr hlocks hml hown hname ht hsz hM hK hZ hl
  have hown : s.vm.findClass RR_L = some m.cls := hown
  have hl : lv_has ls 5 [(0, .ref x), (1, .long nm), (3, .int ty)] := hl
  have hS : va_S (fr M sz) s.heap s.heap [] := va_S.rf
  have hF : ∀ q, M q ≠ none → fr M sz q := fr_M
  have hA : ∀ q, s.heap.size ≤ q → fr M sz q := fun q h => fr_A q (by rw [← hsz]; exact h)
  obtain ⟨mx, hLd, hLn, hD, hN, hAp, hnd, hnn⟩ := id hR
  obtain ⟨cl, ml⟩ := ls_obj hLd
  obtain ⟨ck, mk⟩ := ls_obj hLn
  have h00 := mz_none hZ
  have mx0 := mx
  obtain ⟨me0, mn0, mt0, -⟩ := hD k (Nat.lt_succ_self k)
  refine lv_aload_n hx hb dd_L_parameter_0 rfl (lv_at hl 0 rfl) ?_
  refine mc_V (As := []) (rest := []) 0 (cc_L_lastDefinition_s hR) hx hb hml hown ht hM hK hl.1 lk_L_69 (by decide +kernel) (by decide) mx rfl rfl rfl (Nat.le_of_ble_eq_true rfl) dd_L_parameter_1 ⟨Nat.le_of_ble_eq_true rfl, Nat.le_of_ble_eq_true rfl⟩ ?_
  obtain ⟨me, mn, mt, -⟩ := hD k (Nat.lt_succ_self k)
  refine lv_astore (lv' := [(4, .ref (aD k)), (0, .ref x), (1, .long nm), (3, .int ty)]) hx hb dd_L_parameter_4 hl (by decide) rfl (fun ls hl => ?_)
  refine lv_aload hx hb dd_L_parameter_6 (lv_at hl 0 rfl) ?_
  refine lv_ifnull hx hb dd_L_parameter_8 ?_
  refine lv_aload hx hb dd_L_parameter_11 (lv_at hl 0 rfl) ?_
  refine mg_get hx hb ht ii_D hown hK hM me rfl 7 (by decide) wd_1_143 (fun _ h => h) rfl dd_L_parameter_13 ?_
  refine lb_if_ne (tgt := 29) hx hb dd_L_parameter_16 (by decide) (fun c1 => ?_) (fun c1 => ?_)
  · refine lv_iconst (v := -1) hx hb dd_L_parameter_29 (by decide) ?_
    exact mw_i hx hb hr hlocks rfl hM hF hS (Nat.le_of_ble_eq_true rfl) (Nat.le_of_ble_eq_true rfl) (Or.inl ⟨by simp [c_parOk, hnp, c1], rfl, rfl⟩) dd_L_parameter_30
  · refine lv_aload hx hb dd_L_parameter_19 (lv_at hl 0 rfl) ?_
    refine mg_get (v := .int (nI c9)) hx hb ht ii_D hown hK hM me rfl 6 (by decide) wd_1_141 (fun _ h => h) (congrArg (fun z => some (Value.int z)) hnp) dd_L_parameter_21 ?_
    refine lv_bipush (v := 8) hx hb dd_L_parameter_24 (by decide) ?_
    refine lv_icmp_lt (tgt := 31) hx hb dd_L_parameter_26 (by decide) (fun c2 => ?_) (fun c2 => ?_)
    · refine lv_lload_n hx hb dd_L_parameter_31 rfl (lv_at hl 2 rfl) ?_
      refine lv_lconst (v := 0) hx hb dd_L_parameter_32 (by decide) ?_
      refine W.lcmp hx hb dd_L_parameter_33 ?_
      refine lc_if_le (tgt := 54) hx hb dd_L_parameter_34 (by decide) (fun c3 => ?_) (fun c3 => ?_)
      · refine lv_iconst (v := -1) hx hb dd_L_parameter_54 (by decide) ?_
        exact mw_i hx hb hr hlocks rfl hM hF hS (Nat.le_of_ble_eq_true rfl) (Nat.le_of_ble_eq_true rfl) (Or.inl ⟨by simp [c_parOk, hnp, c1, c2, c3], rfl, rfl⟩) dd_L_parameter_55
      · refine lv_iload_n hx hb dd_L_parameter_37 rfl (lv_at hl 3 rfl) ?_
        refine mc_S (As := [.int ty]) (rest := []) 1 (cc_T_isType (k := ty)) hx hb hml hown ht hM hK hl.1 lk_L_42 (by decide +kernel) (by decide) rfl rfl (Nat.le_of_ble_eq_true rfl) dd_L_parameter_38 ⟨Nat.zero_le _, Nat.zero_le _⟩ ?_
        refine lb_if_eq (tgt := 54) hx hb dd_L_parameter_41 (by decide) (fun c4 => ?_) (fun c4 => ?_)
        · refine lv_iconst (v := -1) hx hb dd_L_parameter_54 (by decide) ?_
          exact mw_i hx hb hr hlocks rfl hM hF hS (Nat.le_of_ble_eq_true rfl) (Nat.le_of_ble_eq_true rfl) (Or.inl ⟨by simp [c_parOk, hnp, c1, c2, c3, c4], rfl, rfl⟩) dd_L_parameter_55
        · refine lv_aload hx hb dd_L_parameter_44 (lv_at hl 0 rfl) ?_
          refine lv_lload_n hx hb dd_L_parameter_46 rfl (lv_at hl 2 rfl) ?_
          refine mc_V (As := [.long nm]) (rest := []) 1 (cc_D_indexOfParameter me mn (x := nm)) hx hb hml hown ht hM hK hl.1 lk_L_79 (by decide +kernel) (by decide) me rfl rfl rfl (Nat.le_of_ble_eq_true rfl) dd_L_parameter_47 ⟨Nat.zero_le _, Nat.zero_le _⟩ ?_
          refine lv_iconst (v := -1) hx hb dd_L_parameter_50 (by decide) ?_
          refine lv_icmp_eq (tgt := 56) hx hb dd_L_parameter_51 (by decide) (fun c5 => ?_) (fun c5 => ?_)
          · have hc8 : c9 < 8 := (nI_ltI (b := 8) (by omega) (by decide)).mp c2
            refine lv_aload hx hb dd_L_parameter_56 (lv_at hl 0 rfl) ?_
            refine lv_lload_n hx hb dd_L_parameter_58 rfl (lv_at hl 2 rfl) ?_
            refine lv_iload_n hx hb dd_L_parameter_59 rfl (lv_at hl 3 rfl) ?_
            have hFr := hF_fr hF hS hA
            refine mx_V (As := [.long nm, .int ty]) (rest := []) 2 (cc_D_addParameter me mn mt hnp hc8 (x := nm) (t := ty)) hx hb hml hown ht hM hK hZ hS hFr hl.1 lk_L_83 (by decide +kernel) (by decide) me rfl rfl rfl (Nat.le_of_ble_eq_true rfl) dd_L_parameter_60 ⟨Nat.le_of_ble_eq_true rfl, Nat.le_of_ble_eq_true rfl⟩ (fun v u H locs hp hM hd hle hk hS => ?_)
            obtain ⟨rfl, hu⟩ := hp
            rw [hu] at hM hd
            clear hu
            have hF := fun z9 h => hFr z9 (hd z9 h)
            obtain ⟨z6, hsz⟩ : ∃ z9, H.size = z9 := ⟨_, rfl⟩
            have mn : (mp_up M (d_apn (D k)) (lA G 8 (vp_updL (pn k) c9 nm))) (d_apn (D k)) = some (lA G 8 (vp_updL (pn k) c9 nm)) := mp_self _ _ _
            have mt : (mp_up (mp_up M (d_apn (D k)) (lA G 8 (vp_updL (pn k) c9 nm))) (d_apt (D k)) (iA G 8 (upd (pt k) c9 ty))) (d_apt (D k)) = some (iA G 8 (upd (pt k) c9 ty)) := mp_self _ _ _
            have me : (mp_up (mp_up (mp_up M (d_apn (D k)) (lA G 8 (vp_updL (pn k) c9 nm))) (d_apt (D k)) (iA G 8 (upd (pt k) c9 ty))) (aD k) (dC (d_s_np (D k) (nI (c9 + 1))))) (aD k) = some (dC (d_s_np (D k) (nI (c9 + 1)))) := mp_self _ _ _
            have hM : hm G (mp_up (mp_up (mp_up M (d_apn (D k)) (lA G 8 (vp_updL (pn k) c9 nm))) (d_apt (D k)) (iA G 8 (upd (pt k) c9 ty))) (aD k) (dC (d_s_np (D k) (nI (c9 + 1))))) H := hM
            refine lv_aload_n hx hb dd_L_parameter_63 rfl (lv_at hl 1 rfl) ?_
            refine lv_iconst (v := 0) hx hb dd_L_parameter_64 (by decide) ?_
            have mx := mp_at (M := M) (a := (d_apn (D k))) (e := (lA G 8 (vp_updL (pn k) c9 nm))) (fun z => by rw [z, mn0] at mx0; cases mx0) mx
            have mx := mp_at (M := (mp_up M (d_apn (D k)) (lA G 8 (vp_updL (pn k) c9 nm)))) (a := (d_apt (D k))) (e := (iA G 8 (upd (pt k) c9 ty))) (fun z => by rw [z, mt0] at mx0; cases mx0) mx
            have mx := mp_at (M := (mp_up (mp_up M (d_apn (D k)) (lA G 8 (vp_updL (pn k) c9 nm))) (d_apt (D k)) (iA G 8 (upd (pt k) c9 ty)))) (a := (aD k)) (e := (dC (d_s_np (D k) (nI (c9 + 1))))) (fun z => by rw [z, me0] at mx0; cases mx0) mx
            refine mg_put (v := .int 0) hx hb ht ii_L tt_L tt_L_ok nn_L hown hK hM hS (hF _ (by rw [mx]; exact Option.some_ne_none _)) mx rfl 2 (by decide) wd_1_52 (fun _ h => h) (Or.inl rfl) rfl rfl rfl (Nat.le_of_ble_eq_true rfl) dd_L_parameter_65 (fun H locs hM hz hoq hS => ?_)
            have hsz := hz.trans hsz
            have hM : hm G (mp_up (mp_up (mp_up (mp_up M (d_apn (D k)) (lA G 8 (vp_updL (pn k) c9 nm))) (d_apt (D k)) (iA G 8 (upd (pt k) c9 ty))) (aD k) (dC (d_s_np (D k) (nI (c9 + 1))))) x (.inr (0, [.ref ld, .ref ln, .int 0, .int ft, .int fn, .int mv]))) H := hM
            have hF : ∀ z9, (mp_up (mp_up (mp_up (mp_up M (d_apn (D k)) (lA G 8 (vp_updL (pn k) c9 nm))) (d_apt (D k)) (iA G 8 (upd (pt k) c9 ty))) (aD k) (dC (d_s_np (D k) (nI (c9 + 1))))) x (.inr (0, [.ref ld, .ref ln, .int 0, .int ft, .int fn, .int mv]))) z9 ≠ none → fr M sz z9 := hF_put hF (hF _ (by rw [mx]; exact Option.some_ne_none _))
            have mx : (mp_up (mp_up (mp_up (mp_up M (d_apn (D k)) (lA G 8 (vp_updL (pn k) c9 nm))) (d_apt (D k)) (iA G 8 (upd (pt k) c9 ty))) (aD k) (dC (d_s_np (D k) (nI (c9 + 1))))) x (.inr (0, [.ref ld, .ref ln, .int 0, .int ft, .int fn, .int mv]))) x = some (.inr (0, [.ref ld, .ref ln, .int 0, .int ft, .int fn, .int mv])) := mp_self _ _ _
            refine lv_aload hx hb dd_L_parameter_68 (lv_at hl 0 rfl) ?_
            have me := mp_at (M := (mp_up (mp_up (mp_up M (d_apn (D k)) (lA G 8 (vp_updL (pn k) c9 nm))) (d_apt (D k)) (iA G 8 (upd (pt k) c9 ty))) (aD k) (dC (d_s_np (D k) (nI (c9 + 1)))))) (a := x) (e := (.inr (0, [.ref ld, .ref ln, .int 0, .int ft, .int fn, .int mv]))) (fun z => by rw [z, mx0] at me0; cases me0) me
            refine mg_get hx hb ht ii_D hown hK hM me rfl 6 (by decide) wd_1_141 (fun _ h => h) rfl dd_L_parameter_70 ?_
            exact mw_i hx hb hr hlocks rfl hM hF hS (Nat.le_of_ble_eq_true rfl) (Nat.le_of_ble_eq_true rfl) (Or.inr ⟨by simp [c_parOk, hnp, c1, c2, c3, c4, eq_true c5], rfl, rp_par hR h00 rfl rfl rfl⟩) dd_L_parameter_73
          · refine lv_iconst (v := -1) hx hb dd_L_parameter_54 (by decide) ?_
            exact mw_i hx hb hr hlocks rfl hM hF hS (Nat.le_of_ble_eq_true rfl) (Nat.le_of_ble_eq_true rfl) (Or.inl ⟨by simp [c_parOk, hnp, c1, c2, c3, c4, c5], rfl, rfl⟩) dd_L_parameter_55
    · refine lv_iconst (v := -1) hx hb dd_L_parameter_29 (by decide) ?_
      exact mw_i hx hb hr hlocks rfl hM hF hS (Nat.le_of_ble_eq_true rfl) (Nat.le_of_ble_eq_true rfl) (Or.inl ⟨by simp [c_parOk, hnp, c1, c2], rfl, rfl⟩) dd_L_parameter_30
