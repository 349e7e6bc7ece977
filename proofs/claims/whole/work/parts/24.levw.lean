set_option maxHeartbeats 4000000 in
set_option maxRecDepth 100000 in
theorem cc_K_partsFit {l : Launch} {G : gC} {M : mC} {sz : Nat} {k n : Int32} : cW l yy_K_partsFit bb_K_partsFit 2 (some .boolean) 1 0 0 G M sz [.int k, .int n] (fun v u => v = some (.int (bI (k_partsFit k n))) ∧ u = M) := by
  refine me_W (by decide) (Nat.le_of_ble_eq_true rfl) ?_
  intro p e s m below meth c ls hx hb hr hlocks hml hown hname ht hsz hM hK hZ hl
  have hown : s.vm.findClass RR_K = some m.cls := hown
  have hl : lv_has ls 2 [(0, .int k), (1, .int n)] := hl
  have hS : va_S (fr M sz) s.heap s.heap [] := va_S.rf
  have hF : ∀ q, M q ≠ none → fr M sz q := fr_M
  have hA : ∀ q, s.heap.size ≤ q → fr M sz q := fun q h => fr_A q (by rw [← hsz]; exact h)
  refine lv_iload_n hx hb dd_K_partsFit_0 rfl (lv_at hl 0 rfl) ?_
  refine mc_S (As := [.int k]) (rest := []) 1 (cc_K_isKind (k := k)) hx hb hml hown ht hM hK hl.1 lk_K_11 (by decide +kernel) (by decide) rfl rfl (Nat.le_of_ble_eq_true rfl) dd_K_partsFit_1 ⟨Nat.zero_le _, Nat.zero_le _⟩ ?_
  refine lb_if_ne (tgt := 9) hx hb dd_K_partsFit_4 (by decide) (fun c1 => ?_) (fun c1 => ?_)
  · refine va_gets hx hb hZ.1 hS hown (ht _ wd_2_12) (fun _ h => h) dd_K_partsFit_9 ?_
    refine lv_iload_n hx hb dd_K_partsFit_12 rfl (lv_at hl 0 rfl) ?_
    refine va_ti (v := .int (k_parts k)) hx hb hZ.2.1 hS (k_in c1) rfl dd_K_partsFit_13 ?_
    refine lv_iconst (v := -1) hx hb dd_K_partsFit_14 (by decide) ?_
    refine lv_icmp_ne (tgt := 30) hx hb dd_K_partsFit_15 (by decide) (fun c2 => ?_) (fun c2 => ?_)
    · refine lv_iload_n hx hb dd_K_partsFit_30 rfl (lv_at hl 1 rfl) ?_
      refine va_gets hx hb hZ.1 hS hown (ht _ wd_2_12) (fun _ h => h) dd_K_partsFit_31 ?_
      refine lv_iload_n hx hb dd_K_partsFit_34 rfl (lv_at hl 0 rfl) ?_
      refine va_ti (v := .int (k_parts k)) hx hb hZ.2.1 hS (k_in c1) rfl dd_K_partsFit_35 ?_
      refine lv_icmp_ne (tgt := 43) hx hb dd_K_partsFit_36 (by decide) (fun c3 => ?_) (fun c3 => ?_)
      · refine lv_iconst (v := 0) hx hb dd_K_partsFit_43 (by decide) ?_
        exact mw_i hx hb hr hlocks rfl hM hF hS (Nat.zero_le _) (Nat.zero_le _) ⟨by simp [k_partsFit, bI, c1, c2, c3], rfl⟩ dd_K_partsFit_44
      · refine lv_iconst (v := 1) hx hb dd_K_partsFit_39 (by decide) ?_
        refine lv_goto (tgt := 44) hx hb dd_K_partsFit_40 (by decide) ?_
        exact mw_i hx hb hr hlocks rfl hM hF hS (Nat.zero_le _) (Nat.zero_le _) ⟨by simp [k_partsFit, bI, c1, c2, eq_true c3], rfl⟩ dd_K_partsFit_44
    · refine lv_iload_n hx hb dd_K_partsFit_18 rfl (lv_at hl 1 rfl) ?_
      refine lv_if_lt (tgt := 26) hx hb dd_K_partsFit_19 (by decide) (fun c4 => ?_) (fun c4 => ?_)
      · refine lv_iconst (v := 0) hx hb dd_K_partsFit_26 (by decide) ?_
        refine lv_goto (tgt := 44) hx hb dd_K_partsFit_27 (by decide) ?_
        exact mw_i hx hb hr hlocks rfl hM hF hS (Nat.zero_le _) (Nat.zero_le _) ⟨by simp [k_partsFit, bI, c1, eq_true c2, c4], rfl⟩ dd_K_partsFit_44
      · refine lv_iconst (v := 1) hx hb dd_K_partsFit_22 (by decide) ?_
        refine lv_goto (tgt := 44) hx hb dd_K_partsFit_23 (by decide) ?_
        exact mw_i hx hb hr hlocks rfl hM hF hS (Nat.zero_le _) (Nat.zero_le _) ⟨by simp [k_partsFit, bI, c1, eq_true c2, c4], rfl⟩ dd_K_partsFit_44
  · refine lv_iconst (v := 0) hx hb dd_K_partsFit_7 (by decide) ?_
    exact mw_i hx hb hr hlocks rfl hM hF hS (Nat.zero_le _) (Nat.zero_le _) ⟨by simp [k_partsFit, bI, c1], rfl⟩ dd_K_partsFit_8

set_option maxHeartbeats 4000000 in
set_option maxRecDepth 100000 in
theorem cc_L_init {l : Launch} {G : gC} {M : mC} {sz : Nat} {x : Nat} (mx : M x = some (.inr (0, [.null, .null, .int 0, .int 0, .int 0, .int 0]))) {aD aN : Nat → Nat} {D : Nat → dR} {N : Nat → nR} {pn : Nat → Nat → Int64} {pt : Nat → Nat → Int32} : cW l yy_L_init bb_L_init 1 none 4 2 6 G M sz [.ref x] (fun v u => v = none ∧ ∃ ld ln, rp G u x ld ln G.2.2.2.1 G.2.2.2.1 0 0 aD aN D N pn pt false 0 (-1) 0) := by
  refine me_W (by decide) (Nat.le_of_ble_eq_true rfl) ?_
  intro p e s m below meth c ls hx hb hr hlocks hml hown hname ht hsz hM hK hZ hl
  have hown : s.vm.findClass RR_L = some m.cls := hown
  have hl : lv_has ls 1 [(0, .ref x)] := hl
  have hS : va_S (fr M sz) s.heap s.heap [] := va_S.rf
  have hF : ∀ q, M q ≠ none → fr M sz q := fr_M
  have hA : ∀ q, s.heap.size ≤ q → fr M sz q := fun q h => fr_A q (by rw [← hsz]; exact h)
  refine lv_aload_n hx hb dd_L_init_0 rfl (lv_at hl 0 rfl) ?_
  refine W.objInit hx hb hown (ht _ wd_1_21) (ht _ wd_1_22) (ht _ wd_1_23) rfl (by rw [hml]; exact hl.1) rfl dd_L_init_1 (Nat.le_of_ble_eq_true rfl) (Nat.le_of_ble_eq_true rfl) ?_
  refine W.eq (g2 := F0 m 4 ls []) rfl ?_
  refine lv_aload_n hx hb dd_L_init_4 rfl (lv_at hl 0 rfl) ?_
  have hn1 : M sz = none := hm_new hM (by rw [hsz]; exact Nat.le_refl _)
  have ne2 : x ≠ sz := hm_ne mx hn1
  refine mg_new (ci := 3) hx hb ht ii_A tt_A tt_A_ok hown wd_1_24 wd_1_25 wd_1_4 hK hM hS rfl [.int 0, .null, .int 0] (fun j hj => by rcases (show j = 0 ∨ j = 1 ∨ j = 2 by omega) with rfl | rfl | rfl <;> rfl) (Nat.le_of_ble_eq_true rfl) (Nat.le_of_ble_eq_true rfl) dd_L_init_5 (fun H hM hz hS => ?_)
  rw [hsz] at hM hz ⊢
  have hsz := hz
  have hM : hm G (mp_up M sz (.inr (3, [.int 0, .null, .int 0]))) H := hM
  have hF : ∀ z9, (mp_up M sz (.inr (3, [.int 0, .null, .int 0]))) z9 ≠ none → fr M sz z9 := hF_put hF (hA _ (by have := hS.1; omega))
  have mA1 : (mp_up M sz (.inr (3, [.int 0, .null, .int 0]))) sz = some (.inr (3, [.int 0, .null, .int 0])) := mp_self _ _ _
  refine lv_dup hx hb dd_L_init_8 rfl ?_
  have hFr := hF_fr hF hS hA
  refine mx_I (As := []) (rest := [.ref sz, .ref x]) 0 (cc_A_init mA1) hx hb hml hown ht hM hK hZ hS hFr hl.1 wd_1_28 wd_1_4 wd_1_26 wd_1_27 rfl (by decide +kernel) (by decide) rfl rfl (Nat.le_of_ble_eq_true rfl) dd_L_init_9 ⟨Nat.le_of_ble_eq_true rfl, Nat.le_of_ble_eq_true rfl⟩ (fun v u H locs hp hM hd hle hk hS => ?_)
  obtain ⟨rfl, hu⟩ := hp
  rw [hu] at hM hd
  clear hu
  have hF := fun z9 h => hFr z9 (hd z9 h)
  obtain ⟨z3, hsz⟩ : ∃ z9, H.size = z9 := ⟨_, rfl⟩
  have mA1 : (mp_up (mp_up M sz (.inr (3, [.int 0, .null, .int 0]))) sz (aC (0, G.2.2.2.1, 0))) sz = some (aC (0, G.2.2.2.1, 0)) := mp_self _ _ _
  have hM : hm G (mp_up (mp_up M sz (.inr (3, [.int 0, .null, .int 0]))) sz (aC (0, G.2.2.2.1, 0))) H := hM
  have mx := mp_old (M := M) (a := sz) (e := (.inr (3, [.int 0, .null, .int 0]))) mx hn1
  have mx := mp_at (M := (mp_up M sz (.inr (3, [.int 0, .null, .int 0])))) (a := sz) (e := (aC (0, G.2.2.2.1, 0))) ne2 mx
  refine mg_put (v := .ref sz) hx hb ht ii_L tt_L tt_L_ok nn_L hown hK hM hS (hF _ (by rw [mx]; exact Option.some_ne_none _)) mx rfl 0 (by decide) wd_1_50 (fun _ h => h) (Or.inr ⟨rfl, hname, rfl⟩) rfl rfl rfl (Nat.le_of_ble_eq_true rfl) dd_L_init_12 (fun H locs hM hz hoq hS => ?_)
  have hsz := hz.trans hsz
  have hM : hm G (mp_up (mp_up (mp_up M sz (.inr (3, [.int 0, .null, .int 0]))) sz (aC (0, G.2.2.2.1, 0))) x (.inr (0, [.ref sz, .null, .int 0, .int 0, .int 0, .int 0]))) H := hM
  have hF : ∀ z9, (mp_up (mp_up (mp_up M sz (.inr (3, [.int 0, .null, .int 0]))) sz (aC (0, G.2.2.2.1, 0))) x (.inr (0, [.ref sz, .null, .int 0, .int 0, .int 0, .int 0]))) z9 ≠ none → fr M sz z9 := hF_put hF (hF _ (by rw [mx]; exact Option.some_ne_none _))
  have mx : (mp_up (mp_up (mp_up M sz (.inr (3, [.int 0, .null, .int 0]))) sz (aC (0, G.2.2.2.1, 0))) x (.inr (0, [.ref sz, .null, .int 0, .int 0, .int 0, .int 0]))) x = some (.inr (0, [.ref sz, .null, .int 0, .int 0, .int 0, .int 0])) := mp_self _ _ _
  refine lv_aload_n hx hb dd_L_init_15 rfl (lv_at hl 0 rfl) ?_
  have hn4 : (mp_up (mp_up (mp_up M sz (.inr (3, [.int 0, .null, .int 0]))) sz (aC (0, G.2.2.2.1, 0))) x (.inr (0, [.ref sz, .null, .int 0, .int 0, .int 0, .int 0]))) z3 = none := hm_new hM (by rw [hsz]; exact Nat.le_refl _)
  have ne5 : x ≠ z3 := hm_ne mx hn4
  have mA1 := mp_at (M := (mp_up (mp_up M sz (.inr (3, [.int 0, .null, .int 0]))) sz (aC (0, G.2.2.2.1, 0)))) (a := x) (e := (.inr (0, [.ref sz, .null, .int 0, .int 0, .int 0, .int 0]))) (Ne.symm ne2) mA1
  have ne6 : sz ≠ z3 := hm_ne mA1 hn4
  refine mg_new (ci := 3) hx hb ht ii_A tt_A tt_A_ok hown wd_1_24 wd_1_25 wd_1_4 hK hM hS rfl [.int 0, .null, .int 0] (fun j hj => by rcases (show j = 0 ∨ j = 1 ∨ j = 2 by omega) with rfl | rfl | rfl <;> rfl) (Nat.le_of_ble_eq_true rfl) (Nat.le_of_ble_eq_true rfl) dd_L_init_16 (fun H hM hz hS => ?_)
  rw [hsz] at hM hz ⊢
  have hsz := hz
  have hM : hm G (mp_up (mp_up (mp_up (mp_up M sz (.inr (3, [.int 0, .null, .int 0]))) sz (aC (0, G.2.2.2.1, 0))) x (.inr (0, [.ref sz, .null, .int 0, .int 0, .int 0, .int 0]))) z3 (.inr (3, [.int 0, .null, .int 0]))) H := hM
  have hF : ∀ z9, (mp_up (mp_up (mp_up (mp_up M sz (.inr (3, [.int 0, .null, .int 0]))) sz (aC (0, G.2.2.2.1, 0))) x (.inr (0, [.ref sz, .null, .int 0, .int 0, .int 0, .int 0]))) z3 (.inr (3, [.int 0, .null, .int 0]))) z9 ≠ none → fr M sz z9 := hF_put hF (hA _ (by have := hS.1; omega))
  have mA2 : (mp_up (mp_up (mp_up (mp_up M sz (.inr (3, [.int 0, .null, .int 0]))) sz (aC (0, G.2.2.2.1, 0))) x (.inr (0, [.ref sz, .null, .int 0, .int 0, .int 0, .int 0]))) z3 (.inr (3, [.int 0, .null, .int 0]))) z3 = some (.inr (3, [.int 0, .null, .int 0])) := mp_self _ _ _
  refine lv_dup hx hb dd_L_init_19 rfl ?_
  have hFr := hF_fr hF hS hA
  refine mx_I (As := []) (rest := [.ref z3, .ref x]) 0 (cc_A_init mA2) hx hb hml hown ht hM hK hZ hS hFr hl.1 wd_1_28 wd_1_4 wd_1_26 wd_1_27 rfl (by decide +kernel) (by decide) rfl rfl (Nat.le_of_ble_eq_true rfl) dd_L_init_20 ⟨Nat.le_of_ble_eq_true rfl, Nat.le_of_ble_eq_true rfl⟩ (fun v u H locs hp hM hd hle hk hS => ?_)
  obtain ⟨rfl, hu⟩ := hp
  rw [hu] at hM hd
  clear hu
  have hF := fun z9 h => hFr z9 (hd z9 h)
  obtain ⟨z7, hsz⟩ : ∃ z9, H.size = z9 := ⟨_, rfl⟩
  have mA2 : (mp_up (mp_up (mp_up (mp_up (mp_up M sz (.inr (3, [.int 0, .null, .int 0]))) sz (aC (0, G.2.2.2.1, 0))) x (.inr (0, [.ref sz, .null, .int 0, .int 0, .int 0, .int 0]))) z3 (.inr (3, [.int 0, .null, .int 0]))) z3 (aC (0, G.2.2.2.1, 0))) z3 = some (aC (0, G.2.2.2.1, 0)) := mp_self _ _ _
  have hM : hm G (mp_up (mp_up (mp_up (mp_up (mp_up M sz (.inr (3, [.int 0, .null, .int 0]))) sz (aC (0, G.2.2.2.1, 0))) x (.inr (0, [.ref sz, .null, .int 0, .int 0, .int 0, .int 0]))) z3 (.inr (3, [.int 0, .null, .int 0]))) z3 (aC (0, G.2.2.2.1, 0))) H := hM
  have mx := mp_old (M := (mp_up (mp_up (mp_up M sz (.inr (3, [.int 0, .null, .int 0]))) sz (aC (0, G.2.2.2.1, 0))) x (.inr (0, [.ref sz, .null, .int 0, .int 0, .int 0, .int 0])))) (a := z3) (e := (.inr (3, [.int 0, .null, .int 0]))) mx hn4
  have mx := mp_at (M := (mp_up (mp_up (mp_up (mp_up M sz (.inr (3, [.int 0, .null, .int 0]))) sz (aC (0, G.2.2.2.1, 0))) x (.inr (0, [.ref sz, .null, .int 0, .int 0, .int 0, .int 0]))) z3 (.inr (3, [.int 0, .null, .int 0])))) (a := z3) (e := (aC (0, G.2.2.2.1, 0))) ne5 mx
  refine mg_put (v := .ref z3) hx hb ht ii_L tt_L tt_L_ok nn_L hown hK hM hS (hF _ (by rw [mx]; exact Option.some_ne_none _)) mx rfl 1 (by decide) wd_1_51 (fun _ h => h) (Or.inr ⟨rfl, hname, rfl⟩) rfl rfl rfl (Nat.le_of_ble_eq_true rfl) dd_L_init_23 (fun H locs hM hz hoq hS => ?_)
  have hsz := hz.trans hsz
  have hM : hm G (mp_up (mp_up (mp_up (mp_up (mp_up (mp_up M sz (.inr (3, [.int 0, .null, .int 0]))) sz (aC (0, G.2.2.2.1, 0))) x (.inr (0, [.ref sz, .null, .int 0, .int 0, .int 0, .int 0]))) z3 (.inr (3, [.int 0, .null, .int 0]))) z3 (aC (0, G.2.2.2.1, 0))) x (.inr (0, [.ref sz, .ref z3, .int 0, .int 0, .int 0, .int 0]))) H := hM
  have hF : ∀ z9, (mp_up (mp_up (mp_up (mp_up (mp_up (mp_up M sz (.inr (3, [.int 0, .null, .int 0]))) sz (aC (0, G.2.2.2.1, 0))) x (.inr (0, [.ref sz, .null, .int 0, .int 0, .int 0, .int 0]))) z3 (.inr (3, [.int 0, .null, .int 0]))) z3 (aC (0, G.2.2.2.1, 0))) x (.inr (0, [.ref sz, .ref z3, .int 0, .int 0, .int 0, .int 0]))) z9 ≠ none → fr M sz z9 := hF_put hF (hF _ (by rw [mx]; exact Option.some_ne_none _))
  have mx : (mp_up (mp_up (mp_up (mp_up (mp_up (mp_up M sz (.inr (3, [.int 0, .null, .int 0]))) sz (aC (0, G.2.2.2.1, 0))) x (.inr (0, [.ref sz, .null, .int 0, .int 0, .int 0, .int 0]))) z3 (.inr (3, [.int 0, .null, .int 0]))) z3 (aC (0, G.2.2.2.1, 0))) x (.inr (0, [.ref sz, .ref z3, .int 0, .int 0, .int 0, .int 0]))) x = some (.inr (0, [.ref sz, .ref z3, .int 0, .int 0, .int 0, .int 0])) := mp_self _ _ _
  refine lv_aload_n hx hb dd_L_init_26 rfl (lv_at hl 0 rfl) ?_
  refine lv_iconst (v := 0) hx hb dd_L_init_27 (by decide) ?_
  refine mg_put (v := .int 0) hx hb ht ii_L tt_L tt_L_ok nn_L hown hK hM hS (hF _ (by rw [mx]; exact Option.some_ne_none _)) mx rfl 2 (by decide) wd_1_52 (fun _ h => h) (Or.inl rfl) rfl rfl rfl (Nat.le_of_ble_eq_true rfl) dd_L_init_28 (fun H locs hM hz hoq hS => ?_)
  have hsz := hz.trans hsz
  rw [mp_mp] at hM
  have hM : hm G (mp_up (mp_up (mp_up (mp_up (mp_up (mp_up M sz (.inr (3, [.int 0, .null, .int 0]))) sz (aC (0, G.2.2.2.1, 0))) x (.inr (0, [.ref sz, .null, .int 0, .int 0, .int 0, .int 0]))) z3 (.inr (3, [.int 0, .null, .int 0]))) z3 (aC (0, G.2.2.2.1, 0))) x (.inr (0, [.ref sz, .ref z3, .int 0, .int 0, .int 0, .int 0]))) H := hM
  have hF : ∀ z9, (mp_up (mp_up (mp_up (mp_up (mp_up (mp_up M sz (.inr (3, [.int 0, .null, .int 0]))) sz (aC (0, G.2.2.2.1, 0))) x (.inr (0, [.ref sz, .null, .int 0, .int 0, .int 0, .int 0]))) z3 (.inr (3, [.int 0, .null, .int 0]))) z3 (aC (0, G.2.2.2.1, 0))) x (.inr (0, [.ref sz, .ref z3, .int 0, .int 0, .int 0, .int 0]))) z9 ≠ none → fr M sz z9 := hF_same hF
  have mx : (mp_up (mp_up (mp_up (mp_up (mp_up (mp_up M sz (.inr (3, [.int 0, .null, .int 0]))) sz (aC (0, G.2.2.2.1, 0))) x (.inr (0, [.ref sz, .null, .int 0, .int 0, .int 0, .int 0]))) z3 (.inr (3, [.int 0, .null, .int 0]))) z3 (aC (0, G.2.2.2.1, 0))) x (.inr (0, [.ref sz, .ref z3, .int 0, .int 0, .int 0, .int 0]))) x = some (.inr (0, [.ref sz, .ref z3, .int 0, .int 0, .int 0, .int 0])) := mp_self _ _ _
  refine lv_aload_n hx hb dd_L_init_31 rfl (lv_at hl 0 rfl) ?_
  refine lv_iconst (v := 0) hx hb dd_L_init_32 (by decide) ?_
  refine mg_put (v := .int 0) hx hb ht ii_L tt_L tt_L_ok nn_L hown hK hM hS (hF _ (by rw [mx]; exact Option.some_ne_none _)) mx rfl 3 (by decide) wd_1_53 (fun _ h => h) (Or.inl rfl) rfl rfl rfl (Nat.le_of_ble_eq_true rfl) dd_L_init_33 (fun H locs hM hz hoq hS => ?_)
  have hsz := hz.trans hsz
  rw [mp_mp] at hM
  have hM : hm G (mp_up (mp_up (mp_up (mp_up (mp_up (mp_up M sz (.inr (3, [.int 0, .null, .int 0]))) sz (aC (0, G.2.2.2.1, 0))) x (.inr (0, [.ref sz, .null, .int 0, .int 0, .int 0, .int 0]))) z3 (.inr (3, [.int 0, .null, .int 0]))) z3 (aC (0, G.2.2.2.1, 0))) x (.inr (0, [.ref sz, .ref z3, .int 0, .int 0, .int 0, .int 0]))) H := hM
  have hF : ∀ z9, (mp_up (mp_up (mp_up (mp_up (mp_up (mp_up M sz (.inr (3, [.int 0, .null, .int 0]))) sz (aC (0, G.2.2.2.1, 0))) x (.inr (0, [.ref sz, .null, .int 0, .int 0, .int 0, .int 0]))) z3 (.inr (3, [.int 0, .null, .int 0]))) z3 (aC (0, G.2.2.2.1, 0))) x (.inr (0, [.ref sz, .ref z3, .int 0, .int 0, .int 0, .int 0]))) z9 ≠ none → fr M sz z9 := hF_same hF
  have mx : (mp_up (mp_up (mp_up (mp_up (mp_up (mp_up M sz (.inr (3, [.int 0, .null, .int 0]))) sz (aC (0, G.2.2.2.1, 0))) x (.inr (0, [.ref sz, .null, .int 0, .int 0, .int 0, .int 0]))) z3 (.inr (3, [.int 0, .null, .int 0]))) z3 (aC (0, G.2.2.2.1, 0))) x (.inr (0, [.ref sz, .ref z3, .int 0, .int 0, .int 0, .int 0]))) x = some (.inr (0, [.ref sz, .ref z3, .int 0, .int 0, .int 0, .int 0])) := mp_self _ _ _
  refine lv_aload_n hx hb dd_L_init_36 rfl (lv_at hl 0 rfl) ?_
  refine lv_iconst (v := -1) hx hb dd_L_init_37 (by decide) ?_
  refine mg_put (v := .int (-1)) hx hb ht ii_L tt_L tt_L_ok nn_L hown hK hM hS (hF _ (by rw [mx]; exact Option.some_ne_none _)) mx rfl 4 (by decide) wd_1_54 (fun _ h => h) (Or.inl rfl) rfl rfl rfl (Nat.le_of_ble_eq_true rfl) dd_L_init_38 (fun H locs hM hz hoq hS => ?_)
  have hsz := hz.trans hsz
  rw [mp_mp] at hM
  have hM : hm G (mp_up (mp_up (mp_up (mp_up (mp_up (mp_up M sz (.inr (3, [.int 0, .null, .int 0]))) sz (aC (0, G.2.2.2.1, 0))) x (.inr (0, [.ref sz, .null, .int 0, .int 0, .int 0, .int 0]))) z3 (.inr (3, [.int 0, .null, .int 0]))) z3 (aC (0, G.2.2.2.1, 0))) x (.inr (0, [.ref sz, .ref z3, .int 0, .int 0, .int (-1), .int 0]))) H := hM
  have hF : ∀ z9, (mp_up (mp_up (mp_up (mp_up (mp_up (mp_up M sz (.inr (3, [.int 0, .null, .int 0]))) sz (aC (0, G.2.2.2.1, 0))) x (.inr (0, [.ref sz, .null, .int 0, .int 0, .int 0, .int 0]))) z3 (.inr (3, [.int 0, .null, .int 0]))) z3 (aC (0, G.2.2.2.1, 0))) x (.inr (0, [.ref sz, .ref z3, .int 0, .int 0, .int (-1), .int 0]))) z9 ≠ none → fr M sz z9 := hF_same hF
  have mx : (mp_up (mp_up (mp_up (mp_up (mp_up (mp_up M sz (.inr (3, [.int 0, .null, .int 0]))) sz (aC (0, G.2.2.2.1, 0))) x (.inr (0, [.ref sz, .null, .int 0, .int 0, .int 0, .int 0]))) z3 (.inr (3, [.int 0, .null, .int 0]))) z3 (aC (0, G.2.2.2.1, 0))) x (.inr (0, [.ref sz, .ref z3, .int 0, .int 0, .int (-1), .int 0]))) x = some (.inr (0, [.ref sz, .ref z3, .int 0, .int 0, .int (-1), .int 0])) := mp_self _ _ _
  refine lv_aload_n hx hb dd_L_init_41 rfl (lv_at hl 0 rfl) ?_
  refine lv_iconst (v := 0) hx hb dd_L_init_42 (by decide) ?_
  refine mg_put (v := .int 0) hx hb ht ii_L tt_L tt_L_ok nn_L hown hK hM hS (hF _ (by rw [mx]; exact Option.some_ne_none _)) mx rfl 5 (by decide) wd_1_55 (fun _ h => h) (Or.inl rfl) rfl rfl rfl (Nat.le_of_ble_eq_true rfl) dd_L_init_43 (fun H locs hM hz hoq hS => ?_)
  have hsz := hz.trans hsz
  rw [mp_mp] at hM
  have hM : hm G (mp_up (mp_up (mp_up (mp_up (mp_up (mp_up M sz (.inr (3, [.int 0, .null, .int 0]))) sz (aC (0, G.2.2.2.1, 0))) x (.inr (0, [.ref sz, .null, .int 0, .int 0, .int 0, .int 0]))) z3 (.inr (3, [.int 0, .null, .int 0]))) z3 (aC (0, G.2.2.2.1, 0))) x (.inr (0, [.ref sz, .ref z3, .int 0, .int 0, .int (-1), .int 0]))) H := hM
  have hF : ∀ z9, (mp_up (mp_up (mp_up (mp_up (mp_up (mp_up M sz (.inr (3, [.int 0, .null, .int 0]))) sz (aC (0, G.2.2.2.1, 0))) x (.inr (0, [.ref sz, .null, .int 0, .int 0, .int 0, .int 0]))) z3 (.inr (3, [.int 0, .null, .int 0]))) z3 (aC (0, G.2.2.2.1, 0))) x (.inr (0, [.ref sz, .ref z3, .int 0, .int 0, .int (-1), .int 0]))) z9 ≠ none → fr M sz z9 := hF_same hF
  have mx : (mp_up (mp_up (mp_up (mp_up (mp_up (mp_up M sz (.inr (3, [.int 0, .null, .int 0]))) sz (aC (0, G.2.2.2.1, 0))) x (.inr (0, [.ref sz, .null, .int 0, .int 0, .int 0, .int 0]))) z3 (.inr (3, [.int 0, .null, .int 0]))) z3 (aC (0, G.2.2.2.1, 0))) x (.inr (0, [.ref sz, .ref z3, .int 0, .int 0, .int (-1), .int 0]))) x = some (.inr (0, [.ref sz, .ref z3, .int 0, .int 0, .int (-1), .int 0])) := mp_self _ _ _
  have mA1 := mp_old (M := (mp_up (mp_up (mp_up M sz (.inr (3, [.int 0, .null, .int 0]))) sz (aC (0, G.2.2.2.1, 0))) x (.inr (0, [.ref sz, .null, .int 0, .int 0, .int 0, .int 0])))) (a := z3) (e := (.inr (3, [.int 0, .null, .int 0]))) mA1 hn4
  have mA1 := mp_at (M := (mp_up (mp_up (mp_up (mp_up M sz (.inr (3, [.int 0, .null, .int 0]))) sz (aC (0, G.2.2.2.1, 0))) x (.inr (0, [.ref sz, .null, .int 0, .int 0, .int 0, .int 0]))) z3 (.inr (3, [.int 0, .null, .int 0])))) (a := z3) (e := (aC (0, G.2.2.2.1, 0))) ne6 mA1
  have mA1 := mp_at (M := (mp_up (mp_up (mp_up (mp_up (mp_up M sz (.inr (3, [.int 0, .null, .int 0]))) sz (aC (0, G.2.2.2.1, 0))) x (.inr (0, [.ref sz, .null, .int 0, .int 0, .int 0, .int 0]))) z3 (.inr (3, [.int 0, .null, .int 0]))) z3 (aC (0, G.2.2.2.1, 0)))) (a := x) (e := (.inr (0, [.ref sz, .ref z3, .int 0, .int 0, .int (-1), .int 0]))) (Ne.symm ne2) mA1
  have mA2 := mp_at (M := (mp_up (mp_up (mp_up (mp_up (mp_up M sz (.inr (3, [.int 0, .null, .int 0]))) sz (aC (0, G.2.2.2.1, 0))) x (.inr (0, [.ref sz, .null, .int 0, .int 0, .int 0, .int 0]))) z3 (.inr (3, [.int 0, .null, .int 0]))) z3 (aC (0, G.2.2.2.1, 0)))) (a := x) (e := (.inr (0, [.ref sz, .ref z3, .int 0, .int 0, .int (-1), .int 0]))) (Ne.symm ne5) mA2
  exact mw_v hx hb hr hlocks hM hF hS (Nat.le_of_ble_eq_true rfl) (Nat.le_of_ble_eq_true rfl) ⟨rfl, sz, z3, rp_nil mx ⟨_, mA1, Or.inl ⟨rfl, rfl⟩⟩ ⟨_, mA2, Or.inl ⟨rfl, rfl⟩⟩ ne6 (fun _ => rfl)⟩ dd_L_init_46

set_option maxHeartbeats 4000000 in
set_option maxRecDepth 100000 in
theorem cc_L_clear {l : Launch} {G : gC} {M : mC} {sz : Nat} {x ld ln ed en nd nn : Nat} {aD aN : Nat → Nat} {D : Nat → dR} {N : Nat → nR} {pn : Nat → Nat → Int64} {pt : Nat → Nat → Int32} {kn : Bool} {ft fn mv : Int32} (hR : rp G M x ld ln ed en nd nn aD aN D N pn pt kn ft fn mv) {bD bN : Nat → Nat} {D' : Nat → dR} {N' : Nat → nR} {pn' : Nat → Nat → Int64} {pt' : Nat → Nat → Int32} : cW l yy_L_clear bb_L_clear 1 none 1 0 0 G M sz [.ref x] (fun v u => v = none ∧ rp G u x ld ln ed en 0 0 bD bN D' N' pn' pt' false 0 (-1) 0) := by
  refine me_W (by decide) (Nat.le_of_ble_eq_true rfl) ?_
  intro p e s m below meth c ls hx hb hr hlocks hml hown hname ht hsz hM hK hZ hl
  have hown : s.vm.findClass RR_L = some m.cls := hown
  have hl : lv_has ls 1 [(0, .ref x)] := hl
  have hS : va_S (fr M sz) s.heap s.heap [] := va_S.rf
  have hF : ∀ q, M q ≠ none → fr M sz q := fr_M
  have hA : ∀ q, s.heap.size ≤ q → fr M sz q := fun q h => fr_A q (by rw [← hsz]; exact h)
  obtain ⟨mx, hLd, hLn, hD, hN, hAp, hnd, hnn⟩ := id hR
  obtain ⟨cl, ml⟩ := ls_obj hLd
  obtain ⟨ck, mk⟩ := ls_obj hLn
  have h00 := mz_none hZ
  have hE := mz_E hZ
  have hLd0 := hLd
  refine lv_aload_n hx hb dd_L_clear_0 rfl (lv_at hl 0 rfl) ?_
  refine mg_get hx hb ht ii_L hown hK hM mx rfl 0 (by decide) wd_1_50 (fun _ h => h) rfl dd_L_clear_1 ?_
  have hFr := hF_fr hF hS hA
  refine mx_V (As := []) (rest := []) 0 (cc_A_clear (g' := bD) hLd) hx hb hml hown ht hM hK hZ hS hFr hl.1 lk_L_33 (by decide +kernel) (by decide) ml rfl rfl rfl (Nat.le_of_ble_eq_true rfl) dd_L_clear_4 ⟨Nat.zero_le _, Nat.zero_le _⟩ (fun v u1 H locs hp hM hd hle hk hS => ?_)
  obtain ⟨rfl, hLd, hq⟩ := hp
  have hF := fun z9 h => hFr z9 (hd z9 h)
  have mx := ls_x hLd0 h00 mx hq
  have hLn := ls_other hLd0 hLn h00 hAp.1 hAp.2.1 hq
  obtain ⟨ck, mk⟩ := ls_obj hLn
  have h01 := e_none hF hE
  have hLn0 := hLn
  obtain ⟨z1, hsz⟩ : ∃ z9, H.size = z9 := ⟨_, rfl⟩
  refine lv_aload_n hx hb dd_L_clear_7 rfl (lv_at hl 0 rfl) ?_
  refine mg_get hx hb ht ii_L hown hK hM mx rfl 1 (by decide) wd_1_51 (fun _ h => h) rfl dd_L_clear_8 ?_
  have hFr := hF_fr hF hS hA
  refine mx_V (As := []) (rest := []) 0 (cc_A_clear (g' := bN) hLn) hx hb hml hown ht hM hK hZ hS hFr hl.1 lk_L_33 (by decide +kernel) (by decide) mk rfl rfl rfl (Nat.le_of_ble_eq_true rfl) dd_L_clear_11 ⟨Nat.zero_le _, Nat.zero_le _⟩ (fun v u2 H locs hp hM hd hle hk hS => ?_)
  obtain ⟨rfl, hLn, hq⟩ := hp
  have hF := fun z9 h => hFr z9 (hd z9 h)
  have mx := ls_x hLn0 h01 mx hq
  have hLd := ls_other hLn0 hLd h01 (Ne.symm hAp.1) (fun e => by rw [e]; exact hAp.2.1 e.symm) hq
  obtain ⟨cl, ml⟩ := ls_obj hLd
  obtain ⟨ck, mk⟩ := ls_obj hLn
  have h02 := e_none hF hE
  obtain ⟨z2, hsz⟩ : ∃ z9, H.size = z9 := ⟨_, rfl⟩
  refine lv_aload_n hx hb dd_L_clear_14 rfl (lv_at hl 0 rfl) ?_
  refine lv_iconst (v := 0) hx hb dd_L_clear_15 (by decide) ?_
  have mx0 := mx
  refine mg_put (v := .int 0) hx hb ht ii_L tt_L tt_L_ok nn_L hown hK hM hS (hF _ (by rw [mx]; exact Option.some_ne_none _)) mx rfl 2 (by decide) wd_1_52 (fun _ h => h) (Or.inl rfl) rfl rfl rfl (Nat.le_of_ble_eq_true rfl) dd_L_clear_16 (fun H locs hM hz hoq hS => ?_)
  have hsz := hz.trans hsz
  have hM : hm G (mp_up u2 x (.inr (0, [.ref ld, .ref ln, .int 0, .int ft, .int fn, .int mv]))) H := hM
  have hF : ∀ z9, (mp_up u2 x (.inr (0, [.ref ld, .ref ln, .int 0, .int ft, .int fn, .int mv]))) z9 ≠ none → fr M sz z9 := hF_put hF (hF _ (by rw [mx]; exact Option.some_ne_none _))
  have mx : (mp_up u2 x (.inr (0, [.ref ld, .ref ln, .int 0, .int ft, .int fn, .int mv]))) x = some (.inr (0, [.ref ld, .ref ln, .int 0, .int ft, .int fn, .int mv])) := mp_self _ _ _
  refine lv_aload_n hx hb dd_L_clear_19 rfl (lv_at hl 0 rfl) ?_
  refine lv_iconst (v := 0) hx hb dd_L_clear_20 (by decide) ?_
  refine mg_put (v := .int 0) hx hb ht ii_L tt_L tt_L_ok nn_L hown hK hM hS (hF _ (by rw [mx]; exact Option.some_ne_none _)) mx rfl 3 (by decide) wd_1_53 (fun _ h => h) (Or.inl rfl) rfl rfl rfl (Nat.le_of_ble_eq_true rfl) dd_L_clear_21 (fun H locs hM hz hoq hS => ?_)
  have hsz := hz.trans hsz
  rw [mp_mp] at hM
  have hM : hm G (mp_up u2 x (.inr (0, [.ref ld, .ref ln, .int 0, .int 0, .int fn, .int mv]))) H := hM
  have hF : ∀ z9, (mp_up u2 x (.inr (0, [.ref ld, .ref ln, .int 0, .int 0, .int fn, .int mv]))) z9 ≠ none → fr M sz z9 := hF_same hF
  have mx : (mp_up u2 x (.inr (0, [.ref ld, .ref ln, .int 0, .int 0, .int fn, .int mv]))) x = some (.inr (0, [.ref ld, .ref ln, .int 0, .int 0, .int fn, .int mv])) := mp_self _ _ _
  refine lv_aload_n hx hb dd_L_clear_24 rfl (lv_at hl 0 rfl) ?_
  refine lv_iconst (v := -1) hx hb dd_L_clear_25 (by decide) ?_
  refine mg_put (v := .int (-1)) hx hb ht ii_L tt_L tt_L_ok nn_L hown hK hM hS (hF _ (by rw [mx]; exact Option.some_ne_none _)) mx rfl 4 (by decide) wd_1_54 (fun _ h => h) (Or.inl rfl) rfl rfl rfl (Nat.le_of_ble_eq_true rfl) dd_L_clear_26 (fun H locs hM hz hoq hS => ?_)
  have hsz := hz.trans hsz
  rw [mp_mp] at hM
  have hM : hm G (mp_up u2 x (.inr (0, [.ref ld, .ref ln, .int 0, .int 0, .int (-1), .int mv]))) H := hM
  have hF : ∀ z9, (mp_up u2 x (.inr (0, [.ref ld, .ref ln, .int 0, .int 0, .int (-1), .int mv]))) z9 ≠ none → fr M sz z9 := hF_same hF
  have mx : (mp_up u2 x (.inr (0, [.ref ld, .ref ln, .int 0, .int 0, .int (-1), .int mv]))) x = some (.inr (0, [.ref ld, .ref ln, .int 0, .int 0, .int (-1), .int mv])) := mp_self _ _ _
  refine lv_aload_n hx hb dd_L_clear_29 rfl (lv_at hl 0 rfl) ?_
  refine lv_iconst (v := 0) hx hb dd_L_clear_30 (by decide) ?_
  refine mg_put (v := .int 0) hx hb ht ii_L tt_L tt_L_ok nn_L hown hK hM hS (hF _ (by rw [mx]; exact Option.some_ne_none _)) mx rfl 5 (by decide) wd_1_55 (fun _ h => h) (Or.inl rfl) rfl rfl rfl (Nat.le_of_ble_eq_true rfl) dd_L_clear_31 (fun H locs hM hz hoq hS => ?_)
  have hsz := hz.trans hsz
  rw [mp_mp] at hM
  have hM : hm G (mp_up u2 x (.inr (0, [.ref ld, .ref ln, .int 0, .int 0, .int (-1), .int 0]))) H := hM
  have hF : ∀ z9, (mp_up u2 x (.inr (0, [.ref ld, .ref ln, .int 0, .int 0, .int (-1), .int 0]))) z9 ≠ none → fr M sz z9 := hF_same hF
  have mx : (mp_up u2 x (.inr (0, [.ref ld, .ref ln, .int 0, .int 0, .int (-1), .int 0]))) x = some (.inr (0, [.ref ld, .ref ln, .int 0, .int 0, .int (-1), .int 0])) := mp_self _ _ _
  exact mw_v hx hb hr hlocks hM hF hS (Nat.zero_le _) (Nat.zero_le _) ⟨rfl, rp_nil mx (ls_up hLd h02 mx0 (fun _ z => by cases z) (fun _ _ z => by cases z)) (ls_up hLn h02 mx0 (fun _ z => by cases z) (fun _ _ z => by cases z)) hAp.1 hAp.2.1⟩ dd_L_clear_34
