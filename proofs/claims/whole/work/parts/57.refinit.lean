set_option maxHeartbeats 4000000 in
set_option maxRecDepth 100000 in
theorem cc_M_init {l : Launch} {G : gC} {M : mC} {sz : Nat} {y : Nat} (my : M y = some (.inr (4, [.int 0, .int 0, .null, .null, .null, .null, .null, .null, .null, .int 0, .null, .null, .null, .null, .null, .null, .null, .null, .null, .null, .null, .int 0, .int 0, .int 0, .int 0]))) : cW l yy_M_init bb_M_init 1 none 1 18 46401 G M sz [.ref y] (fun v u => v = none ∧ rm G u y sz 0 0 (fun _ _ => 0) (fun _ _ => 0) (fun _ => 0) false 0 (-1) 0 0) := by
  refine me_W (by decide) (Nat.le_of_ble_eq_true rfl) ?_
  intro p e s m below meth c ls hx hb hr hlocks hml hown hname ht hsz hM hK hZ hl
  have hown : s.vm.findClass RR_M = some m.cls := hown
  have hl : lv_has ls 1 [(0, .ref y)] := hl
  have hS : va_S (fr M sz) s.heap s.heap [] := va_S.rf
  have hF : ∀ q, M q ≠ none → fr M sz q := fr_M
  have hA : ∀ q, s.heap.size ≤ q → fr M sz q := fun q h => fr_A q (by rw [← hsz]; exact h)
  have hsz0 := hsz
  have hyb : y < sz := by have := hm_lt hM my; omega
  refine lv_aload_n hx hb dd_M_init_0 rfl (lv_at hl 0 rfl) ?_
  refine W.objInit hx hb hown (ht _ wd_2_212) (ht _ wd_1_22) (ht _ wd_1_23) rfl (by rw [hml]; exact hl.1) rfl dd_M_init_1 (Nat.le_of_ble_eq_true rfl) (Nat.le_of_ble_eq_true rfl) ?_
  refine W.eq (g2 := F0 m 4 ls []) rfl ?_
  refine lv_aload_n hx hb dd_M_init_4 rfl (lv_at hl 0 rfl) ?_
  refine lv_bipush (v := 64) hx hb dd_M_init_5 (by decide) ?_
  have hn : M sz = none := hm_new hM (by rw [hsz]; exact Nat.le_refl _)
  refine mg_newz (n := 64) (N := 64) hx hb ht wd_3_49 hK hM hS (by decide) i_64 (Nat.le_of_ble_eq_true rfl) (by show 0 + 1 ≤ 18; omega) (by show 0 + 64 ≤ 46401; omega) dd_M_init_7 (fun H hM hz hS => ?_)
  rw [hsz] at hM hz ⊢
  replace hsz : H.size = (sz + 1) := hz
  replace hM : hm G (mp_up M sz (zA G 64 (fun _ => 0))) H := hM
  replace hF : ∀ z9, (mp_up M sz (zA G 64 (fun _ => 0))) z9 ≠ none → fr M sz z9 := hF_put hF (hA _ (Nat.le_trans (Nat.le_of_eq hsz0) (Nat.le_refl _)))
  replace my := mp_old (e := zA G 64 (fun _ => 0)) my hn
  have a0 : (mp_up M sz (zA G 64 (fun _ => 0))) sz = some (zA G 64 (fun _ => 0)) := mp_self _ _ _
  obtain ⟨u1, eu1⟩ : ∃ z, z = (mp_up M sz (zA G 64 (fun _ => 0))) := ⟨_, rfl⟩
  rw [← eu1] at hM hF my a0
  clear eu1
  refine mg_put (v := .ref sz) hx hb ht ii_M tt_M tt_M_ok nn_M hown hK hM hS (hF _ (by rw [my]; exact Option.some_ne_none _)) my rfl 2 (by decide) wd_2_215 (fun _ h => h) (Or.inr ⟨rfl, hname, rfl⟩) rfl rfl rfl (Nat.le_of_ble_eq_true rfl) dd_M_init_9 (fun H locs hM hz hoq hS => ?_)
  replace hsz := hz.trans hsz
  replace hM : hm G (mp_up u1 y (.inr (4, [.int 0, .int 0, .ref sz, .null, .null, .null, .null, .null, .null, .int 0, .null, .null, .null, .null, .null, .null, .null, .null, .null, .null, .null, .int 0, .int 0, .int 0, .int 0]))) H := hM
  replace hF : ∀ z9, (mp_up u1 y (.inr (4, [.int 0, .int 0, .ref sz, .null, .null, .null, .null, .null, .null, .int 0, .null, .null, .null, .null, .null, .null, .null, .null, .null, .null, .null, .int 0, .int 0, .int 0, .int 0]))) z9 ≠ none → fr M sz z9 := hF_put hF (hF _ (by rw [my]; exact Option.some_ne_none _))
  replace a0 := mp_at (e := (.inr (4, [.int 0, .int 0, .ref sz, .null, .null, .null, .null, .null, .null, .int 0, .null, .null, .null, .null, .null, .null, .null, .null, .null, .null, .null, .int 0, .int 0, .int 0, .int 0]))) (Nat.ne_of_gt hyb) a0
  replace my : (mp_up u1 y (.inr (4, [.int 0, .int 0, .ref sz, .null, .null, .null, .null, .null, .null, .int 0, .null, .null, .null, .null, .null, .null, .null, .null, .null, .null, .null, .int 0, .int 0, .int 0, .int 0]))) y = some (.inr (4, [.int 0, .int 0, .ref sz, .null, .null, .null, .null, .null, .null, .int 0, .null, .null, .null, .null, .null, .null, .null, .null, .null, .null, .null, .int 0, .int 0, .int 0, .int 0])) := mp_self _ _ _
  obtain ⟨u2, eu2⟩ : ∃ z, z = (mp_up u1 y (.inr (4, [.int 0, .int 0, .ref sz, .null, .null, .null, .null, .null, .null, .int 0, .null, .null, .null, .null, .null, .null, .null, .null, .null, .null, .null, .int 0, .int 0, .int 0, .int 0]))) := ⟨_, rfl⟩
  rw [← eu2] at hM hF my a0
  clear eu2
  refine lv_aload_n hx hb dd_M_init_12 rfl (lv_at hl 0 rfl) ?_
  refine lv_bipush (v := 64) hx hb dd_M_init_13 (by decide) ?_
  have hn : u2 (sz + 1) = none := hm_new hM (by rw [hsz]; exact Nat.le_refl _)
  refine mg_newl (n := 64) (N := 64) hx hb ht wd_1_165 hK hM hS (by decide) i_64 (Nat.le_of_ble_eq_true rfl) (by show 0 + 1 + 1 ≤ 18; omega) (by show 0 + 64 + 64 ≤ 46401; omega) dd_M_init_15 (fun H hM hz hS => ?_)
  rw [hsz] at hM hz ⊢
  replace hsz : H.size = (sz + 2) := hz
  replace hM : hm G (mp_up u2 (sz + 1) (lA G 64 (fun _ => 0))) H := hM
  replace hF : ∀ z9, (mp_up u2 (sz + 1) (lA G 64 (fun _ => 0))) z9 ≠ none → fr M sz z9 := hF_put hF (hA _ (Nat.le_trans (Nat.le_of_eq hsz0) (Nat.le_add_right _ _)))
  replace my := mp_old (e := lA G 64 (fun _ => 0)) my hn
  replace a0 := mp_old (e := lA G 64 (fun _ => 0)) a0 hn
  have a1 : (mp_up u2 (sz + 1) (lA G 64 (fun _ => 0))) (sz + 1) = some (lA G 64 (fun _ => 0)) := mp_self _ _ _
  obtain ⟨u3, eu3⟩ : ∃ z, z = (mp_up u2 (sz + 1) (lA G 64 (fun _ => 0))) := ⟨_, rfl⟩
  rw [← eu3] at hM hF my a0 a1
  clear eu3
  refine mg_put (v := .ref (sz + 1)) hx hb ht ii_M tt_M tt_M_ok nn_M hown hK hM hS (hF _ (by rw [my]; exact Option.some_ne_none _)) my rfl 3 (by decide) wd_2_216 (fun _ h => h) (Or.inr ⟨rfl, hname, rfl⟩) rfl rfl rfl (Nat.le_of_ble_eq_true rfl) dd_M_init_17 (fun H locs hM hz hoq hS => ?_)
  replace hsz := hz.trans hsz
  replace hM : hm G (mp_up u3 y (.inr (4, [.int 0, .int 0, .ref sz, .ref (sz + 1), .null, .null, .null, .null, .null, .int 0, .null, .null, .null, .null, .null, .null, .null, .null, .null, .null, .null, .int 0, .int 0, .int 0, .int 0]))) H := hM
  replace hF : ∀ z9, (mp_up u3 y (.inr (4, [.int 0, .int 0, .ref sz, .ref (sz + 1), .null, .null, .null, .null, .null, .int 0, .null, .null, .null, .null, .null, .null, .null, .null, .null, .null, .null, .int 0, .int 0, .int 0, .int 0]))) z9 ≠ none → fr M sz z9 := hF_put hF (hF _ (by rw [my]; exact Option.some_ne_none _))
  replace a0 := mp_at (e := (.inr (4, [.int 0, .int 0, .ref sz, .ref (sz + 1), .null, .null, .null, .null, .null, .int 0, .null, .null, .null, .null, .null, .null, .null, .null, .null, .null, .null, .int 0, .int 0, .int 0, .int 0]))) (Nat.ne_of_gt hyb) a0
  replace a1 := mp_at (e := (.inr (4, [.int 0, .int 0, .ref sz, .ref (sz + 1), .null, .null, .null, .null, .null, .int 0, .null, .null, .null, .null, .null, .null, .null, .null, .null, .null, .null, .int 0, .int 0, .int 0, .int 0]))) (ne_ad hyb 1) a1
  replace my : (mp_up u3 y (.inr (4, [.int 0, .int 0, .ref sz, .ref (sz + 1), .null, .null, .null, .null, .null, .int 0, .null, .null, .null, .null, .null, .null, .null, .null, .null, .null, .null, .int 0, .int 0, .int 0, .int 0]))) y = some (.inr (4, [.int 0, .int 0, .ref sz, .ref (sz + 1), .null, .null, .null, .null, .null, .int 0, .null, .null, .null, .null, .null, .null, .null, .null, .null, .null, .null, .int 0, .int 0, .int 0, .int 0])) := mp_self _ _ _
  obtain ⟨u4, eu4⟩ : ∃ z, z = (mp_up u3 y (.inr (4, [.int 0, .int 0, .ref sz, .ref (sz + 1), .null, .null, .null, .null, .null, .int 0, .null, .null, .null, .null, .null, .null, .null, .null, .null, .null, .null, .int 0, .int 0, .int 0, .int 0]))) := ⟨_, rfl⟩
  rw [← eu4] at hM hF my a0 a1
  clear eu4
  refine lv_aload_n hx hb dd_M_init_20 rfl (lv_at hl 0 rfl) ?_
  refine lv_bipush (v := 64) hx hb dd_M_init_21 (by decide) ?_
  have hn : u4 (sz + 2) = none := hm_new hM (by rw [hsz]; exact Nat.le_refl _)
  refine mg_newi (n := 64) (N := 64) hx hb ht wd_1_166 hK hM hS (by decide) i_64 (Nat.le_of_ble_eq_true rfl) (by show 0 + 1 + 1 + 1 ≤ 18; omega) (by show 0 + 64 + 64 + 64 ≤ 46401; omega) dd_M_init_23 (fun H hM hz hS => ?_)
  rw [hsz] at hM hz ⊢
  replace hsz : H.size = (sz + 3) := hz
  replace hM : hm G (mp_up u4 (sz + 2) (iA G 64 (fun _ => 0))) H := hM
  replace hF : ∀ z9, (mp_up u4 (sz + 2) (iA G 64 (fun _ => 0))) z9 ≠ none → fr M sz z9 := hF_put hF (hA _ (Nat.le_trans (Nat.le_of_eq hsz0) (Nat.le_add_right _ _)))
  replace my := mp_old (e := iA G 64 (fun _ => 0)) my hn
  replace a0 := mp_old (e := iA G 64 (fun _ => 0)) a0 hn
  replace a1 := mp_old (e := iA G 64 (fun _ => 0)) a1 hn
  have a2 : (mp_up u4 (sz + 2) (iA G 64 (fun _ => 0))) (sz + 2) = some (iA G 64 (fun _ => 0)) := mp_self _ _ _
  obtain ⟨u5, eu5⟩ : ∃ z, z = (mp_up u4 (sz + 2) (iA G 64 (fun _ => 0))) := ⟨_, rfl⟩
  rw [← eu5] at hM hF my a0 a1 a2
  clear eu5
  refine mg_put (v := .ref (sz + 2)) hx hb ht ii_M tt_M tt_M_ok nn_M hown hK hM hS (hF _ (by rw [my]; exact Option.some_ne_none _)) my rfl 4 (by decide) wd_2_217 (fun _ h => h) (Or.inr ⟨rfl, hname, rfl⟩) rfl rfl rfl (Nat.le_of_ble_eq_true rfl) dd_M_init_25 (fun H locs hM hz hoq hS => ?_)
  replace hsz := hz.trans hsz
  replace hM : hm G (mp_up u5 y (.inr (4, [.int 0, .int 0, .ref sz, .ref (sz + 1), .ref (sz + 2), .null, .null, .null, .null, .int 0, .null, .null, .null, .null, .null, .null, .null, .null, .null, .null, .null, .int 0, .int 0, .int 0, .int 0]))) H := hM
  replace hF : ∀ z9, (mp_up u5 y (.inr (4, [.int 0, .int 0, .ref sz, .ref (sz + 1), .ref (sz + 2), .null, .null, .null, .null, .int 0, .null, .null, .null, .null, .null, .null, .null, .null, .null, .null, .null, .int 0, .int 0, .int 0, .int 0]))) z9 ≠ none → fr M sz z9 := hF_put hF (hF _ (by rw [my]; exact Option.some_ne_none _))
  replace a0 := mp_at (e := (.inr (4, [.int 0, .int 0, .ref sz, .ref (sz + 1), .ref (sz + 2), .null, .null, .null, .null, .int 0, .null, .null, .null, .null, .null, .null, .null, .null, .null, .null, .null, .int 0, .int 0, .int 0, .int 0]))) (Nat.ne_of_gt hyb) a0
  replace a1 := mp_at (e := (.inr (4, [.int 0, .int 0, .ref sz, .ref (sz + 1), .ref (sz + 2), .null, .null, .null, .null, .int 0, .null, .null, .null, .null, .null, .null, .null, .null, .null, .null, .null, .int 0, .int 0, .int 0, .int 0]))) (ne_ad hyb 1) a1
  replace a2 := mp_at (e := (.inr (4, [.int 0, .int 0, .ref sz, .ref (sz + 1), .ref (sz + 2), .null, .null, .null, .null, .int 0, .null, .null, .null, .null, .null, .null, .null, .null, .null, .null, .null, .int 0, .int 0, .int 0, .int 0]))) (ne_ad hyb 2) a2
  replace my : (mp_up u5 y (.inr (4, [.int 0, .int 0, .ref sz, .ref (sz + 1), .ref (sz + 2), .null, .null, .null, .null, .int 0, .null, .null, .null, .null, .null, .null, .null, .null, .null, .null, .null, .int 0, .int 0, .int 0, .int 0]))) y = some (.inr (4, [.int 0, .int 0, .ref sz, .ref (sz + 1), .ref (sz + 2), .null, .null, .null, .null, .int 0, .null, .null, .null, .null, .null, .null, .null, .null, .null, .null, .null, .int 0, .int 0, .int 0, .int 0])) := mp_self _ _ _
  obtain ⟨u6, eu6⟩ : ∃ z, z = (mp_up u5 y (.inr (4, [.int 0, .int 0, .ref sz, .ref (sz + 1), .ref (sz + 2), .null, .null, .null, .null, .int 0, .null, .null, .null, .null, .null, .null, .null, .null, .null, .null, .null, .int 0, .int 0, .int 0, .int 0]))) := ⟨_, rfl⟩
  rw [← eu6] at hM hF my a0 a1 a2
  clear eu6
  refine lv_aload_n hx hb dd_M_init_28 rfl (lv_at hl 0 rfl) ?_
  refine lv_bipush (v := 64) hx hb dd_M_init_29 (by decide) ?_
  have hn : u6 (sz + 3) = none := hm_new hM (by rw [hsz]; exact Nat.le_refl _)
  refine mg_newi (n := 64) (N := 64) hx hb ht wd_1_166 hK hM hS (by decide) i_64 (Nat.le_of_ble_eq_true rfl) (by show 0 + 1 + 1 + 1 + 1 ≤ 18; omega) (by show 0 + 64 + 64 + 64 + 64 ≤ 46401; omega) dd_M_init_31 (fun H hM hz hS => ?_)
  rw [hsz] at hM hz ⊢
  replace hsz : H.size = (sz + 4) := hz
  replace hM : hm G (mp_up u6 (sz + 3) (iA G 64 (fun _ => 0))) H := hM
  replace hF : ∀ z9, (mp_up u6 (sz + 3) (iA G 64 (fun _ => 0))) z9 ≠ none → fr M sz z9 := hF_put hF (hA _ (Nat.le_trans (Nat.le_of_eq hsz0) (Nat.le_add_right _ _)))
  replace my := mp_old (e := iA G 64 (fun _ => 0)) my hn
  replace a0 := mp_old (e := iA G 64 (fun _ => 0)) a0 hn
  replace a1 := mp_old (e := iA G 64 (fun _ => 0)) a1 hn
  replace a2 := mp_old (e := iA G 64 (fun _ => 0)) a2 hn
  have a3 : (mp_up u6 (sz + 3) (iA G 64 (fun _ => 0))) (sz + 3) = some (iA G 64 (fun _ => 0)) := mp_self _ _ _
  obtain ⟨u7, eu7⟩ : ∃ z, z = (mp_up u6 (sz + 3) (iA G 64 (fun _ => 0))) := ⟨_, rfl⟩
  rw [← eu7] at hM hF my a0 a1 a2 a3
  clear eu7
  refine mg_put (v := .ref (sz + 3)) hx hb ht ii_M tt_M tt_M_ok nn_M hown hK hM hS (hF _ (by rw [my]; exact Option.some_ne_none _)) my rfl 5 (by decide) wd_2_218 (fun _ h => h) (Or.inr ⟨rfl, hname, rfl⟩) rfl rfl rfl (Nat.le_of_ble_eq_true rfl) dd_M_init_33 (fun H locs hM hz hoq hS => ?_)
  replace hsz := hz.trans hsz
  replace hM : hm G (mp_up u7 y (.inr (4, [.int 0, .int 0, .ref sz, .ref (sz + 1), .ref (sz + 2), .ref (sz + 3), .null, .null, .null, .int 0, .null, .null, .null, .null, .null, .null, .null, .null, .null, .null, .null, .int 0, .int 0, .int 0, .int 0]))) H := hM
  replace hF : ∀ z9, (mp_up u7 y (.inr (4, [.int 0, .int 0, .ref sz, .ref (sz + 1), .ref (sz + 2), .ref (sz + 3), .null, .null, .null, .int 0, .null, .null, .null, .null, .null, .null, .null, .null, .null, .null, .null, .int 0, .int 0, .int 0, .int 0]))) z9 ≠ none → fr M sz z9 := hF_put hF (hF _ (by rw [my]; exact Option.some_ne_none _))
  replace a0 := mp_at (e := (.inr (4, [.int 0, .int 0, .ref sz, .ref (sz + 1), .ref (sz + 2), .ref (sz + 3), .null, .null, .null, .int 0, .null, .null, .null, .null, .null, .null, .null, .null, .null, .null, .null, .int 0, .int 0, .int 0, .int 0]))) (Nat.ne_of_gt hyb) a0
  replace a1 := mp_at (e := (.inr (4, [.int 0, .int 0, .ref sz, .ref (sz + 1), .ref (sz + 2), .ref (sz + 3), .null, .null, .null, .int 0, .null, .null, .null, .null, .null, .null, .null, .null, .null, .null, .null, .int 0, .int 0, .int 0, .int 0]))) (ne_ad hyb 1) a1
  replace a2 := mp_at (e := (.inr (4, [.int 0, .int 0, .ref sz, .ref (sz + 1), .ref (sz + 2), .ref (sz + 3), .null, .null, .null, .int 0, .null, .null, .null, .null, .null, .null, .null, .null, .null, .null, .null, .int 0, .int 0, .int 0, .int 0]))) (ne_ad hyb 2) a2
  replace a3 := mp_at (e := (.inr (4, [.int 0, .int 0, .ref sz, .ref (sz + 1), .ref (sz + 2), .ref (sz + 3), .null, .null, .null, .int 0, .null, .null, .null, .null, .null, .null, .null, .null, .null, .null, .null, .int 0, .int 0, .int 0, .int 0]))) (ne_ad hyb 3) a3
  replace my : (mp_up u7 y (.inr (4, [.int 0, .int 0, .ref sz, .ref (sz + 1), .ref (sz + 2), .ref (sz + 3), .null, .null, .null, .int 0, .null, .null, .null, .null, .null, .null, .null, .null, .null, .null, .null, .int 0, .int 0, .int 0, .int 0]))) y = some (.inr (4, [.int 0, .int 0, .ref sz, .ref (sz + 1), .ref (sz + 2), .ref (sz + 3), .null, .null, .null, .int 0, .null, .null, .null, .null, .null, .null, .null, .null, .null, .null, .null, .int 0, .int 0, .int 0, .int 0])) := mp_self _ _ _
  obtain ⟨u8, eu8⟩ : ∃ z, z = (mp_up u7 y (.inr (4, [.int 0, .int 0, .ref sz, .ref (sz + 1), .ref (sz + 2), .ref (sz + 3), .null, .null, .null, .int 0, .null, .null, .null, .null, .null, .null, .null, .null, .null, .null, .null, .int 0, .int 0, .int 0, .int 0]))) := ⟨_, rfl⟩
  rw [← eu8] at hM hF my a0 a1 a2 a3
  clear eu8
  refine lv_aload_n hx hb dd_M_init_36 rfl (lv_at hl 0 rfl) ?_
  refine lv_sipush (v := 512) hx hb dd_M_init_37 (by decide) ?_
  have hn : u8 (sz + 4) = none := hm_new hM (by rw [hsz]; exact Nat.le_refl _)
  refine mg_newl (n := 512) (N := 512) hx hb ht wd_1_165 hK hM hS (by decide) i_512 (Nat.le_of_ble_eq_true rfl) (by show 0 + 1 + 1 + 1 + 1 + 1 ≤ 18; omega) (by show 0 + 64 + 64 + 64 + 64 + 512 ≤ 46401; omega) dd_M_init_40 (fun H hM hz hS => ?_)
  rw [hsz] at hM hz ⊢
  replace hsz : H.size = (sz + 5) := hz
  replace hM : hm G (mp_up u8 (sz + 4) (lA G 512 (fun _ => 0))) H := hM
  replace hF : ∀ z9, (mp_up u8 (sz + 4) (lA G 512 (fun _ => 0))) z9 ≠ none → fr M sz z9 := hF_put hF (hA _ (Nat.le_trans (Nat.le_of_eq hsz0) (Nat.le_add_right _ _)))
  replace my := mp_old (e := lA G 512 (fun _ => 0)) my hn
  replace a0 := mp_old (e := lA G 512 (fun _ => 0)) a0 hn
  replace a1 := mp_old (e := lA G 512 (fun _ => 0)) a1 hn
  replace a2 := mp_old (e := lA G 512 (fun _ => 0)) a2 hn
  replace a3 := mp_old (e := lA G 512 (fun _ => 0)) a3 hn
  have a4 : (mp_up u8 (sz + 4) (lA G 512 (fun _ => 0))) (sz + 4) = some (lA G 512 (fun _ => 0)) := mp_self _ _ _
  obtain ⟨u9, eu9⟩ : ∃ z, z = (mp_up u8 (sz + 4) (lA G 512 (fun _ => 0))) := ⟨_, rfl⟩
  rw [← eu9] at hM hF my a0 a1 a2 a3 a4
  clear eu9
  refine mg_put (v := .ref (sz + 4)) hx hb ht ii_M tt_M tt_M_ok nn_M hown hK hM hS (hF _ (by rw [my]; exact Option.some_ne_none _)) my rfl 6 (by decide) wd_2_219 (fun _ h => h) (Or.inr ⟨rfl, hname, rfl⟩) rfl rfl rfl (Nat.le_of_ble_eq_true rfl) dd_M_init_42 (fun H locs hM hz hoq hS => ?_)
  replace hsz := hz.trans hsz
  replace hM : hm G (mp_up u9 y (.inr (4, [.int 0, .int 0, .ref sz, .ref (sz + 1), .ref (sz + 2), .ref (sz + 3), .ref (sz + 4), .null, .null, .int 0, .null, .null, .null, .null, .null, .null, .null, .null, .null, .null, .null, .int 0, .int 0, .int 0, .int 0]))) H := hM
  replace hF : ∀ z9, (mp_up u9 y (.inr (4, [.int 0, .int 0, .ref sz, .ref (sz + 1), .ref (sz + 2), .ref (sz + 3), .ref (sz + 4), .null, .null, .int 0, .null, .null, .null, .null, .null, .null, .null, .null, .null, .null, .null, .int 0, .int 0, .int 0, .int 0]))) z9 ≠ none → fr M sz z9 := hF_put hF (hF _ (by rw [my]; exact Option.some_ne_none _))
  replace a0 := mp_at (e := (.inr (4, [.int 0, .int 0, .ref sz, .ref (sz + 1), .ref (sz + 2), .ref (sz + 3), .ref (sz + 4), .null, .null, .int 0, .null, .null, .null, .null, .null, .null, .null, .null, .null, .null, .null, .int 0, .int 0, .int 0, .int 0]))) (Nat.ne_of_gt hyb) a0
  replace a1 := mp_at (e := (.inr (4, [.int 0, .int 0, .ref sz, .ref (sz + 1), .ref (sz + 2), .ref (sz + 3), .ref (sz + 4), .null, .null, .int 0, .null, .null, .null, .null, .null, .null, .null, .null, .null, .null, .null, .int 0, .int 0, .int 0, .int 0]))) (ne_ad hyb 1) a1
  replace a2 := mp_at (e := (.inr (4, [.int 0, .int 0, .ref sz, .ref (sz + 1), .ref (sz + 2), .ref (sz + 3), .ref (sz + 4), .null, .null, .int 0, .null, .null, .null, .null, .null, .null, .null, .null, .null, .null, .null, .int 0, .int 0, .int 0, .int 0]))) (ne_ad hyb 2) a2
  replace a3 := mp_at (e := (.inr (4, [.int 0, .int 0, .ref sz, .ref (sz + 1), .ref (sz + 2), .ref (sz + 3), .ref (sz + 4), .null, .null, .int 0, .null, .null, .null, .null, .null, .null, .null, .null, .null, .null, .null, .int 0, .int 0, .int 0, .int 0]))) (ne_ad hyb 3) a3
  replace a4 := mp_at (e := (.inr (4, [.int 0, .int 0, .ref sz, .ref (sz + 1), .ref (sz + 2), .ref (sz + 3), .ref (sz + 4), .null, .null, .int 0, .null, .null, .null, .null, .null, .null, .null, .null, .null, .null, .null, .int 0, .int 0, .int 0, .int 0]))) (ne_ad hyb 4) a4
  replace my : (mp_up u9 y (.inr (4, [.int 0, .int 0, .ref sz, .ref (sz + 1), .ref (sz + 2), .ref (sz + 3), .ref (sz + 4), .null, .null, .int 0, .null, .null, .null, .null, .null, .null, .null, .null, .null, .null, .null, .int 0, .int 0, .int 0, .int 0]))) y = some (.inr (4, [.int 0, .int 0, .ref sz, .ref (sz + 1), .ref (sz + 2), .ref (sz + 3), .ref (sz + 4), .null, .null, .int 0, .null, .null, .null, .null, .null, .null, .null, .null, .null, .null, .null, .int 0, .int 0, .int 0, .int 0])) := mp_self _ _ _
  obtain ⟨u10, eu10⟩ : ∃ z, z = (mp_up u9 y (.inr (4, [.int 0, .int 0, .ref sz, .ref (sz + 1), .ref (sz + 2), .ref (sz + 3), .ref (sz + 4), .null, .null, .int 0, .null, .null, .null, .null, .null, .null, .null, .null, .null, .null, .null, .int 0, .int 0, .int 0, .int 0]))) := ⟨_, rfl⟩
  rw [← eu10] at hM hF my a0 a1 a2 a3 a4
  clear eu10
  refine lv_aload_n hx hb dd_M_init_45 rfl (lv_at hl 0 rfl) ?_
  refine lv_sipush (v := 512) hx hb dd_M_init_46 (by decide) ?_
  have hn : u10 (sz + 5) = none := hm_new hM (by rw [hsz]; exact Nat.le_refl _)
  refine mg_newi (n := 512) (N := 512) hx hb ht wd_1_166 hK hM hS (by decide) i_512 (Nat.le_of_ble_eq_true rfl) (by show 0 + 1 + 1 + 1 + 1 + 1 + 1 ≤ 18; omega) (by show 0 + 64 + 64 + 64 + 64 + 512 + 512 ≤ 46401; omega) dd_M_init_49 (fun H hM hz hS => ?_)
  rw [hsz] at hM hz ⊢
  replace hsz : H.size = (sz + 6) := hz
  replace hM : hm G (mp_up u10 (sz + 5) (iA G 512 (fun _ => 0))) H := hM
  replace hF : ∀ z9, (mp_up u10 (sz + 5) (iA G 512 (fun _ => 0))) z9 ≠ none → fr M sz z9 := hF_put hF (hA _ (Nat.le_trans (Nat.le_of_eq hsz0) (Nat.le_add_right _ _)))
  replace my := mp_old (e := iA G 512 (fun _ => 0)) my hn
  replace a0 := mp_old (e := iA G 512 (fun _ => 0)) a0 hn
  replace a1 := mp_old (e := iA G 512 (fun _ => 0)) a1 hn
  replace a2 := mp_old (e := iA G 512 (fun _ => 0)) a2 hn
  replace a3 := mp_old (e := iA G 512 (fun _ => 0)) a3 hn
  replace a4 := mp_old (e := iA G 512 (fun _ => 0)) a4 hn
  have a5 : (mp_up u10 (sz + 5) (iA G 512 (fun _ => 0))) (sz + 5) = some (iA G 512 (fun _ => 0)) := mp_self _ _ _
  obtain ⟨u11, eu11⟩ : ∃ z, z = (mp_up u10 (sz + 5) (iA G 512 (fun _ => 0))) := ⟨_, rfl⟩
  rw [← eu11] at hM hF my a0 a1 a2 a3 a4 a5
  clear eu11
  refine mg_put (v := .ref (sz + 5)) hx hb ht ii_M tt_M tt_M_ok nn_M hown hK hM hS (hF _ (by rw [my]; exact Option.some_ne_none _)) my rfl 7 (by decide) wd_2_220 (fun _ h => h) (Or.inr ⟨rfl, hname, rfl⟩) rfl rfl rfl (Nat.le_of_ble_eq_true rfl) dd_M_init_51 (fun H locs hM hz hoq hS => ?_)
  replace hsz := hz.trans hsz
  replace hM : hm G (mp_up u11 y (.inr (4, [.int 0, .int 0, .ref sz, .ref (sz + 1), .ref (sz + 2), .ref (sz + 3), .ref (sz + 4), .ref (sz + 5), .null, .int 0, .null, .null, .null, .null, .null, .null, .null, .null, .null, .null, .null, .int 0, .int 0, .int 0, .int 0]))) H := hM
  replace hF : ∀ z9, (mp_up u11 y (.inr (4, [.int 0, .int 0, .ref sz, .ref (sz + 1), .ref (sz + 2), .ref (sz + 3), .ref (sz + 4), .ref (sz + 5), .null, .int 0, .null, .null, .null, .null, .null, .null, .null, .null, .null, .null, .null, .int 0, .int 0, .int 0, .int 0]))) z9 ≠ none → fr M sz z9 := hF_put hF (hF _ (by rw [my]; exact Option.some_ne_none _))
  replace a0 := mp_at (e := (.inr (4, [.int 0, .int 0, .ref sz, .ref (sz + 1), .ref (sz + 2), .ref (sz + 3), .ref (sz + 4), .ref (sz + 5), .null, .int 0, .null, .null, .null, .null, .null, .null, .null, .null, .null, .null, .null, .int 0, .int 0, .int 0, .int 0]))) (Nat.ne_of_gt hyb) a0
  replace a1 := mp_at (e := (.inr (4, [.int 0, .int 0, .ref sz, .ref (sz + 1), .ref (sz + 2), .ref (sz + 3), .ref (sz + 4), .ref (sz + 5), .null, .int 0, .null, .null, .null, .null, .null, .null, .null, .null, .null, .null, .null, .int 0, .int 0, .int 0, .int 0]))) (ne_ad hyb 1) a1
  replace a2 := mp_at (e := (.inr (4, [.int 0, .int 0, .ref sz, .ref (sz + 1), .ref (sz + 2), .ref (sz + 3), .ref (sz + 4), .ref (sz + 5), .null, .int 0, .null, .null, .null, .null, .null, .null, .null, .null, .null, .null, .null, .int 0, .int 0, .int 0, .int 0]))) (ne_ad hyb 2) a2
  replace a3 := mp_at (e := (.inr (4, [.int 0, .int 0, .ref sz, .ref (sz + 1), .ref (sz + 2), .ref (sz + 3), .ref (sz + 4), .ref (sz + 5), .null, .int 0, .null, .null, .null, .null, .null, .null, .null, .null, .null, .null, .null, .int 0, .int 0, .int 0, .int 0]))) (ne_ad hyb 3) a3
  replace a4 := mp_at (e := (.inr (4, [.int 0, .int 0, .ref sz, .ref (sz + 1), .ref (sz + 2), .ref (sz + 3), .ref (sz + 4), .ref (sz + 5), .null, .int 0, .null, .null, .null, .null, .null, .null, .null, .null, .null, .null, .null, .int 0, .int 0, .int 0, .int 0]))) (ne_ad hyb 4) a4
  replace a5 := mp_at (e := (.inr (4, [.int 0, .int 0, .ref sz, .ref (sz + 1), .ref (sz + 2), .ref (sz + 3), .ref (sz + 4), .ref (sz + 5), .null, .int 0, .null, .null, .null, .null, .null, .null, .null, .null, .null, .null, .null, .int 0, .int 0, .int 0, .int 0]))) (ne_ad hyb 5) a5
  replace my : (mp_up u11 y (.inr (4, [.int 0, .int 0, .ref sz, .ref (sz + 1), .ref (sz + 2), .ref (sz + 3), .ref (sz + 4), .ref (sz + 5), .null, .int 0, .null, .null, .null, .null, .null, .null, .null, .null, .null, .null, .null, .int 0, .int 0, .int 0, .int 0]))) y = some (.inr (4, [.int 0, .int 0, .ref sz, .ref (sz + 1), .ref (sz + 2), .ref (sz + 3), .ref (sz + 4), .ref (sz + 5), .null, .int 0, .null, .null, .null, .null, .null, .null, .null, .null, .null, .null, .null, .int 0, .int 0, .int 0, .int 0])) := mp_self _ _ _
  obtain ⟨u12, eu12⟩ : ∃ z, z = (mp_up u11 y (.inr (4, [.int 0, .int 0, .ref sz, .ref (sz + 1), .ref (sz + 2), .ref (sz + 3), .ref (sz + 4), .ref (sz + 5), .null, .int 0, .null, .null, .null, .null, .null, .null, .null, .null, .null, .null, .null, .int 0, .int 0, .int 0, .int 0]))) := ⟨_, rfl⟩
  rw [← eu12] at hM hF my a0 a1 a2 a3 a4 a5
  clear eu12
  refine lv_aload_n hx hb dd_M_init_54 rfl (lv_at hl 0 rfl) ?_
  refine lv_bipush (v := 65) hx hb dd_M_init_55 (by decide) ?_
  have hn : u12 (sz + 6) = none := hm_new hM (by rw [hsz]; exact Nat.le_refl _)
  refine mg_newi (n := 65) (N := 65) hx hb ht wd_1_166 hK hM hS (by decide) i_65 (Nat.le_of_ble_eq_true rfl) (by show 0 + 1 + 1 + 1 + 1 + 1 + 1 + 1 ≤ 18; omega) (by show 0 + 64 + 64 + 64 + 64 + 512 + 512 + 65 ≤ 46401; omega) dd_M_init_57 (fun H hM hz hS => ?_)
  rw [hsz] at hM hz ⊢
  replace hsz : H.size = (sz + 7) := hz
  replace hM : hm G (mp_up u12 (sz + 6) (iA G 65 (fun _ => 0))) H := hM
  replace hF : ∀ z9, (mp_up u12 (sz + 6) (iA G 65 (fun _ => 0))) z9 ≠ none → fr M sz z9 := hF_put hF (hA _ (Nat.le_trans (Nat.le_of_eq hsz0) (Nat.le_add_right _ _)))
  replace my := mp_old (e := iA G 65 (fun _ => 0)) my hn
  replace a0 := mp_old (e := iA G 65 (fun _ => 0)) a0 hn
  replace a1 := mp_old (e := iA G 65 (fun _ => 0)) a1 hn
  replace a2 := mp_old (e := iA G 65 (fun _ => 0)) a2 hn
  replace a3 := mp_old (e := iA G 65 (fun _ => 0)) a3 hn
  replace a4 := mp_old (e := iA G 65 (fun _ => 0)) a4 hn
  replace a5 := mp_old (e := iA G 65 (fun _ => 0)) a5 hn
  have a6 : (mp_up u12 (sz + 6) (iA G 65 (fun _ => 0))) (sz + 6) = some (iA G 65 (fun _ => 0)) := mp_self _ _ _
  obtain ⟨u13, eu13⟩ : ∃ z, z = (mp_up u12 (sz + 6) (iA G 65 (fun _ => 0))) := ⟨_, rfl⟩
  rw [← eu13] at hM hF my a0 a1 a2 a3 a4 a5 a6
  clear eu13
  refine mg_put (v := .ref (sz + 6)) hx hb ht ii_M tt_M tt_M_ok nn_M hown hK hM hS (hF _ (by rw [my]; exact Option.some_ne_none _)) my rfl 8 (by decide) wd_2_221 (fun _ h => h) (Or.inr ⟨rfl, hname, rfl⟩) rfl rfl rfl (Nat.le_of_ble_eq_true rfl) dd_M_init_59 (fun H locs hM hz hoq hS => ?_)
  replace hsz := hz.trans hsz
  replace hM : hm G (mp_up u13 y (.inr (4, [.int 0, .int 0, .ref sz, .ref (sz + 1), .ref (sz + 2), .ref (sz + 3), .ref (sz + 4), .ref (sz + 5), .ref (sz + 6), .int 0, .null, .null, .null, .null, .null, .null, .null, .null, .null, .null, .null, .int 0, .int 0, .int 0, .int 0]))) H := hM
  replace hF : ∀ z9, (mp_up u13 y (.inr (4, [.int 0, .int 0, .ref sz, .ref (sz + 1), .ref (sz + 2), .ref (sz + 3), .ref (sz + 4), .ref (sz + 5), .ref (sz + 6), .int 0, .null, .null, .null, .null, .null, .null, .null, .null, .null, .null, .null, .int 0, .int 0, .int 0, .int 0]))) z9 ≠ none → fr M sz z9 := hF_put hF (hF _ (by rw [my]; exact Option.some_ne_none _))
  replace a0 := mp_at (e := (.inr (4, [.int 0, .int 0, .ref sz, .ref (sz + 1), .ref (sz + 2), .ref (sz + 3), .ref (sz + 4), .ref (sz + 5), .ref (sz + 6), .int 0, .null, .null, .null, .null, .null, .null, .null, .null, .null, .null, .null, .int 0, .int 0, .int 0, .int 0]))) (Nat.ne_of_gt hyb) a0
  replace a1 := mp_at (e := (.inr (4, [.int 0, .int 0, .ref sz, .ref (sz + 1), .ref (sz + 2), .ref (sz + 3), .ref (sz + 4), .ref (sz + 5), .ref (sz + 6), .int 0, .null, .null, .null, .null, .null, .null, .null, .null, .null, .null, .null, .int 0, .int 0, .int 0, .int 0]))) (ne_ad hyb 1) a1
  replace a2 := mp_at (e := (.inr (4, [.int 0, .int 0, .ref sz, .ref (sz + 1), .ref (sz + 2), .ref (sz + 3), .ref (sz + 4), .ref (sz + 5), .ref (sz + 6), .int 0, .null, .null, .null, .null, .null, .null, .null, .null, .null, .null, .null, .int 0, .int 0, .int 0, .int 0]))) (ne_ad hyb 2) a2
  replace a3 := mp_at (e := (.inr (4, [.int 0, .int 0, .ref sz, .ref (sz + 1), .ref (sz + 2), .ref (sz + 3), .ref (sz + 4), .ref (sz + 5), .ref (sz + 6), .int 0, .null, .null, .null, .null, .null, .null, .null, .null, .null, .null, .null, .int 0, .int 0, .int 0, .int 0]))) (ne_ad hyb 3) a3
  replace a4 := mp_at (e := (.inr (4, [.int 0, .int 0, .ref sz, .ref (sz + 1), .ref (sz + 2), .ref (sz + 3), .ref (sz + 4), .ref (sz + 5), .ref (sz + 6), .int 0, .null, .null, .null, .null, .null, .null, .null, .null, .null, .null, .null, .int 0, .int 0, .int 0, .int 0]))) (ne_ad hyb 4) a4
  replace a5 := mp_at (e := (.inr (4, [.int 0, .int 0, .ref sz, .ref (sz + 1), .ref (sz + 2), .ref (sz + 3), .ref (sz + 4), .ref (sz + 5), .ref (sz + 6), .int 0, .null, .null, .null, .null, .null, .null, .null, .null, .null, .null, .null, .int 0, .int 0, .int 0, .int 0]))) (ne_ad hyb 5) a5
  replace a6 := mp_at (e := (.inr (4, [.int 0, .int 0, .ref sz, .ref (sz + 1), .ref (sz + 2), .ref (sz + 3), .ref (sz + 4), .ref (sz + 5), .ref (sz + 6), .int 0, .null, .null, .null, .null, .null, .null, .null, .null, .null, .null, .null, .int 0, .int 0, .int 0, .int 0]))) (ne_ad hyb 6) a6
  replace my : (mp_up u13 y (.inr (4, [.int 0, .int 0, .ref sz, .ref (sz + 1), .ref (sz + 2), .ref (sz + 3), .ref (sz + 4), .ref (sz + 5), .ref (sz + 6), .int 0, .null, .null, .null, .null, .null, .null, .null, .null, .null, .null, .null, .int 0, .int 0, .int 0, .int 0]))) y = some (.inr (4, [.int 0, .int 0, .ref sz, .ref (sz + 1), .ref (sz + 2), .ref (sz + 3), .ref (sz + 4), .ref (sz + 5), .ref (sz + 6), .int 0, .null, .null, .null, .null, .null, .null, .null, .null, .null, .null, .null, .int 0, .int 0, .int 0, .int 0])) := mp_self _ _ _
  obtain ⟨u14, eu14⟩ : ∃ z, z = (mp_up u13 y (.inr (4, [.int 0, .int 0, .ref sz, .ref (sz + 1), .ref (sz + 2), .ref (sz + 3), .ref (sz + 4), .ref (sz + 5), .ref (sz + 6), .int 0, .null, .null, .null, .null, .null, .null, .null, .null, .null, .null, .null, .int 0, .int 0, .int 0, .int 0]))) := ⟨_, rfl⟩
  rw [← eu14] at hM hF my a0 a1 a2 a3 a4 a5 a6
  clear eu14
  refine lv_aload_n hx hb dd_M_init_62 rfl (lv_at hl 0 rfl) ?_
  refine lv_sipush (v := 4096) hx hb dd_M_init_63 (by decide) ?_
  have hn : u14 (sz + 7) = none := hm_new hM (by rw [hsz]; exact Nat.le_refl _)
  refine mg_newi (n := 4096) (N := 4096) hx hb ht wd_1_166 hK hM hS (by decide) i_4096 (Nat.le_of_ble_eq_true rfl) (by show 0 + 1 + 1 + 1 + 1 + 1 + 1 + 1 + 1 ≤ 18; omega) (by show 0 + 64 + 64 + 64 + 64 + 512 + 512 + 65 + 4096 ≤ 46401; omega) dd_M_init_66 (fun H hM hz hS => ?_)
  rw [hsz] at hM hz ⊢
  replace hsz : H.size = (sz + 8) := hz
  replace hM : hm G (mp_up u14 (sz + 7) (iA G 4096 (fun _ => 0))) H := hM
  replace hF : ∀ z9, (mp_up u14 (sz + 7) (iA G 4096 (fun _ => 0))) z9 ≠ none → fr M sz z9 := hF_put hF (hA _ (Nat.le_trans (Nat.le_of_eq hsz0) (Nat.le_add_right _ _)))
  replace my := mp_old (e := iA G 4096 (fun _ => 0)) my hn
  replace a0 := mp_old (e := iA G 4096 (fun _ => 0)) a0 hn
  replace a1 := mp_old (e := iA G 4096 (fun _ => 0)) a1 hn
  replace a2 := mp_old (e := iA G 4096 (fun _ => 0)) a2 hn
  replace a3 := mp_old (e := iA G 4096 (fun _ => 0)) a3 hn
  replace a4 := mp_old (e := iA G 4096 (fun _ => 0)) a4 hn
  replace a5 := mp_old (e := iA G 4096 (fun _ => 0)) a5 hn
  replace a6 := mp_old (e := iA G 4096 (fun _ => 0)) a6 hn
  have a7 : (mp_up u14 (sz + 7) (iA G 4096 (fun _ => 0))) (sz + 7) = some (iA G 4096 (fun _ => 0)) := mp_self _ _ _
  obtain ⟨u15, eu15⟩ : ∃ z, z = (mp_up u14 (sz + 7) (iA G 4096 (fun _ => 0))) := ⟨_, rfl⟩
  rw [← eu15] at hM hF my a0 a1 a2 a3 a4 a5 a6 a7
  clear eu15
  refine mg_put (v := .ref (sz + 7)) hx hb ht ii_M tt_M tt_M_ok nn_M hown hK hM hS (hF _ (by rw [my]; exact Option.some_ne_none _)) my rfl 10 (by decide) wd_2_223 (fun _ h => h) (Or.inr ⟨rfl, hname, rfl⟩) rfl rfl rfl (Nat.le_of_ble_eq_true rfl) dd_M_init_68 (fun H locs hM hz hoq hS => ?_)
  replace hsz := hz.trans hsz
  replace hM : hm G (mp_up u15 y (.inr (4, [.int 0, .int 0, .ref sz, .ref (sz + 1), .ref (sz + 2), .ref (sz + 3), .ref (sz + 4), .ref (sz + 5), .ref (sz + 6), .int 0, .ref (sz + 7), .null, .null, .null, .null, .null, .null, .null, .null, .null, .null, .int 0, .int 0, .int 0, .int 0]))) H := hM
  replace hF : ∀ z9, (mp_up u15 y (.inr (4, [.int 0, .int 0, .ref sz, .ref (sz + 1), .ref (sz + 2), .ref (sz + 3), .ref (sz + 4), .ref (sz + 5), .ref (sz + 6), .int 0, .ref (sz + 7), .null, .null, .null, .null, .null, .null, .null, .null, .null, .null, .int 0, .int 0, .int 0, .int 0]))) z9 ≠ none → fr M sz z9 := hF_put hF (hF _ (by rw [my]; exact Option.some_ne_none _))
  replace a0 := mp_at (e := (.inr (4, [.int 0, .int 0, .ref sz, .ref (sz + 1), .ref (sz + 2), .ref (sz + 3), .ref (sz + 4), .ref (sz + 5), .ref (sz + 6), .int 0, .ref (sz + 7), .null, .null, .null, .null, .null, .null, .null, .null, .null, .null, .int 0, .int 0, .int 0, .int 0]))) (Nat.ne_of_gt hyb) a0
  replace a1 := mp_at (e := (.inr (4, [.int 0, .int 0, .ref sz, .ref (sz + 1), .ref (sz + 2), .ref (sz + 3), .ref (sz + 4), .ref (sz + 5), .ref (sz + 6), .int 0, .ref (sz + 7), .null, .null, .null, .null, .null, .null, .null, .null, .null, .null, .int 0, .int 0, .int 0, .int 0]))) (ne_ad hyb 1) a1
  replace a2 := mp_at (e := (.inr (4, [.int 0, .int 0, .ref sz, .ref (sz + 1), .ref (sz + 2), .ref (sz + 3), .ref (sz + 4), .ref (sz + 5), .ref (sz + 6), .int 0, .ref (sz + 7), .null, .null, .null, .null, .null, .null, .null, .null, .null, .null, .int 0, .int 0, .int 0, .int 0]))) (ne_ad hyb 2) a2
  replace a3 := mp_at (e := (.inr (4, [.int 0, .int 0, .ref sz, .ref (sz + 1), .ref (sz + 2), .ref (sz + 3), .ref (sz + 4), .ref (sz + 5), .ref (sz + 6), .int 0, .ref (sz + 7), .null, .null, .null, .null, .null, .null, .null, .null, .null, .null, .int 0, .int 0, .int 0, .int 0]))) (ne_ad hyb 3) a3
  replace a4 := mp_at (e := (.inr (4, [.int 0, .int 0, .ref sz, .ref (sz + 1), .ref (sz + 2), .ref (sz + 3), .ref (sz + 4), .ref (sz + 5), .ref (sz + 6), .int 0, .ref (sz + 7), .null, .null, .null, .null, .null, .null, .null, .null, .null, .null, .int 0, .int 0, .int 0, .int 0]))) (ne_ad hyb 4) a4
  replace a5 := mp_at (e := (.inr (4, [.int 0, .int 0, .ref sz, .ref (sz + 1), .ref (sz + 2), .ref (sz + 3), .ref (sz + 4), .ref (sz + 5), .ref (sz + 6), .int 0, .ref (sz + 7), .null, .null, .null, .null, .null, .null, .null, .null, .null, .null, .int 0, .int 0, .int 0, .int 0]))) (ne_ad hyb 5) a5
  replace a6 := mp_at (e := (.inr (4, [.int 0, .int 0, .ref sz, .ref (sz + 1), .ref (sz + 2), .ref (sz + 3), .ref (sz + 4), .ref (sz + 5), .ref (sz + 6), .int 0, .ref (sz + 7), .null, .null, .null, .null, .null, .null, .null, .null, .null, .null, .int 0, .int 0, .int 0, .int 0]))) (ne_ad hyb 6) a6
  replace a7 := mp_at (e := (.inr (4, [.int 0, .int 0, .ref sz, .ref (sz + 1), .ref (sz + 2), .ref (sz + 3), .ref (sz + 4), .ref (sz + 5), .ref (sz + 6), .int 0, .ref (sz + 7), .null, .null, .null, .null, .null, .null, .null, .null, .null, .null, .int 0, .int 0, .int 0, .int 0]))) (ne_ad hyb 7) a7
  replace my : (mp_up u15 y (.inr (4, [.int 0, .int 0, .ref sz, .ref (sz + 1), .ref (sz + 2), .ref (sz + 3), .ref (sz + 4), .ref (sz + 5), .ref (sz + 6), .int 0, .ref (sz + 7), .null, .null, .null, .null, .null, .null, .null, .null, .null, .null, .int 0, .int 0, .int 0, .int 0]))) y = some (.inr (4, [.int 0, .int 0, .ref sz, .ref (sz + 1), .ref (sz + 2), .ref (sz + 3), .ref (sz + 4), .ref (sz + 5), .ref (sz + 6), .int 0, .ref (sz + 7), .null, .null, .null, .null, .null, .null, .null, .null, .null, .null, .int 0, .int 0, .int 0, .int 0])) := mp_self _ _ _
  obtain ⟨u16, eu16⟩ : ∃ z, z = (mp_up u15 y (.inr (4, [.int 0, .int 0, .ref sz, .ref (sz + 1), .ref (sz + 2), .ref (sz + 3), .ref (sz + 4), .ref (sz + 5), .ref (sz + 6), .int 0, .ref (sz + 7), .null, .null, .null, .null, .null, .null, .null, .null, .null, .null, .int 0, .int 0, .int 0, .int 0]))) := ⟨_, rfl⟩
  rw [← eu16] at hM hF my a0 a1 a2 a3 a4 a5 a6 a7
  clear eu16
  refine lv_aload_n hx hb dd_M_init_71 rfl (lv_at hl 0 rfl) ?_
  refine lv_sipush (v := 4096) hx hb dd_M_init_72 (by decide) ?_
  have hn : u16 (sz + 8) = none := hm_new hM (by rw [hsz]; exact Nat.le_refl _)
  refine mg_newl (n := 4096) (N := 4096) hx hb ht wd_1_165 hK hM hS (by decide) i_4096 (Nat.le_of_ble_eq_true rfl) (by show 0 + 1 + 1 + 1 + 1 + 1 + 1 + 1 + 1 + 1 ≤ 18; omega) (by show 0 + 64 + 64 + 64 + 64 + 512 + 512 + 65 + 4096 + 4096 ≤ 46401; omega) dd_M_init_75 (fun H hM hz hS => ?_)
  rw [hsz] at hM hz ⊢
  replace hsz : H.size = (sz + 9) := hz
  replace hM : hm G (mp_up u16 (sz + 8) (lA G 4096 (fun _ => 0))) H := hM
  replace hF : ∀ z9, (mp_up u16 (sz + 8) (lA G 4096 (fun _ => 0))) z9 ≠ none → fr M sz z9 := hF_put hF (hA _ (Nat.le_trans (Nat.le_of_eq hsz0) (Nat.le_add_right _ _)))
  replace my := mp_old (e := lA G 4096 (fun _ => 0)) my hn
  replace a0 := mp_old (e := lA G 4096 (fun _ => 0)) a0 hn
  replace a1 := mp_old (e := lA G 4096 (fun _ => 0)) a1 hn
  replace a2 := mp_old (e := lA G 4096 (fun _ => 0)) a2 hn
  replace a3 := mp_old (e := lA G 4096 (fun _ => 0)) a3 hn
  replace a4 := mp_old (e := lA G 4096 (fun _ => 0)) a4 hn
  replace a5 := mp_old (e := lA G 4096 (fun _ => 0)) a5 hn
  replace a6 := mp_old (e := lA G 4096 (fun _ => 0)) a6 hn
  replace a7 := mp_old (e := lA G 4096 (fun _ => 0)) a7 hn
  have a8 : (mp_up u16 (sz + 8) (lA G 4096 (fun _ => 0))) (sz + 8) = some (lA G 4096 (fun _ => 0)) := mp_self _ _ _
  obtain ⟨u17, eu17⟩ : ∃ z, z = (mp_up u16 (sz + 8) (lA G 4096 (fun _ => 0))) := ⟨_, rfl⟩
  rw [← eu17] at hM hF my a0 a1 a2 a3 a4 a5 a6 a7 a8
  clear eu17
  refine mg_put (v := .ref (sz + 8)) hx hb ht ii_M tt_M tt_M_ok nn_M hown hK hM hS (hF _ (by rw [my]; exact Option.some_ne_none _)) my rfl 11 (by decide) wd_2_224 (fun _ h => h) (Or.inr ⟨rfl, hname, rfl⟩) rfl rfl rfl (Nat.le_of_ble_eq_true rfl) dd_M_init_77 (fun H locs hM hz hoq hS => ?_)
  replace hsz := hz.trans hsz
  replace hM : hm G (mp_up u17 y (.inr (4, [.int 0, .int 0, .ref sz, .ref (sz + 1), .ref (sz + 2), .ref (sz + 3), .ref (sz + 4), .ref (sz + 5), .ref (sz + 6), .int 0, .ref (sz + 7), .ref (sz + 8), .null, .null, .null, .null, .null, .null, .null, .null, .null, .int 0, .int 0, .int 0, .int 0]))) H := hM
  replace hF : ∀ z9, (mp_up u17 y (.inr (4, [.int 0, .int 0, .ref sz, .ref (sz + 1), .ref (sz + 2), .ref (sz + 3), .ref (sz + 4), .ref (sz + 5), .ref (sz + 6), .int 0, .ref (sz + 7), .ref (sz + 8), .null, .null, .null, .null, .null, .null, .null, .null, .null, .int 0, .int 0, .int 0, .int 0]))) z9 ≠ none → fr M sz z9 := hF_put hF (hF _ (by rw [my]; exact Option.some_ne_none _))
  replace a0 := mp_at (e := (.inr (4, [.int 0, .int 0, .ref sz, .ref (sz + 1), .ref (sz + 2), .ref (sz + 3), .ref (sz + 4), .ref (sz + 5), .ref (sz + 6), .int 0, .ref (sz + 7), .ref (sz + 8), .null, .null, .null, .null, .null, .null, .null, .null, .null, .int 0, .int 0, .int 0, .int 0]))) (Nat.ne_of_gt hyb) a0
  replace a1 := mp_at (e := (.inr (4, [.int 0, .int 0, .ref sz, .ref (sz + 1), .ref (sz + 2), .ref (sz + 3), .ref (sz + 4), .ref (sz + 5), .ref (sz + 6), .int 0, .ref (sz + 7), .ref (sz + 8), .null, .null, .null, .null, .null, .null, .null, .null, .null, .int 0, .int 0, .int 0, .int 0]))) (ne_ad hyb 1) a1
  replace a2 := mp_at (e := (.inr (4, [.int 0, .int 0, .ref sz, .ref (sz + 1), .ref (sz + 2), .ref (sz + 3), .ref (sz + 4), .ref (sz + 5), .ref (sz + 6), .int 0, .ref (sz + 7), .ref (sz + 8), .null, .null, .null, .null, .null, .null, .null, .null, .null, .int 0, .int 0, .int 0, .int 0]))) (ne_ad hyb 2) a2
  replace a3 := mp_at (e := (.inr (4, [.int 0, .int 0, .ref sz, .ref (sz + 1), .ref (sz + 2), .ref (sz + 3), .ref (sz + 4), .ref (sz + 5), .ref (sz + 6), .int 0, .ref (sz + 7), .ref (sz + 8), .null, .null, .null, .null, .null, .null, .null, .null, .null, .int 0, .int 0, .int 0, .int 0]))) (ne_ad hyb 3) a3
  replace a4 := mp_at (e := (.inr (4, [.int 0, .int 0, .ref sz, .ref (sz + 1), .ref (sz + 2), .ref (sz + 3), .ref (sz + 4), .ref (sz + 5), .ref (sz + 6), .int 0, .ref (sz + 7), .ref (sz + 8), .null, .null, .null, .null, .null, .null, .null, .null, .null, .int 0, .int 0, .int 0, .int 0]))) (ne_ad hyb 4) a4
  replace a5 := mp_at (e := (.inr (4, [.int 0, .int 0, .ref sz, .ref (sz + 1), .ref (sz + 2), .ref (sz + 3), .ref (sz + 4), .ref (sz + 5), .ref (sz + 6), .int 0, .ref (sz + 7), .ref (sz + 8), .null, .null, .null, .null, .null, .null, .null, .null, .null, .int 0, .int 0, .int 0, .int 0]))) (ne_ad hyb 5) a5
  replace a6 := mp_at (e := (.inr (4, [.int 0, .int 0, .ref sz, .ref (sz + 1), .ref (sz + 2), .ref (sz + 3), .ref (sz + 4), .ref (sz + 5), .ref (sz + 6), .int 0, .ref (sz + 7), .ref (sz + 8), .null, .null, .null, .null, .null, .null, .null, .null, .null, .int 0, .int 0, .int 0, .int 0]))) (ne_ad hyb 6) a6
  replace a7 := mp_at (e := (.inr (4, [.int 0, .int 0, .ref sz, .ref (sz + 1), .ref (sz + 2), .ref (sz + 3), .ref (sz + 4), .ref (sz + 5), .ref (sz + 6), .int 0, .ref (sz + 7), .ref (sz + 8), .null, .null, .null, .null, .null, .null, .null, .null, .null, .int 0, .int 0, .int 0, .int 0]))) (ne_ad hyb 7) a7
  replace a8 := mp_at (e := (.inr (4, [.int 0, .int 0, .ref sz, .ref (sz + 1), .ref (sz + 2), .ref (sz + 3), .ref (sz + 4), .ref (sz + 5), .ref (sz + 6), .int 0, .ref (sz + 7), .ref (sz + 8), .null, .null, .null, .null, .null, .null, .null, .null, .null, .int 0, .int 0, .int 0, .int 0]))) (ne_ad hyb 8) a8
  replace my : (mp_up u17 y (.inr (4, [.int 0, .int 0, .ref sz, .ref (sz + 1), .ref (sz + 2), .ref (sz + 3), .ref (sz + 4), .ref (sz + 5), .ref (sz + 6), .int 0, .ref (sz + 7), .ref (sz + 8), .null, .null, .null, .null, .null, .null, .null, .null, .null, .int 0, .int 0, .int 0, .int 0]))) y = some (.inr (4, [.int 0, .int 0, .ref sz, .ref (sz + 1), .ref (sz + 2), .ref (sz + 3), .ref (sz + 4), .ref (sz + 5), .ref (sz + 6), .int 0, .ref (sz + 7), .ref (sz + 8), .null, .null, .null, .null, .null, .null, .null, .null, .null, .int 0, .int 0, .int 0, .int 0])) := mp_self _ _ _
  obtain ⟨u18, eu18⟩ : ∃ z, z = (mp_up u17 y (.inr (4, [.int 0, .int 0, .ref sz, .ref (sz + 1), .ref (sz + 2), .ref (sz + 3), .ref (sz + 4), .ref (sz + 5), .ref (sz + 6), .int 0, .ref (sz + 7), .ref (sz + 8), .null, .null, .null, .null, .null, .null, .null, .null, .null, .int 0, .int 0, .int 0, .int 0]))) := ⟨_, rfl⟩
  rw [← eu18] at hM hF my a0 a1 a2 a3 a4 a5 a6 a7 a8
  clear eu18
  refine lv_aload_n hx hb dd_M_init_80 rfl (lv_at hl 0 rfl) ?_
  refine lv_sipush (v := 4096) hx hb dd_M_init_81 (by decide) ?_
  have hn : u18 (sz + 9) = none := hm_new hM (by rw [hsz]; exact Nat.le_refl _)
  refine mg_newl (n := 4096) (N := 4096) hx hb ht wd_1_165 hK hM hS (by decide) i_4096 (Nat.le_of_ble_eq_true rfl) (by show 0 + 1 + 1 + 1 + 1 + 1 + 1 + 1 + 1 + 1 + 1 ≤ 18; omega) (by show 0 + 64 + 64 + 64 + 64 + 512 + 512 + 65 + 4096 + 4096 + 4096 ≤ 46401; omega) dd_M_init_84 (fun H hM hz hS => ?_)
  rw [hsz] at hM hz ⊢
  replace hsz : H.size = (sz + 10) := hz
  replace hM : hm G (mp_up u18 (sz + 9) (lA G 4096 (fun _ => 0))) H := hM
  replace hF : ∀ z9, (mp_up u18 (sz + 9) (lA G 4096 (fun _ => 0))) z9 ≠ none → fr M sz z9 := hF_put hF (hA _ (Nat.le_trans (Nat.le_of_eq hsz0) (Nat.le_add_right _ _)))
  replace my := mp_old (e := lA G 4096 (fun _ => 0)) my hn
  replace a0 := mp_old (e := lA G 4096 (fun _ => 0)) a0 hn
  replace a1 := mp_old (e := lA G 4096 (fun _ => 0)) a1 hn
  replace a2 := mp_old (e := lA G 4096 (fun _ => 0)) a2 hn
  replace a3 := mp_old (e := lA G 4096 (fun _ => 0)) a3 hn
  replace a4 := mp_old (e := lA G 4096 (fun _ => 0)) a4 hn
  replace a5 := mp_old (e := lA G 4096 (fun _ => 0)) a5 hn
  replace a6 := mp_old (e := lA G 4096 (fun _ => 0)) a6 hn
  replace a7 := mp_old (e := lA G 4096 (fun _ => 0)) a7 hn
  replace a8 := mp_old (e := lA G 4096 (fun _ => 0)) a8 hn
  have a9 : (mp_up u18 (sz + 9) (lA G 4096 (fun _ => 0))) (sz + 9) = some (lA G 4096 (fun _ => 0)) := mp_self _ _ _
  obtain ⟨u19, eu19⟩ : ∃ z, z = (mp_up u18 (sz + 9) (lA G 4096 (fun _ => 0))) := ⟨_, rfl⟩
  rw [← eu19] at hM hF my a0 a1 a2 a3 a4 a5 a6 a7 a8 a9
  clear eu19
  refine mg_put (v := .ref (sz + 9)) hx hb ht ii_M tt_M tt_M_ok nn_M hown hK hM hS (hF _ (by rw [my]; exact Option.some_ne_none _)) my rfl 12 (by decide) wd_2_225 (fun _ h => h) (Or.inr ⟨rfl, hname, rfl⟩) rfl rfl rfl (Nat.le_of_ble_eq_true rfl) dd_M_init_86 (fun H locs hM hz hoq hS => ?_)
  replace hsz := hz.trans hsz
  replace hM : hm G (mp_up u19 y (.inr (4, [.int 0, .int 0, .ref sz, .ref (sz + 1), .ref (sz + 2), .ref (sz + 3), .ref (sz + 4), .ref (sz + 5), .ref (sz + 6), .int 0, .ref (sz + 7), .ref (sz + 8), .ref (sz + 9), .null, .null, .null, .null, .null, .null, .null, .null, .int 0, .int 0, .int 0, .int 0]))) H := hM
  replace hF : ∀ z9, (mp_up u19 y (.inr (4, [.int 0, .int 0, .ref sz, .ref (sz + 1), .ref (sz + 2), .ref (sz + 3), .ref (sz + 4), .ref (sz + 5), .ref (sz + 6), .int 0, .ref (sz + 7), .ref (sz + 8), .ref (sz + 9), .null, .null, .null, .null, .null, .null, .null, .null, .int 0, .int 0, .int 0, .int 0]))) z9 ≠ none → fr M sz z9 := hF_put hF (hF _ (by rw [my]; exact Option.some_ne_none _))
  replace a0 := mp_at (e := (.inr (4, [.int 0, .int 0, .ref sz, .ref (sz + 1), .ref (sz + 2), .ref (sz + 3), .ref (sz + 4), .ref (sz + 5), .ref (sz + 6), .int 0, .ref (sz + 7), .ref (sz + 8), .ref (sz + 9), .null, .null, .null, .null, .null, .null, .null, .null, .int 0, .int 0, .int 0, .int 0]))) (Nat.ne_of_gt hyb) a0
  replace a1 := mp_at (e := (.inr (4, [.int 0, .int 0, .ref sz, .ref (sz + 1), .ref (sz + 2), .ref (sz + 3), .ref (sz + 4), .ref (sz + 5), .ref (sz + 6), .int 0, .ref (sz + 7), .ref (sz + 8), .ref (sz + 9), .null, .null, .null, .null, .null, .null, .null, .null, .int 0, .int 0, .int 0, .int 0]))) (ne_ad hyb 1) a1
  replace a2 := mp_at (e := (.inr (4, [.int 0, .int 0, .ref sz, .ref (sz + 1), .ref (sz + 2), .ref (sz + 3), .ref (sz + 4), .ref (sz + 5), .ref (sz + 6), .int 0, .ref (sz + 7), .ref (sz + 8), .ref (sz + 9), .null, .null, .null, .null, .null, .null, .null, .null, .int 0, .int 0, .int 0, .int 0]))) (ne_ad hyb 2) a2
  replace a3 := mp_at (e := (.inr (4, [.int 0, .int 0, .ref sz, .ref (sz + 1), .ref (sz + 2), .ref (sz + 3), .ref (sz + 4), .ref (sz + 5), .ref (sz + 6), .int 0, .ref (sz + 7), .ref (sz + 8), .ref (sz + 9), .null, .null, .null, .null, .null, .null, .null, .null, .int 0, .int 0, .int 0, .int 0]))) (ne_ad hyb 3) a3
  replace a4 := mp_at (e := (.inr (4, [.int 0, .int 0, .ref sz, .ref (sz + 1), .ref (sz + 2), .ref (sz + 3), .ref (sz + 4), .ref (sz + 5), .ref (sz + 6), .int 0, .ref (sz + 7), .ref (sz + 8), .ref (sz + 9), .null, .null, .null, .null, .null, .null, .null, .null, .int 0, .int 0, .int 0, .int 0]))) (ne_ad hyb 4) a4
  replace a5 := mp_at (e := (.inr (4, [.int 0, .int 0, .ref sz, .ref (sz + 1), .ref (sz + 2), .ref (sz + 3), .ref (sz + 4), .ref (sz + 5), .ref (sz + 6), .int 0, .ref (sz + 7), .ref (sz + 8), .ref (sz + 9), .null, .null, .null, .null, .null, .null, .null, .null, .int 0, .int 0, .int 0, .int 0]))) (ne_ad hyb 5) a5
  replace a6 := mp_at (e := (.inr (4, [.int 0, .int 0, .ref sz, .ref (sz + 1), .ref (sz + 2), .ref (sz + 3), .ref (sz + 4), .ref (sz + 5), .ref (sz + 6), .int 0, .ref (sz + 7), .ref (sz + 8), .ref (sz + 9), .null, .null, .null, .null, .null, .null, .null, .null, .int 0, .int 0, .int 0, .int 0]))) (ne_ad hyb 6) a6
  replace a7 := mp_at (e := (.inr (4, [.int 0, .int 0, .ref sz, .ref (sz + 1), .ref (sz + 2), .ref (sz + 3), .ref (sz + 4), .ref (sz + 5), .ref (sz + 6), .int 0, .ref (sz + 7), .ref (sz + 8), .ref (sz + 9), .null, .null, .null, .null, .null, .null, .null, .null, .int 0, .int 0, .int 0, .int 0]))) (ne_ad hyb 7) a7
  replace a8 := mp_at (e := (.inr (4, [.int 0, .int 0, .ref sz, .ref (sz + 1), .ref (sz + 2), .ref (sz + 3), .ref (sz + 4), .ref (sz + 5), .ref (sz + 6), .int 0, .ref (sz + 7), .ref (sz + 8), .ref (sz + 9), .null, .null, .null, .null, .null, .null, .null, .null, .int 0, .int 0, .int 0, .int 0]))) (ne_ad hyb 8) a8
  replace a9 := mp_at (e := (.inr (4, [.int 0, .int 0, .ref sz, .ref (sz + 1), .ref (sz + 2), .ref (sz + 3), .ref (sz + 4), .ref (sz + 5), .ref (sz + 6), .int 0, .ref (sz + 7), .ref (sz + 8), .ref (sz + 9), .null, .null, .null, .null, .null, .null, .null, .null, .int 0, .int 0, .int 0, .int 0]))) (ne_ad hyb 9) a9
  replace my : (mp_up u19 y (.inr (4, [.int 0, .int 0, .ref sz, .ref (sz + 1), .ref (sz + 2), .ref (sz + 3), .ref (sz + 4), .ref (sz + 5), .ref (sz + 6), .int 0, .ref (sz + 7), .ref (sz + 8), .ref (sz + 9), .null, .null, .null, .null, .null, .null, .null, .null, .int 0, .int 0, .int 0, .int 0]))) y = some (.inr (4, [.int 0, .int 0, .ref sz, .ref (sz + 1), .ref (sz + 2), .ref (sz + 3), .ref (sz + 4), .ref (sz + 5), .ref (sz + 6), .int 0, .ref (sz + 7), .ref (sz + 8), .ref (sz + 9), .null, .null, .null, .null, .null, .null, .null, .null, .int 0, .int 0, .int 0, .int 0])) := mp_self _ _ _
  obtain ⟨u20, eu20⟩ : ∃ z, z = (mp_up u19 y (.inr (4, [.int 0, .int 0, .ref sz, .ref (sz + 1), .ref (sz + 2), .ref (sz + 3), .ref (sz + 4), .ref (sz + 5), .ref (sz + 6), .int 0, .ref (sz + 7), .ref (sz + 8), .ref (sz + 9), .null, .null, .null, .null, .null, .null, .null, .null, .int 0, .int 0, .int 0, .int 0]))) := ⟨_, rfl⟩
  rw [← eu20] at hM hF my a0 a1 a2 a3 a4 a5 a6 a7 a8 a9
  clear eu20
  refine lv_aload_n hx hb dd_M_init_89 rfl (lv_at hl 0 rfl) ?_
  refine lv_sipush (v := 4096) hx hb dd_M_init_90 (by decide) ?_
  have hn : u20 (sz + 10) = none := hm_new hM (by rw [hsz]; exact Nat.le_refl _)
  refine mg_newi (n := 4096) (N := 4096) hx hb ht wd_1_166 hK hM hS (by decide) i_4096 (Nat.le_of_ble_eq_true rfl) (by show 0 + 1 + 1 + 1 + 1 + 1 + 1 + 1 + 1 + 1 + 1 + 1 ≤ 18; omega) (by show 0 + 64 + 64 + 64 + 64 + 512 + 512 + 65 + 4096 + 4096 + 4096 + 4096 ≤ 46401; omega) dd_M_init_93 (fun H hM hz hS => ?_)
  rw [hsz] at hM hz ⊢
  replace hsz : H.size = (sz + 11) := hz
  replace hM : hm G (mp_up u20 (sz + 10) (iA G 4096 (fun _ => 0))) H := hM
  replace hF : ∀ z9, (mp_up u20 (sz + 10) (iA G 4096 (fun _ => 0))) z9 ≠ none → fr M sz z9 := hF_put hF (hA _ (Nat.le_trans (Nat.le_of_eq hsz0) (Nat.le_add_right _ _)))
  replace my := mp_old (e := iA G 4096 (fun _ => 0)) my hn
  replace a0 := mp_old (e := iA G 4096 (fun _ => 0)) a0 hn
  replace a1 := mp_old (e := iA G 4096 (fun _ => 0)) a1 hn
  replace a2 := mp_old (e := iA G 4096 (fun _ => 0)) a2 hn
  replace a3 := mp_old (e := iA G 4096 (fun _ => 0)) a3 hn
  replace a4 := mp_old (e := iA G 4096 (fun _ => 0)) a4 hn
  replace a5 := mp_old (e := iA G 4096 (fun _ => 0)) a5 hn
  replace a6 := mp_old (e := iA G 4096 (fun _ => 0)) a6 hn
  replace a7 := mp_old (e := iA G 4096 (fun _ => 0)) a7 hn
  replace a8 := mp_old (e := iA G 4096 (fun _ => 0)) a8 hn
  replace a9 := mp_old (e := iA G 4096 (fun _ => 0)) a9 hn
  have a10 : (mp_up u20 (sz + 10) (iA G 4096 (fun _ => 0))) (sz + 10) = some (iA G 4096 (fun _ => 0)) := mp_self _ _ _
  obtain ⟨u21, eu21⟩ : ∃ z, z = (mp_up u20 (sz + 10) (iA G 4096 (fun _ => 0))) := ⟨_, rfl⟩
  rw [← eu21] at hM hF my a0 a1 a2 a3 a4 a5 a6 a7 a8 a9 a10
  clear eu21
  refine mg_put (v := .ref (sz + 10)) hx hb ht ii_M tt_M tt_M_ok nn_M hown hK hM hS (hF _ (by rw [my]; exact Option.some_ne_none _)) my rfl 13 (by decide) wd_2_226 (fun _ h => h) (Or.inr ⟨rfl, hname, rfl⟩) rfl rfl rfl (Nat.le_of_ble_eq_true rfl) dd_M_init_95 (fun H locs hM hz hoq hS => ?_)
  replace hsz := hz.trans hsz
  replace hM : hm G (mp_up u21 y (.inr (4, [.int 0, .int 0, .ref sz, .ref (sz + 1), .ref (sz + 2), .ref (sz + 3), .ref (sz + 4), .ref (sz + 5), .ref (sz + 6), .int 0, .ref (sz + 7), .ref (sz + 8), .ref (sz + 9), .ref (sz + 10), .null, .null, .null, .null, .null, .null, .null, .int 0, .int 0, .int 0, .int 0]))) H := hM
  replace hF : ∀ z9, (mp_up u21 y (.inr (4, [.int 0, .int 0, .ref sz, .ref (sz + 1), .ref (sz + 2), .ref (sz + 3), .ref (sz + 4), .ref (sz + 5), .ref (sz + 6), .int 0, .ref (sz + 7), .ref (sz + 8), .ref (sz + 9), .ref (sz + 10), .null, .null, .null, .null, .null, .null, .null, .int 0, .int 0, .int 0, .int 0]))) z9 ≠ none → fr M sz z9 := hF_put hF (hF _ (by rw [my]; exact Option.some_ne_none _))
  replace a0 := mp_at (e := (.inr (4, [.int 0, .int 0, .ref sz, .ref (sz + 1), .ref (sz + 2), .ref (sz + 3), .ref (sz + 4), .ref (sz + 5), .ref (sz + 6), .int 0, .ref (sz + 7), .ref (sz + 8), .ref (sz + 9), .ref (sz + 10), .null, .null, .null, .null, .null, .null, .null, .int 0, .int 0, .int 0, .int 0]))) (Nat.ne_of_gt hyb) a0
  replace a1 := mp_at (e := (.inr (4, [.int 0, .int 0, .ref sz, .ref (sz + 1), .ref (sz + 2), .ref (sz + 3), .ref (sz + 4), .ref (sz + 5), .ref (sz + 6), .int 0, .ref (sz + 7), .ref (sz + 8), .ref (sz + 9), .ref (sz + 10), .null, .null, .null, .null, .null, .null, .null, .int 0, .int 0, .int 0, .int 0]))) (ne_ad hyb 1) a1
  replace a2 := mp_at (e := (.inr (4, [.int 0, .int 0, .ref sz, .ref (sz + 1), .ref (sz + 2), .ref (sz + 3), .ref (sz + 4), .ref (sz + 5), .ref (sz + 6), .int 0, .ref (sz + 7), .ref (sz + 8), .ref (sz + 9), .ref (sz + 10), .null, .null, .null, .null, .null, .null, .null, .int 0, .int 0, .int 0, .int 0]))) (ne_ad hyb 2) a2
  replace a3 := mp_at (e := (.inr (4, [.int 0, .int 0, .ref sz, .ref (sz + 1), .ref (sz + 2), .ref (sz + 3), .ref (sz + 4), .ref (sz + 5), .ref (sz + 6), .int 0, .ref (sz + 7), .ref (sz + 8), .ref (sz + 9), .ref (sz + 10), .null, .null, .null, .null, .null, .null, .null, .int 0, .int 0, .int 0, .int 0]))) (ne_ad hyb 3) a3
  replace a4 := mp_at (e := (.inr (4, [.int 0, .int 0, .ref sz, .ref (sz + 1), .ref (sz + 2), .ref (sz + 3), .ref (sz + 4), .ref (sz + 5), .ref (sz + 6), .int 0, .ref (sz + 7), .ref (sz + 8), .ref (sz + 9), .ref (sz + 10), .null, .null, .null, .null, .null, .null, .null, .int 0, .int 0, .int 0, .int 0]))) (ne_ad hyb 4) a4
  replace a5 := mp_at (e := (.inr (4, [.int 0, .int 0, .ref sz, .ref (sz + 1), .ref (sz + 2), .ref (sz + 3), .ref (sz + 4), .ref (sz + 5), .ref (sz + 6), .int 0, .ref (sz + 7), .ref (sz + 8), .ref (sz + 9), .ref (sz + 10), .null, .null, .null, .null, .null, .null, .null, .int 0, .int 0, .int 0, .int 0]))) (ne_ad hyb 5) a5
  replace a6 := mp_at (e := (.inr (4, [.int 0, .int 0, .ref sz, .ref (sz + 1), .ref (sz + 2), .ref (sz + 3), .ref (sz + 4), .ref (sz + 5), .ref (sz + 6), .int 0, .ref (sz + 7), .ref (sz + 8), .ref (sz + 9), .ref (sz + 10), .null, .null, .null, .null, .null, .null, .null, .int 0, .int 0, .int 0, .int 0]))) (ne_ad hyb 6) a6
  replace a7 := mp_at (e := (.inr (4, [.int 0, .int 0, .ref sz, .ref (sz + 1), .ref (sz + 2), .ref (sz + 3), .ref (sz + 4), .ref (sz + 5), .ref (sz + 6), .int 0, .ref (sz + 7), .ref (sz + 8), .ref (sz + 9), .ref (sz + 10), .null, .null, .null, .null, .null, .null, .null, .int 0, .int 0, .int 0, .int 0]))) (ne_ad hyb 7) a7
  replace a8 := mp_at (e := (.inr (4, [.int 0, .int 0, .ref sz, .ref (sz + 1), .ref (sz + 2), .ref (sz + 3), .ref (sz + 4), .ref (sz + 5), .ref (sz + 6), .int 0, .ref (sz + 7), .ref (sz + 8), .ref (sz + 9), .ref (sz + 10), .null, .null, .null, .null, .null, .null, .null, .int 0, .int 0, .int 0, .int 0]))) (ne_ad hyb 8) a8
  replace a9 := mp_at (e := (.inr (4, [.int 0, .int 0, .ref sz, .ref (sz + 1), .ref (sz + 2), .ref (sz + 3), .ref (sz + 4), .ref (sz + 5), .ref (sz + 6), .int 0, .ref (sz + 7), .ref (sz + 8), .ref (sz + 9), .ref (sz + 10), .null, .null, .null, .null, .null, .null, .null, .int 0, .int 0, .int 0, .int 0]))) (ne_ad hyb 9) a9
  replace a10 := mp_at (e := (.inr (4, [.int 0, .int 0, .ref sz, .ref (sz + 1), .ref (sz + 2), .ref (sz + 3), .ref (sz + 4), .ref (sz + 5), .ref (sz + 6), .int 0, .ref (sz + 7), .ref (sz + 8), .ref (sz + 9), .ref (sz + 10), .null, .null, .null, .null, .null, .null, .null, .int 0, .int 0, .int 0, .int 0]))) (ne_ad hyb 10) a10
  replace my : (mp_up u21 y (.inr (4, [.int 0, .int 0, .ref sz, .ref (sz + 1), .ref (sz + 2), .ref (sz + 3), .ref (sz + 4), .ref (sz + 5), .ref (sz + 6), .int 0, .ref (sz + 7), .ref (sz + 8), .ref (sz + 9), .ref (sz + 10), .null, .null, .null, .null, .null, .null, .null, .int 0, .int 0, .int 0, .int 0]))) y = some (.inr (4, [.int 0, .int 0, .ref sz, .ref (sz + 1), .ref (sz + 2), .ref (sz + 3), .ref (sz + 4), .ref (sz + 5), .ref (sz + 6), .int 0, .ref (sz + 7), .ref (sz + 8), .ref (sz + 9), .ref (sz + 10), .null, .null, .null, .null, .null, .null, .null, .int 0, .int 0, .int 0, .int 0])) := mp_self _ _ _
  obtain ⟨u22, eu22⟩ : ∃ z, z = (mp_up u21 y (.inr (4, [.int 0, .int 0, .ref sz, .ref (sz + 1), .ref (sz + 2), .ref (sz + 3), .ref (sz + 4), .ref (sz + 5), .ref (sz + 6), .int 0, .ref (sz + 7), .ref (sz + 8), .ref (sz + 9), .ref (sz + 10), .null, .null, .null, .null, .null, .null, .null, .int 0, .int 0, .int 0, .int 0]))) := ⟨_, rfl⟩
  rw [← eu22] at hM hF my a0 a1 a2 a3 a4 a5 a6 a7 a8 a9 a10
  clear eu22
  refine lv_aload_n hx hb dd_M_init_98 rfl (lv_at hl 0 rfl) ?_
  refine lv_sipush (v := 4096) hx hb dd_M_init_99 (by decide) ?_
  have hn : u22 (sz + 11) = none := hm_new hM (by rw [hsz]; exact Nat.le_refl _)
  refine mg_newi (n := 4096) (N := 4096) hx hb ht wd_1_166 hK hM hS (by decide) i_4096 (Nat.le_of_ble_eq_true rfl) (by show 0 + 1 + 1 + 1 + 1 + 1 + 1 + 1 + 1 + 1 + 1 + 1 + 1 ≤ 18; omega) (by show 0 + 64 + 64 + 64 + 64 + 512 + 512 + 65 + 4096 + 4096 + 4096 + 4096 + 4096 ≤ 46401; omega) dd_M_init_102 (fun H hM hz hS => ?_)
  rw [hsz] at hM hz ⊢
  replace hsz : H.size = (sz + 12) := hz
  replace hM : hm G (mp_up u22 (sz + 11) (iA G 4096 (fun _ => 0))) H := hM
  replace hF : ∀ z9, (mp_up u22 (sz + 11) (iA G 4096 (fun _ => 0))) z9 ≠ none → fr M sz z9 := hF_put hF (hA _ (Nat.le_trans (Nat.le_of_eq hsz0) (Nat.le_add_right _ _)))
  replace my := mp_old (e := iA G 4096 (fun _ => 0)) my hn
  replace a0 := mp_old (e := iA G 4096 (fun _ => 0)) a0 hn
  replace a1 := mp_old (e := iA G 4096 (fun _ => 0)) a1 hn
  replace a2 := mp_old (e := iA G 4096 (fun _ => 0)) a2 hn
  replace a3 := mp_old (e := iA G 4096 (fun _ => 0)) a3 hn
  replace a4 := mp_old (e := iA G 4096 (fun _ => 0)) a4 hn
  replace a5 := mp_old (e := iA G 4096 (fun _ => 0)) a5 hn
  replace a6 := mp_old (e := iA G 4096 (fun _ => 0)) a6 hn
  replace a7 := mp_old (e := iA G 4096 (fun _ => 0)) a7 hn
  replace a8 := mp_old (e := iA G 4096 (fun _ => 0)) a8 hn
  replace a9 := mp_old (e := iA G 4096 (fun _ => 0)) a9 hn
  replace a10 := mp_old (e := iA G 4096 (fun _ => 0)) a10 hn
  have a11 : (mp_up u22 (sz + 11) (iA G 4096 (fun _ => 0))) (sz + 11) = some (iA G 4096 (fun _ => 0)) := mp_self _ _ _
  obtain ⟨u23, eu23⟩ : ∃ z, z = (mp_up u22 (sz + 11) (iA G 4096 (fun _ => 0))) := ⟨_, rfl⟩
  rw [← eu23] at hM hF my a0 a1 a2 a3 a4 a5 a6 a7 a8 a9 a10 a11
  clear eu23
  refine mg_put (v := .ref (sz + 11)) hx hb ht ii_M tt_M tt_M_ok nn_M hown hK hM hS (hF _ (by rw [my]; exact Option.some_ne_none _)) my rfl 14 (by decide) wd_2_227 (fun _ h => h) (Or.inr ⟨rfl, hname, rfl⟩) rfl rfl rfl (Nat.le_of_ble_eq_true rfl) dd_M_init_104 (fun H locs hM hz hoq hS => ?_)
  replace hsz := hz.trans hsz
  replace hM : hm G (mp_up u23 y (.inr (4, [.int 0, .int 0, .ref sz, .ref (sz + 1), .ref (sz + 2), .ref (sz + 3), .ref (sz + 4), .ref (sz + 5), .ref (sz + 6), .int 0, .ref (sz + 7), .ref (sz + 8), .ref (sz + 9), .ref (sz + 10), .ref (sz + 11), .null, .null, .null, .null, .null, .null, .int 0, .int 0, .int 0, .int 0]))) H := hM
  replace hF : ∀ z9, (mp_up u23 y (.inr (4, [.int 0, .int 0, .ref sz, .ref (sz + 1), .ref (sz + 2), .ref (sz + 3), .ref (sz + 4), .ref (sz + 5), .ref (sz + 6), .int 0, .ref (sz + 7), .ref (sz + 8), .ref (sz + 9), .ref (sz + 10), .ref (sz + 11), .null, .null, .null, .null, .null, .null, .int 0, .int 0, .int 0, .int 0]))) z9 ≠ none → fr M sz z9 := hF_put hF (hF _ (by rw [my]; exact Option.some_ne_none _))
  replace a0 := mp_at (e := (.inr (4, [.int 0, .int 0, .ref sz, .ref (sz + 1), .ref (sz + 2), .ref (sz + 3), .ref (sz + 4), .ref (sz + 5), .ref (sz + 6), .int 0, .ref (sz + 7), .ref (sz + 8), .ref (sz + 9), .ref (sz + 10), .ref (sz + 11), .null, .null, .null, .null, .null, .null, .int 0, .int 0, .int 0, .int 0]))) (Nat.ne_of_gt hyb) a0
  replace a1 := mp_at (e := (.inr (4, [.int 0, .int 0, .ref sz, .ref (sz + 1), .ref (sz + 2), .ref (sz + 3), .ref (sz + 4), .ref (sz + 5), .ref (sz + 6), .int 0, .ref (sz + 7), .ref (sz + 8), .ref (sz + 9), .ref (sz + 10), .ref (sz + 11), .null, .null, .null, .null, .null, .null, .int 0, .int 0, .int 0, .int 0]))) (ne_ad hyb 1) a1
  replace a2 := mp_at (e := (.inr (4, [.int 0, .int 0, .ref sz, .ref (sz + 1), .ref (sz + 2), .ref (sz + 3), .ref (sz + 4), .ref (sz + 5), .ref (sz + 6), .int 0, .ref (sz + 7), .ref (sz + 8), .ref (sz + 9), .ref (sz + 10), .ref (sz + 11), .null, .null, .null, .null, .null, .null, .int 0, .int 0, .int 0, .int 0]))) (ne_ad hyb 2) a2
  replace a3 := mp_at (e := (.inr (4, [.int 0, .int 0, .ref sz, .ref (sz + 1), .ref (sz + 2), .ref (sz + 3), .ref (sz + 4), .ref (sz + 5), .ref (sz + 6), .int 0, .ref (sz + 7), .ref (sz + 8), .ref (sz + 9), .ref (sz + 10), .ref (sz + 11), .null, .null, .null, .null, .null, .null, .int 0, .int 0, .int 0, .int 0]))) (ne_ad hyb 3) a3
  replace a4 := mp_at (e := (.inr (4, [.int 0, .int 0, .ref sz, .ref (sz + 1), .ref (sz + 2), .ref (sz + 3), .ref (sz + 4), .ref (sz + 5), .ref (sz + 6), .int 0, .ref (sz + 7), .ref (sz + 8), .ref (sz + 9), .ref (sz + 10), .ref (sz + 11), .null, .null, .null, .null, .null, .null, .int 0, .int 0, .int 0, .int 0]))) (ne_ad hyb 4) a4
  replace a5 := mp_at (e := (.inr (4, [.int 0, .int 0, .ref sz, .ref (sz + 1), .ref (sz + 2), .ref (sz + 3), .ref (sz + 4), .ref (sz + 5), .ref (sz + 6), .int 0, .ref (sz + 7), .ref (sz + 8), .ref (sz + 9), .ref (sz + 10), .ref (sz + 11), .null, .null, .null, .null, .null, .null, .int 0, .int 0, .int 0, .int 0]))) (ne_ad hyb 5) a5
  replace a6 := mp_at (e := (.inr (4, [.int 0, .int 0, .ref sz, .ref (sz + 1), .ref (sz + 2), .ref (sz + 3), .ref (sz + 4), .ref (sz + 5), .ref (sz + 6), .int 0, .ref (sz + 7), .ref (sz + 8), .ref (sz + 9), .ref (sz + 10), .ref (sz + 11), .null, .null, .null, .null, .null, .null, .int 0, .int 0, .int 0, .int 0]))) (ne_ad hyb 6) a6
  replace a7 := mp_at (e := (.inr (4, [.int 0, .int 0, .ref sz, .ref (sz + 1), .ref (sz + 2), .ref (sz + 3), .ref (sz + 4), .ref (sz + 5), .ref (sz + 6), .int 0, .ref (sz + 7), .ref (sz + 8), .ref (sz + 9), .ref (sz + 10), .ref (sz + 11), .null, .null, .null, .null, .null, .null, .int 0, .int 0, .int 0, .int 0]))) (ne_ad hyb 7) a7
  replace a8 := mp_at (e := (.inr (4, [.int 0, .int 0, .ref sz, .ref (sz + 1), .ref (sz + 2), .ref (sz + 3), .ref (sz + 4), .ref (sz + 5), .ref (sz + 6), .int 0, .ref (sz + 7), .ref (sz + 8), .ref (sz + 9), .ref (sz + 10), .ref (sz + 11), .null, .null, .null, .null, .null, .null, .int 0, .int 0, .int 0, .int 0]))) (ne_ad hyb 8) a8
  replace a9 := mp_at (e := (.inr (4, [.int 0, .int 0, .ref sz, .ref (sz + 1), .ref (sz + 2), .ref (sz + 3), .ref (sz + 4), .ref (sz + 5), .ref (sz + 6), .int 0, .ref (sz + 7), .ref (sz + 8), .ref (sz + 9), .ref (sz + 10), .ref (sz + 11), .null, .null, .null, .null, .null, .null, .int 0, .int 0, .int 0, .int 0]))) (ne_ad hyb 9) a9
  replace a10 := mp_at (e := (.inr (4, [.int 0, .int 0, .ref sz, .ref (sz + 1), .ref (sz + 2), .ref (sz + 3), .ref (sz + 4), .ref (sz + 5), .ref (sz + 6), .int 0, .ref (sz + 7), .ref (sz + 8), .ref (sz + 9), .ref (sz + 10), .ref (sz + 11), .null, .null, .null, .null, .null, .null, .int 0, .int 0, .int 0, .int 0]))) (ne_ad hyb 10) a10
  replace a11 := mp_at (e := (.inr (4, [.int 0, .int 0, .ref sz, .ref (sz + 1), .ref (sz + 2), .ref (sz + 3), .ref (sz + 4), .ref (sz + 5), .ref (sz + 6), .int 0, .ref (sz + 7), .ref (sz + 8), .ref (sz + 9), .ref (sz + 10), .ref (sz + 11), .null, .null, .null, .null, .null, .null, .int 0, .int 0, .int 0, .int 0]))) (ne_ad hyb 11) a11
  replace my : (mp_up u23 y (.inr (4, [.int 0, .int 0, .ref sz, .ref (sz + 1), .ref (sz + 2), .ref (sz + 3), .ref (sz + 4), .ref (sz + 5), .ref (sz + 6), .int 0, .ref (sz + 7), .ref (sz + 8), .ref (sz + 9), .ref (sz + 10), .ref (sz + 11), .null, .null, .null, .null, .null, .null, .int 0, .int 0, .int 0, .int 0]))) y = some (.inr (4, [.int 0, .int 0, .ref sz, .ref (sz + 1), .ref (sz + 2), .ref (sz + 3), .ref (sz + 4), .ref (sz + 5), .ref (sz + 6), .int 0, .ref (sz + 7), .ref (sz + 8), .ref (sz + 9), .ref (sz + 10), .ref (sz + 11), .null, .null, .null, .null, .null, .null, .int 0, .int 0, .int 0, .int 0])) := mp_self _ _ _
  obtain ⟨u24, eu24⟩ : ∃ z, z = (mp_up u23 y (.inr (4, [.int 0, .int 0, .ref sz, .ref (sz + 1), .ref (sz + 2), .ref (sz + 3), .ref (sz + 4), .ref (sz + 5), .ref (sz + 6), .int 0, .ref (sz + 7), .ref (sz + 8), .ref (sz + 9), .ref (sz + 10), .ref (sz + 11), .null, .null, .null, .null, .null, .null, .int 0, .int 0, .int 0, .int 0]))) := ⟨_, rfl⟩
  rw [← eu24] at hM hF my a0 a1 a2 a3 a4 a5 a6 a7 a8 a9 a10 a11
  clear eu24
  refine lv_aload_n hx hb dd_M_init_107 rfl (lv_at hl 0 rfl) ?_
  refine lv_sipush (v := 4096) hx hb dd_M_init_108 (by decide) ?_
  have hn : u24 (sz + 12) = none := hm_new hM (by rw [hsz]; exact Nat.le_refl _)
  refine mg_newi (n := 4096) (N := 4096) hx hb ht wd_1_166 hK hM hS (by decide) i_4096 (Nat.le_of_ble_eq_true rfl) (by show 0 + 1 + 1 + 1 + 1 + 1 + 1 + 1 + 1 + 1 + 1 + 1 + 1 + 1 ≤ 18; omega) (by show 0 + 64 + 64 + 64 + 64 + 512 + 512 + 65 + 4096 + 4096 + 4096 + 4096 + 4096 + 4096 ≤ 46401; omega) dd_M_init_111 (fun H hM hz hS => ?_)
  rw [hsz] at hM hz ⊢
  replace hsz : H.size = (sz + 13) := hz
  replace hM : hm G (mp_up u24 (sz + 12) (iA G 4096 (fun _ => 0))) H := hM
  replace hF : ∀ z9, (mp_up u24 (sz + 12) (iA G 4096 (fun _ => 0))) z9 ≠ none → fr M sz z9 := hF_put hF (hA _ (Nat.le_trans (Nat.le_of_eq hsz0) (Nat.le_add_right _ _)))
  replace my := mp_old (e := iA G 4096 (fun _ => 0)) my hn
  replace a0 := mp_old (e := iA G 4096 (fun _ => 0)) a0 hn
  replace a1 := mp_old (e := iA G 4096 (fun _ => 0)) a1 hn
  replace a2 := mp_old (e := iA G 4096 (fun _ => 0)) a2 hn
  replace a3 := mp_old (e := iA G 4096 (fun _ => 0)) a3 hn
  replace a4 := mp_old (e := iA G 4096 (fun _ => 0)) a4 hn
  replace a5 := mp_old (e := iA G 4096 (fun _ => 0)) a5 hn
  replace a6 := mp_old (e := iA G 4096 (fun _ => 0)) a6 hn
  replace a7 := mp_old (e := iA G 4096 (fun _ => 0)) a7 hn
  replace a8 := mp_old (e := iA G 4096 (fun _ => 0)) a8 hn
  replace a9 := mp_old (e := iA G 4096 (fun _ => 0)) a9 hn
  replace a10 := mp_old (e := iA G 4096 (fun _ => 0)) a10 hn
  replace a11 := mp_old (e := iA G 4096 (fun _ => 0)) a11 hn
  have a12 : (mp_up u24 (sz + 12) (iA G 4096 (fun _ => 0))) (sz + 12) = some (iA G 4096 (fun _ => 0)) := mp_self _ _ _
  obtain ⟨u25, eu25⟩ : ∃ z, z = (mp_up u24 (sz + 12) (iA G 4096 (fun _ => 0))) := ⟨_, rfl⟩
  rw [← eu25] at hM hF my a0 a1 a2 a3 a4 a5 a6 a7 a8 a9 a10 a11 a12
  clear eu25
  refine mg_put (v := .ref (sz + 12)) hx hb ht ii_M tt_M tt_M_ok nn_M hown hK hM hS (hF _ (by rw [my]; exact Option.some_ne_none _)) my rfl 15 (by decide) wd_2_228 (fun _ h => h) (Or.inr ⟨rfl, hname, rfl⟩) rfl rfl rfl (Nat.le_of_ble_eq_true rfl) dd_M_init_113 (fun H locs hM hz hoq hS => ?_)
  replace hsz := hz.trans hsz
  replace hM : hm G (mp_up u25 y (.inr (4, [.int 0, .int 0, .ref sz, .ref (sz + 1), .ref (sz + 2), .ref (sz + 3), .ref (sz + 4), .ref (sz + 5), .ref (sz + 6), .int 0, .ref (sz + 7), .ref (sz + 8), .ref (sz + 9), .ref (sz + 10), .ref (sz + 11), .ref (sz + 12), .null, .null, .null, .null, .null, .int 0, .int 0, .int 0, .int 0]))) H := hM
  replace hF : ∀ z9, (mp_up u25 y (.inr (4, [.int 0, .int 0, .ref sz, .ref (sz + 1), .ref (sz + 2), .ref (sz + 3), .ref (sz + 4), .ref (sz + 5), .ref (sz + 6), .int 0, .ref (sz + 7), .ref (sz + 8), .ref (sz + 9), .ref (sz + 10), .ref (sz + 11), .ref (sz + 12), .null, .null, .null, .null, .null, .int 0, .int 0, .int 0, .int 0]))) z9 ≠ none → fr M sz z9 := hF_put hF (hF _ (by rw [my]; exact Option.some_ne_none _))
  replace a0 := mp_at (e := (.inr (4, [.int 0, .int 0, .ref sz, .ref (sz + 1), .ref (sz + 2), .ref (sz + 3), .ref (sz + 4), .ref (sz + 5), .ref (sz + 6), .int 0, .ref (sz + 7), .ref (sz + 8), .ref (sz + 9), .ref (sz + 10), .ref (sz + 11), .ref (sz + 12), .null, .null, .null, .null, .null, .int 0, .int 0, .int 0, .int 0]))) (Nat.ne_of_gt hyb) a0
  replace a1 := mp_at (e := (.inr (4, [.int 0, .int 0, .ref sz, .ref (sz + 1), .ref (sz + 2), .ref (sz + 3), .ref (sz + 4), .ref (sz + 5), .ref (sz + 6), .int 0, .ref (sz + 7), .ref (sz + 8), .ref (sz + 9), .ref (sz + 10), .ref (sz + 11), .ref (sz + 12), .null, .null, .null, .null, .null, .int 0, .int 0, .int 0, .int 0]))) (ne_ad hyb 1) a1
  replace a2 := mp_at (e := (.inr (4, [.int 0, .int 0, .ref sz, .ref (sz + 1), .ref (sz + 2), .ref (sz + 3), .ref (sz + 4), .ref (sz + 5), .ref (sz + 6), .int 0, .ref (sz + 7), .ref (sz + 8), .ref (sz + 9), .ref (sz + 10), .ref (sz + 11), .ref (sz + 12), .null, .null, .null, .null, .null, .int 0, .int 0, .int 0, .int 0]))) (ne_ad hyb 2) a2
  replace a3 := mp_at (e := (.inr (4, [.int 0, .int 0, .ref sz, .ref (sz + 1), .ref (sz + 2), .ref (sz + 3), .ref (sz + 4), .ref (sz + 5), .ref (sz + 6), .int 0, .ref (sz + 7), .ref (sz + 8), .ref (sz + 9), .ref (sz + 10), .ref (sz + 11), .ref (sz + 12), .null, .null, .null, .null, .null, .int 0, .int 0, .int 0, .int 0]))) (ne_ad hyb 3) a3
  replace a4 := mp_at (e := (.inr (4, [.int 0, .int 0, .ref sz, .ref (sz + 1), .ref (sz + 2), .ref (sz + 3), .ref (sz + 4), .ref (sz + 5), .ref (sz + 6), .int 0, .ref (sz + 7), .ref (sz + 8), .ref (sz + 9), .ref (sz + 10), .ref (sz + 11), .ref (sz + 12), .null, .null, .null, .null, .null, .int 0, .int 0, .int 0, .int 0]))) (ne_ad hyb 4) a4
  replace a5 := mp_at (e := (.inr (4, [.int 0, .int 0, .ref sz, .ref (sz + 1), .ref (sz + 2), .ref (sz + 3), .ref (sz + 4), .ref (sz + 5), .ref (sz + 6), .int 0, .ref (sz + 7), .ref (sz + 8), .ref (sz + 9), .ref (sz + 10), .ref (sz + 11), .ref (sz + 12), .null, .null, .null, .null, .null, .int 0, .int 0, .int 0, .int 0]))) (ne_ad hyb 5) a5
  replace a6 := mp_at (e := (.inr (4, [.int 0, .int 0, .ref sz, .ref (sz + 1), .ref (sz + 2), .ref (sz + 3), .ref (sz + 4), .ref (sz + 5), .ref (sz + 6), .int 0, .ref (sz + 7), .ref (sz + 8), .ref (sz + 9), .ref (sz + 10), .ref (sz + 11), .ref (sz + 12), .null, .null, .null, .null, .null, .int 0, .int 0, .int 0, .int 0]))) (ne_ad hyb 6) a6
  replace a7 := mp_at (e := (.inr (4, [.int 0, .int 0, .ref sz, .ref (sz + 1), .ref (sz + 2), .ref (sz + 3), .ref (sz + 4), .ref (sz + 5), .ref (sz + 6), .int 0, .ref (sz + 7), .ref (sz + 8), .ref (sz + 9), .ref (sz + 10), .ref (sz + 11), .ref (sz + 12), .null, .null, .null, .null, .null, .int 0, .int 0, .int 0, .int 0]))) (ne_ad hyb 7) a7
  replace a8 := mp_at (e := (.inr (4, [.int 0, .int 0, .ref sz, .ref (sz + 1), .ref (sz + 2), .ref (sz + 3), .ref (sz + 4), .ref (sz + 5), .ref (sz + 6), .int 0, .ref (sz + 7), .ref (sz + 8), .ref (sz + 9), .ref (sz + 10), .ref (sz + 11), .ref (sz + 12), .null, .null, .null, .null, .null, .int 0, .int 0, .int 0, .int 0]))) (ne_ad hyb 8) a8
  replace a9 := mp_at (e := (.inr (4, [.int 0, .int 0, .ref sz, .ref (sz + 1), .ref (sz + 2), .ref (sz + 3), .ref (sz + 4), .ref (sz + 5), .ref (sz + 6), .int 0, .ref (sz + 7), .ref (sz + 8), .ref (sz + 9), .ref (sz + 10), .ref (sz + 11), .ref (sz + 12), .null, .null, .null, .null, .null, .int 0, .int 0, .int 0, .int 0]))) (ne_ad hyb 9) a9
  replace a10 := mp_at (e := (.inr (4, [.int 0, .int 0, .ref sz, .ref (sz + 1), .ref (sz + 2), .ref (sz + 3), .ref (sz + 4), .ref (sz + 5), .ref (sz + 6), .int 0, .ref (sz + 7), .ref (sz + 8), .ref (sz + 9), .ref (sz + 10), .ref (sz + 11), .ref (sz + 12), .null, .null, .null, .null, .null, .int 0, .int 0, .int 0, .int 0]))) (ne_ad hyb 10) a10
  replace a11 := mp_at (e := (.inr (4, [.int 0, .int 0, .ref sz, .ref (sz + 1), .ref (sz + 2), .ref (sz + 3), .ref (sz + 4), .ref (sz + 5), .ref (sz + 6), .int 0, .ref (sz + 7), .ref (sz + 8), .ref (sz + 9), .ref (sz + 10), .ref (sz + 11), .ref (sz + 12), .null, .null, .null, .null, .null, .int 0, .int 0, .int 0, .int 0]))) (ne_ad hyb 11) a11
  replace a12 := mp_at (e := (.inr (4, [.int 0, .int 0, .ref sz, .ref (sz + 1), .ref (sz + 2), .ref (sz + 3), .ref (sz + 4), .ref (sz + 5), .ref (sz + 6), .int 0, .ref (sz + 7), .ref (sz + 8), .ref (sz + 9), .ref (sz + 10), .ref (sz + 11), .ref (sz + 12), .null, .null, .null, .null, .null, .int 0, .int 0, .int 0, .int 0]))) (ne_ad hyb 12) a12
  replace my : (mp_up u25 y (.inr (4, [.int 0, .int 0, .ref sz, .ref (sz + 1), .ref (sz + 2), .ref (sz + 3), .ref (sz + 4), .ref (sz + 5), .ref (sz + 6), .int 0, .ref (sz + 7), .ref (sz + 8), .ref (sz + 9), .ref (sz + 10), .ref (sz + 11), .ref (sz + 12), .null, .null, .null, .null, .null, .int 0, .int 0, .int 0, .int 0]))) y = some (.inr (4, [.int 0, .int 0, .ref sz, .ref (sz + 1), .ref (sz + 2), .ref (sz + 3), .ref (sz + 4), .ref (sz + 5), .ref (sz + 6), .int 0, .ref (sz + 7), .ref (sz + 8), .ref (sz + 9), .ref (sz + 10), .ref (sz + 11), .ref (sz + 12), .null, .null, .null, .null, .null, .int 0, .int 0, .int 0, .int 0])) := mp_self _ _ _
  obtain ⟨u26, eu26⟩ : ∃ z, z = (mp_up u25 y (.inr (4, [.int 0, .int 0, .ref sz, .ref (sz + 1), .ref (sz + 2), .ref (sz + 3), .ref (sz + 4), .ref (sz + 5), .ref (sz + 6), .int 0, .ref (sz + 7), .ref (sz + 8), .ref (sz + 9), .ref (sz + 10), .ref (sz + 11), .ref (sz + 12), .null, .null, .null, .null, .null, .int 0, .int 0, .int 0, .int 0]))) := ⟨_, rfl⟩
  rw [← eu26] at hM hF my a0 a1 a2 a3 a4 a5 a6 a7 a8 a9 a10 a11 a12
  clear eu26
  refine lv_aload_n hx hb dd_M_init_116 rfl (lv_at hl 0 rfl) ?_
  refine lv_sipush (v := 4096) hx hb dd_M_init_117 (by decide) ?_
  have hn : u26 (sz + 13) = none := hm_new hM (by rw [hsz]; exact Nat.le_refl _)
  refine mg_newi (n := 4096) (N := 4096) hx hb ht wd_1_166 hK hM hS (by decide) i_4096 (Nat.le_of_ble_eq_true rfl) (by show 0 + 1 + 1 + 1 + 1 + 1 + 1 + 1 + 1 + 1 + 1 + 1 + 1 + 1 + 1 ≤ 18; omega) (by show 0 + 64 + 64 + 64 + 64 + 512 + 512 + 65 + 4096 + 4096 + 4096 + 4096 + 4096 + 4096 + 4096 ≤ 46401; omega) dd_M_init_120 (fun H hM hz hS => ?_)
  rw [hsz] at hM hz ⊢
  replace hsz : H.size = (sz + 14) := hz
  replace hM : hm G (mp_up u26 (sz + 13) (iA G 4096 (fun _ => 0))) H := hM
  replace hF : ∀ z9, (mp_up u26 (sz + 13) (iA G 4096 (fun _ => 0))) z9 ≠ none → fr M sz z9 := hF_put hF (hA _ (Nat.le_trans (Nat.le_of_eq hsz0) (Nat.le_add_right _ _)))
  replace my := mp_old (e := iA G 4096 (fun _ => 0)) my hn
  replace a0 := mp_old (e := iA G 4096 (fun _ => 0)) a0 hn
  replace a1 := mp_old (e := iA G 4096 (fun _ => 0)) a1 hn
  replace a2 := mp_old (e := iA G 4096 (fun _ => 0)) a2 hn
  replace a3 := mp_old (e := iA G 4096 (fun _ => 0)) a3 hn
  replace a4 := mp_old (e := iA G 4096 (fun _ => 0)) a4 hn
  replace a5 := mp_old (e := iA G 4096 (fun _ => 0)) a5 hn
  replace a6 := mp_old (e := iA G 4096 (fun _ => 0)) a6 hn
  replace a7 := mp_old (e := iA G 4096 (fun _ => 0)) a7 hn
  replace a8 := mp_old (e := iA G 4096 (fun _ => 0)) a8 hn
  replace a9 := mp_old (e := iA G 4096 (fun _ => 0)) a9 hn
  replace a10 := mp_old (e := iA G 4096 (fun _ => 0)) a10 hn
  replace a11 := mp_old (e := iA G 4096 (fun _ => 0)) a11 hn
  replace a12 := mp_old (e := iA G 4096 (fun _ => 0)) a12 hn
  have a13 : (mp_up u26 (sz + 13) (iA G 4096 (fun _ => 0))) (sz + 13) = some (iA G 4096 (fun _ => 0)) := mp_self _ _ _
  obtain ⟨u27, eu27⟩ : ∃ z, z = (mp_up u26 (sz + 13) (iA G 4096 (fun _ => 0))) := ⟨_, rfl⟩
  rw [← eu27] at hM hF my a0 a1 a2 a3 a4 a5 a6 a7 a8 a9 a10 a11 a12 a13
  clear eu27
  refine mg_put (v := .ref (sz + 13)) hx hb ht ii_M tt_M tt_M_ok nn_M hown hK hM hS (hF _ (by rw [my]; exact Option.some_ne_none _)) my rfl 16 (by decide) wd_2_229 (fun _ h => h) (Or.inr ⟨rfl, hname, rfl⟩) rfl rfl rfl (Nat.le_of_ble_eq_true rfl) dd_M_init_122 (fun H locs hM hz hoq hS => ?_)
  replace hsz := hz.trans hsz
  replace hM : hm G (mp_up u27 y (.inr (4, [.int 0, .int 0, .ref sz, .ref (sz + 1), .ref (sz + 2), .ref (sz + 3), .ref (sz + 4), .ref (sz + 5), .ref (sz + 6), .int 0, .ref (sz + 7), .ref (sz + 8), .ref (sz + 9), .ref (sz + 10), .ref (sz + 11), .ref (sz + 12), .ref (sz + 13), .null, .null, .null, .null, .int 0, .int 0, .int 0, .int 0]))) H := hM
  replace hF : ∀ z9, (mp_up u27 y (.inr (4, [.int 0, .int 0, .ref sz, .ref (sz + 1), .ref (sz + 2), .ref (sz + 3), .ref (sz + 4), .ref (sz + 5), .ref (sz + 6), .int 0, .ref (sz + 7), .ref (sz + 8), .ref (sz + 9), .ref (sz + 10), .ref (sz + 11), .ref (sz + 12), .ref (sz + 13), .null, .null, .null, .null, .int 0, .int 0, .int 0, .int 0]))) z9 ≠ none → fr M sz z9 := hF_put hF (hF _ (by rw [my]; exact Option.some_ne_none _))
  replace a0 := mp_at (e := (.inr (4, [.int 0, .int 0, .ref sz, .ref (sz + 1), .ref (sz + 2), .ref (sz + 3), .ref (sz + 4), .ref (sz + 5), .ref (sz + 6), .int 0, .ref (sz + 7), .ref (sz + 8), .ref (sz + 9), .ref (sz + 10), .ref (sz + 11), .ref (sz + 12), .ref (sz + 13), .null, .null, .null, .null, .int 0, .int 0, .int 0, .int 0]))) (Nat.ne_of_gt hyb) a0
  replace a1 := mp_at (e := (.inr (4, [.int 0, .int 0, .ref sz, .ref (sz + 1), .ref (sz + 2), .ref (sz + 3), .ref (sz + 4), .ref (sz + 5), .ref (sz + 6), .int 0, .ref (sz + 7), .ref (sz + 8), .ref (sz + 9), .ref (sz + 10), .ref (sz + 11), .ref (sz + 12), .ref (sz + 13), .null, .null, .null, .null, .int 0, .int 0, .int 0, .int 0]))) (ne_ad hyb 1) a1
  replace a2 := mp_at (e := (.inr (4, [.int 0, .int 0, .ref sz, .ref (sz + 1), .ref (sz + 2), .ref (sz + 3), .ref (sz + 4), .ref (sz + 5), .ref (sz + 6), .int 0, .ref (sz + 7), .ref (sz + 8), .ref (sz + 9), .ref (sz + 10), .ref (sz + 11), .ref (sz + 12), .ref (sz + 13), .null, .null, .null, .null, .int 0, .int 0, .int 0, .int 0]))) (ne_ad hyb 2) a2
  replace a3 := mp_at (e := (.inr (4, [.int 0, .int 0, .ref sz, .ref (sz + 1), .ref (sz + 2), .ref (sz + 3), .ref (sz + 4), .ref (sz + 5), .ref (sz + 6), .int 0, .ref (sz + 7), .ref (sz + 8), .ref (sz + 9), .ref (sz + 10), .ref (sz + 11), .ref (sz + 12), .ref (sz + 13), .null, .null, .null, .null, .int 0, .int 0, .int 0, .int 0]))) (ne_ad hyb 3) a3
  replace a4 := mp_at (e := (.inr (4, [.int 0, .int 0, .ref sz, .ref (sz + 1), .ref (sz + 2), .ref (sz + 3), .ref (sz + 4), .ref (sz + 5), .ref (sz + 6), .int 0, .ref (sz + 7), .ref (sz + 8), .ref (sz + 9), .ref (sz + 10), .ref (sz + 11), .ref (sz + 12), .ref (sz + 13), .null, .null, .null, .null, .int 0, .int 0, .int 0, .int 0]))) (ne_ad hyb 4) a4
  replace a5 := mp_at (e := (.inr (4, [.int 0, .int 0, .ref sz, .ref (sz + 1), .ref (sz + 2), .ref (sz + 3), .ref (sz + 4), .ref (sz + 5), .ref (sz + 6), .int 0, .ref (sz + 7), .ref (sz + 8), .ref (sz + 9), .ref (sz + 10), .ref (sz + 11), .ref (sz + 12), .ref (sz + 13), .null, .null, .null, .null, .int 0, .int 0, .int 0, .int 0]))) (ne_ad hyb 5) a5
  replace a6 := mp_at (e := (.inr (4, [.int 0, .int 0, .ref sz, .ref (sz + 1), .ref (sz + 2), .ref (sz + 3), .ref (sz + 4), .ref (sz + 5), .ref (sz + 6), .int 0, .ref (sz + 7), .ref (sz + 8), .ref (sz + 9), .ref (sz + 10), .ref (sz + 11), .ref (sz + 12), .ref (sz + 13), .null, .null, .null, .null, .int 0, .int 0, .int 0, .int 0]))) (ne_ad hyb 6) a6
  replace a7 := mp_at (e := (.inr (4, [.int 0, .int 0, .ref sz, .ref (sz + 1), .ref (sz + 2), .ref (sz + 3), .ref (sz + 4), .ref (sz + 5), .ref (sz + 6), .int 0, .ref (sz + 7), .ref (sz + 8), .ref (sz + 9), .ref (sz + 10), .ref (sz + 11), .ref (sz + 12), .ref (sz + 13), .null, .null, .null, .null, .int 0, .int 0, .int 0, .int 0]))) (ne_ad hyb 7) a7
  replace a8 := mp_at (e := (.inr (4, [.int 0, .int 0, .ref sz, .ref (sz + 1), .ref (sz + 2), .ref (sz + 3), .ref (sz + 4), .ref (sz + 5), .ref (sz + 6), .int 0, .ref (sz + 7), .ref (sz + 8), .ref (sz + 9), .ref (sz + 10), .ref (sz + 11), .ref (sz + 12), .ref (sz + 13), .null, .null, .null, .null, .int 0, .int 0, .int 0, .int 0]))) (ne_ad hyb 8) a8
  replace a9 := mp_at (e := (.inr (4, [.int 0, .int 0, .ref sz, .ref (sz + 1), .ref (sz + 2), .ref (sz + 3), .ref (sz + 4), .ref (sz + 5), .ref (sz + 6), .int 0, .ref (sz + 7), .ref (sz + 8), .ref (sz + 9), .ref (sz + 10), .ref (sz + 11), .ref (sz + 12), .ref (sz + 13), .null, .null, .null, .null, .int 0, .int 0, .int 0, .int 0]))) (ne_ad hyb 9) a9
  replace a10 := mp_at (e := (.inr (4, [.int 0, .int 0, .ref sz, .ref (sz + 1), .ref (sz + 2), .ref (sz + 3), .ref (sz + 4), .ref (sz + 5), .ref (sz + 6), .int 0, .ref (sz + 7), .ref (sz + 8), .ref (sz + 9), .ref (sz + 10), .ref (sz + 11), .ref (sz + 12), .ref (sz + 13), .null, .null, .null, .null, .int 0, .int 0, .int 0, .int 0]))) (ne_ad hyb 10) a10
  replace a11 := mp_at (e := (.inr (4, [.int 0, .int 0, .ref sz, .ref (sz + 1), .ref (sz + 2), .ref (sz + 3), .ref (sz + 4), .ref (sz + 5), .ref (sz + 6), .int 0, .ref (sz + 7), .ref (sz + 8), .ref (sz + 9), .ref (sz + 10), .ref (sz + 11), .ref (sz + 12), .ref (sz + 13), .null, .null, .null, .null, .int 0, .int 0, .int 0, .int 0]))) (ne_ad hyb 11) a11
  replace a12 := mp_at (e := (.inr (4, [.int 0, .int 0, .ref sz, .ref (sz + 1), .ref (sz + 2), .ref (sz + 3), .ref (sz + 4), .ref (sz + 5), .ref (sz + 6), .int 0, .ref (sz + 7), .ref (sz + 8), .ref (sz + 9), .ref (sz + 10), .ref (sz + 11), .ref (sz + 12), .ref (sz + 13), .null, .null, .null, .null, .int 0, .int 0, .int 0, .int 0]))) (ne_ad hyb 12) a12
  replace a13 := mp_at (e := (.inr (4, [.int 0, .int 0, .ref sz, .ref (sz + 1), .ref (sz + 2), .ref (sz + 3), .ref (sz + 4), .ref (sz + 5), .ref (sz + 6), .int 0, .ref (sz + 7), .ref (sz + 8), .ref (sz + 9), .ref (sz + 10), .ref (sz + 11), .ref (sz + 12), .ref (sz + 13), .null, .null, .null, .null, .int 0, .int 0, .int 0, .int 0]))) (ne_ad hyb 13) a13
  replace my : (mp_up u27 y (.inr (4, [.int 0, .int 0, .ref sz, .ref (sz + 1), .ref (sz + 2), .ref (sz + 3), .ref (sz + 4), .ref (sz + 5), .ref (sz + 6), .int 0, .ref (sz + 7), .ref (sz + 8), .ref (sz + 9), .ref (sz + 10), .ref (sz + 11), .ref (sz + 12), .ref (sz + 13), .null, .null, .null, .null, .int 0, .int 0, .int 0, .int 0]))) y = some (.inr (4, [.int 0, .int 0, .ref sz, .ref (sz + 1), .ref (sz + 2), .ref (sz + 3), .ref (sz + 4), .ref (sz + 5), .ref (sz + 6), .int 0, .ref (sz + 7), .ref (sz + 8), .ref (sz + 9), .ref (sz + 10), .ref (sz + 11), .ref (sz + 12), .ref (sz + 13), .null, .null, .null, .null, .int 0, .int 0, .int 0, .int 0])) := mp_self _ _ _
  obtain ⟨u28, eu28⟩ : ∃ z, z = (mp_up u27 y (.inr (4, [.int 0, .int 0, .ref sz, .ref (sz + 1), .ref (sz + 2), .ref (sz + 3), .ref (sz + 4), .ref (sz + 5), .ref (sz + 6), .int 0, .ref (sz + 7), .ref (sz + 8), .ref (sz + 9), .ref (sz + 10), .ref (sz + 11), .ref (sz + 12), .ref (sz + 13), .null, .null, .null, .null, .int 0, .int 0, .int 0, .int 0]))) := ⟨_, rfl⟩
  rw [← eu28] at hM hF my a0 a1 a2 a3 a4 a5 a6 a7 a8 a9 a10 a11 a12 a13
  clear eu28
  refine lv_aload_n hx hb dd_M_init_125 rfl (lv_at hl 0 rfl) ?_
  refine lv_sipush (v := 4096) hx hb dd_M_init_126 (by decide) ?_
  have hn : u28 (sz + 14) = none := hm_new hM (by rw [hsz]; exact Nat.le_refl _)
  refine mg_newi (n := 4096) (N := 4096) hx hb ht wd_1_166 hK hM hS (by decide) i_4096 (Nat.le_of_ble_eq_true rfl) (by show 0 + 1 + 1 + 1 + 1 + 1 + 1 + 1 + 1 + 1 + 1 + 1 + 1 + 1 + 1 + 1 ≤ 18; omega) (by show 0 + 64 + 64 + 64 + 64 + 512 + 512 + 65 + 4096 + 4096 + 4096 + 4096 + 4096 + 4096 + 4096 + 4096 ≤ 46401; omega) dd_M_init_129 (fun H hM hz hS => ?_)
  rw [hsz] at hM hz ⊢
  replace hsz : H.size = (sz + 15) := hz
  replace hM : hm G (mp_up u28 (sz + 14) (iA G 4096 (fun _ => 0))) H := hM
  replace hF : ∀ z9, (mp_up u28 (sz + 14) (iA G 4096 (fun _ => 0))) z9 ≠ none → fr M sz z9 := hF_put hF (hA _ (Nat.le_trans (Nat.le_of_eq hsz0) (Nat.le_add_right _ _)))
  replace my := mp_old (e := iA G 4096 (fun _ => 0)) my hn
  replace a0 := mp_old (e := iA G 4096 (fun _ => 0)) a0 hn
  replace a1 := mp_old (e := iA G 4096 (fun _ => 0)) a1 hn
  replace a2 := mp_old (e := iA G 4096 (fun _ => 0)) a2 hn
  replace a3 := mp_old (e := iA G 4096 (fun _ => 0)) a3 hn
  replace a4 := mp_old (e := iA G 4096 (fun _ => 0)) a4 hn
  replace a5 := mp_old (e := iA G 4096 (fun _ => 0)) a5 hn
  replace a6 := mp_old (e := iA G 4096 (fun _ => 0)) a6 hn
  replace a7 := mp_old (e := iA G 4096 (fun _ => 0)) a7 hn
  replace a8 := mp_old (e := iA G 4096 (fun _ => 0)) a8 hn
  replace a9 := mp_old (e := iA G 4096 (fun _ => 0)) a9 hn
  replace a10 := mp_old (e := iA G 4096 (fun _ => 0)) a10 hn
  replace a11 := mp_old (e := iA G 4096 (fun _ => 0)) a11 hn
  replace a12 := mp_old (e := iA G 4096 (fun _ => 0)) a12 hn
  replace a13 := mp_old (e := iA G 4096 (fun _ => 0)) a13 hn
  have a14 : (mp_up u28 (sz + 14) (iA G 4096 (fun _ => 0))) (sz + 14) = some (iA G 4096 (fun _ => 0)) := mp_self _ _ _
  obtain ⟨u29, eu29⟩ : ∃ z, z = (mp_up u28 (sz + 14) (iA G 4096 (fun _ => 0))) := ⟨_, rfl⟩
  rw [← eu29] at hM hF my a0 a1 a2 a3 a4 a5 a6 a7 a8 a9 a10 a11 a12 a13 a14
  clear eu29
  refine mg_put (v := .ref (sz + 14)) hx hb ht ii_M tt_M tt_M_ok nn_M hown hK hM hS (hF _ (by rw [my]; exact Option.some_ne_none _)) my rfl 17 (by decide) wd_2_230 (fun _ h => h) (Or.inr ⟨rfl, hname, rfl⟩) rfl rfl rfl (Nat.le_of_ble_eq_true rfl) dd_M_init_131 (fun H locs hM hz hoq hS => ?_)
  replace hsz := hz.trans hsz
  replace hM : hm G (mp_up u29 y (.inr (4, [.int 0, .int 0, .ref sz, .ref (sz + 1), .ref (sz + 2), .ref (sz + 3), .ref (sz + 4), .ref (sz + 5), .ref (sz + 6), .int 0, .ref (sz + 7), .ref (sz + 8), .ref (sz + 9), .ref (sz + 10), .ref (sz + 11), .ref (sz + 12), .ref (sz + 13), .ref (sz + 14), .null, .null, .null, .int 0, .int 0, .int 0, .int 0]))) H := hM
  replace hF : ∀ z9, (mp_up u29 y (.inr (4, [.int 0, .int 0, .ref sz, .ref (sz + 1), .ref (sz + 2), .ref (sz + 3), .ref (sz + 4), .ref (sz + 5), .ref (sz + 6), .int 0, .ref (sz + 7), .ref (sz + 8), .ref (sz + 9), .ref (sz + 10), .ref (sz + 11), .ref (sz + 12), .ref (sz + 13), .ref (sz + 14), .null, .null, .null, .int 0, .int 0, .int 0, .int 0]))) z9 ≠ none → fr M sz z9 := hF_put hF (hF _ (by rw [my]; exact Option.some_ne_none _))
  replace a0 := mp_at (e := (.inr (4, [.int 0, .int 0, .ref sz, .ref (sz + 1), .ref (sz + 2), .ref (sz + 3), .ref (sz + 4), .ref (sz + 5), .ref (sz + 6), .int 0, .ref (sz + 7), .ref (sz + 8), .ref (sz + 9), .ref (sz + 10), .ref (sz + 11), .ref (sz + 12), .ref (sz + 13), .ref (sz + 14), .null, .null, .null, .int 0, .int 0, .int 0, .int 0]))) (Nat.ne_of_gt hyb) a0
  replace a1 := mp_at (e := (.inr (4, [.int 0, .int 0, .ref sz, .ref (sz + 1), .ref (sz + 2), .ref (sz + 3), .ref (sz + 4), .ref (sz + 5), .ref (sz + 6), .int 0, .ref (sz + 7), .ref (sz + 8), .ref (sz + 9), .ref (sz + 10), .ref (sz + 11), .ref (sz + 12), .ref (sz + 13), .ref (sz + 14), .null, .null, .null, .int 0, .int 0, .int 0, .int 0]))) (ne_ad hyb 1) a1
  replace a2 := mp_at (e := (.inr (4, [.int 0, .int 0, .ref sz, .ref (sz + 1), .ref (sz + 2), .ref (sz + 3), .ref (sz + 4), .ref (sz + 5), .ref (sz + 6), .int 0, .ref (sz + 7), .ref (sz + 8), .ref (sz + 9), .ref (sz + 10), .ref (sz + 11), .ref (sz + 12), .ref (sz + 13), .ref (sz + 14), .null, .null, .null, .int 0, .int 0, .int 0, .int 0]))) (ne_ad hyb 2) a2
  replace a3 := mp_at (e := (.inr (4, [.int 0, .int 0, .ref sz, .ref (sz + 1), .ref (sz + 2), .ref (sz + 3), .ref (sz + 4), .ref (sz + 5), .ref (sz + 6), .int 0, .ref (sz + 7), .ref (sz + 8), .ref (sz + 9), .ref (sz + 10), .ref (sz + 11), .ref (sz + 12), .ref (sz + 13), .ref (sz + 14), .null, .null, .null, .int 0, .int 0, .int 0, .int 0]))) (ne_ad hyb 3) a3
  replace a4 := mp_at (e := (.inr (4, [.int 0, .int 0, .ref sz, .ref (sz + 1), .ref (sz + 2), .ref (sz + 3), .ref (sz + 4), .ref (sz + 5), .ref (sz + 6), .int 0, .ref (sz + 7), .ref (sz + 8), .ref (sz + 9), .ref (sz + 10), .ref (sz + 11), .ref (sz + 12), .ref (sz + 13), .ref (sz + 14), .null, .null, .null, .int 0, .int 0, .int 0, .int 0]))) (ne_ad hyb 4) a4
  replace a5 := mp_at (e := (.inr (4, [.int 0, .int 0, .ref sz, .ref (sz + 1), .ref (sz + 2), .ref (sz + 3), .ref (sz + 4), .ref (sz + 5), .ref (sz + 6), .int 0, .ref (sz + 7), .ref (sz + 8), .ref (sz + 9), .ref (sz + 10), .ref (sz + 11), .ref (sz + 12), .ref (sz + 13), .ref (sz + 14), .null, .null, .null, .int 0, .int 0, .int 0, .int 0]))) (ne_ad hyb 5) a5
  replace a6 := mp_at (e := (.inr (4, [.int 0, .int 0, .ref sz, .ref (sz + 1), .ref (sz + 2), .ref (sz + 3), .ref (sz + 4), .ref (sz + 5), .ref (sz + 6), .int 0, .ref (sz + 7), .ref (sz + 8), .ref (sz + 9), .ref (sz + 10), .ref (sz + 11), .ref (sz + 12), .ref (sz + 13), .ref (sz + 14), .null, .null, .null, .int 0, .int 0, .int 0, .int 0]))) (ne_ad hyb 6) a6
  replace a7 := mp_at (e := (.inr (4, [.int 0, .int 0, .ref sz, .ref (sz + 1), .ref (sz + 2), .ref (sz + 3), .ref (sz + 4), .ref (sz + 5), .ref (sz + 6), .int 0, .ref (sz + 7), .ref (sz + 8), .ref (sz + 9), .ref (sz + 10), .ref (sz + 11), .ref (sz + 12), .ref (sz + 13), .ref (sz + 14), .null, .null, .null, .int 0, .int 0, .int 0, .int 0]))) (ne_ad hyb 7) a7
  replace a8 := mp_at (e := (.inr (4, [.int 0, .int 0, .ref sz, .ref (sz + 1), .ref (sz + 2), .ref (sz + 3), .ref (sz + 4), .ref (sz + 5), .ref (sz + 6), .int 0, .ref (sz + 7), .ref (sz + 8), .ref (sz + 9), .ref (sz + 10), .ref (sz + 11), .ref (sz + 12), .ref (sz + 13), .ref (sz + 14), .null, .null, .null, .int 0, .int 0, .int 0, .int 0]))) (ne_ad hyb 8) a8
  replace a9 := mp_at (e := (.inr (4, [.int 0, .int 0, .ref sz, .ref (sz + 1), .ref (sz + 2), .ref (sz + 3), .ref (sz + 4), .ref (sz + 5), .ref (sz + 6), .int 0, .ref (sz + 7), .ref (sz + 8), .ref (sz + 9), .ref (sz + 10), .ref (sz + 11), .ref (sz + 12), .ref (sz + 13), .ref (sz + 14), .null, .null, .null, .int 0, .int 0, .int 0, .int 0]))) (ne_ad hyb 9) a9
  replace a10 := mp_at (e := (.inr (4, [.int 0, .int 0, .ref sz, .ref (sz + 1), .ref (sz + 2), .ref (sz + 3), .ref (sz + 4), .ref (sz + 5), .ref (sz + 6), .int 0, .ref (sz + 7), .ref (sz + 8), .ref (sz + 9), .ref (sz + 10), .ref (sz + 11), .ref (sz + 12), .ref (sz + 13), .ref (sz + 14), .null, .null, .null, .int 0, .int 0, .int 0, .int 0]))) (ne_ad hyb 10) a10
  replace a11 := mp_at (e := (.inr (4, [.int 0, .int 0, .ref sz, .ref (sz + 1), .ref (sz + 2), .ref (sz + 3), .ref (sz + 4), .ref (sz + 5), .ref (sz + 6), .int 0, .ref (sz + 7), .ref (sz + 8), .ref (sz + 9), .ref (sz + 10), .ref (sz + 11), .ref (sz + 12), .ref (sz + 13), .ref (sz + 14), .null, .null, .null, .int 0, .int 0, .int 0, .int 0]))) (ne_ad hyb 11) a11
  replace a12 := mp_at (e := (.inr (4, [.int 0, .int 0, .ref sz, .ref (sz + 1), .ref (sz + 2), .ref (sz + 3), .ref (sz + 4), .ref (sz + 5), .ref (sz + 6), .int 0, .ref (sz + 7), .ref (sz + 8), .ref (sz + 9), .ref (sz + 10), .ref (sz + 11), .ref (sz + 12), .ref (sz + 13), .ref (sz + 14), .null, .null, .null, .int 0, .int 0, .int 0, .int 0]))) (ne_ad hyb 12) a12
  replace a13 := mp_at (e := (.inr (4, [.int 0, .int 0, .ref sz, .ref (sz + 1), .ref (sz + 2), .ref (sz + 3), .ref (sz + 4), .ref (sz + 5), .ref (sz + 6), .int 0, .ref (sz + 7), .ref (sz + 8), .ref (sz + 9), .ref (sz + 10), .ref (sz + 11), .ref (sz + 12), .ref (sz + 13), .ref (sz + 14), .null, .null, .null, .int 0, .int 0, .int 0, .int 0]))) (ne_ad hyb 13) a13
  replace a14 := mp_at (e := (.inr (4, [.int 0, .int 0, .ref sz, .ref (sz + 1), .ref (sz + 2), .ref (sz + 3), .ref (sz + 4), .ref (sz + 5), .ref (sz + 6), .int 0, .ref (sz + 7), .ref (sz + 8), .ref (sz + 9), .ref (sz + 10), .ref (sz + 11), .ref (sz + 12), .ref (sz + 13), .ref (sz + 14), .null, .null, .null, .int 0, .int 0, .int 0, .int 0]))) (ne_ad hyb 14) a14
  replace my : (mp_up u29 y (.inr (4, [.int 0, .int 0, .ref sz, .ref (sz + 1), .ref (sz + 2), .ref (sz + 3), .ref (sz + 4), .ref (sz + 5), .ref (sz + 6), .int 0, .ref (sz + 7), .ref (sz + 8), .ref (sz + 9), .ref (sz + 10), .ref (sz + 11), .ref (sz + 12), .ref (sz + 13), .ref (sz + 14), .null, .null, .null, .int 0, .int 0, .int 0, .int 0]))) y = some (.inr (4, [.int 0, .int 0, .ref sz, .ref (sz + 1), .ref (sz + 2), .ref (sz + 3), .ref (sz + 4), .ref (sz + 5), .ref (sz + 6), .int 0, .ref (sz + 7), .ref (sz + 8), .ref (sz + 9), .ref (sz + 10), .ref (sz + 11), .ref (sz + 12), .ref (sz + 13), .ref (sz + 14), .null, .null, .null, .int 0, .int 0, .int 0, .int 0])) := mp_self _ _ _
  obtain ⟨u30, eu30⟩ : ∃ z, z = (mp_up u29 y (.inr (4, [.int 0, .int 0, .ref sz, .ref (sz + 1), .ref (sz + 2), .ref (sz + 3), .ref (sz + 4), .ref (sz + 5), .ref (sz + 6), .int 0, .ref (sz + 7), .ref (sz + 8), .ref (sz + 9), .ref (sz + 10), .ref (sz + 11), .ref (sz + 12), .ref (sz + 13), .ref (sz + 14), .null, .null, .null, .int 0, .int 0, .int 0, .int 0]))) := ⟨_, rfl⟩
  rw [← eu30] at hM hF my a0 a1 a2 a3 a4 a5 a6 a7 a8 a9 a10 a11 a12 a13 a14
  clear eu30
  refine lv_aload_n hx hb dd_M_init_134 rfl (lv_at hl 0 rfl) ?_
  refine lv_sipush (v := 4096) hx hb dd_M_init_135 (by decide) ?_
  have hn : u30 (sz + 15) = none := hm_new hM (by rw [hsz]; exact Nat.le_refl _)
  refine mg_newi (n := 4096) (N := 4096) hx hb ht wd_1_166 hK hM hS (by decide) i_4096 (Nat.le_of_ble_eq_true rfl) (by show 0 + 1 + 1 + 1 + 1 + 1 + 1 + 1 + 1 + 1 + 1 + 1 + 1 + 1 + 1 + 1 + 1 ≤ 18; omega) (by show 0 + 64 + 64 + 64 + 64 + 512 + 512 + 65 + 4096 + 4096 + 4096 + 4096 + 4096 + 4096 + 4096 + 4096 + 4096 ≤ 46401; omega) dd_M_init_138 (fun H hM hz hS => ?_)
  rw [hsz] at hM hz ⊢
  replace hsz : H.size = (sz + 16) := hz
  replace hM : hm G (mp_up u30 (sz + 15) (iA G 4096 (fun _ => 0))) H := hM
  replace hF : ∀ z9, (mp_up u30 (sz + 15) (iA G 4096 (fun _ => 0))) z9 ≠ none → fr M sz z9 := hF_put hF (hA _ (Nat.le_trans (Nat.le_of_eq hsz0) (Nat.le_add_right _ _)))
  replace my := mp_old (e := iA G 4096 (fun _ => 0)) my hn
  replace a0 := mp_old (e := iA G 4096 (fun _ => 0)) a0 hn
  replace a1 := mp_old (e := iA G 4096 (fun _ => 0)) a1 hn
  replace a2 := mp_old (e := iA G 4096 (fun _ => 0)) a2 hn
  replace a3 := mp_old (e := iA G 4096 (fun _ => 0)) a3 hn
  replace a4 := mp_old (e := iA G 4096 (fun _ => 0)) a4 hn
  replace a5 := mp_old (e := iA G 4096 (fun _ => 0)) a5 hn
  replace a6 := mp_old (e := iA G 4096 (fun _ => 0)) a6 hn
  replace a7 := mp_old (e := iA G 4096 (fun _ => 0)) a7 hn
  replace a8 := mp_old (e := iA G 4096 (fun _ => 0)) a8 hn
  replace a9 := mp_old (e := iA G 4096 (fun _ => 0)) a9 hn
  replace a10 := mp_old (e := iA G 4096 (fun _ => 0)) a10 hn
  replace a11 := mp_old (e := iA G 4096 (fun _ => 0)) a11 hn
  replace a12 := mp_old (e := iA G 4096 (fun _ => 0)) a12 hn
  replace a13 := mp_old (e := iA G 4096 (fun _ => 0)) a13 hn
  replace a14 := mp_old (e := iA G 4096 (fun _ => 0)) a14 hn
  have a15 : (mp_up u30 (sz + 15) (iA G 4096 (fun _ => 0))) (sz + 15) = some (iA G 4096 (fun _ => 0)) := mp_self _ _ _
  obtain ⟨u31, eu31⟩ : ∃ z, z = (mp_up u30 (sz + 15) (iA G 4096 (fun _ => 0))) := ⟨_, rfl⟩
  rw [← eu31] at hM hF my a0 a1 a2 a3 a4 a5 a6 a7 a8 a9 a10 a11 a12 a13 a14 a15
  clear eu31
  refine mg_put (v := .ref (sz + 15)) hx hb ht ii_M tt_M tt_M_ok nn_M hown hK hM hS (hF _ (by rw [my]; exact Option.some_ne_none _)) my rfl 18 (by decide) wd_2_231 (fun _ h => h) (Or.inr ⟨rfl, hname, rfl⟩) rfl rfl rfl (Nat.le_of_ble_eq_true rfl) dd_M_init_140 (fun H locs hM hz hoq hS => ?_)
  replace hsz := hz.trans hsz
  replace hM : hm G (mp_up u31 y (.inr (4, [.int 0, .int 0, .ref sz, .ref (sz + 1), .ref (sz + 2), .ref (sz + 3), .ref (sz + 4), .ref (sz + 5), .ref (sz + 6), .int 0, .ref (sz + 7), .ref (sz + 8), .ref (sz + 9), .ref (sz + 10), .ref (sz + 11), .ref (sz + 12), .ref (sz + 13), .ref (sz + 14), .ref (sz + 15), .null, .null, .int 0, .int 0, .int 0, .int 0]))) H := hM
  replace hF : ∀ z9, (mp_up u31 y (.inr (4, [.int 0, .int 0, .ref sz, .ref (sz + 1), .ref (sz + 2), .ref (sz + 3), .ref (sz + 4), .ref (sz + 5), .ref (sz + 6), .int 0, .ref (sz + 7), .ref (sz + 8), .ref (sz + 9), .ref (sz + 10), .ref (sz + 11), .ref (sz + 12), .ref (sz + 13), .ref (sz + 14), .ref (sz + 15), .null, .null, .int 0, .int 0, .int 0, .int 0]))) z9 ≠ none → fr M sz z9 := hF_put hF (hF _ (by rw [my]; exact Option.some_ne_none _))
  replace a0 := mp_at (e := (.inr (4, [.int 0, .int 0, .ref sz, .ref (sz + 1), .ref (sz + 2), .ref (sz + 3), .ref (sz + 4), .ref (sz + 5), .ref (sz + 6), .int 0, .ref (sz + 7), .ref (sz + 8), .ref (sz + 9), .ref (sz + 10), .ref (sz + 11), .ref (sz + 12), .ref (sz + 13), .ref (sz + 14), .ref (sz + 15), .null, .null, .int 0, .int 0, .int 0, .int 0]))) (Nat.ne_of_gt hyb) a0
  replace a1 := mp_at (e := (.inr (4, [.int 0, .int 0, .ref sz, .ref (sz + 1), .ref (sz + 2), .ref (sz + 3), .ref (sz + 4), .ref (sz + 5), .ref (sz + 6), .int 0, .ref (sz + 7), .ref (sz + 8), .ref (sz + 9), .ref (sz + 10), .ref (sz + 11), .ref (sz + 12), .ref (sz + 13), .ref (sz + 14), .ref (sz + 15), .null, .null, .int 0, .int 0, .int 0, .int 0]))) (ne_ad hyb 1) a1
  replace a2 := mp_at (e := (.inr (4, [.int 0, .int 0, .ref sz, .ref (sz + 1), .ref (sz + 2), .ref (sz + 3), .ref (sz + 4), .ref (sz + 5), .ref (sz + 6), .int 0, .ref (sz + 7), .ref (sz + 8), .ref (sz + 9), .ref (sz + 10), .ref (sz + 11), .ref (sz + 12), .ref (sz + 13), .ref (sz + 14), .ref (sz + 15), .null, .null, .int 0, .int 0, .int 0, .int 0]))) (ne_ad hyb 2) a2
  replace a3 := mp_at (e := (.inr (4, [.int 0, .int 0, .ref sz, .ref (sz + 1), .ref (sz + 2), .ref (sz + 3), .ref (sz + 4), .ref (sz + 5), .ref (sz + 6), .int 0, .ref (sz + 7), .ref (sz + 8), .ref (sz + 9), .ref (sz + 10), .ref (sz + 11), .ref (sz + 12), .ref (sz + 13), .ref (sz + 14), .ref (sz + 15), .null, .null, .int 0, .int 0, .int 0, .int 0]))) (ne_ad hyb 3) a3
  replace a4 := mp_at (e := (.inr (4, [.int 0, .int 0, .ref sz, .ref (sz + 1), .ref (sz + 2), .ref (sz + 3), .ref (sz + 4), .ref (sz + 5), .ref (sz + 6), .int 0, .ref (sz + 7), .ref (sz + 8), .ref (sz + 9), .ref (sz + 10), .ref (sz + 11), .ref (sz + 12), .ref (sz + 13), .ref (sz + 14), .ref (sz + 15), .null, .null, .int 0, .int 0, .int 0, .int 0]))) (ne_ad hyb 4) a4
  replace a5 := mp_at (e := (.inr (4, [.int 0, .int 0, .ref sz, .ref (sz + 1), .ref (sz + 2), .ref (sz + 3), .ref (sz + 4), .ref (sz + 5), .ref (sz + 6), .int 0, .ref (sz + 7), .ref (sz + 8), .ref (sz + 9), .ref (sz + 10), .ref (sz + 11), .ref (sz + 12), .ref (sz + 13), .ref (sz + 14), .ref (sz + 15), .null, .null, .int 0, .int 0, .int 0, .int 0]))) (ne_ad hyb 5) a5
  replace a6 := mp_at (e := (.inr (4, [.int 0, .int 0, .ref sz, .ref (sz + 1), .ref (sz + 2), .ref (sz + 3), .ref (sz + 4), .ref (sz + 5), .ref (sz + 6), .int 0, .ref (sz + 7), .ref (sz + 8), .ref (sz + 9), .ref (sz + 10), .ref (sz + 11), .ref (sz + 12), .ref (sz + 13), .ref (sz + 14), .ref (sz + 15), .null, .null, .int 0, .int 0, .int 0, .int 0]))) (ne_ad hyb 6) a6
  replace a7 := mp_at (e := (.inr (4, [.int 0, .int 0, .ref sz, .ref (sz + 1), .ref (sz + 2), .ref (sz + 3), .ref (sz + 4), .ref (sz + 5), .ref (sz + 6), .int 0, .ref (sz + 7), .ref (sz + 8), .ref (sz + 9), .ref (sz + 10), .ref (sz + 11), .ref (sz + 12), .ref (sz + 13), .ref (sz + 14), .ref (sz + 15), .null, .null, .int 0, .int 0, .int 0, .int 0]))) (ne_ad hyb 7) a7
  replace a8 := mp_at (e := (.inr (4, [.int 0, .int 0, .ref sz, .ref (sz + 1), .ref (sz + 2), .ref (sz + 3), .ref (sz + 4), .ref (sz + 5), .ref (sz + 6), .int 0, .ref (sz + 7), .ref (sz + 8), .ref (sz + 9), .ref (sz + 10), .ref (sz + 11), .ref (sz + 12), .ref (sz + 13), .ref (sz + 14), .ref (sz + 15), .null, .null, .int 0, .int 0, .int 0, .int 0]))) (ne_ad hyb 8) a8
  replace a9 := mp_at (e := (.inr (4, [.int 0, .int 0, .ref sz, .ref (sz + 1), .ref (sz + 2), .ref (sz + 3), .ref (sz + 4), .ref (sz + 5), .ref (sz + 6), .int 0, .ref (sz + 7), .ref (sz + 8), .ref (sz + 9), .ref (sz + 10), .ref (sz + 11), .ref (sz + 12), .ref (sz + 13), .ref (sz + 14), .ref (sz + 15), .null, .null, .int 0, .int 0, .int 0, .int 0]))) (ne_ad hyb 9) a9
  replace a10 := mp_at (e := (.inr (4, [.int 0, .int 0, .ref sz, .ref (sz + 1), .ref (sz + 2), .ref (sz + 3), .ref (sz + 4), .ref (sz + 5), .ref (sz + 6), .int 0, .ref (sz + 7), .ref (sz + 8), .ref (sz + 9), .ref (sz + 10), .ref (sz + 11), .ref (sz + 12), .ref (sz + 13), .ref (sz + 14), .ref (sz + 15), .null, .null, .int 0, .int 0, .int 0, .int 0]))) (ne_ad hyb 10) a10
  replace a11 := mp_at (e := (.inr (4, [.int 0, .int 0, .ref sz, .ref (sz + 1), .ref (sz + 2), .ref (sz + 3), .ref (sz + 4), .ref (sz + 5), .ref (sz + 6), .int 0, .ref (sz + 7), .ref (sz + 8), .ref (sz + 9), .ref (sz + 10), .ref (sz + 11), .ref (sz + 12), .ref (sz + 13), .ref (sz + 14), .ref (sz + 15), .null, .null, .int 0, .int 0, .int 0, .int 0]))) (ne_ad hyb 11) a11
  replace a12 := mp_at (e := (.inr (4, [.int 0, .int 0, .ref sz, .ref (sz + 1), .ref (sz + 2), .ref (sz + 3), .ref (sz + 4), .ref (sz + 5), .ref (sz + 6), .int 0, .ref (sz + 7), .ref (sz + 8), .ref (sz + 9), .ref (sz + 10), .ref (sz + 11), .ref (sz + 12), .ref (sz + 13), .ref (sz + 14), .ref (sz + 15), .null, .null, .int 0, .int 0, .int 0, .int 0]))) (ne_ad hyb 12) a12
  replace a13 := mp_at (e := (.inr (4, [.int 0, .int 0, .ref sz, .ref (sz + 1), .ref (sz + 2), .ref (sz + 3), .ref (sz + 4), .ref (sz + 5), .ref (sz + 6), .int 0, .ref (sz + 7), .ref (sz + 8), .ref (sz + 9), .ref (sz + 10), .ref (sz + 11), .ref (sz + 12), .ref (sz + 13), .ref (sz + 14), .ref (sz + 15), .null, .null, .int 0, .int 0, .int 0, .int 0]))) (ne_ad hyb 13) a13
  replace a14 := mp_at (e := (.inr (4, [.int 0, .int 0, .ref sz, .ref (sz + 1), .ref (sz + 2), .ref (sz + 3), .ref (sz + 4), .ref (sz + 5), .ref (sz + 6), .int 0, .ref (sz + 7), .ref (sz + 8), .ref (sz + 9), .ref (sz + 10), .ref (sz + 11), .ref (sz + 12), .ref (sz + 13), .ref (sz + 14), .ref (sz + 15), .null, .null, .int 0, .int 0, .int 0, .int 0]))) (ne_ad hyb 14) a14
  replace a15 := mp_at (e := (.inr (4, [.int 0, .int 0, .ref sz, .ref (sz + 1), .ref (sz + 2), .ref (sz + 3), .ref (sz + 4), .ref (sz + 5), .ref (sz + 6), .int 0, .ref (sz + 7), .ref (sz + 8), .ref (sz + 9), .ref (sz + 10), .ref (sz + 11), .ref (sz + 12), .ref (sz + 13), .ref (sz + 14), .ref (sz + 15), .null, .null, .int 0, .int 0, .int 0, .int 0]))) (ne_ad hyb 15) a15
  replace my : (mp_up u31 y (.inr (4, [.int 0, .int 0, .ref sz, .ref (sz + 1), .ref (sz + 2), .ref (sz + 3), .ref (sz + 4), .ref (sz + 5), .ref (sz + 6), .int 0, .ref (sz + 7), .ref (sz + 8), .ref (sz + 9), .ref (sz + 10), .ref (sz + 11), .ref (sz + 12), .ref (sz + 13), .ref (sz + 14), .ref (sz + 15), .null, .null, .int 0, .int 0, .int 0, .int 0]))) y = some (.inr (4, [.int 0, .int 0, .ref sz, .ref (sz + 1), .ref (sz + 2), .ref (sz + 3), .ref (sz + 4), .ref (sz + 5), .ref (sz + 6), .int 0, .ref (sz + 7), .ref (sz + 8), .ref (sz + 9), .ref (sz + 10), .ref (sz + 11), .ref (sz + 12), .ref (sz + 13), .ref (sz + 14), .ref (sz + 15), .null, .null, .int 0, .int 0, .int 0, .int 0])) := mp_self _ _ _
  obtain ⟨u32, eu32⟩ : ∃ z, z = (mp_up u31 y (.inr (4, [.int 0, .int 0, .ref sz, .ref (sz + 1), .ref (sz + 2), .ref (sz + 3), .ref (sz + 4), .ref (sz + 5), .ref (sz + 6), .int 0, .ref (sz + 7), .ref (sz + 8), .ref (sz + 9), .ref (sz + 10), .ref (sz + 11), .ref (sz + 12), .ref (sz + 13), .ref (sz + 14), .ref (sz + 15), .null, .null, .int 0, .int 0, .int 0, .int 0]))) := ⟨_, rfl⟩
  rw [← eu32] at hM hF my a0 a1 a2 a3 a4 a5 a6 a7 a8 a9 a10 a11 a12 a13 a14 a15
  clear eu32
  refine lv_aload_n hx hb dd_M_init_143 rfl (lv_at hl 0 rfl) ?_
  refine lv_sipush (v := 4096) hx hb dd_M_init_144 (by decide) ?_
  have hn : u32 (sz + 16) = none := hm_new hM (by rw [hsz]; exact Nat.le_refl _)
  refine mg_newi (n := 4096) (N := 4096) hx hb ht wd_1_166 hK hM hS (by decide) i_4096 (Nat.le_of_ble_eq_true rfl) (by show 0 + 1 + 1 + 1 + 1 + 1 + 1 + 1 + 1 + 1 + 1 + 1 + 1 + 1 + 1 + 1 + 1 + 1 ≤ 18; omega) (by show 0 + 64 + 64 + 64 + 64 + 512 + 512 + 65 + 4096 + 4096 + 4096 + 4096 + 4096 + 4096 + 4096 + 4096 + 4096 + 4096 ≤ 46401; omega) dd_M_init_147 (fun H hM hz hS => ?_)
  rw [hsz] at hM hz ⊢
  replace hsz : H.size = (sz + 17) := hz
  replace hM : hm G (mp_up u32 (sz + 16) (iA G 4096 (fun _ => 0))) H := hM
  replace hF : ∀ z9, (mp_up u32 (sz + 16) (iA G 4096 (fun _ => 0))) z9 ≠ none → fr M sz z9 := hF_put hF (hA _ (Nat.le_trans (Nat.le_of_eq hsz0) (Nat.le_add_right _ _)))
  replace my := mp_old (e := iA G 4096 (fun _ => 0)) my hn
  replace a0 := mp_old (e := iA G 4096 (fun _ => 0)) a0 hn
  replace a1 := mp_old (e := iA G 4096 (fun _ => 0)) a1 hn
  replace a2 := mp_old (e := iA G 4096 (fun _ => 0)) a2 hn
  replace a3 := mp_old (e := iA G 4096 (fun _ => 0)) a3 hn
  replace a4 := mp_old (e := iA G 4096 (fun _ => 0)) a4 hn
  replace a5 := mp_old (e := iA G 4096 (fun _ => 0)) a5 hn
  replace a6 := mp_old (e := iA G 4096 (fun _ => 0)) a6 hn
  replace a7 := mp_old (e := iA G 4096 (fun _ => 0)) a7 hn
  replace a8 := mp_old (e := iA G 4096 (fun _ => 0)) a8 hn
  replace a9 := mp_old (e := iA G 4096 (fun _ => 0)) a9 hn
  replace a10 := mp_old (e := iA G 4096 (fun _ => 0)) a10 hn
  replace a11 := mp_old (e := iA G 4096 (fun _ => 0)) a11 hn
  replace a12 := mp_old (e := iA G 4096 (fun _ => 0)) a12 hn
  replace a13 := mp_old (e := iA G 4096 (fun _ => 0)) a13 hn
  replace a14 := mp_old (e := iA G 4096 (fun _ => 0)) a14 hn
  replace a15 := mp_old (e := iA G 4096 (fun _ => 0)) a15 hn
  have a16 : (mp_up u32 (sz + 16) (iA G 4096 (fun _ => 0))) (sz + 16) = some (iA G 4096 (fun _ => 0)) := mp_self _ _ _
  obtain ⟨u33, eu33⟩ : ∃ z, z = (mp_up u32 (sz + 16) (iA G 4096 (fun _ => 0))) := ⟨_, rfl⟩
  rw [← eu33] at hM hF my a0 a1 a2 a3 a4 a5 a6 a7 a8 a9 a10 a11 a12 a13 a14 a15 a16
  clear eu33
  refine mg_put (v := .ref (sz + 16)) hx hb ht ii_M tt_M tt_M_ok nn_M hown hK hM hS (hF _ (by rw [my]; exact Option.some_ne_none _)) my rfl 19 (by decide) wd_2_232 (fun _ h => h) (Or.inr ⟨rfl, hname, rfl⟩) rfl rfl rfl (Nat.le_of_ble_eq_true rfl) dd_M_init_149 (fun H locs hM hz hoq hS => ?_)
  replace hsz := hz.trans hsz
  replace hM : hm G (mp_up u33 y (.inr (4, [.int 0, .int 0, .ref sz, .ref (sz + 1), .ref (sz + 2), .ref (sz + 3), .ref (sz + 4), .ref (sz + 5), .ref (sz + 6), .int 0, .ref (sz + 7), .ref (sz + 8), .ref (sz + 9), .ref (sz + 10), .ref (sz + 11), .ref (sz + 12), .ref (sz + 13), .ref (sz + 14), .ref (sz + 15), .ref (sz + 16), .null, .int 0, .int 0, .int 0, .int 0]))) H := hM
  replace hF : ∀ z9, (mp_up u33 y (.inr (4, [.int 0, .int 0, .ref sz, .ref (sz + 1), .ref (sz + 2), .ref (sz + 3), .ref (sz + 4), .ref (sz + 5), .ref (sz + 6), .int 0, .ref (sz + 7), .ref (sz + 8), .ref (sz + 9), .ref (sz + 10), .ref (sz + 11), .ref (sz + 12), .ref (sz + 13), .ref (sz + 14), .ref (sz + 15), .ref (sz + 16), .null, .int 0, .int 0, .int 0, .int 0]))) z9 ≠ none → fr M sz z9 := hF_put hF (hF _ (by rw [my]; exact Option.some_ne_none _))
  replace a0 := mp_at (e := (.inr (4, [.int 0, .int 0, .ref sz, .ref (sz + 1), .ref (sz + 2), .ref (sz + 3), .ref (sz + 4), .ref (sz + 5), .ref (sz + 6), .int 0, .ref (sz + 7), .ref (sz + 8), .ref (sz + 9), .ref (sz + 10), .ref (sz + 11), .ref (sz + 12), .ref (sz + 13), .ref (sz + 14), .ref (sz + 15), .ref (sz + 16), .null, .int 0, .int 0, .int 0, .int 0]))) (Nat.ne_of_gt hyb) a0
  replace a1 := mp_at (e := (.inr (4, [.int 0, .int 0, .ref sz, .ref (sz + 1), .ref (sz + 2), .ref (sz + 3), .ref (sz + 4), .ref (sz + 5), .ref (sz + 6), .int 0, .ref (sz + 7), .ref (sz + 8), .ref (sz + 9), .ref (sz + 10), .ref (sz + 11), .ref (sz + 12), .ref (sz + 13), .ref (sz + 14), .ref (sz + 15), .ref (sz + 16), .null, .int 0, .int 0, .int 0, .int 0]))) (ne_ad hyb 1) a1
  replace a2 := mp_at (e := (.inr (4, [.int 0, .int 0, .ref sz, .ref (sz + 1), .ref (sz + 2), .ref (sz + 3), .ref (sz + 4), .ref (sz + 5), .ref (sz + 6), .int 0, .ref (sz + 7), .ref (sz + 8), .ref (sz + 9), .ref (sz + 10), .ref (sz + 11), .ref (sz + 12), .ref (sz + 13), .ref (sz + 14), .ref (sz + 15), .ref (sz + 16), .null, .int 0, .int 0, .int 0, .int 0]))) (ne_ad hyb 2) a2
  replace a3 := mp_at (e := (.inr (4, [.int 0, .int 0, .ref sz, .ref (sz + 1), .ref (sz + 2), .ref (sz + 3), .ref (sz + 4), .ref (sz + 5), .ref (sz + 6), .int 0, .ref (sz + 7), .ref (sz + 8), .ref (sz + 9), .ref (sz + 10), .ref (sz + 11), .ref (sz + 12), .ref (sz + 13), .ref (sz + 14), .ref (sz + 15), .ref (sz + 16), .null, .int 0, .int 0, .int 0, .int 0]))) (ne_ad hyb 3) a3
  replace a4 := mp_at (e := (.inr (4, [.int 0, .int 0, .ref sz, .ref (sz + 1), .ref (sz + 2), .ref (sz + 3), .ref (sz + 4), .ref (sz + 5), .ref (sz + 6), .int 0, .ref (sz + 7), .ref (sz + 8), .ref (sz + 9), .ref (sz + 10), .ref (sz + 11), .ref (sz + 12), .ref (sz + 13), .ref (sz + 14), .ref (sz + 15), .ref (sz + 16), .null, .int 0, .int 0, .int 0, .int 0]))) (ne_ad hyb 4) a4
  replace a5 := mp_at (e := (.inr (4, [.int 0, .int 0, .ref sz, .ref (sz + 1), .ref (sz + 2), .ref (sz + 3), .ref (sz + 4), .ref (sz + 5), .ref (sz + 6), .int 0, .ref (sz + 7), .ref (sz + 8), .ref (sz + 9), .ref (sz + 10), .ref (sz + 11), .ref (sz + 12), .ref (sz + 13), .ref (sz + 14), .ref (sz + 15), .ref (sz + 16), .null, .int 0, .int 0, .int 0, .int 0]))) (ne_ad hyb 5) a5
  replace a6 := mp_at (e := (.inr (4, [.int 0, .int 0, .ref sz, .ref (sz + 1), .ref (sz + 2), .ref (sz + 3), .ref (sz + 4), .ref (sz + 5), .ref (sz + 6), .int 0, .ref (sz + 7), .ref (sz + 8), .ref (sz + 9), .ref (sz + 10), .ref (sz + 11), .ref (sz + 12), .ref (sz + 13), .ref (sz + 14), .ref (sz + 15), .ref (sz + 16), .null, .int 0, .int 0, .int 0, .int 0]))) (ne_ad hyb 6) a6
  replace a7 := mp_at (e := (.inr (4, [.int 0, .int 0, .ref sz, .ref (sz + 1), .ref (sz + 2), .ref (sz + 3), .ref (sz + 4), .ref (sz + 5), .ref (sz + 6), .int 0, .ref (sz + 7), .ref (sz + 8), .ref (sz + 9), .ref (sz + 10), .ref (sz + 11), .ref (sz + 12), .ref (sz + 13), .ref (sz + 14), .ref (sz + 15), .ref (sz + 16), .null, .int 0, .int 0, .int 0, .int 0]))) (ne_ad hyb 7) a7
  replace a8 := mp_at (e := (.inr (4, [.int 0, .int 0, .ref sz, .ref (sz + 1), .ref (sz + 2), .ref (sz + 3), .ref (sz + 4), .ref (sz + 5), .ref (sz + 6), .int 0, .ref (sz + 7), .ref (sz + 8), .ref (sz + 9), .ref (sz + 10), .ref (sz + 11), .ref (sz + 12), .ref (sz + 13), .ref (sz + 14), .ref (sz + 15), .ref (sz + 16), .null, .int 0, .int 0, .int 0, .int 0]))) (ne_ad hyb 8) a8
  replace a9 := mp_at (e := (.inr (4, [.int 0, .int 0, .ref sz, .ref (sz + 1), .ref (sz + 2), .ref (sz + 3), .ref (sz + 4), .ref (sz + 5), .ref (sz + 6), .int 0, .ref (sz + 7), .ref (sz + 8), .ref (sz + 9), .ref (sz + 10), .ref (sz + 11), .ref (sz + 12), .ref (sz + 13), .ref (sz + 14), .ref (sz + 15), .ref (sz + 16), .null, .int 0, .int 0, .int 0, .int 0]))) (ne_ad hyb 9) a9
  replace a10 := mp_at (e := (.inr (4, [.int 0, .int 0, .ref sz, .ref (sz + 1), .ref (sz + 2), .ref (sz + 3), .ref (sz + 4), .ref (sz + 5), .ref (sz + 6), .int 0, .ref (sz + 7), .ref (sz + 8), .ref (sz + 9), .ref (sz + 10), .ref (sz + 11), .ref (sz + 12), .ref (sz + 13), .ref (sz + 14), .ref (sz + 15), .ref (sz + 16), .null, .int 0, .int 0, .int 0, .int 0]))) (ne_ad hyb 10) a10
  replace a11 := mp_at (e := (.inr (4, [.int 0, .int 0, .ref sz, .ref (sz + 1), .ref (sz + 2), .ref (sz + 3), .ref (sz + 4), .ref (sz + 5), .ref (sz + 6), .int 0, .ref (sz + 7), .ref (sz + 8), .ref (sz + 9), .ref (sz + 10), .ref (sz + 11), .ref (sz + 12), .ref (sz + 13), .ref (sz + 14), .ref (sz + 15), .ref (sz + 16), .null, .int 0, .int 0, .int 0, .int 0]))) (ne_ad hyb 11) a11
  replace a12 := mp_at (e := (.inr (4, [.int 0, .int 0, .ref sz, .ref (sz + 1), .ref (sz + 2), .ref (sz + 3), .ref (sz + 4), .ref (sz + 5), .ref (sz + 6), .int 0, .ref (sz + 7), .ref (sz + 8), .ref (sz + 9), .ref (sz + 10), .ref (sz + 11), .ref (sz + 12), .ref (sz + 13), .ref (sz + 14), .ref (sz + 15), .ref (sz + 16), .null, .int 0, .int 0, .int 0, .int 0]))) (ne_ad hyb 12) a12
  replace a13 := mp_at (e := (.inr (4, [.int 0, .int 0, .ref sz, .ref (sz + 1), .ref (sz + 2), .ref (sz + 3), .ref (sz + 4), .ref (sz + 5), .ref (sz + 6), .int 0, .ref (sz + 7), .ref (sz + 8), .ref (sz + 9), .ref (sz + 10), .ref (sz + 11), .ref (sz + 12), .ref (sz + 13), .ref (sz + 14), .ref (sz + 15), .ref (sz + 16), .null, .int 0, .int 0, .int 0, .int 0]))) (ne_ad hyb 13) a13
  replace a14 := mp_at (e := (.inr (4, [.int 0, .int 0, .ref sz, .ref (sz + 1), .ref (sz + 2), .ref (sz + 3), .ref (sz + 4), .ref (sz + 5), .ref (sz + 6), .int 0, .ref (sz + 7), .ref (sz + 8), .ref (sz + 9), .ref (sz + 10), .ref (sz + 11), .ref (sz + 12), .ref (sz + 13), .ref (sz + 14), .ref (sz + 15), .ref (sz + 16), .null, .int 0, .int 0, .int 0, .int 0]))) (ne_ad hyb 14) a14
  replace a15 := mp_at (e := (.inr (4, [.int 0, .int 0, .ref sz, .ref (sz + 1), .ref (sz + 2), .ref (sz + 3), .ref (sz + 4), .ref (sz + 5), .ref (sz + 6), .int 0, .ref (sz + 7), .ref (sz + 8), .ref (sz + 9), .ref (sz + 10), .ref (sz + 11), .ref (sz + 12), .ref (sz + 13), .ref (sz + 14), .ref (sz + 15), .ref (sz + 16), .null, .int 0, .int 0, .int 0, .int 0]))) (ne_ad hyb 15) a15
  replace a16 := mp_at (e := (.inr (4, [.int 0, .int 0, .ref sz, .ref (sz + 1), .ref (sz + 2), .ref (sz + 3), .ref (sz + 4), .ref (sz + 5), .ref (sz + 6), .int 0, .ref (sz + 7), .ref (sz + 8), .ref (sz + 9), .ref (sz + 10), .ref (sz + 11), .ref (sz + 12), .ref (sz + 13), .ref (sz + 14), .ref (sz + 15), .ref (sz + 16), .null, .int 0, .int 0, .int 0, .int 0]))) (ne_ad hyb 16) a16
  replace my : (mp_up u33 y (.inr (4, [.int 0, .int 0, .ref sz, .ref (sz + 1), .ref (sz + 2), .ref (sz + 3), .ref (sz + 4), .ref (sz + 5), .ref (sz + 6), .int 0, .ref (sz + 7), .ref (sz + 8), .ref (sz + 9), .ref (sz + 10), .ref (sz + 11), .ref (sz + 12), .ref (sz + 13), .ref (sz + 14), .ref (sz + 15), .ref (sz + 16), .null, .int 0, .int 0, .int 0, .int 0]))) y = some (.inr (4, [.int 0, .int 0, .ref sz, .ref (sz + 1), .ref (sz + 2), .ref (sz + 3), .ref (sz + 4), .ref (sz + 5), .ref (sz + 6), .int 0, .ref (sz + 7), .ref (sz + 8), .ref (sz + 9), .ref (sz + 10), .ref (sz + 11), .ref (sz + 12), .ref (sz + 13), .ref (sz + 14), .ref (sz + 15), .ref (sz + 16), .null, .int 0, .int 0, .int 0, .int 0])) := mp_self _ _ _
  obtain ⟨u34, eu34⟩ : ∃ z, z = (mp_up u33 y (.inr (4, [.int 0, .int 0, .ref sz, .ref (sz + 1), .ref (sz + 2), .ref (sz + 3), .ref (sz + 4), .ref (sz + 5), .ref (sz + 6), .int 0, .ref (sz + 7), .ref (sz + 8), .ref (sz + 9), .ref (sz + 10), .ref (sz + 11), .ref (sz + 12), .ref (sz + 13), .ref (sz + 14), .ref (sz + 15), .ref (sz + 16), .null, .int 0, .int 0, .int 0, .int 0]))) := ⟨_, rfl⟩
  rw [← eu34] at hM hF my a0 a1 a2 a3 a4 a5 a6 a7 a8 a9 a10 a11 a12 a13 a14 a15 a16
  clear eu34
  refine lv_aload_n hx hb dd_M_init_152 rfl (lv_at hl 0 rfl) ?_
  refine lv_sipush (v := 4096) hx hb dd_M_init_153 (by decide) ?_
  have hn : u34 (sz + 17) = none := hm_new hM (by rw [hsz]; exact Nat.le_refl _)
  refine mg_newi (n := 4096) (N := 4096) hx hb ht wd_1_166 hK hM hS (by decide) i_4096 (Nat.le_of_ble_eq_true rfl) (by show 0 + 1 + 1 + 1 + 1 + 1 + 1 + 1 + 1 + 1 + 1 + 1 + 1 + 1 + 1 + 1 + 1 + 1 + 1 ≤ 18; omega) (by show 0 + 64 + 64 + 64 + 64 + 512 + 512 + 65 + 4096 + 4096 + 4096 + 4096 + 4096 + 4096 + 4096 + 4096 + 4096 + 4096 + 4096 ≤ 46401; omega) dd_M_init_156 (fun H hM hz hS => ?_)
  rw [hsz] at hM hz ⊢
  replace hsz : H.size = (sz + 18) := hz
  replace hM : hm G (mp_up u34 (sz + 17) (iA G 4096 (fun _ => 0))) H := hM
  replace hF : ∀ z9, (mp_up u34 (sz + 17) (iA G 4096 (fun _ => 0))) z9 ≠ none → fr M sz z9 := hF_put hF (hA _ (Nat.le_trans (Nat.le_of_eq hsz0) (Nat.le_add_right _ _)))
  replace my := mp_old (e := iA G 4096 (fun _ => 0)) my hn
  replace a0 := mp_old (e := iA G 4096 (fun _ => 0)) a0 hn
  replace a1 := mp_old (e := iA G 4096 (fun _ => 0)) a1 hn
  replace a2 := mp_old (e := iA G 4096 (fun _ => 0)) a2 hn
  replace a3 := mp_old (e := iA G 4096 (fun _ => 0)) a3 hn
  replace a4 := mp_old (e := iA G 4096 (fun _ => 0)) a4 hn
  replace a5 := mp_old (e := iA G 4096 (fun _ => 0)) a5 hn
  replace a6 := mp_old (e := iA G 4096 (fun _ => 0)) a6 hn
  replace a7 := mp_old (e := iA G 4096 (fun _ => 0)) a7 hn
  replace a8 := mp_old (e := iA G 4096 (fun _ => 0)) a8 hn
  replace a9 := mp_old (e := iA G 4096 (fun _ => 0)) a9 hn
  replace a10 := mp_old (e := iA G 4096 (fun _ => 0)) a10 hn
  replace a11 := mp_old (e := iA G 4096 (fun _ => 0)) a11 hn
  replace a12 := mp_old (e := iA G 4096 (fun _ => 0)) a12 hn
  replace a13 := mp_old (e := iA G 4096 (fun _ => 0)) a13 hn
  replace a14 := mp_old (e := iA G 4096 (fun _ => 0)) a14 hn
  replace a15 := mp_old (e := iA G 4096 (fun _ => 0)) a15 hn
  replace a16 := mp_old (e := iA G 4096 (fun _ => 0)) a16 hn
  have a17 : (mp_up u34 (sz + 17) (iA G 4096 (fun _ => 0))) (sz + 17) = some (iA G 4096 (fun _ => 0)) := mp_self _ _ _
  obtain ⟨u35, eu35⟩ : ∃ z, z = (mp_up u34 (sz + 17) (iA G 4096 (fun _ => 0))) := ⟨_, rfl⟩
  rw [← eu35] at hM hF my a0 a1 a2 a3 a4 a5 a6 a7 a8 a9 a10 a11 a12 a13 a14 a15 a16 a17
  clear eu35
  refine mg_put (v := .ref (sz + 17)) hx hb ht ii_M tt_M tt_M_ok nn_M hown hK hM hS (hF _ (by rw [my]; exact Option.some_ne_none _)) my rfl 20 (by decide) wd_2_233 (fun _ h => h) (Or.inr ⟨rfl, hname, rfl⟩) rfl rfl rfl (Nat.le_of_ble_eq_true rfl) dd_M_init_158 (fun H locs hM hz hoq hS => ?_)
  replace hsz := hz.trans hsz
  replace hM : hm G (mp_up u35 y (.inr (4, [.int 0, .int 0, .ref sz, .ref (sz + 1), .ref (sz + 2), .ref (sz + 3), .ref (sz + 4), .ref (sz + 5), .ref (sz + 6), .int 0, .ref (sz + 7), .ref (sz + 8), .ref (sz + 9), .ref (sz + 10), .ref (sz + 11), .ref (sz + 12), .ref (sz + 13), .ref (sz + 14), .ref (sz + 15), .ref (sz + 16), .ref (sz + 17), .int 0, .int 0, .int 0, .int 0]))) H := hM
  replace hF : ∀ z9, (mp_up u35 y (.inr (4, [.int 0, .int 0, .ref sz, .ref (sz + 1), .ref (sz + 2), .ref (sz + 3), .ref (sz + 4), .ref (sz + 5), .ref (sz + 6), .int 0, .ref (sz + 7), .ref (sz + 8), .ref (sz + 9), .ref (sz + 10), .ref (sz + 11), .ref (sz + 12), .ref (sz + 13), .ref (sz + 14), .ref (sz + 15), .ref (sz + 16), .ref (sz + 17), .int 0, .int 0, .int 0, .int 0]))) z9 ≠ none → fr M sz z9 := hF_put hF (hF _ (by rw [my]; exact Option.some_ne_none _))
  replace a0 := mp_at (e := (.inr (4, [.int 0, .int 0, .ref sz, .ref (sz + 1), .ref (sz + 2), .ref (sz + 3), .ref (sz + 4), .ref (sz + 5), .ref (sz + 6), .int 0, .ref (sz + 7), .ref (sz + 8), .ref (sz + 9), .ref (sz + 10), .ref (sz + 11), .ref (sz + 12), .ref (sz + 13), .ref (sz + 14), .ref (sz + 15), .ref (sz + 16), .ref (sz + 17), .int 0, .int 0, .int 0, .int 0]))) (Nat.ne_of_gt hyb) a0
  replace a1 := mp_at (e := (.inr (4, [.int 0, .int 0, .ref sz, .ref (sz + 1), .ref (sz + 2), .ref (sz + 3), .ref (sz + 4), .ref (sz + 5), .ref (sz + 6), .int 0, .ref (sz + 7), .ref (sz + 8), .ref (sz + 9), .ref (sz + 10), .ref (sz + 11), .ref (sz + 12), .ref (sz + 13), .ref (sz + 14), .ref (sz + 15), .ref (sz + 16), .ref (sz + 17), .int 0, .int 0, .int 0, .int 0]))) (ne_ad hyb 1) a1
  replace a2 := mp_at (e := (.inr (4, [.int 0, .int 0, .ref sz, .ref (sz + 1), .ref (sz + 2), .ref (sz + 3), .ref (sz + 4), .ref (sz + 5), .ref (sz + 6), .int 0, .ref (sz + 7), .ref (sz + 8), .ref (sz + 9), .ref (sz + 10), .ref (sz + 11), .ref (sz + 12), .ref (sz + 13), .ref (sz + 14), .ref (sz + 15), .ref (sz + 16), .ref (sz + 17), .int 0, .int 0, .int 0, .int 0]))) (ne_ad hyb 2) a2
  replace a3 := mp_at (e := (.inr (4, [.int 0, .int 0, .ref sz, .ref (sz + 1), .ref (sz + 2), .ref (sz + 3), .ref (sz + 4), .ref (sz + 5), .ref (sz + 6), .int 0, .ref (sz + 7), .ref (sz + 8), .ref (sz + 9), .ref (sz + 10), .ref (sz + 11), .ref (sz + 12), .ref (sz + 13), .ref (sz + 14), .ref (sz + 15), .ref (sz + 16), .ref (sz + 17), .int 0, .int 0, .int 0, .int 0]))) (ne_ad hyb 3) a3
  replace a4 := mp_at (e := (.inr (4, [.int 0, .int 0, .ref sz, .ref (sz + 1), .ref (sz + 2), .ref (sz + 3), .ref (sz + 4), .ref (sz + 5), .ref (sz + 6), .int 0, .ref (sz + 7), .ref (sz + 8), .ref (sz + 9), .ref (sz + 10), .ref (sz + 11), .ref (sz + 12), .ref (sz + 13), .ref (sz + 14), .ref (sz + 15), .ref (sz + 16), .ref (sz + 17), .int 0, .int 0, .int 0, .int 0]))) (ne_ad hyb 4) a4
  replace a5 := mp_at (e := (.inr (4, [.int 0, .int 0, .ref sz, .ref (sz + 1), .ref (sz + 2), .ref (sz + 3), .ref (sz + 4), .ref (sz + 5), .ref (sz + 6), .int 0, .ref (sz + 7), .ref (sz + 8), .ref (sz + 9), .ref (sz + 10), .ref (sz + 11), .ref (sz + 12), .ref (sz + 13), .ref (sz + 14), .ref (sz + 15), .ref (sz + 16), .ref (sz + 17), .int 0, .int 0, .int 0, .int 0]))) (ne_ad hyb 5) a5
  replace a6 := mp_at (e := (.inr (4, [.int 0, .int 0, .ref sz, .ref (sz + 1), .ref (sz + 2), .ref (sz + 3), .ref (sz + 4), .ref (sz + 5), .ref (sz + 6), .int 0, .ref (sz + 7), .ref (sz + 8), .ref (sz + 9), .ref (sz + 10), .ref (sz + 11), .ref (sz + 12), .ref (sz + 13), .ref (sz + 14), .ref (sz + 15), .ref (sz + 16), .ref (sz + 17), .int 0, .int 0, .int 0, .int 0]))) (ne_ad hyb 6) a6
  replace a7 := mp_at (e := (.inr (4, [.int 0, .int 0, .ref sz, .ref (sz + 1), .ref (sz + 2), .ref (sz + 3), .ref (sz + 4), .ref (sz + 5), .ref (sz + 6), .int 0, .ref (sz + 7), .ref (sz + 8), .ref (sz + 9), .ref (sz + 10), .ref (sz + 11), .ref (sz + 12), .ref (sz + 13), .ref (sz + 14), .ref (sz + 15), .ref (sz + 16), .ref (sz + 17), .int 0, .int 0, .int 0, .int 0]))) (ne_ad hyb 7) a7
  replace a8 := mp_at (e := (.inr (4, [.int 0, .int 0, .ref sz, .ref (sz + 1), .ref (sz + 2), .ref (sz + 3), .ref (sz + 4), .ref (sz + 5), .ref (sz + 6), .int 0, .ref (sz + 7), .ref (sz + 8), .ref (sz + 9), .ref (sz + 10), .ref (sz + 11), .ref (sz + 12), .ref (sz + 13), .ref (sz + 14), .ref (sz + 15), .ref (sz + 16), .ref (sz + 17), .int 0, .int 0, .int 0, .int 0]))) (ne_ad hyb 8) a8
  replace a9 := mp_at (e := (.inr (4, [.int 0, .int 0, .ref sz, .ref (sz + 1), .ref (sz + 2), .ref (sz + 3), .ref (sz + 4), .ref (sz + 5), .ref (sz + 6), .int 0, .ref (sz + 7), .ref (sz + 8), .ref (sz + 9), .ref (sz + 10), .ref (sz + 11), .ref (sz + 12), .ref (sz + 13), .ref (sz + 14), .ref (sz + 15), .ref (sz + 16), .ref (sz + 17), .int 0, .int 0, .int 0, .int 0]))) (ne_ad hyb 9) a9
  replace a10 := mp_at (e := (.inr (4, [.int 0, .int 0, .ref sz, .ref (sz + 1), .ref (sz + 2), .ref (sz + 3), .ref (sz + 4), .ref (sz + 5), .ref (sz + 6), .int 0, .ref (sz + 7), .ref (sz + 8), .ref (sz + 9), .ref (sz + 10), .ref (sz + 11), .ref (sz + 12), .ref (sz + 13), .ref (sz + 14), .ref (sz + 15), .ref (sz + 16), .ref (sz + 17), .int 0, .int 0, .int 0, .int 0]))) (ne_ad hyb 10) a10
  replace a11 := mp_at (e := (.inr (4, [.int 0, .int 0, .ref sz, .ref (sz + 1), .ref (sz + 2), .ref (sz + 3), .ref (sz + 4), .ref (sz + 5), .ref (sz + 6), .int 0, .ref (sz + 7), .ref (sz + 8), .ref (sz + 9), .ref (sz + 10), .ref (sz + 11), .ref (sz + 12), .ref (sz + 13), .ref (sz + 14), .ref (sz + 15), .ref (sz + 16), .ref (sz + 17), .int 0, .int 0, .int 0, .int 0]))) (ne_ad hyb 11) a11
  replace a12 := mp_at (e := (.inr (4, [.int 0, .int 0, .ref sz, .ref (sz + 1), .ref (sz + 2), .ref (sz + 3), .ref (sz + 4), .ref (sz + 5), .ref (sz + 6), .int 0, .ref (sz + 7), .ref (sz + 8), .ref (sz + 9), .ref (sz + 10), .ref (sz + 11), .ref (sz + 12), .ref (sz + 13), .ref (sz + 14), .ref (sz + 15), .ref (sz + 16), .ref (sz + 17), .int 0, .int 0, .int 0, .int 0]))) (ne_ad hyb 12) a12
  replace a13 := mp_at (e := (.inr (4, [.int 0, .int 0, .ref sz, .ref (sz + 1), .ref (sz + 2), .ref (sz + 3), .ref (sz + 4), .ref (sz + 5), .ref (sz + 6), .int 0, .ref (sz + 7), .ref (sz + 8), .ref (sz + 9), .ref (sz + 10), .ref (sz + 11), .ref (sz + 12), .ref (sz + 13), .ref (sz + 14), .ref (sz + 15), .ref (sz + 16), .ref (sz + 17), .int 0, .int 0, .int 0, .int 0]))) (ne_ad hyb 13) a13
  replace a14 := mp_at (e := (.inr (4, [.int 0, .int 0, .ref sz, .ref (sz + 1), .ref (sz + 2), .ref (sz + 3), .ref (sz + 4), .ref (sz + 5), .ref (sz + 6), .int 0, .ref (sz + 7), .ref (sz + 8), .ref (sz + 9), .ref (sz + 10), .ref (sz + 11), .ref (sz + 12), .ref (sz + 13), .ref (sz + 14), .ref (sz + 15), .ref (sz + 16), .ref (sz + 17), .int 0, .int 0, .int 0, .int 0]))) (ne_ad hyb 14) a14
  replace a15 := mp_at (e := (.inr (4, [.int 0, .int 0, .ref sz, .ref (sz + 1), .ref (sz + 2), .ref (sz + 3), .ref (sz + 4), .ref (sz + 5), .ref (sz + 6), .int 0, .ref (sz + 7), .ref (sz + 8), .ref (sz + 9), .ref (sz + 10), .ref (sz + 11), .ref (sz + 12), .ref (sz + 13), .ref (sz + 14), .ref (sz + 15), .ref (sz + 16), .ref (sz + 17), .int 0, .int 0, .int 0, .int 0]))) (ne_ad hyb 15) a15
  replace a16 := mp_at (e := (.inr (4, [.int 0, .int 0, .ref sz, .ref (sz + 1), .ref (sz + 2), .ref (sz + 3), .ref (sz + 4), .ref (sz + 5), .ref (sz + 6), .int 0, .ref (sz + 7), .ref (sz + 8), .ref (sz + 9), .ref (sz + 10), .ref (sz + 11), .ref (sz + 12), .ref (sz + 13), .ref (sz + 14), .ref (sz + 15), .ref (sz + 16), .ref (sz + 17), .int 0, .int 0, .int 0, .int 0]))) (ne_ad hyb 16) a16
  replace a17 := mp_at (e := (.inr (4, [.int 0, .int 0, .ref sz, .ref (sz + 1), .ref (sz + 2), .ref (sz + 3), .ref (sz + 4), .ref (sz + 5), .ref (sz + 6), .int 0, .ref (sz + 7), .ref (sz + 8), .ref (sz + 9), .ref (sz + 10), .ref (sz + 11), .ref (sz + 12), .ref (sz + 13), .ref (sz + 14), .ref (sz + 15), .ref (sz + 16), .ref (sz + 17), .int 0, .int 0, .int 0, .int 0]))) (ne_ad hyb 17) a17
  replace my : (mp_up u35 y (.inr (4, [.int 0, .int 0, .ref sz, .ref (sz + 1), .ref (sz + 2), .ref (sz + 3), .ref (sz + 4), .ref (sz + 5), .ref (sz + 6), .int 0, .ref (sz + 7), .ref (sz + 8), .ref (sz + 9), .ref (sz + 10), .ref (sz + 11), .ref (sz + 12), .ref (sz + 13), .ref (sz + 14), .ref (sz + 15), .ref (sz + 16), .ref (sz + 17), .int 0, .int 0, .int 0, .int 0]))) y = some (.inr (4, [.int 0, .int 0, .ref sz, .ref (sz + 1), .ref (sz + 2), .ref (sz + 3), .ref (sz + 4), .ref (sz + 5), .ref (sz + 6), .int 0, .ref (sz + 7), .ref (sz + 8), .ref (sz + 9), .ref (sz + 10), .ref (sz + 11), .ref (sz + 12), .ref (sz + 13), .ref (sz + 14), .ref (sz + 15), .ref (sz + 16), .ref (sz + 17), .int 0, .int 0, .int 0, .int 0])) := mp_self _ _ _
  obtain ⟨u36, eu36⟩ : ∃ z, z = (mp_up u35 y (.inr (4, [.int 0, .int 0, .ref sz, .ref (sz + 1), .ref (sz + 2), .ref (sz + 3), .ref (sz + 4), .ref (sz + 5), .ref (sz + 6), .int 0, .ref (sz + 7), .ref (sz + 8), .ref (sz + 9), .ref (sz + 10), .ref (sz + 11), .ref (sz + 12), .ref (sz + 13), .ref (sz + 14), .ref (sz + 15), .ref (sz + 16), .ref (sz + 17), .int 0, .int 0, .int 0, .int 0]))) := ⟨_, rfl⟩
  rw [← eu36] at hM hF my a0 a1 a2 a3 a4 a5 a6 a7 a8 a9 a10 a11 a12 a13 a14 a15 a16 a17
  clear eu36
  refine lv_aload_n hx hb dd_M_init_161 rfl (lv_at hl 0 rfl) ?_
  refine lv_iconst (v := -1) hx hb dd_M_init_162 (by decide) ?_
  refine mg_put (v := .int (-1)) hx hb ht ii_M tt_M tt_M_ok nn_M hown hK hM hS (hF _ (by rw [my]; exact Option.some_ne_none _)) my rfl 23 (by decide) wd_2_236 (fun _ h => h) (Or.inl rfl) rfl rfl rfl (Nat.le_of_ble_eq_true rfl) dd_M_init_163 (fun H locs hM hz hoq hS => ?_)
  replace hsz := hz.trans hsz
  replace hM : hm G (mp_up u36 y (.inr (4, [.int 0, .int 0, .ref sz, .ref (sz + 1), .ref (sz + 2), .ref (sz + 3), .ref (sz + 4), .ref (sz + 5), .ref (sz + 6), .int 0, .ref (sz + 7), .ref (sz + 8), .ref (sz + 9), .ref (sz + 10), .ref (sz + 11), .ref (sz + 12), .ref (sz + 13), .ref (sz + 14), .ref (sz + 15), .ref (sz + 16), .ref (sz + 17), .int 0, .int 0, .int (-1), .int 0]))) H := hM
  replace hF : ∀ z9, (mp_up u36 y (.inr (4, [.int 0, .int 0, .ref sz, .ref (sz + 1), .ref (sz + 2), .ref (sz + 3), .ref (sz + 4), .ref (sz + 5), .ref (sz + 6), .int 0, .ref (sz + 7), .ref (sz + 8), .ref (sz + 9), .ref (sz + 10), .ref (sz + 11), .ref (sz + 12), .ref (sz + 13), .ref (sz + 14), .ref (sz + 15), .ref (sz + 16), .ref (sz + 17), .int 0, .int 0, .int (-1), .int 0]))) z9 ≠ none → fr M sz z9 := hF_put hF (hF _ (by rw [my]; exact Option.some_ne_none _))
  replace a0 := mp_at (e := (.inr (4, [.int 0, .int 0, .ref sz, .ref (sz + 1), .ref (sz + 2), .ref (sz + 3), .ref (sz + 4), .ref (sz + 5), .ref (sz + 6), .int 0, .ref (sz + 7), .ref (sz + 8), .ref (sz + 9), .ref (sz + 10), .ref (sz + 11), .ref (sz + 12), .ref (sz + 13), .ref (sz + 14), .ref (sz + 15), .ref (sz + 16), .ref (sz + 17), .int 0, .int 0, .int (-1), .int 0]))) (Nat.ne_of_gt hyb) a0
  replace a1 := mp_at (e := (.inr (4, [.int 0, .int 0, .ref sz, .ref (sz + 1), .ref (sz + 2), .ref (sz + 3), .ref (sz + 4), .ref (sz + 5), .ref (sz + 6), .int 0, .ref (sz + 7), .ref (sz + 8), .ref (sz + 9), .ref (sz + 10), .ref (sz + 11), .ref (sz + 12), .ref (sz + 13), .ref (sz + 14), .ref (sz + 15), .ref (sz + 16), .ref (sz + 17), .int 0, .int 0, .int (-1), .int 0]))) (ne_ad hyb 1) a1
  replace a2 := mp_at (e := (.inr (4, [.int 0, .int 0, .ref sz, .ref (sz + 1), .ref (sz + 2), .ref (sz + 3), .ref (sz + 4), .ref (sz + 5), .ref (sz + 6), .int 0, .ref (sz + 7), .ref (sz + 8), .ref (sz + 9), .ref (sz + 10), .ref (sz + 11), .ref (sz + 12), .ref (sz + 13), .ref (sz + 14), .ref (sz + 15), .ref (sz + 16), .ref (sz + 17), .int 0, .int 0, .int (-1), .int 0]))) (ne_ad hyb 2) a2
  replace a3 := mp_at (e := (.inr (4, [.int 0, .int 0, .ref sz, .ref (sz + 1), .ref (sz + 2), .ref (sz + 3), .ref (sz + 4), .ref (sz + 5), .ref (sz + 6), .int 0, .ref (sz + 7), .ref (sz + 8), .ref (sz + 9), .ref (sz + 10), .ref (sz + 11), .ref (sz + 12), .ref (sz + 13), .ref (sz + 14), .ref (sz + 15), .ref (sz + 16), .ref (sz + 17), .int 0, .int 0, .int (-1), .int 0]))) (ne_ad hyb 3) a3
  replace a4 := mp_at (e := (.inr (4, [.int 0, .int 0, .ref sz, .ref (sz + 1), .ref (sz + 2), .ref (sz + 3), .ref (sz + 4), .ref (sz + 5), .ref (sz + 6), .int 0, .ref (sz + 7), .ref (sz + 8), .ref (sz + 9), .ref (sz + 10), .ref (sz + 11), .ref (sz + 12), .ref (sz + 13), .ref (sz + 14), .ref (sz + 15), .ref (sz + 16), .ref (sz + 17), .int 0, .int 0, .int (-1), .int 0]))) (ne_ad hyb 4) a4
  replace a5 := mp_at (e := (.inr (4, [.int 0, .int 0, .ref sz, .ref (sz + 1), .ref (sz + 2), .ref (sz + 3), .ref (sz + 4), .ref (sz + 5), .ref (sz + 6), .int 0, .ref (sz + 7), .ref (sz + 8), .ref (sz + 9), .ref (sz + 10), .ref (sz + 11), .ref (sz + 12), .ref (sz + 13), .ref (sz + 14), .ref (sz + 15), .ref (sz + 16), .ref (sz + 17), .int 0, .int 0, .int (-1), .int 0]))) (ne_ad hyb 5) a5
  replace a6 := mp_at (e := (.inr (4, [.int 0, .int 0, .ref sz, .ref (sz + 1), .ref (sz + 2), .ref (sz + 3), .ref (sz + 4), .ref (sz + 5), .ref (sz + 6), .int 0, .ref (sz + 7), .ref (sz + 8), .ref (sz + 9), .ref (sz + 10), .ref (sz + 11), .ref (sz + 12), .ref (sz + 13), .ref (sz + 14), .ref (sz + 15), .ref (sz + 16), .ref (sz + 17), .int 0, .int 0, .int (-1), .int 0]))) (ne_ad hyb 6) a6
  replace a7 := mp_at (e := (.inr (4, [.int 0, .int 0, .ref sz, .ref (sz + 1), .ref (sz + 2), .ref (sz + 3), .ref (sz + 4), .ref (sz + 5), .ref (sz + 6), .int 0, .ref (sz + 7), .ref (sz + 8), .ref (sz + 9), .ref (sz + 10), .ref (sz + 11), .ref (sz + 12), .ref (sz + 13), .ref (sz + 14), .ref (sz + 15), .ref (sz + 16), .ref (sz + 17), .int 0, .int 0, .int (-1), .int 0]))) (ne_ad hyb 7) a7
  replace a8 := mp_at (e := (.inr (4, [.int 0, .int 0, .ref sz, .ref (sz + 1), .ref (sz + 2), .ref (sz + 3), .ref (sz + 4), .ref (sz + 5), .ref (sz + 6), .int 0, .ref (sz + 7), .ref (sz + 8), .ref (sz + 9), .ref (sz + 10), .ref (sz + 11), .ref (sz + 12), .ref (sz + 13), .ref (sz + 14), .ref (sz + 15), .ref (sz + 16), .ref (sz + 17), .int 0, .int 0, .int (-1), .int 0]))) (ne_ad hyb 8) a8
  replace a9 := mp_at (e := (.inr (4, [.int 0, .int 0, .ref sz, .ref (sz + 1), .ref (sz + 2), .ref (sz + 3), .ref (sz + 4), .ref (sz + 5), .ref (sz + 6), .int 0, .ref (sz + 7), .ref (sz + 8), .ref (sz + 9), .ref (sz + 10), .ref (sz + 11), .ref (sz + 12), .ref (sz + 13), .ref (sz + 14), .ref (sz + 15), .ref (sz + 16), .ref (sz + 17), .int 0, .int 0, .int (-1), .int 0]))) (ne_ad hyb 9) a9
  replace a10 := mp_at (e := (.inr (4, [.int 0, .int 0, .ref sz, .ref (sz + 1), .ref (sz + 2), .ref (sz + 3), .ref (sz + 4), .ref (sz + 5), .ref (sz + 6), .int 0, .ref (sz + 7), .ref (sz + 8), .ref (sz + 9), .ref (sz + 10), .ref (sz + 11), .ref (sz + 12), .ref (sz + 13), .ref (sz + 14), .ref (sz + 15), .ref (sz + 16), .ref (sz + 17), .int 0, .int 0, .int (-1), .int 0]))) (ne_ad hyb 10) a10
  replace a11 := mp_at (e := (.inr (4, [.int 0, .int 0, .ref sz, .ref (sz + 1), .ref (sz + 2), .ref (sz + 3), .ref (sz + 4), .ref (sz + 5), .ref (sz + 6), .int 0, .ref (sz + 7), .ref (sz + 8), .ref (sz + 9), .ref (sz + 10), .ref (sz + 11), .ref (sz + 12), .ref (sz + 13), .ref (sz + 14), .ref (sz + 15), .ref (sz + 16), .ref (sz + 17), .int 0, .int 0, .int (-1), .int 0]))) (ne_ad hyb 11) a11
  replace a12 := mp_at (e := (.inr (4, [.int 0, .int 0, .ref sz, .ref (sz + 1), .ref (sz + 2), .ref (sz + 3), .ref (sz + 4), .ref (sz + 5), .ref (sz + 6), .int 0, .ref (sz + 7), .ref (sz + 8), .ref (sz + 9), .ref (sz + 10), .ref (sz + 11), .ref (sz + 12), .ref (sz + 13), .ref (sz + 14), .ref (sz + 15), .ref (sz + 16), .ref (sz + 17), .int 0, .int 0, .int (-1), .int 0]))) (ne_ad hyb 12) a12
  replace a13 := mp_at (e := (.inr (4, [.int 0, .int 0, .ref sz, .ref (sz + 1), .ref (sz + 2), .ref (sz + 3), .ref (sz + 4), .ref (sz + 5), .ref (sz + 6), .int 0, .ref (sz + 7), .ref (sz + 8), .ref (sz + 9), .ref (sz + 10), .ref (sz + 11), .ref (sz + 12), .ref (sz + 13), .ref (sz + 14), .ref (sz + 15), .ref (sz + 16), .ref (sz + 17), .int 0, .int 0, .int (-1), .int 0]))) (ne_ad hyb 13) a13
  replace a14 := mp_at (e := (.inr (4, [.int 0, .int 0, .ref sz, .ref (sz + 1), .ref (sz + 2), .ref (sz + 3), .ref (sz + 4), .ref (sz + 5), .ref (sz + 6), .int 0, .ref (sz + 7), .ref (sz + 8), .ref (sz + 9), .ref (sz + 10), .ref (sz + 11), .ref (sz + 12), .ref (sz + 13), .ref (sz + 14), .ref (sz + 15), .ref (sz + 16), .ref (sz + 17), .int 0, .int 0, .int (-1), .int 0]))) (ne_ad hyb 14) a14
  replace a15 := mp_at (e := (.inr (4, [.int 0, .int 0, .ref sz, .ref (sz + 1), .ref (sz + 2), .ref (sz + 3), .ref (sz + 4), .ref (sz + 5), .ref (sz + 6), .int 0, .ref (sz + 7), .ref (sz + 8), .ref (sz + 9), .ref (sz + 10), .ref (sz + 11), .ref (sz + 12), .ref (sz + 13), .ref (sz + 14), .ref (sz + 15), .ref (sz + 16), .ref (sz + 17), .int 0, .int 0, .int (-1), .int 0]))) (ne_ad hyb 15) a15
  replace a16 := mp_at (e := (.inr (4, [.int 0, .int 0, .ref sz, .ref (sz + 1), .ref (sz + 2), .ref (sz + 3), .ref (sz + 4), .ref (sz + 5), .ref (sz + 6), .int 0, .ref (sz + 7), .ref (sz + 8), .ref (sz + 9), .ref (sz + 10), .ref (sz + 11), .ref (sz + 12), .ref (sz + 13), .ref (sz + 14), .ref (sz + 15), .ref (sz + 16), .ref (sz + 17), .int 0, .int 0, .int (-1), .int 0]))) (ne_ad hyb 16) a16
  replace a17 := mp_at (e := (.inr (4, [.int 0, .int 0, .ref sz, .ref (sz + 1), .ref (sz + 2), .ref (sz + 3), .ref (sz + 4), .ref (sz + 5), .ref (sz + 6), .int 0, .ref (sz + 7), .ref (sz + 8), .ref (sz + 9), .ref (sz + 10), .ref (sz + 11), .ref (sz + 12), .ref (sz + 13), .ref (sz + 14), .ref (sz + 15), .ref (sz + 16), .ref (sz + 17), .int 0, .int 0, .int (-1), .int 0]))) (ne_ad hyb 17) a17
  replace my : (mp_up u36 y (.inr (4, [.int 0, .int 0, .ref sz, .ref (sz + 1), .ref (sz + 2), .ref (sz + 3), .ref (sz + 4), .ref (sz + 5), .ref (sz + 6), .int 0, .ref (sz + 7), .ref (sz + 8), .ref (sz + 9), .ref (sz + 10), .ref (sz + 11), .ref (sz + 12), .ref (sz + 13), .ref (sz + 14), .ref (sz + 15), .ref (sz + 16), .ref (sz + 17), .int 0, .int 0, .int (-1), .int 0]))) y = some (.inr (4, [.int 0, .int 0, .ref sz, .ref (sz + 1), .ref (sz + 2), .ref (sz + 3), .ref (sz + 4), .ref (sz + 5), .ref (sz + 6), .int 0, .ref (sz + 7), .ref (sz + 8), .ref (sz + 9), .ref (sz + 10), .ref (sz + 11), .ref (sz + 12), .ref (sz + 13), .ref (sz + 14), .ref (sz + 15), .ref (sz + 16), .ref (sz + 17), .int 0, .int 0, .int (-1), .int 0])) := mp_self _ _ _
  obtain ⟨u37, eu37⟩ : ∃ z, z = (mp_up u36 y (.inr (4, [.int 0, .int 0, .ref sz, .ref (sz + 1), .ref (sz + 2), .ref (sz + 3), .ref (sz + 4), .ref (sz + 5), .ref (sz + 6), .int 0, .ref (sz + 7), .ref (sz + 8), .ref (sz + 9), .ref (sz + 10), .ref (sz + 11), .ref (sz + 12), .ref (sz + 13), .ref (sz + 14), .ref (sz + 15), .ref (sz + 16), .ref (sz + 17), .int 0, .int 0, .int (-1), .int 0]))) := ⟨_, rfl⟩
  rw [← eu37] at hM hF my a0 a1 a2 a3 a4 a5 a6 a7 a8 a9 a10 a11 a12 a13 a14 a15 a16 a17
  clear eu37
  exact mw_v hx hb hr hlocks hM hF hS (by show 0 + 1 + 1 + 1 + 1 + 1 + 1 + 1 + 1 + 1 + 1 + 1 + 1 + 1 + 1 + 1 + 1 + 1 + 1 ≤ 18; omega) (by show 0 + 64 + 64 + 64 + 64 + 512 + 512 + 65 + 4096 + 4096 + 4096 + 4096 + 4096 + 4096 + 4096 + 4096 + 4096 + 4096 + 4096 ≤ 46401; omega) ⟨rfl, rm_mk ⟨a0, a1, a2, a3, a4, a5, a6, a7, a8, a9, a10, a11, a12, a13, a14, a15, a16, a17⟩ hyb my (by omega) (by omega)⟩ dd_M_init_166
