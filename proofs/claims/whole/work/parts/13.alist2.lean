theorem a_half {n : Nat} (h : n < 2 ^ 31) : nI n >>> ((1 : Int32) &&& 31) = nI (n / 2) := by
  have k := pk_shrN (n := n) h ((1 : Int32) &&& 31) 1 (by decide)
  rw [Nat.pow_one] at k
  exact k
theorem a_newL {n : Nat} (h2 : 2 ≤ n) (h : n ≤ 600) : nI n + (if nI 1 < nI (n / 2) then nI (n / 2) else nI 1) = nI (n + n / 2) := by
  by_cases c : 1 < n / 2
  · rw [if_pos (nI_lt c (by omega))]
    exact nI_add n (n / 2)
  · rw [if_neg (nI_nlt (by omega) (by decide))]
    have hd : n / 2 = 1 := by omega
    rw [hd]
    exact nI_add n 1
theorem a_one {n : Nat} : nI (n + 1) - nI n = nI 1 := by
  have k := pk_sub (a := n + 1) (b := n) (by omega)
  rw [Nat.add_sub_cancel_left] at k
  exact k
theorem ob_up2 {M : mC} {v a : Nat} {e : va_E} (h : ob_ok M v) (ha : v ≠ a) : ob_ok (mp_up M a e) v := h.elim (fun ⟨r, h⟩ => Or.inl ⟨r, mp_at ha h⟩) (fun ⟨r, h⟩ => Or.inr ⟨r, mp_at ha h⟩)
theorem hm_oo {M : mC} {v a : Nat} {r : aR} (h : ob_ok M v) (ha : M a = some (aC r)) : v ≠ a := fun z => by
  rcases h with ⟨q, h⟩ | ⟨q, h⟩ <;> rw [z, ha] at h <;> cases h
theorem hm_ne {M : mC} {a b : Nat} {e : va_E} (h : M a = some e) (hb : M b = none) : a ≠ b := fun z => by rw [z, hb] at h; cases h
set_option maxHeartbeats 4000000 in
set_option maxRecDepth 100000 in
theorem cc_AR_copyOf {l : Launch} {G : gC} {M : mC} {sz : Nat} {a0 n0 N : Nat} {f : Nat → Option Nat} (m0 : M a0 = some (oA G n0 f)) (hN : n0 ≤ N) (hN2 : N ≤ 1000) (hel : ∀ i, i < n0 → ∀ y, f i = some y → ob_ok M y) : cW l yy_AR_copyOf bb_AR_copyOf 2 (some (.array (.object "java/lang/Object"))) 2 1 2000 G M sz [.ref a0, .int (nI N)] (fun v u => v = some (.ref sz) ∧ u = mp_up M sz (oA G N (va_cpy f (fun _ => none) 0 0 n0))) := by
  refine me_W (by decide) (Nat.le_of_ble_eq_true rfl) ?_
  intro p e s m below meth c ls hx hb hr hlocks hml hown hname ht hsz hM hK hZ hl
  have hown : s.vm.findClass RR_AR = some m.cls := hown
  have hl : lv_has ls 2 [(0, .ref a0), (1, .int (nI N))] := hl
  have hS : va_S (fr M sz) s.heap s.heap [] := va_S.rf
  have hF : ∀ q, M q ≠ none → fr M sz q := fr_M
  have hA : ∀ q, s.heap.size ≤ q → fr M sz q := fun q h => fr_A q (by rw [← hsz]; exact h)
  refine lv_aload_n hx hb dd_AR_copyOf_0 rfl (lv_at hl 0 rfl) ?_
  refine lv_iload_n hx hb dd_AR_copyOf_1 rfl (lv_at hl 1 rfl) ?_
  refine lv_aload_n hx hb dd_AR_copyOf_2 rfl (lv_at hl 0 rfl) ?_
  refine mg_getC (rest := [.int (nI N), .ref a0]) hx hb (hml.trans hl.1.symm) hown ht wd_1_196 wd_3_174 wd_1_197 wd_1_204 hK hM m0 (Nat.le_of_ble_eq_true rfl) (Nat.le_of_ble_eq_true rfl) dd_AR_copyOf_3 ?_
  have hFr := hF_fr hF hS hA
  refine mx_S (As := [.ref a0, .int (nI N), .ref G.2.2.2.2]) (rest := []) 3 (cc_AR_copyOf3 m0 hN hN2 hel) hx hb hml hown ht hM hK hZ hS hFr hl.1 lk_AR_300 (by decide +kernel) (by decide) rfl rfl (Nat.le_of_ble_eq_true rfl) dd_AR_copyOf_6 ⟨Nat.le_of_ble_eq_true rfl, Nat.le_of_ble_eq_true rfl⟩ (fun v u H locs hp hM hd hle hk hS => ?_)
  rw [hsz] at hp
  obtain ⟨rfl, hu⟩ := hp
  rw [hu] at hM hd
  clear hu
  have hF := fun z9 h => hFr z9 (hd z9 h)
  obtain ⟨z1, hsz⟩ : ∃ z9, H.size = z9 := ⟨_, rfl⟩
  have mn : (mp_up M sz (oA G N (va_cpy f (fun _ => none) 0 0 n0))) sz = some (oA G N (va_cpy f (fun _ => none) 0 0 n0)) := mp_self _ _ _
  have hM : hm G (mp_up M sz (oA G N (va_cpy f (fun _ => none) 0 0 n0))) H := hM
  exact mw_a (x := (some sz)) hx hb hr (by first | exact Or.inl ⟨_, rfl⟩ | exact Or.inr ⟨_, rfl⟩) hlocks hM hF hS (Nat.le_of_ble_eq_true rfl) (Nat.le_of_ble_eq_true rfl) ⟨rfl, rfl⟩ dd_AR_copyOf_9

set_option maxHeartbeats 4000000 in
set_option maxRecDepth 100000 in
theorem cc_A_grow1_f {l : Launch} {G : gC} {M : mC} {sz : Nat} {h0 : Nat} {r : aR} (m0 : M h0 = some (aC r)) {n0 : Nat} {f : Nat → Option Nat} (me : M (a_ed r) = some (oA G n0 f)) (h2 : 2 ≤ n0) (hn : n0 ≤ 600) (hel : ∀ i, i < n0 → ∀ y, f i = some y → ob_ok M y) : cW l yy_A_grow1 bb_A_grow1 4 (some (.array (.object "java/lang/Object"))) 3 1 2000 G M sz [.ref h0, .int (nI (n0 + 1))] (fun v u => v = some (.ref sz) ∧ u = mp_up (mp_up M sz (oA G (n0 + n0 / 2) (va_cpy f (fun _ => none) 0 0 n0))) h0 (aC (a_s_ed r sz))) := by
  refine me_W (by decide) (Nat.le_of_ble_eq_true rfl) ?_
  intro p e s m below meth c ls hx hb hr hlocks hml hown hname ht hsz hM hK hZ hl
  have hown : s.vm.findClass RR_A = some m.cls := hown
  have hl : lv_has ls 4 [(0, .ref h0), (1, .int (nI (n0 + 1)))] := hl
  have hS : va_S (fr M sz) s.heap s.heap [] := va_S.rf
  have hF : ∀ q, M q ≠ none → fr M sz q := fr_M
  have hA : ∀ q, s.heap.size ≤ q → fr M sz q := fun q h => fr_A q (by rw [← hsz]; exact h)
  have hn9 : M sz = none := hm_new hM (by rw [hsz]; exact Nat.le_refl _)
  have m0' := m0
  refine lv_aload_n hx hb dd_A_grow1_0 rfl (lv_at hl 0 rfl) ?_
  refine mg_get hx hb ht ii_A hown hK hM m0 rfl 1 (by decide) wd_1_38 (fun _ h => h) rfl dd_A_grow1_1 ?_
  refine mg_alen (v := nI n0) hx hb hK hM 2 me rfl rfl dd_A_grow1_4 ?_
  refine lv_istore_n (lv' := [(2, .int (nI n0)), (0, .ref h0), (1, .int (nI (n0 + 1)))]) hx hb dd_A_grow1_5 rfl hl (by decide) rfl (fun ls hl => ?_)
  refine lv_iload_n hx hb dd_A_grow1_6 rfl (lv_at hl 0 rfl) ?_
  refine lv_if_gt (tgt := 20) hx hb dd_A_grow1_7 (by decide) (fun _ => ?_) (fun z => absurd (nI_lt (a := 0) (show 0 < n0 by omega) (by omega)) z)
  refine lv_iload_n hx hb dd_A_grow1_20 rfl (lv_at hl 0 rfl) ?_
  refine lv_iload_n hx hb dd_A_grow1_21 rfl (lv_at hl 2 rfl) ?_
  refine lv_iload_n hx hb dd_A_grow1_22 rfl (lv_at hl 0 rfl) ?_
  refine lv_isub hx hb dd_A_grow1_23 ?_
  refine lv_iload_n hx hb dd_A_grow1_24 rfl (lv_at hl 0 rfl) ?_
  refine lv_iconst (v := 1) hx hb dd_A_grow1_25 (by decide) ?_
  refine lv_ishr hx hb dd_A_grow1_26 ?_
  rw [a_half (show n0 < 2 ^ 31 by omega), a_one]
  refine mc_S (As := [.int (nI n0), .int (nI 1), .int (nI (n0 / 2))]) (rest := []) 3 (cc_AS_newLength (a := nI n0) (b := nI 1) (k := nI (n0 / 2)) (by rw [a_newL h2 hn]; exact nI_nle (by omega) (by omega)) (by rw [a_newL h2 hn]; exact nI_nlt (b := n0 + n0 / 2) (a := 2147483639) (by omega) (by decide))) hx hb hml hown ht hM hK hl.1 lk_A_73 (by decide +kernel) (by decide) rfl rfl (Nat.le_of_ble_eq_true rfl) dd_A_grow1_27 ⟨Nat.zero_le _, Nat.zero_le _⟩ ?_
  rw [a_newL h2 hn]
  refine lv_istore_n (lv' := [(3, .int (nI (n0 + n0 / 2))), (2, .int (nI n0)), (0, .ref h0), (1, .int (nI (n0 + 1)))]) hx hb dd_A_grow1_30 rfl hl (by decide) rfl (fun ls hl => ?_)
  refine lv_aload_n hx hb dd_A_grow1_31 rfl (lv_at hl 2 rfl) ?_
  refine lv_aload_n hx hb dd_A_grow1_32 rfl (lv_at hl 2 rfl) ?_
  refine mg_get hx hb ht ii_A hown hK hM m0 rfl 1 (by decide) wd_1_38 (fun _ h => h) rfl dd_A_grow1_33 ?_
  refine lv_iload_n hx hb dd_A_grow1_36 rfl (lv_at hl 0 rfl) ?_
  have hFr := hF_fr hF hS hA
  refine mx_S (As := [.ref (a_ed r), .int (nI (n0 + n0 / 2))]) (rest := [.ref h0]) 2 (cc_AR_copyOf (N := n0 + n0 / 2) me (by omega) (by omega) hel) hx hb hml hown ht hM hK hZ hS hFr hl.1 lk_A_66 (by decide +kernel) (by decide) rfl rfl (Nat.le_of_ble_eq_true rfl) dd_A_grow1_37 ⟨Nat.le_of_ble_eq_true rfl, Nat.le_of_ble_eq_true rfl⟩ (fun v u H locs hp hM hd hle hk hS => ?_)
  rw [hsz] at hp
  obtain ⟨rfl, hu⟩ := hp
  rw [hu] at hM hd
  clear hu
  have hF := fun z9 h => hFr z9 (hd z9 h)
  obtain ⟨z1, hsz⟩ : ∃ z9, H.size = z9 := ⟨_, rfl⟩
  have mn : (mp_up M sz (oA G (n0 + n0 / 2) (va_cpy f (fun _ => none) 0 0 n0))) sz = some (oA G (n0 + n0 / 2) (va_cpy f (fun _ => none) 0 0 n0)) := mp_self _ _ _
  have hM : hm G (mp_up M sz (oA G (n0 + n0 / 2) (va_cpy f (fun _ => none) 0 0 n0))) H := hM
  refine lv_dup_x1 hx hb dd_A_grow1_40 rfl rfl ?_
  have m0 := mp_at (M := M) (a := sz) (e := (oA G (n0 + n0 / 2) (va_cpy f (fun _ => none) 0 0 n0))) (hm_ne m0' hn9) m0
  refine mg_put (v := .ref sz) hx hb ht ii_A tt_A tt_A_ok nn_A hown hK hM hS (hF _ (by rw [m0]; exact Option.some_ne_none _)) m0 rfl 1 (by decide) wd_1_38 (fun _ h => h) (Or.inl rfl) rfl rfl rfl (Nat.le_of_ble_eq_true rfl) dd_A_grow1_41 (fun H locs hM hz hoq hS => ?_)
  have hsz := hz.trans hsz
  have hM : hm G (mp_up (mp_up M sz (oA G (n0 + n0 / 2) (va_cpy f (fun _ => none) 0 0 n0))) h0 (aC (a_s_ed r sz))) H := hM
  have hF : ∀ z9, (mp_up (mp_up M sz (oA G (n0 + n0 / 2) (va_cpy f (fun _ => none) 0 0 n0))) h0 (aC (a_s_ed r sz))) z9 ≠ none → fr M sz z9 := hF_put hF (hF _ (by rw [m0]; exact Option.some_ne_none _))
  have m0 : (mp_up (mp_up M sz (oA G (n0 + n0 / 2) (va_cpy f (fun _ => none) 0 0 n0))) h0 (aC (a_s_ed r sz))) h0 = some (aC (a_s_ed r sz)) := mp_self _ _ _
  exact mw_a (x := (some sz)) hx hb hr (by first | exact Or.inl ⟨_, rfl⟩ | exact Or.inr ⟨_, rfl⟩) hlocks hM hF hS (Nat.le_of_ble_eq_true rfl) (Nat.le_of_ble_eq_true rfl) ⟨rfl, rfl⟩ dd_A_grow1_44

set_option maxHeartbeats 4000000 in
set_option maxRecDepth 100000 in
theorem cc_A_grow1_e {l : Launch} {G : gC} {M : mC} {sz : Nat} {h0 : Nat} {c0 z0 : Int32} (m0 : M h0 = some (aC (c0, G.2.2.2.1, z0))) : cW l yy_A_grow1 bb_A_grow1 4 (some (.array (.object "java/lang/Object"))) 1 1 2000 G M sz [.ref h0, .int (nI 1)] (fun v u => v = some (.ref sz) ∧ u = mp_up (mp_up M sz (oA G 10 (fun _ => none))) h0 (aC (a_s_ed (c0, G.2.2.2.1, z0) sz))) := by
  refine me_W (by decide) (Nat.le_of_ble_eq_true rfl) ?_
  intro p e s m below meth c ls hx hb hr hlocks hml hown hname ht hsz hM hK hZ hl
  have hown : s.vm.findClass RR_A = some m.cls := hown
  have hl : lv_has ls 4 [(0, .ref h0), (1, .int (nI 1))] := hl
  have hS : va_S (fr M sz) s.heap s.heap [] := va_S.rf
  have hF : ∀ q, M q ≠ none → fr M sz q := fr_M
  have hA : ∀ q, s.heap.size ≤ q → fr M sz q := fun q h => fr_A q (by rw [← hsz]; exact h)
  have hn9 : M sz = none := hm_new hM (by rw [hsz]; exact Nat.le_refl _)
  have m0' := m0
  refine lv_aload_n hx hb dd_A_grow1_0 rfl (lv_at hl 0 rfl) ?_
  refine mg_get hx hb ht ii_A hown hK hM m0 rfl 1 (by decide) wd_1_38 (fun _ h => h) rfl dd_A_grow1_1 ?_
  refine va_tlen (v := 0) hx hb hZ.2.2.2 hS (by decide) dd_A_grow1_4 ?_
  refine lv_istore_n (lv' := [(2, .int 0), (0, .ref h0), (1, .int (nI 1))]) hx hb dd_A_grow1_5 rfl hl (by decide) rfl (fun ls hl => ?_)
  refine lv_iload_n hx hb dd_A_grow1_6 rfl (lv_at hl 0 rfl) ?_
  refine lv_if_gt (tgt := 20) hx hb dd_A_grow1_7 (by decide) (fun z => absurd z (by decide)) (fun _ => ?_)
  refine lv_aload_n hx hb dd_A_grow1_10 rfl (lv_at hl 1 rfl) ?_
  refine mg_get hx hb ht ii_A hown hK hM m0 rfl 1 (by decide) wd_1_38 (fun _ h => h) rfl dd_A_grow1_11 ?_
  refine va_gets hx hb hZ.2.2.1 hS hown (ht _ wd_1_36) (fun _ h => h) dd_A_grow1_14 ?_
  refine lv_acmp_eq (rx := some G.2.2.2.1) (ry := some G.2.2.2.1) (tgt := 45) hx hb dd_A_grow1_17 (by decide) (fun _ => ?_) (fun z => absurd rfl z)
  refine lv_aload_n hx hb dd_A_grow1_45 rfl (lv_at hl 1 rfl) ?_
  refine lv_bipush (v := 10) hx hb dd_A_grow1_46 (by decide) ?_
  refine lv_iload_n hx hb dd_A_grow1_48 rfl (lv_at hl 2 rfl) ?_
  refine va_mmax (rest := [.ref h0]) hx hb (hml.trans hl.1.symm) hown (ht _ wd_1_217) (ht _ wd_1_187) (ht _ wd_1_11) (ht _ wd_1_188) (Nat.le_of_ble_eq_true rfl) (Nat.le_of_ble_eq_true rfl) (Nat.zero_le _) (Nat.zero_le _) dd_A_grow1_49 ?_
  rw [show (if (10 : Int32) < nI 1 then nI 1 else 10) = nI 10 from by decide]
  have hn1 : M sz = none := hm_new hM (by rw [hsz]; exact Nat.le_refl _)
  refine mg_newo (n := nI 10) (N := 10) hx hb hown ht wd_1_218 hK hM hS (by decide) (by decide) (by decide) (Nat.le_of_ble_eq_true rfl) (Nat.le_of_ble_eq_true rfl) dd_A_grow1_52 (fun H hM hz hS => ?_)
  rw [hsz] at hM hz ⊢
  have hsz := hz
  have hM : hm G (mp_up M sz (oA G 10 (fun _ => none))) H := hM
  have hF : ∀ z9, (mp_up M sz (oA G 10 (fun _ => none))) z9 ≠ none → fr M sz z9 := hF_put hF (hA _ (by have := hS.1; omega))
  have mn : (mp_up M sz (oA G 10 (fun _ => none))) sz = some (oA G 10 (fun _ => none)) := mp_self _ _ _
  refine lv_dup_x1 hx hb dd_A_grow1_55 rfl rfl ?_
  have m0 := mp_old (M := M) (a := sz) (e := (oA G 10 (fun _ => none))) m0 hn1
  refine mg_put (v := .ref sz) hx hb ht ii_A tt_A tt_A_ok nn_A hown hK hM hS (hF _ (by rw [m0]; exact Option.some_ne_none _)) m0 rfl 1 (by decide) wd_1_38 (fun _ h => h) (Or.inl rfl) rfl rfl rfl (Nat.le_of_ble_eq_true rfl) dd_A_grow1_56 (fun H locs hM hz hoq hS => ?_)
  have hsz := hz.trans hsz
  have hM : hm G (mp_up (mp_up M sz (oA G 10 (fun _ => none))) h0 (aC (a_s_ed (c0, G.2.2.2.1, z0) sz))) H := hM
  have hF : ∀ z9, (mp_up (mp_up M sz (oA G 10 (fun _ => none))) h0 (aC (a_s_ed (c0, G.2.2.2.1, z0) sz))) z9 ≠ none → fr M sz z9 := hF_put hF (hF _ (by rw [m0]; exact Option.some_ne_none _))
  have m0 : (mp_up (mp_up M sz (oA G 10 (fun _ => none))) h0 (aC (a_s_ed (c0, G.2.2.2.1, z0) sz))) h0 = some (aC (a_s_ed (c0, G.2.2.2.1, z0) sz)) := mp_self _ _ _
  exact mw_a (x := (some sz)) hx hb hr (by first | exact Or.inl ⟨_, rfl⟩ | exact Or.inr ⟨_, rfl⟩) hlocks hM hF hS (Nat.le_of_ble_eq_true rfl) (Nat.le_of_ble_eq_true rfl) ⟨rfl, rfl⟩ dd_A_grow1_59

set_option maxHeartbeats 4000000 in
set_option maxRecDepth 100000 in
theorem cc_A_grow_f {l : Launch} {G : gC} {M : mC} {sz : Nat} {h0 : Nat} {r : aR} (m0 : M h0 = some (aC r)) {n0 : Nat} {f : Nat → Option Nat} (me : M (a_ed r) = some (oA G n0 f)) (h2 : 2 ≤ n0) (hn : n0 ≤ 600) (hel : ∀ i, i < n0 → ∀ y, f i = some y → ob_ok M y) (hs : a_sz r = nI n0) : cW l yy_A_grow bb_A_grow 1 (some (.array (.object "java/lang/Object"))) 4 1 2000 G M sz [.ref h0] (fun v u => v = some (.ref sz) ∧ u = mp_up (mp_up M sz (oA G (n0 + n0 / 2) (va_cpy f (fun _ => none) 0 0 n0))) h0 (aC (a_s_ed r sz))) := by
  refine me_W (by decide) (Nat.le_of_ble_eq_true rfl) ?_
  intro p e s m below meth c ls hx hb hr hlocks hml hown hname ht hsz hM hK hZ hl
  have hown : s.vm.findClass RR_A = some m.cls := hown
  have hl : lv_has ls 1 [(0, .ref h0)] := hl
  have hS : va_S (fr M sz) s.heap s.heap [] := va_S.rf
  have hF : ∀ q, M q ≠ none → fr M sz q := fr_M
  have hA : ∀ q, s.heap.size ≤ q → fr M sz q := fun q h => fr_A q (by rw [← hsz]; exact h)
  have hn9 : M sz = none := hm_new hM (by rw [hsz]; exact Nat.le_refl _)
  have m0' := m0
  refine lv_aload_n hx hb dd_A_grow_0 rfl (lv_at hl 0 rfl) ?_
  refine lv_aload_n hx hb dd_A_grow_1 rfl (lv_at hl 0 rfl) ?_
  refine mg_get hx hb ht ii_A hown hK hM m0 rfl 2 (by decide) wd_1_39 (fun _ h => h) rfl dd_A_grow_2 ?_
  refine lv_iconst (v := 1) hx hb dd_A_grow_5 (by decide) ?_
  refine lv_iadd hx hb dd_A_grow_6 ?_
  rw [hs, nI_1]
  have hFr := hF_fr hF hS hA
  refine mx_V (As := [.int (nI (n0 + 1))]) (rest := []) 1 (cc_A_grow1_f m0 me h2 hn hel) hx hb hml hown ht hM hK hZ hS hFr hl.1 lk_A_69 (by decide +kernel) (by decide) m0 rfl rfl rfl (Nat.le_of_ble_eq_true rfl) dd_A_grow_7 ⟨Nat.le_of_ble_eq_true rfl, Nat.le_of_ble_eq_true rfl⟩ (fun v u H locs hp hM hd hle hk hS => ?_)
  rw [hsz] at hp
  obtain ⟨rfl, hu⟩ := hp
  rw [hu] at hM hd
  clear hu
  have hF := fun z9 h => hFr z9 (hd z9 h)
  obtain ⟨z1, hsz⟩ : ∃ z9, H.size = z9 := ⟨_, rfl⟩
  have mn : (mp_up M sz (oA G (n0 + n0 / 2) (va_cpy f (fun _ => none) 0 0 n0))) sz = some (oA G (n0 + n0 / 2) (va_cpy f (fun _ => none) 0 0 n0)) := mp_self _ _ _
  have m0 : (mp_up (mp_up M sz (oA G (n0 + n0 / 2) (va_cpy f (fun _ => none) 0 0 n0))) h0 (aC (a_s_ed r sz))) h0 = some (aC (a_s_ed r sz)) := mp_self _ _ _
  have hM : hm G (mp_up (mp_up M sz (oA G (n0 + n0 / 2) (va_cpy f (fun _ => none) 0 0 n0))) h0 (aC (a_s_ed r sz))) H := hM
  exact mw_a (x := (some sz)) hx hb hr (by first | exact Or.inl ⟨_, rfl⟩ | exact Or.inr ⟨_, rfl⟩) hlocks hM hF hS (Nat.le_of_ble_eq_true rfl) (Nat.le_of_ble_eq_true rfl) ⟨rfl, rfl⟩ dd_A_grow_10

set_option maxHeartbeats 4000000 in
set_option maxRecDepth 100000 in
theorem cc_A_grow_e {l : Launch} {G : gC} {M : mC} {sz : Nat} {h0 : Nat} {c0 z0 : Int32} (m0 : M h0 = some (aC (c0, G.2.2.2.1, z0))) (hs : z0 = nI 0) : cW l yy_A_grow bb_A_grow 1 (some (.array (.object "java/lang/Object"))) 2 1 2000 G M sz [.ref h0] (fun v u => v = some (.ref sz) ∧ u = mp_up (mp_up M sz (oA G 10 (fun _ => none))) h0 (aC (a_s_ed (c0, G.2.2.2.1, z0) sz))) := by
  refine me_W (by decide) (Nat.le_of_ble_eq_true rfl) ?_
  intro p e s m below meth c ls hx hb hr hlocks hml hown hname ht hsz hM hK hZ hl
  have hown : s.vm.findClass RR_A = some m.cls := hown
  have hl : lv_has ls 1 [(0, .ref h0)] := hl
  have hS : va_S (fr M sz) s.heap s.heap [] := va_S.rf
  have hF : ∀ q, M q ≠ none → fr M sz q := fr_M
  have hA : ∀ q, s.heap.size ≤ q → fr M sz q := fun q h => fr_A q (by rw [← hsz]; exact h)
  have hn9 : M sz = none := hm_new hM (by rw [hsz]; exact Nat.le_refl _)
  have m0' := m0
  refine lv_aload_n hx hb dd_A_grow_0 rfl (lv_at hl 0 rfl) ?_
  refine lv_aload_n hx hb dd_A_grow_1 rfl (lv_at hl 0 rfl) ?_
  refine mg_get hx hb ht ii_A hown hK hM m0 rfl 2 (by decide) wd_1_39 (fun _ h => h) rfl dd_A_grow_2 ?_
  refine lv_iconst (v := 1) hx hb dd_A_grow_5 (by decide) ?_
  refine lv_iadd hx hb dd_A_grow_6 ?_
  rw [show a_sz (c0, G.2.2.2.1, z0) + 1 = nI 1 from by rw [show a_sz (c0, G.2.2.2.1, z0) = nI 0 from hs, nI_1]]
  have hFr := hF_fr hF hS hA
  refine mx_V (As := [.int (nI 1)]) (rest := []) 1 (cc_A_grow1_e m0) hx hb hml hown ht hM hK hZ hS hFr hl.1 lk_A_69 (by decide +kernel) (by decide) m0 rfl rfl rfl (Nat.le_of_ble_eq_true rfl) dd_A_grow_7 ⟨Nat.le_of_ble_eq_true rfl, Nat.le_of_ble_eq_true rfl⟩ (fun v u H locs hp hM hd hle hk hS => ?_)
  rw [hsz] at hp
  obtain ⟨rfl, hu⟩ := hp
  rw [hu] at hM hd
  clear hu
  have hF := fun z9 h => hFr z9 (hd z9 h)
  obtain ⟨z1, hsz⟩ : ∃ z9, H.size = z9 := ⟨_, rfl⟩
  have mn : (mp_up M sz (oA G 10 (fun _ => none))) sz = some (oA G 10 (fun _ => none)) := mp_self _ _ _
  have m0 : (mp_up (mp_up M sz (oA G 10 (fun _ => none))) h0 (aC (a_s_ed (c0, G.2.2.2.1, z0) sz))) h0 = some (aC (a_s_ed (c0, G.2.2.2.1, z0) sz)) := mp_self _ _ _
  have hM : hm G (mp_up (mp_up M sz (oA G 10 (fun _ => none))) h0 (aC (a_s_ed (c0, G.2.2.2.1, z0) sz))) H := hM
  exact mw_a (x := (some sz)) hx hb hr (by first | exact Or.inl ⟨_, rfl⟩ | exact Or.inr ⟨_, rfl⟩) hlocks hM hF hS (Nat.le_of_ble_eq_true rfl) (Nat.le_of_ble_eq_true rfl) ⟨rfl, rfl⟩ dd_A_grow_10
