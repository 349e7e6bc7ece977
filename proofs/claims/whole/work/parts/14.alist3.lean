set_option maxHeartbeats 4000000 in
set_option maxRecDepth 100000 in
theorem cc_A_add3_r {l : Launch} {G : gC} {M : mC} {sz : Nat} {h0 : Nat} {r : aR} (m0 : M h0 = some (aC r)) {n0 k : Nat} {f : Nat → Option Nat} (me : M (a_ed r) = some (oA G n0 f)) (hk : k < n0) (hn : n0 ≤ 1000) {hv : Nat} (hob : ob_ok M hv) : cW l yy_A_add3 bb_A_add3 4 none 0 1 2000 G M sz [.ref h0, .ref hv, .ref (a_ed r), .int (nI k)] (fun v u => v = none ∧ u = mp_up (mp_up M (a_ed r) (oA G n0 (va_up f k (some hv)))) h0 (aC (a_s_sz r (nI (k + 1))))) := by
  refine me_W (by decide) (Nat.le_of_ble_eq_true rfl) ?_
  intro p e s m below meth c ls hx hb hr hlocks hml hown hname ht hsz hM hK hZ hl
  have hown : s.vm.findClass RR_A = some m.cls := hown
  have hl : lv_has ls 4 [(0, .ref h0), (1, .ref hv), (2, .ref (a_ed r)), (3, .int (nI k))] := hl
  have hS : va_S (fr M sz) s.heap s.heap [] := va_S.rf
  have hF : ∀ q, M q ≠ none → fr M sz q := fr_M
  have hA : ∀ q, s.heap.size ≤ q → fr M sz q := fun q h => fr_A q (by rw [← hsz]; exact h)
  have hn9 : M sz = none := hm_new hM (by rw [hsz]; exact Nat.le_refl _)
  have m0' := m0
  have me' := me
  refine lv_iload_n hx hb dd_A_add3_0 rfl (lv_at hl 3 rfl) ?_
  refine lv_aload_n hx hb dd_A_add3_1 rfl (lv_at hl 2 rfl) ?_
  refine mg_alen (v := nI n0) hx hb hK hM 2 me rfl rfl dd_A_add3_2 ?_
  refine lv_icmp_ne (tgt := 11) hx hb dd_A_add3_3 (by decide) (fun _ => ?_) (fun z => absurd ((nI_eq (by omega) (by omega)).mp z) (by omega))
  refine lv_aload_n hx hb dd_A_add3_11 rfl (lv_at hl 2 rfl) ?_
  refine lv_iload_n hx hb dd_A_add3_12 rfl (lv_at hl 3 rfl) ?_
  refine lv_aload_n hx hb dd_A_add3_13 rfl (lv_at hl 1 rfl) ?_
  refine mg_aast (v := hv) hx hb hK hM hS (hF _ (by rw [me]; exact Option.some_ne_none _)) me hob (vp_in_nI (show k < n0 by omega) (by omega)) dd_A_add3_14 (fun H locs hM hz hS => ?_)
  have hsz := hz.trans hsz
  rw [nI_clamp (show k < 2 ^ 31 by omega)] at hM
  have hM : hm G (mp_up M (a_ed r) (oA G n0 (va_up f k (some hv)))) H := hM
  have hF : ∀ z9, (mp_up M (a_ed r) (oA G n0 (va_up f k (some hv)))) z9 ≠ none → fr M sz z9 := hF_put hF (hF _ (by rw [me]; exact Option.some_ne_none _))
  have me : (mp_up M (a_ed r) (oA G n0 (va_up f k (some hv)))) (a_ed r) = some (oA G n0 (va_up f k (some hv))) := mp_self _ _ _
  refine lv_aload_n hx hb dd_A_add3_15 rfl (lv_at hl 0 rfl) ?_
  refine lv_iload_n hx hb dd_A_add3_16 rfl (lv_at hl 3 rfl) ?_
  refine lv_iconst (v := 1) hx hb dd_A_add3_17 (by decide) ?_
  refine lv_iadd hx hb dd_A_add3_18 ?_
  rw [nI_1]
  have m0 := mp_at (M := M) (a := (a_ed r)) (e := (oA G n0 (va_up f k (some hv)))) (fun z => by rw [z, me'] at m0'; cases m0') m0
  refine mg_put (v := .int (nI (k + 1))) hx hb ht ii_A tt_A tt_A_ok nn_A hown hK hM hS (hF _ (by rw [m0]; exact Option.some_ne_none _)) m0 rfl 2 (by decide) wd_1_39 (fun _ h => h) (Or.inl rfl) rfl rfl rfl (Nat.le_of_ble_eq_true rfl) dd_A_add3_19 (fun H locs hM hz hoq hS => ?_)
  have hsz := hz.trans hsz
  have hM : hm G (mp_up (mp_up M (a_ed r) (oA G n0 (va_up f k (some hv)))) h0 (aC (a_s_sz r (nI (k + 1))))) H := hM
  have hF : ∀ z9, (mp_up (mp_up M (a_ed r) (oA G n0 (va_up f k (some hv)))) h0 (aC (a_s_sz r (nI (k + 1))))) z9 ≠ none → fr M sz z9 := hF_put hF (hF _ (by rw [m0]; exact Option.some_ne_none _))
  have m0 : (mp_up (mp_up M (a_ed r) (oA G n0 (va_up f k (some hv)))) h0 (aC (a_s_sz r (nI (k + 1))))) h0 = some (aC (a_s_sz r (nI (k + 1)))) := mp_self _ _ _
  exact mw_v hx hb hr hlocks hM hF hS (Nat.le_of_ble_eq_true rfl) (Nat.le_of_ble_eq_true rfl) ⟨rfl, rfl⟩ dd_A_add3_22

set_option maxHeartbeats 4000000 in
set_option maxRecDepth 100000 in
theorem cc_A_add3_f {l : Launch} {G : gC} {M : mC} {sz : Nat} {h0 : Nat} {r : aR} (m0 : M h0 = some (aC r)) {n0 : Nat} {f : Nat → Option Nat} (me : M (a_ed r) = some (oA G n0 f)) (h2 : 2 ≤ n0) (hn : n0 ≤ 600) (hel : ∀ i, i < n0 → ∀ y, f i = some y → ob_ok M y) (hs : a_sz r = nI n0) {hv : Nat} (hob : ob_ok M hv) : cW l yy_A_add3 bb_A_add3 4 none 5 1 2000 G M sz [.ref h0, .ref hv, .ref (a_ed r), .int (nI n0)] (fun v u => v = none ∧ u = mp_up (mp_up (mp_up (mp_up M sz (oA G (n0 + n0 / 2) (va_cpy f (fun _ => none) 0 0 n0))) h0 (aC (a_s_ed r sz))) sz (oA G (n0 + n0 / 2) (va_up (va_cpy f (fun _ => none) 0 0 n0) n0 (some hv)))) h0 (aC (a_s_sz (a_s_ed r sz) (nI (n0 + 1))))) := by
  refine me_W (by decide) (Nat.le_of_ble_eq_true rfl) ?_
  intro p e s m below meth c ls hx hb hr hlocks hml hown hname ht hsz hM hK hZ hl
  have hown : s.vm.findClass RR_A = some m.cls := hown
  have hl : lv_has ls 4 [(0, .ref h0), (1, .ref hv), (2, .ref (a_ed r)), (3, .int (nI n0))] := hl
  have hS : va_S (fr M sz) s.heap s.heap [] := va_S.rf
  have hF : ∀ q, M q ≠ none → fr M sz q := fr_M
  have hA : ∀ q, s.heap.size ≤ q → fr M sz q := fun q h => fr_A q (by rw [← hsz]; exact h)
  have hn9 : M sz = none := hm_new hM (by rw [hsz]; exact Nat.le_refl _)
  have m0' := m0
  have me' := me
  refine lv_iload_n hx hb dd_A_add3_0 rfl (lv_at hl 3 rfl) ?_
  refine lv_aload_n hx hb dd_A_add3_1 rfl (lv_at hl 2 rfl) ?_
  refine mg_alen (v := nI n0) hx hb hK hM 2 me rfl rfl dd_A_add3_2 ?_
  refine lv_icmp_ne (tgt := 11) hx hb dd_A_add3_3 (by decide) (fun z => absurd rfl z) (fun _ => ?_)
  refine lv_aload_n hx hb dd_A_add3_6 rfl (lv_at hl 0 rfl) ?_
  have hFr := hF_fr hF hS hA
  refine mx_V (As := []) (rest := []) 0 (cc_A_grow_f m0 me h2 hn hel hs) hx hb hml hown ht hM hK hZ hS hFr hl.1 lk_A_129 (by decide +kernel) (by decide) m0 rfl rfl rfl (Nat.le_of_ble_eq_true rfl) dd_A_add3_7 ⟨Nat.le_of_ble_eq_true rfl, Nat.le_of_ble_eq_true rfl⟩ (fun v u H locs hp hM hd hle hk hS => ?_)
  rw [hsz] at hp
  obtain ⟨rfl, hu⟩ := hp
  rw [hu] at hM hd
  clear hu
  have hF := fun z9 h => hFr z9 (hd z9 h)
  obtain ⟨z1, hsz⟩ : ∃ z9, H.size = z9 := ⟨_, rfl⟩
  have mn : (mp_up M sz (oA G (n0 + n0 / 2) (va_cpy f (fun _ => none) 0 0 n0))) sz = some (oA G (n0 + n0 / 2) (va_cpy f (fun _ => none) 0 0 n0)) := mp_self _ _ _
  have m0 : (mp_up (mp_up M sz (oA G (n0 + n0 / 2) (va_cpy f (fun _ => none) 0 0 n0))) h0 (aC (a_s_ed r sz))) h0 = some (aC (a_s_ed r sz)) := mp_self _ _ _
  have hM : hm G (mp_up (mp_up M sz (oA G (n0 + n0 / 2) (va_cpy f (fun _ => none) 0 0 n0))) h0 (aC (a_s_ed r sz))) H := hM
  refine lv_astore_n (lv' := [(2, .ref sz), (0, .ref h0), (1, .ref hv), (3, .int (nI n0))]) hx hb dd_A_add3_10 rfl hl (by decide) rfl (fun ls hl => ?_)
  refine lv_aload_n hx hb dd_A_add3_11 rfl (lv_at hl 0 rfl) ?_
  refine lv_iload_n hx hb dd_A_add3_12 rfl (lv_at hl 3 rfl) ?_
  refine lv_aload_n hx hb dd_A_add3_13 rfl (lv_at hl 2 rfl) ?_
  have mn := mp_at (M := (mp_up M sz (oA G (n0 + n0 / 2) (va_cpy f (fun _ => none) 0 0 n0)))) (a := h0) (e := (aC (a_s_ed r sz))) (Ne.symm (hm_ne m0' hn9)) mn
  refine mg_aast (v := hv) hx hb hK hM hS (hF _ (by rw [mn]; exact Option.some_ne_none _)) mn (ob_up2 (ob_up hob hn9) (hm_oo hob m0')) (vp_in_nI (show n0 < (n0 + n0 / 2) by omega) (by omega)) dd_A_add3_14 (fun H locs hM hz hS => ?_)
  have hsz := hz.trans hsz
  rw [nI_clamp (show n0 < 2 ^ 31 by omega)] at hM
  have hM : hm G (mp_up (mp_up (mp_up M sz (oA G (n0 + n0 / 2) (va_cpy f (fun _ => none) 0 0 n0))) h0 (aC (a_s_ed r sz))) sz (oA G (n0 + n0 / 2) (va_up (va_cpy f (fun _ => none) 0 0 n0) n0 (some hv)))) H := hM
  have hF : ∀ z9, (mp_up (mp_up (mp_up M sz (oA G (n0 + n0 / 2) (va_cpy f (fun _ => none) 0 0 n0))) h0 (aC (a_s_ed r sz))) sz (oA G (n0 + n0 / 2) (va_up (va_cpy f (fun _ => none) 0 0 n0) n0 (some hv)))) z9 ≠ none → fr M sz z9 := hF_put hF (hF _ (by rw [mn]; exact Option.some_ne_none _))
  have mn : (mp_up (mp_up (mp_up M sz (oA G (n0 + n0 / 2) (va_cpy f (fun _ => none) 0 0 n0))) h0 (aC (a_s_ed r sz))) sz (oA G (n0 + n0 / 2) (va_up (va_cpy f (fun _ => none) 0 0 n0) n0 (some hv)))) sz = some (oA G (n0 + n0 / 2) (va_up (va_cpy f (fun _ => none) 0 0 n0) n0 (some hv))) := mp_self _ _ _
  refine lv_aload_n hx hb dd_A_add3_15 rfl (lv_at hl 1 rfl) ?_
  refine lv_iload_n hx hb dd_A_add3_16 rfl (lv_at hl 3 rfl) ?_
  refine lv_iconst (v := 1) hx hb dd_A_add3_17 (by decide) ?_
  refine lv_iadd hx hb dd_A_add3_18 ?_
  rw [nI_1]
  have m0 := mp_at (M := (mp_up (mp_up M sz (oA G (n0 + n0 / 2) (va_cpy f (fun _ => none) 0 0 n0))) h0 (aC (a_s_ed r sz)))) (a := sz) (e := (oA G (n0 + n0 / 2) (va_up (va_cpy f (fun _ => none) 0 0 n0) n0 (some hv)))) (hm_ne m0' hn9) m0
  refine mg_put (v := .int (nI (n0 + 1))) hx hb ht ii_A tt_A tt_A_ok nn_A hown hK hM hS (hF _ (by rw [m0]; exact Option.some_ne_none _)) m0 rfl 2 (by decide) wd_1_39 (fun _ h => h) (Or.inl rfl) rfl rfl rfl (Nat.le_of_ble_eq_true rfl) dd_A_add3_19 (fun H locs hM hz hoq hS => ?_)
  have hsz := hz.trans hsz
  have hM : hm G (mp_up (mp_up (mp_up (mp_up M sz (oA G (n0 + n0 / 2) (va_cpy f (fun _ => none) 0 0 n0))) h0 (aC (a_s_ed r sz))) sz (oA G (n0 + n0 / 2) (va_up (va_cpy f (fun _ => none) 0 0 n0) n0 (some hv)))) h0 (aC (a_s_sz (a_s_ed r sz) (nI (n0 + 1))))) H := hM
  have hF : ∀ z9, (mp_up (mp_up (mp_up (mp_up M sz (oA G (n0 + n0 / 2) (va_cpy f (fun _ => none) 0 0 n0))) h0 (aC (a_s_ed r sz))) sz (oA G (n0 + n0 / 2) (va_up (va_cpy f (fun _ => none) 0 0 n0) n0 (some hv)))) h0 (aC (a_s_sz (a_s_ed r sz) (nI (n0 + 1))))) z9 ≠ none → fr M sz z9 := hF_put hF (hF _ (by rw [m0]; exact Option.some_ne_none _))
  have m0 : (mp_up (mp_up (mp_up (mp_up M sz (oA G (n0 + n0 / 2) (va_cpy f (fun _ => none) 0 0 n0))) h0 (aC (a_s_ed r sz))) sz (oA G (n0 + n0 / 2) (va_up (va_cpy f (fun _ => none) 0 0 n0) n0 (some hv)))) h0 (aC (a_s_sz (a_s_ed r sz) (nI (n0 + 1))))) h0 = some (aC (a_s_sz (a_s_ed r sz) (nI (n0 + 1)))) := mp_self _ _ _
  exact mw_v hx hb hr hlocks hM hF hS (Nat.le_of_ble_eq_true rfl) (Nat.le_of_ble_eq_true rfl) ⟨rfl, rfl⟩ dd_A_add3_22

set_option maxHeartbeats 4000000 in
set_option maxRecDepth 100000 in
theorem cc_A_add3_e {l : Launch} {G : gC} {M : mC} {sz : Nat} {h0 : Nat} {c0 z0 : Int32} (m0 : M h0 = some (aC (c0, G.2.2.2.1, z0))) (hs : z0 = nI 0) {hv : Nat} (hob : ob_ok M hv) : cW l yy_A_add3 bb_A_add3 4 none 3 1 2000 G M sz [.ref h0, .ref hv, .ref (a_ed (c0, G.2.2.2.1, z0)), .int (nI 0)] (fun v u => v = none ∧ u = mp_up (mp_up (mp_up (mp_up M sz (oA G 10 (fun _ => none))) h0 (aC (a_s_ed (c0, G.2.2.2.1, z0) sz))) sz (oA G 10 (va_up (fun _ => none) 0 (some hv)))) h0 (aC (a_s_sz (a_s_ed (c0, G.2.2.2.1, z0) sz) (nI (0 + 1))))) := by
  refine me_W (by decide) (Nat.le_of_ble_eq_true rfl) ?_
  intro p e s m below meth c ls hx hb hr hlocks hml hown hname ht hsz hM hK hZ hl
  have hown : s.vm.findClass RR_A = some m.cls := hown
  have hl : lv_has ls 4 [(0, .ref h0), (1, .ref hv), (2, .ref (a_ed (c0, G.2.2.2.1, z0))), (3, .int (nI 0))] := hl
  have hS : va_S (fr M sz) s.heap s.heap [] := va_S.rf
  have hF : ∀ q, M q ≠ none → fr M sz q := fr_M
  have hA : ∀ q, s.heap.size ≤ q → fr M sz q := fun q h => fr_A q (by rw [← hsz]; exact h)
  have hn9 : M sz = none := hm_new hM (by rw [hsz]; exact Nat.le_refl _)
  have m0' := m0
  refine lv_iload_n hx hb dd_A_add3_0 rfl (lv_at hl 3 rfl) ?_
  refine lv_aload_n hx hb dd_A_add3_1 rfl (lv_at hl 2 rfl) ?_
  refine va_tlen (v := 0) hx hb hZ.2.2.2 hS (by decide) dd_A_add3_2 ?_
  refine lv_icmp_ne (tgt := 11) hx hb dd_A_add3_3 (by decide) (fun z => absurd rfl z) (fun _ => ?_)
  refine lv_aload_n hx hb dd_A_add3_6 rfl (lv_at hl 0 rfl) ?_
  have hFr := hF_fr hF hS hA
  refine mx_V (As := []) (rest := []) 0 (cc_A_grow_e m0 hs) hx hb hml hown ht hM hK hZ hS hFr hl.1 lk_A_129 (by decide +kernel) (by decide) m0 rfl rfl rfl (Nat.le_of_ble_eq_true rfl) dd_A_add3_7 ⟨Nat.le_of_ble_eq_true rfl, Nat.le_of_ble_eq_true rfl⟩ (fun v u H locs hp hM hd hle hk hS => ?_)
  rw [hsz] at hp
  obtain ⟨rfl, hu⟩ := hp
  rw [hu] at hM hd
  clear hu
  have hF := fun z9 h => hFr z9 (hd z9 h)
  obtain ⟨z1, hsz⟩ : ∃ z9, H.size = z9 := ⟨_, rfl⟩
  have mn : (mp_up M sz (oA G 10 (fun _ => none))) sz = some (oA G 10 (fun _ => none)) := mp_self _ _ _
  have m0 : (mp_up (mp_up M sz (oA G 10 (fun _ => none))) h0 (aC (a_s_ed (c0, G.2.2.2.1, z0) sz))) h0 = some (aC (a_s_ed (c0, G.2.2.2.1, z0) sz)) := mp_self _ _ _
  have hM : hm G (mp_up (mp_up M sz (oA G 10 (fun _ => none))) h0 (aC (a_s_ed (c0, G.2.2.2.1, z0) sz))) H := hM
  refine lv_astore_n (lv' := [(2, .ref sz), (0, .ref h0), (1, .ref hv), (3, .int (nI 0))]) hx hb dd_A_add3_10 rfl hl (by decide) rfl (fun ls hl => ?_)
  refine lv_aload_n hx hb dd_A_add3_11 rfl (lv_at hl 0 rfl) ?_
  refine lv_iload_n hx hb dd_A_add3_12 rfl (lv_at hl 3 rfl) ?_
  refine lv_aload_n hx hb dd_A_add3_13 rfl (lv_at hl 2 rfl) ?_
  have mn := mp_at (M := (mp_up M sz (oA G 10 (fun _ => none)))) (a := h0) (e := (aC (a_s_ed (c0, G.2.2.2.1, z0) sz))) (Ne.symm (hm_ne m0' hn9)) mn
  refine mg_aast (v := hv) hx hb hK hM hS (hF _ (by rw [mn]; exact Option.some_ne_none _)) mn (ob_up2 (ob_up hob hn9) (hm_oo hob m0')) (vp_in_nI (show 0 < 10 by omega) (by omega)) dd_A_add3_14 (fun H locs hM hz hS => ?_)
  have hsz := hz.trans hsz
  rw [nI_clamp (show 0 < 2 ^ 31 by omega)] at hM
  have hM : hm G (mp_up (mp_up (mp_up M sz (oA G 10 (fun _ => none))) h0 (aC (a_s_ed (c0, G.2.2.2.1, z0) sz))) sz (oA G 10 (va_up (fun _ => none) 0 (some hv)))) H := hM
  have hF : ∀ z9, (mp_up (mp_up (mp_up M sz (oA G 10 (fun _ => none))) h0 (aC (a_s_ed (c0, G.2.2.2.1, z0) sz))) sz (oA G 10 (va_up (fun _ => none) 0 (some hv)))) z9 ≠ none → fr M sz z9 := hF_put hF (hF _ (by rw [mn]; exact Option.some_ne_none _))
  have mn : (mp_up (mp_up (mp_up M sz (oA G 10 (fun _ => none))) h0 (aC (a_s_ed (c0, G.2.2.2.1, z0) sz))) sz (oA G 10 (va_up (fun _ => none) 0 (some hv)))) sz = some (oA G 10 (va_up (fun _ => none) 0 (some hv))) := mp_self _ _ _
  refine lv_aload_n hx hb dd_A_add3_15 rfl (lv_at hl 1 rfl) ?_
  refine lv_iload_n hx hb dd_A_add3_16 rfl (lv_at hl 3 rfl) ?_
  refine lv_iconst (v := 1) hx hb dd_A_add3_17 (by decide) ?_
  refine lv_iadd hx hb dd_A_add3_18 ?_
  rw [nI_1]
  have m0 := mp_at (M := (mp_up (mp_up M sz (oA G 10 (fun _ => none))) h0 (aC (a_s_ed (c0, G.2.2.2.1, z0) sz)))) (a := sz) (e := (oA G 10 (va_up (fun _ => none) 0 (some hv)))) (hm_ne m0' hn9) m0
  refine mg_put (v := .int (nI (0 + 1))) hx hb ht ii_A tt_A tt_A_ok nn_A hown hK hM hS (hF _ (by rw [m0]; exact Option.some_ne_none _)) m0 rfl 2 (by decide) wd_1_39 (fun _ h => h) (Or.inl rfl) rfl rfl rfl (Nat.le_of_ble_eq_true rfl) dd_A_add3_19 (fun H locs hM hz hoq hS => ?_)
  have hsz := hz.trans hsz
  have hM : hm G (mp_up (mp_up (mp_up (mp_up M sz (oA G 10 (fun _ => none))) h0 (aC (a_s_ed (c0, G.2.2.2.1, z0) sz))) sz (oA G 10 (va_up (fun _ => none) 0 (some hv)))) h0 (aC (a_s_sz (a_s_ed (c0, G.2.2.2.1, z0) sz) (nI (0 + 1))))) H := hM
  have hF : ∀ z9, (mp_up (mp_up (mp_up (mp_up M sz (oA G 10 (fun _ => none))) h0 (aC (a_s_ed (c0, G.2.2.2.1, z0) sz))) sz (oA G 10 (va_up (fun _ => none) 0 (some hv)))) h0 (aC (a_s_sz (a_s_ed (c0, G.2.2.2.1, z0) sz) (nI (0 + 1))))) z9 ≠ none → fr M sz z9 := hF_put hF (hF _ (by rw [m0]; exact Option.some_ne_none _))
  have m0 : (mp_up (mp_up (mp_up (mp_up M sz (oA G 10 (fun _ => none))) h0 (aC (a_s_ed (c0, G.2.2.2.1, z0) sz))) sz (oA G 10 (va_up (fun _ => none) 0 (some hv)))) h0 (aC (a_s_sz (a_s_ed (c0, G.2.2.2.1, z0) sz) (nI (0 + 1))))) h0 = some (aC (a_s_sz (a_s_ed (c0, G.2.2.2.1, z0) sz) (nI (0 + 1)))) := mp_self _ _ _
  exact mw_v hx hb hr hlocks hM hF hS (Nat.le_of_ble_eq_true rfl) (Nat.le_of_ble_eq_true rfl) ⟨rfl, rfl⟩ dd_A_add3_22

set_option maxHeartbeats 4000000 in
set_option maxRecDepth 100000 in
theorem cc_A_add_r {l : Launch} {G : gC} {M : mC} {sz : Nat} {h0 : Nat} {r : aR} (m0 : M h0 = some (aC r)) {n0 k : Nat} {f : Nat → Option Nat} (me : M (a_ed r) = some (oA G n0 f)) (hk : k < n0) (hn : n0 ≤ 1000) (hs : a_sz r = nI k) {hv : Nat} (hob : ob_ok M hv) : cW l yy_A_add bb_A_add 2 (some .boolean) 6 1 2000 G M sz [.ref h0, .ref hv] (fun v u => v = some (.int 1) ∧ u = mp_up (mp_up (mp_up M h0 (aC (a_s_mc r (a_mc r + 1)))) (a_ed r) (oA G n0 (va_up f k (some hv)))) h0 (aC (a_s_sz (a_s_mc r (a_mc r + 1)) (nI (k + 1))))) := by
  refine me_W (by decide) (Nat.le_of_ble_eq_true rfl) ?_
  intro p e s m below meth c ls hx hb hr hlocks hml hown hname ht hsz hM hK hZ hl
  have hown : s.vm.findClass RR_A = some m.cls := hown
  have hl : lv_has ls 2 [(0, .ref h0), (1, .ref hv)] := hl
  have hS : va_S (fr M sz) s.heap s.heap [] := va_S.rf
  have hF : ∀ q, M q ≠ none → fr M sz q := fr_M
  have hA : ∀ q, s.heap.size ≤ q → fr M sz q := fun q h => fr_A q (by rw [← hsz]; exact h)
  have hn9 : M sz = none := hm_new hM (by rw [hsz]; exact Nat.le_refl _)
  have m0' := m0
  have me' := me
  refine lv_aload_n hx hb dd_A_add_0 rfl (lv_at hl 0 rfl) ?_
  refine lv_dup hx hb dd_A_add_1 rfl ?_
  refine mg_get hx hb ht ii_A hown hK hM m0 rfl 0 (by decide) wd_1_41 (u_same (ht _ wd_1_42)) rfl dd_A_add_2 ?_
  refine lv_iconst (v := 1) hx hb dd_A_add_5 (by decide) ?_
  refine lv_iadd hx hb dd_A_add_6 ?_
  refine mg_put (v := .int ((a_mc r) + 1)) hx hb ht ii_A tt_A tt_A_ok nn_A hown hK hM hS (hF _ (by rw [m0]; exact Option.some_ne_none _)) m0 rfl 0 (by decide) wd_1_41 (u_same (ht _ wd_1_42)) (Or.inl rfl) rfl rfl rfl (Nat.le_of_ble_eq_true rfl) dd_A_add_7 (fun H locs hM hz hoq hS => ?_)
  have hsz := hz.trans hsz
  have hM : hm G (mp_up M h0 (aC (a_s_mc r ((a_mc r) + 1)))) H := hM
  have hF : ∀ z9, (mp_up M h0 (aC (a_s_mc r ((a_mc r) + 1)))) z9 ≠ none → fr M sz z9 := hF_put hF (hF _ (by rw [m0]; exact Option.some_ne_none _))
  have m0 : (mp_up M h0 (aC (a_s_mc r ((a_mc r) + 1)))) h0 = some (aC (a_s_mc r ((a_mc r) + 1))) := mp_self _ _ _
  refine lv_aload_n hx hb dd_A_add_10 rfl (lv_at hl 0 rfl) ?_
  refine lv_aload_n hx hb dd_A_add_11 rfl (lv_at hl 1 rfl) ?_
  refine lv_aload_n hx hb dd_A_add_12 rfl (lv_at hl 0 rfl) ?_
  refine mg_get hx hb ht ii_A hown hK hM m0 rfl 1 (by decide) wd_1_38 (fun _ h => h) rfl dd_A_add_13 ?_
  refine lv_aload_n hx hb dd_A_add_16 rfl (lv_at hl 0 rfl) ?_
  refine mg_get (v := .int (nI k)) hx hb ht ii_A hown hK hM m0 rfl 2 (by decide) wd_1_39 (fun _ h => h) (congrArg (fun z => some (Value.int z)) hs) dd_A_add_17 ?_
  have hFr := hF_fr hF hS hA
  refine mx_V (As := [.ref hv, .ref (a_ed (a_s_mc r ((a_mc r) + 1))), .int (nI k)]) (rest := []) 3 (cc_A_add3_r (r := (a_s_mc r (a_mc r + 1))) m0 (mp_at (fun z => by rw [z, m0'] at me'; cases me') me) hk hn (ob_up2 hob (hm_oo hob m0'))) hx hb hml hown ht hM hK hZ hS hFr hl.1 lk_A_131 (by decide +kernel) (by decide) m0 rfl rfl rfl (Nat.le_of_ble_eq_true rfl) dd_A_add_20 ⟨Nat.le_of_ble_eq_true rfl, Nat.le_of_ble_eq_true rfl⟩ (fun v u H locs hp hM hd hle hk hS => ?_)
  obtain ⟨rfl, hu⟩ := hp
  rw [hu] at hM hd
  clear hu
  have hF := fun z9 h => hFr z9 (hd z9 h)
  refine lv_iconst (v := 1) hx hb dd_A_add_23 (by decide) ?_
  exact mw_i hx hb hr hlocks rfl hM hF hS (Nat.le_of_ble_eq_true rfl) (Nat.le_of_ble_eq_true rfl) ⟨rfl, rfl⟩ dd_A_add_24

set_option maxHeartbeats 4000000 in
set_option maxRecDepth 100000 in
theorem cc_A_add_f {l : Launch} {G : gC} {M : mC} {sz : Nat} {h0 : Nat} {r : aR} (m0 : M h0 = some (aC r)) {n0 : Nat} {f : Nat → Option Nat} (me : M (a_ed r) = some (oA G n0 f)) (h2 : 2 ≤ n0) (hn : n0 ≤ 600) (hel : ∀ i, i < n0 → ∀ y, f i = some y → ob_ok M y) (hs : a_sz r = nI n0) {hv : Nat} (hob : ob_ok M hv) : cW l yy_A_add bb_A_add 2 (some .boolean) 6 1 2000 G M sz [.ref h0, .ref hv] (fun v u => v = some (.int 1) ∧ u = mp_up (mp_up (mp_up (mp_up (mp_up M h0 (aC (a_s_mc r (a_mc r + 1)))) sz (oA G (n0 + n0 / 2) (va_cpy f (fun _ => none) 0 0 n0))) h0 (aC (a_s_ed (a_s_mc r (a_mc r + 1)) sz))) sz (oA G (n0 + n0 / 2) (va_up (va_cpy f (fun _ => none) 0 0 n0) n0 (some hv)))) h0 (aC (a_s_sz (a_s_ed (a_s_mc r (a_mc r + 1)) sz) (nI (n0 + 1))))) := by
  refine me_W (by decide) (Nat.le_of_ble_eq_true rfl) ?_
  intro p e s m below meth c ls hx hb hr hlocks hml hown hname ht hsz hM hK hZ hl
  have hown : s.vm.findClass RR_A = some m.cls := hown
  have hl : lv_has ls 2 [(0, .ref h0), (1, .ref hv)] := hl
  have hS : va_S (fr M sz) s.heap s.heap [] := va_S.rf
  have hF : ∀ q, M q ≠ none → fr M sz q := fr_M
  have hA : ∀ q, s.heap.size ≤ q → fr M sz q := fun q h => fr_A q (by rw [← hsz]; exact h)
  have hn9 : M sz = none := hm_new hM (by rw [hsz]; exact Nat.le_refl _)
  have m0' := m0
  have me' := me
  refine lv_aload_n hx hb dd_A_add_0 rfl (lv_at hl 0 rfl) ?_
  refine lv_dup hx hb dd_A_add_1 rfl ?_
  refine mg_get hx hb ht ii_A hown hK hM m0 rfl 0 (by decide) wd_1_41 (u_same (ht _ wd_1_42)) rfl dd_A_add_2 ?_
  refine lv_iconst (v := 1) hx hb dd_A_add_5 (by decide) ?_
  refine lv_iadd hx hb dd_A_add_6 ?_
  refine mg_put (v := .int ((a_mc r) + 1)) hx hb ht ii_A tt_A tt_A_ok nn_A hown hK hM hS (hF _ (by rw [m0]; exact Option.some_ne_none _)) m0 rfl 0 (by decide) wd_1_41 (u_same (ht _ wd_1_42)) (Or.inl rfl) rfl rfl rfl (Nat.le_of_ble_eq_true rfl) dd_A_add_7 (fun H locs hM hz hoq hS => ?_)
  have hsz := hz.trans hsz
  have hM : hm G (mp_up M h0 (aC (a_s_mc r ((a_mc r) + 1)))) H := hM
  have hF : ∀ z9, (mp_up M h0 (aC (a_s_mc r ((a_mc r) + 1)))) z9 ≠ none → fr M sz z9 := hF_put hF (hF _ (by rw [m0]; exact Option.some_ne_none _))
  have m0 : (mp_up M h0 (aC (a_s_mc r ((a_mc r) + 1)))) h0 = some (aC (a_s_mc r ((a_mc r) + 1))) := mp_self _ _ _
  refine lv_aload_n hx hb dd_A_add_10 rfl (lv_at hl 0 rfl) ?_
  refine lv_aload_n hx hb dd_A_add_11 rfl (lv_at hl 1 rfl) ?_
  refine lv_aload_n hx hb dd_A_add_12 rfl (lv_at hl 0 rfl) ?_
  refine mg_get hx hb ht ii_A hown hK hM m0 rfl 1 (by decide) wd_1_38 (fun _ h => h) rfl dd_A_add_13 ?_
  refine lv_aload_n hx hb dd_A_add_16 rfl (lv_at hl 0 rfl) ?_
  refine mg_get (v := .int (nI n0)) hx hb ht ii_A hown hK hM m0 rfl 2 (by decide) wd_1_39 (fun _ h => h) (congrArg (fun z => some (Value.int z)) hs) dd_A_add_17 ?_
  have hFr := hF_fr hF hS hA
  refine mx_V (As := [.ref hv, .ref (a_ed (a_s_mc r ((a_mc r) + 1))), .int (nI n0)]) (rest := []) 3 (cc_A_add3_f (r := (a_s_mc r (a_mc r + 1))) m0 (mp_at (fun z => by rw [z, m0'] at me'; cases me') me) h2 hn (fun i hi y hy => ob_up2 (hel i hi y hy) (hm_oo (hel i hi y hy) m0')) hs (ob_up2 hob (hm_oo hob m0'))) hx hb hml hown ht hM hK hZ hS hFr hl.1 lk_A_131 (by decide +kernel) (by decide) m0 rfl rfl rfl (Nat.le_of_ble_eq_true rfl) dd_A_add_20 ⟨Nat.le_of_ble_eq_true rfl, Nat.le_of_ble_eq_true rfl⟩ (fun v u H locs hp hM hd hle hk hS => ?_)
  rw [hsz] at hp
  obtain ⟨rfl, hu⟩ := hp
  rw [hu] at hM hd
  clear hu
  have hF := fun z9 h => hFr z9 (hd z9 h)
  refine lv_iconst (v := 1) hx hb dd_A_add_23 (by decide) ?_
  exact mw_i hx hb hr hlocks rfl hM hF hS (Nat.le_of_ble_eq_true rfl) (Nat.le_of_ble_eq_true rfl) ⟨rfl, rfl⟩ dd_A_add_24

set_option maxHeartbeats 4000000 in
set_option maxRecDepth 100000 in
theorem cc_A_add_e {l : Launch} {G : gC} {M : mC} {sz : Nat} {h0 : Nat} {c0 z0 : Int32} (m0 : M h0 = some (aC (c0, G.2.2.2.1, z0))) (hs : z0 = nI 0) {hv : Nat} (hob : ob_ok M hv) : cW l yy_A_add bb_A_add 2 (some .boolean) 6 1 2000 G M sz [.ref h0, .ref hv] (fun v u => v = some (.int 1) ∧ u = mp_up (mp_up (mp_up (mp_up (mp_up M h0 (aC (a_s_mc (c0, G.2.2.2.1, z0) (a_mc (c0, G.2.2.2.1, z0) + 1)))) sz (oA G 10 (fun _ => none))) h0 (aC (a_s_ed (a_s_mc (c0, G.2.2.2.1, z0) (a_mc (c0, G.2.2.2.1, z0) + 1)) sz))) sz (oA G 10 (va_up (fun _ => none) 0 (some hv)))) h0 (aC (a_s_sz (a_s_ed (a_s_mc (c0, G.2.2.2.1, z0) (a_mc (c0, G.2.2.2.1, z0) + 1)) sz) (nI (0 + 1))))) := by
  refine me_W (by decide) (Nat.le_of_ble_eq_true rfl) ?_
  intro p e s m below meth c ls hx hb hr hlocks hml hown hname ht hsz hM hK hZ hl
  have hown : s.vm.findClass RR_A = some m.cls := hown
  have hl : lv_has ls 2 [(0, .ref h0), (1, .ref hv)] := hl
  have hS : va_S (fr M sz) s.heap s.heap [] := va_S.rf
  have hF : ∀ q, M q ≠ none → fr M sz q := fr_M
  have hA : ∀ q, s.heap.size ≤ q → fr M sz q := fun q h => fr_A q (by rw [← hsz]; exact h)
  have hn9 : M sz = none := hm_new hM (by rw [hsz]; exact Nat.le_refl _)
  have m0' := m0
  refine lv_aload_n hx hb dd_A_add_0 rfl (lv_at hl 0 rfl) ?_
  refine lv_dup hx hb dd_A_add_1 rfl ?_
  refine mg_get hx hb ht ii_A hown hK hM m0 rfl 0 (by decide) wd_1_41 (u_same (ht _ wd_1_42)) rfl dd_A_add_2 ?_
  refine lv_iconst (v := 1) hx hb dd_A_add_5 (by decide) ?_
  refine lv_iadd hx hb dd_A_add_6 ?_
  refine mg_put (v := .int ((a_mc (c0, G.2.2.2.1, z0)) + 1)) hx hb ht ii_A tt_A tt_A_ok nn_A hown hK hM hS (hF _ (by rw [m0]; exact Option.some_ne_none _)) m0 rfl 0 (by decide) wd_1_41 (u_same (ht _ wd_1_42)) (Or.inl rfl) rfl rfl rfl (Nat.le_of_ble_eq_true rfl) dd_A_add_7 (fun H locs hM hz hoq hS => ?_)
  have hsz := hz.trans hsz
  have hM : hm G (mp_up M h0 (aC (a_s_mc (c0, G.2.2.2.1, z0) ((a_mc (c0, G.2.2.2.1, z0)) + 1)))) H := hM
  have hF : ∀ z9, (mp_up M h0 (aC (a_s_mc (c0, G.2.2.2.1, z0) ((a_mc (c0, G.2.2.2.1, z0)) + 1)))) z9 ≠ none → fr M sz z9 := hF_put hF (hF _ (by rw [m0]; exact Option.some_ne_none _))
  have m0 : (mp_up M h0 (aC (a_s_mc (c0, G.2.2.2.1, z0) ((a_mc (c0, G.2.2.2.1, z0)) + 1)))) h0 = some (aC (a_s_mc (c0, G.2.2.2.1, z0) ((a_mc (c0, G.2.2.2.1, z0)) + 1))) := mp_self _ _ _
  refine lv_aload_n hx hb dd_A_add_10 rfl (lv_at hl 0 rfl) ?_
  refine lv_aload_n hx hb dd_A_add_11 rfl (lv_at hl 1 rfl) ?_
  refine lv_aload_n hx hb dd_A_add_12 rfl (lv_at hl 0 rfl) ?_
  refine mg_get hx hb ht ii_A hown hK hM m0 rfl 1 (by decide) wd_1_38 (fun _ h => h) rfl dd_A_add_13 ?_
  refine lv_aload_n hx hb dd_A_add_16 rfl (lv_at hl 0 rfl) ?_
  refine mg_get (v := .int (nI 0)) hx hb ht ii_A hown hK hM m0 rfl 2 (by decide) wd_1_39 (fun _ h => h) (congrArg (fun z => some (Value.int z)) hs) dd_A_add_17 ?_
  have hFr := hF_fr hF hS hA
  refine mx_V (As := [.ref hv, .ref (a_ed (a_s_mc (c0, G.2.2.2.1, z0) ((a_mc (c0, G.2.2.2.1, z0)) + 1))), .int (nI 0)]) (rest := []) 3 (cc_A_add3_e m0 hs (ob_up2 hob (hm_oo hob m0'))) hx hb hml hown ht hM hK hZ hS hFr hl.1 lk_A_131 (by decide +kernel) (by decide) m0 rfl rfl rfl (Nat.le_of_ble_eq_true rfl) dd_A_add_20 ⟨Nat.le_of_ble_eq_true rfl, Nat.le_of_ble_eq_true rfl⟩ (fun v u H locs hp hM hd hle hk hS => ?_)
  rw [hsz] at hp
  obtain ⟨rfl, hu⟩ := hp
  rw [hu] at hM hd
  clear hu
  have hF := fun z9 h => hFr z9 (hd z9 h)
  refine lv_iconst (v := 1) hx hb dd_A_add_23 (by decide) ?_
  exact mw_i hx hb hr hlocks rfl hM hF hS (Nat.le_of_ble_eq_true rfl) (Nat.le_of_ble_eq_true rfl) ⟨rfl, rfl⟩ dd_A_add_24
