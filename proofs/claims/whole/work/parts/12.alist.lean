set_option maxHeartbeats 4000000 in
set_option maxRecDepth 100000 in
theorem cc_A_size {l : Launch} {G : gC} {M : mC} {h0 : Nat} {r : aR} (m0 : M h0 = some (aC r)) : cR l yy_A_size bb_A_size 1 (some .int) 0 G M [.ref h0] (.int (a_sz r)) := by
  refine me_R (by decide) (Nat.le_of_ble_eq_true rfl) ?_
  intro p e s m below meth c ls hx hb hr hlocks hml hown ht hM hK hl
  have hown : s.vm.findClass RR_A = some m.cls := hown
  have hl : lv_has ls 1 [(0, .ref h0)] := hl
  refine lv_aload_n hx hb dd_A_size_0 rfl (lv_at hl 0 rfl) ?_
  refine mg_get hx hb ht ii_A hown hK hM m0 rfl 2 (by decide) wd_1_39 (fun _ h => h) rfl dd_A_size_1 ?_
  exact mr_i hx hb hr hlocks rfl rfl dd_A_size_4

set_option maxHeartbeats 4000000 in
set_option maxRecDepth 100000 in
theorem cc_A_elementData {l : Launch} {G : gC} {M : mC} {h0 : Nat} {r : aR} (m0 : M h0 = some (aC r)) {n : Nat} {f : Nat → Option Nat} (me : M (a_ed r) = some (oA G n f)) {i : Int32} (hi : vp_in i n) : cR l yy_A_elementData bb_A_elementData 2 (some (.object "java/lang/Object")) 0 G M [.ref h0, .int i] (va_rf (f i.toNatClampNeg)) := by
  refine me_R (by decide) (Nat.le_of_ble_eq_true rfl) ?_
  intro p e s m below meth c ls hx hb hr hlocks hml hown ht hM hK hl
  have hown : s.vm.findClass RR_A = some m.cls := hown
  have hl : lv_has ls 2 [(0, .ref h0), (1, .int i)] := hl
  refine lv_aload_n hx hb dd_A_elementData_0 rfl (lv_at hl 0 rfl) ?_
  refine mg_get hx hb ht ii_A hown hK hM m0 rfl 1 (by decide) wd_1_38 (fun _ h => h) rfl dd_A_elementData_1 ?_
  refine lv_iload_n hx hb dd_A_elementData_4 rfl (lv_at hl 1 rfl) ?_
  refine mg_aald hx hb hK hM me hi dd_A_elementData_5 ?_
  exact mr_a hx hb hr hlocks rfl dd_A_elementData_6

set_option maxHeartbeats 4000000 in
set_option maxRecDepth 100000 in
theorem cc_PC_checkIndex {l : Launch} {G : gC} {M : mC} {i n : Int32} (g0 : ¬ i < 0) (g1 : i < n) : cR l yy_PC_checkIndex bb_PC_checkIndex 3 (some .int) 0 G M [.int i, .int n, .null] (.int i) := by
  refine me_R (by decide) (Nat.le_of_ble_eq_true rfl) ?_
  intro p e s m below meth c ls hx hb hr hlocks hml hown ht hM hK hl
  have hown : s.vm.findClass RR_PC = some m.cls := hown
  have hl : lv_has ls 3 [(0, .int i), (1, .int n), (2, .null)] := hl
  refine lv_iload_n hx hb dd_PC_checkIndex_0 rfl (lv_at hl 0 rfl) ?_
  refine lv_if_lt (tgt := 9) hx hb dd_PC_checkIndex_1 (by decide) (fun z => absurd z g0) (fun _ => ?_)
  refine lv_iload_n hx hb dd_PC_checkIndex_4 rfl (lv_at hl 0 rfl) ?_
  refine lv_iload_n hx hb dd_PC_checkIndex_5 rfl (lv_at hl 1 rfl) ?_
  refine lv_icmp_lt (tgt := 16) hx hb dd_PC_checkIndex_6 (by decide) (fun _ => ?_) (fun z => absurd g1 z)
  refine lv_iload_n hx hb dd_PC_checkIndex_16 rfl (lv_at hl 0 rfl) ?_
  exact mr_i hx hb hr hlocks rfl rfl dd_PC_checkIndex_17

set_option maxHeartbeats 4000000 in
set_option maxRecDepth 100000 in
theorem cc_OB_checkIndex {l : Launch} {G : gC} {M : mC} {i n : Int32} (g0 : ¬ i < 0) (g1 : i < n) : cR l yy_OB_checkIndex bb_OB_checkIndex 2 (some .int) 1 G M [.int i, .int n] (.int i) := by
  refine me_R (by decide) (Nat.le_of_ble_eq_true rfl) ?_
  intro p e s m below meth c ls hx hb hr hlocks hml hown ht hM hK hl
  have hown : s.vm.findClass RR_OB = some m.cls := hown
  have hl : lv_has ls 2 [(0, .int i), (1, .int n)] := hl
  refine lv_iload_n hx hb dd_OB_checkIndex_0 rfl (lv_at hl 0 rfl) ?_
  refine lv_iload_n hx hb dd_OB_checkIndex_1 rfl (lv_at hl 1 rfl) ?_
  refine lv_null hx hb dd_OB_checkIndex_2 ?_
  refine mc_S (As := [.int i, .int n, .null]) (rest := []) 3 (cc_PC_checkIndex g0 g1) hx hb hml hown ht hM hK hl.1 lk_OB_105 (by decide +kernel) (by decide) rfl rfl (Nat.le_of_ble_eq_true rfl) dd_OB_checkIndex_3 ⟨Nat.zero_le _, Nat.zero_le _⟩ ?_
  exact mr_i hx hb hr hlocks rfl rfl dd_OB_checkIndex_6

set_option maxHeartbeats 4000000 in
set_option maxRecDepth 100000 in
theorem cc_A_get {l : Launch} {G : gC} {M : mC} {h0 : Nat} {r : aR} (m0 : M h0 = some (aC r)) {n : Nat} {f : Nat → Option Nat} (me : M (a_ed r) = some (oA G n f)) {i : Int32} (hin : vp_in i n) (g0 : ¬ i < 0) (g1 : i < a_sz r) : cR l yy_A_get bb_A_get 2 (some (.object "java/lang/Object")) 2 G M [.ref h0, .int i] (va_rf (f i.toNatClampNeg)) := by
  refine me_R (by decide) (Nat.le_of_ble_eq_true rfl) ?_
  intro p e s m below meth c ls hx hb hr hlocks hml hown ht hM hK hl
  have hown : s.vm.findClass RR_A = some m.cls := hown
  have hl : lv_has ls 2 [(0, .ref h0), (1, .int i)] := hl
  refine lv_iload_n hx hb dd_A_get_0 rfl (lv_at hl 1 rfl) ?_
  refine lv_aload_n hx hb dd_A_get_1 rfl (lv_at hl 0 rfl) ?_
  refine mg_get hx hb ht ii_A hown hK hM m0 rfl 2 (by decide) wd_1_39 (fun _ h => h) rfl dd_A_get_2 ?_
  refine mc_S (As := [.int i, .int (a_sz r)]) (rest := []) 2 (cc_OB_checkIndex g0 g1) hx hb hml hown ht hM hK hl.1 lk_A_118 (by decide +kernel) (by decide) rfl rfl (Nat.le_of_ble_eq_true rfl) dd_A_get_5 ⟨Nat.zero_le _, Nat.zero_le _⟩ ?_
  refine lv_pop hx hb dd_A_get_8 rfl ?_
  refine lv_aload_n hx hb dd_A_get_9 rfl (lv_at hl 0 rfl) ?_
  refine lv_iload_n hx hb dd_A_get_10 rfl (lv_at hl 1 rfl) ?_
  refine mc_V (As := [.int i]) (rest := []) 1 (cc_A_elementData m0 me hin) hx hb hml hown ht hM hK hl.1 lk_A_123 (by decide +kernel) (by decide) m0 rfl rfl rfl (Nat.le_of_ble_eq_true rfl) dd_A_get_11 ⟨Nat.zero_le _, Nat.zero_le _⟩ ?_
  exact mr_a hx hb hr hlocks rfl dd_A_get_14

set_option maxHeartbeats 4000000 in
set_option maxRecDepth 100000 in
theorem cc_AC_init {l : Launch} {G : gC} {M : mC} {sz : Nat} {h0 : Nat} : cW l yy_AC_init bb_AC_init 1 none 1 0 0 G M sz [.ref h0] (fun v u => v = none ∧ u = M) := by
  refine me_W (by decide) (Nat.le_of_ble_eq_true rfl) ?_
  intro p e s m below meth c ls hx hb hr hlocks hml hown hname ht hsz hM hK hZ hl
  have hown : s.vm.findClass RR_AC = some m.cls := hown
  have hl : lv_has ls 1 [(0, .ref h0)] := hl
  have hS : va_S (fr M sz) s.heap s.heap [] := va_S.rf
  have hF : ∀ q, M q ≠ none → fr M sz q := fr_M
  have hA : ∀ q, s.heap.size ≤ q → fr M sz q := fun q h => fr_A q (by rw [← hsz]; exact h)
  refine lv_aload_n hx hb dd_AC_init_0 rfl (lv_at hl 0 rfl) ?_
  refine W.objInit hx hb hown (ht _ wd_1_35) (ht _ wd_1_22) (ht _ wd_1_23) rfl (by rw [hml]; exact hl.1) rfl dd_AC_init_1 (Nat.le_of_ble_eq_true rfl) (Nat.le_of_ble_eq_true rfl) ?_
  refine W.eq (g2 := F0 m 4 ls []) rfl ?_
  exact mw_v hx hb hr hlocks hM hF hS (Nat.zero_le _) (Nat.zero_le _) ⟨rfl, rfl⟩ dd_AC_init_4

set_option maxHeartbeats 4000000 in
set_option maxRecDepth 100000 in
theorem cc_AL_init {l : Launch} {G : gC} {M : mC} {sz : Nat} {h0 : Nat} (m0 : M h0 = some (.inr (3, [.int 0, .null, .int 0]))) : cW l yy_AL_init bb_AL_init 1 none 2 0 0 G M sz [.ref h0] (fun v u => v = none ∧ u = mp_up M h0 (.inr (3, [.int 0, .null, .int 0]))) := by
  refine me_W (by decide) (Nat.le_of_ble_eq_true rfl) ?_
  intro p e s m below meth c ls hx hb hr hlocks hml hown hname ht hsz hM hK hZ hl
  have hown : s.vm.findClass RR_AL = some m.cls := hown
  have hl : lv_has ls 1 [(0, .ref h0)] := hl
  have hS : va_S (fr M sz) s.heap s.heap [] := va_S.rf
  have hF : ∀ q, M q ≠ none → fr M sz q := fr_M
  have hA : ∀ q, s.heap.size ≤ q → fr M sz q := fun q h => fr_A q (by rw [← hsz]; exact h)
  refine lv_aload_n hx hb dd_AL_init_0 rfl (lv_at hl 0 rfl) ?_
  have hFr := hF_fr hF hS hA
  refine mx_I (As := []) (rest := []) 0 cc_AC_init hx hb hml hown ht hM hK hZ hS hFr hl.1 wd_1_34 wd_1_2 wd_1_32 wd_1_33 rfl (by decide +kernel) (by decide) rfl rfl (Nat.le_of_ble_eq_true rfl) dd_AL_init_1 ⟨Nat.zero_le _, Nat.zero_le _⟩ (fun v u H locs hp hM hd hle hk hS => ?_)
  obtain ⟨rfl, hu⟩ := hp
  rw [hu] at hM hd
  clear hu
  have hF := fun z9 h => hFr z9 (hd z9 h)
  obtain ⟨z1, hsz⟩ : ∃ z9, H.size = z9 := ⟨_, rfl⟩
  have hM : hm G M H := hM
  refine lv_aload_n hx hb dd_AL_init_4 rfl (lv_at hl 0 rfl) ?_
  refine lv_iconst (v := 0) hx hb dd_AL_init_5 (by decide) ?_
  refine mg_put (v := .int 0) hx hb ht ii_A tt_A tt_A_ok nn_A hown hK hM hS (hF _ (by rw [m0]; exact Option.some_ne_none _)) m0 rfl 0 (by decide) wd_1_40 (fun _ h => h) (Or.inl rfl) rfl rfl rfl (Nat.le_of_ble_eq_true rfl) dd_AL_init_6 (fun H locs hM hz hoq hS => ?_)
  have hsz := hz.trans hsz
  have hM : hm G (mp_up M h0 (.inr (3, [.int 0, .null, .int 0]))) H := hM
  have hF : ∀ z9, (mp_up M h0 (.inr (3, [.int 0, .null, .int 0]))) z9 ≠ none → fr M sz z9 := hF_put hF (hF _ (by rw [m0]; exact Option.some_ne_none _))
  have m0 : (mp_up M h0 (.inr (3, [.int 0, .null, .int 0]))) h0 = some (.inr (3, [.int 0, .null, .int 0])) := mp_self _ _ _
  exact mw_v hx hb hr hlocks hM hF hS (Nat.zero_le _) (Nat.zero_le _) ⟨rfl, rfl⟩ dd_AL_init_9

set_option maxHeartbeats 4000000 in
set_option maxRecDepth 100000 in
theorem cc_A_init {l : Launch} {G : gC} {M : mC} {sz : Nat} {h0 : Nat} (m0 : M h0 = some (.inr (3, [.int 0, .null, .int 0]))) : cW l yy_A_init bb_A_init 1 none 3 0 0 G M sz [.ref h0] (fun v u => v = none ∧ u = mp_up M h0 (aC (0, G.2.2.2.1, 0))) := by
  refine me_W (by decide) (Nat.le_of_ble_eq_true rfl) ?_
  intro p e s m below meth c ls hx hb hr hlocks hml hown hname ht hsz hM hK hZ hl
  have hown : s.vm.findClass RR_A = some m.cls := hown
  have hl : lv_has ls 1 [(0, .ref h0)] := hl
  have hS : va_S (fr M sz) s.heap s.heap [] := va_S.rf
  have hF : ∀ q, M q ≠ none → fr M sz q := fr_M
  have hA : ∀ q, s.heap.size ≤ q → fr M sz q := fun q h => fr_A q (by rw [← hsz]; exact h)
  refine lv_aload_n hx hb dd_A_init_0 rfl (lv_at hl 0 rfl) ?_
  have hFr := hF_fr hF hS hA
  refine mx_I (As := []) (rest := []) 0 (cc_AL_init m0) hx hb hml hown ht hM hK hZ hS hFr hl.1 wd_1_31 wd_1_3 wd_1_29 wd_1_30 rfl (by decide +kernel) (by decide) rfl rfl (Nat.le_of_ble_eq_true rfl) dd_A_init_1 ⟨Nat.zero_le _, Nat.zero_le _⟩ (fun v u H locs hp hM hd hle hk hS => ?_)
  obtain ⟨rfl, hu⟩ := hp
  rw [hu] at hM hd
  clear hu
  have hF := fun z9 h => hFr z9 (hd z9 h)
  obtain ⟨z1, hsz⟩ : ∃ z9, H.size = z9 := ⟨_, rfl⟩
  have m0 : (mp_up M h0 (.inr (3, [.int 0, .null, .int 0]))) h0 = some (.inr (3, [.int 0, .null, .int 0])) := mp_self _ _ _
  have hM : hm G (mp_up M h0 (.inr (3, [.int 0, .null, .int 0]))) H := hM
  refine lv_aload_n hx hb dd_A_init_4 rfl (lv_at hl 0 rfl) ?_
  refine va_gets hx hb hZ.2.2.1 hS hown (ht _ wd_1_36) (fun _ h => h) dd_A_init_5 ?_
  refine mg_put (v := .ref G.2.2.2.1) hx hb ht ii_A tt_A tt_A_ok nn_A hown hK hM hS (hF _ (by rw [m0]; exact Option.some_ne_none _)) m0 rfl 1 (by decide) wd_1_38 (fun _ h => h) (Or.inl rfl) rfl rfl rfl (Nat.le_of_ble_eq_true rfl) dd_A_init_8 (fun H locs hM hz hoq hS => ?_)
  have hsz := hz.trans hsz
  rw [mp_mp] at hM
  have hM : hm G (mp_up M h0 (.inr (3, [.int 0, .ref G.2.2.2.1, .int 0]))) H := hM
  have hF : ∀ z9, (mp_up M h0 (.inr (3, [.int 0, .ref G.2.2.2.1, .int 0]))) z9 ≠ none → fr M sz z9 := hF_same hF
  have m0 : (mp_up M h0 (.inr (3, [.int 0, .ref G.2.2.2.1, .int 0]))) h0 = some (.inr (3, [.int 0, .ref G.2.2.2.1, .int 0])) := mp_self _ _ _
  exact mw_v hx hb hr hlocks hM hF hS (Nat.zero_le _) (Nat.zero_le _) ⟨rfl, rfl⟩ dd_A_init_11

set_option maxHeartbeats 4000000 in
set_option maxRecDepth 100000 in
theorem cc_AS_newLength {l : Launch} {G : gC} {M : mC} {a b k : Int32} (g1 : ¬ a + (if b < k then k else b) ≤ 0) (g2 : ¬ 2147483639 < a + (if b < k then k else b)) : cR l yy_AS_newLength bb_AS_newLength 4 (some .int) 1 G M [.int a, .int b, .int k] (.int (a + (if b < k then k else b))) := by
  refine me_R (by decide) (Nat.le_of_ble_eq_true rfl) ?_
  intro p e s m below meth c ls hx hb hr hlocks hml hown ht hM hK hl
  have hown : s.vm.findClass RR_AS = some m.cls := hown
  have hl : lv_has ls 4 [(0, .int a), (1, .int b), (2, .int k)] := hl
  refine lv_iload_n hx hb dd_AS_newLength_0 rfl (lv_at hl 0 rfl) ?_
  refine lv_iload_n hx hb dd_AS_newLength_1 rfl (lv_at hl 1 rfl) ?_
  refine lv_iload_n hx hb dd_AS_newLength_2 rfl (lv_at hl 2 rfl) ?_
  refine va_mmax (rest := [.int a]) hx hb (hml.trans hl.1.symm) hown (ht _ wd_1_186) (ht _ wd_1_187) (ht _ wd_1_11) (ht _ wd_1_188) (Nat.le_of_ble_eq_true rfl) (Nat.le_of_ble_eq_true rfl) (Nat.zero_le _) (Nat.zero_le _) dd_AS_newLength_3 ?_
  refine lv_iadd hx hb dd_AS_newLength_6 ?_
  refine lv_istore_n (lv' := [(3, .int (a + (if b < k then k else b))), (0, .int a), (1, .int b), (2, .int k)]) hx hb dd_AS_newLength_7 rfl hl (by decide) rfl (fun ls hl => ?_)
  refine lv_iconst (v := 0) hx hb dd_AS_newLength_8 (by decide) ?_
  refine lv_iload_n hx hb dd_AS_newLength_9 rfl (lv_at hl 0 rfl) ?_
  refine lv_icmp_ge (tgt := 21) hx hb dd_AS_newLength_10 (by decide) (fun z => absurd z g1) (fun _ => ?_)
  refine lv_iload_n hx hb dd_AS_newLength_13 rfl (lv_at hl 0 rfl) ?_
  refine lv_ldc (v := 2147483639) hx hb hown (ht _ wd_1_189) dd_AS_newLength_14 ?_
  refine lv_icmp_gt (tgt := 21) hx hb dd_AS_newLength_16 (by decide) (fun z => absurd z g2) (fun _ => ?_)
  refine lv_iload_n hx hb dd_AS_newLength_19 rfl (lv_at hl 0 rfl) ?_
  exact mr_i hx hb hr hlocks rfl rfl dd_AS_newLength_20

set_option maxHeartbeats 4000000 in
set_option maxRecDepth 100000 in
theorem cc_AR_copyOf3 {l : Launch} {G : gC} {M : mC} {sz : Nat} {a0 n0 N : Nat} {f : Nat → Option Nat} (m0 : M a0 = some (oA G n0 f)) (hN : n0 ≤ N) (hN2 : N ≤ 1000) (hel : ∀ i, i < n0 → ∀ y, f i = some y → ob_ok M y) : cW l yy_AR_copyOf3 bb_AR_copyOf3 4 (some (.array (.object "java/lang/Object"))) 1 1 2000 G M sz [.ref a0, .int (nI N), .ref G.2.2.2.2] (fun v u => v = some (.ref sz) ∧ u = mp_up M sz (oA G N (va_cpy f (fun _ => none) 0 0 n0))) := by
  refine me_W (by decide) (Nat.le_of_ble_eq_true rfl) ?_
  intro p e s m below meth c ls hx hb hr hlocks hml hown hname ht hsz hM hK hZ hl
  have hown : s.vm.findClass RR_AR = some m.cls := hown
  have hl : lv_has ls 4 [(0, .ref a0), (1, .int (nI N)), (2, .ref G.2.2.2.2)] := hl
  have hS : va_S (fr M sz) s.heap s.heap [] := va_S.rf
  have hF : ∀ q, M q ≠ none → fr M sz q := fr_M
  have hA : ∀ q, s.heap.size ≤ q → fr M sz q := fun q h => fr_A q (by rw [← hsz]; exact h)
  have ma := m0
  refine lv_aload_n hx hb dd_AR_copyOf3_0 rfl (lv_at hl 2 rfl) ?_
  refine va_ldcM hx hb hown (ht _ wd_1_208) hK.2.2.1 dd_AR_copyOf3_1 ?_
  refine lv_acmp_ne (rx := some G.2.2.2.2) (ry := some G.2.2.2.2) (tgt := 13) hx hb dd_AR_copyOf3_3 (by decide) (fun z => absurd rfl z) (fun _ => ?_)
  refine lv_iload_n hx hb dd_AR_copyOf3_6 rfl (lv_at hl 1 rfl) ?_
  have hn1 : M sz = none := hm_new hM (by rw [hsz]; exact Nat.le_refl _)
  refine mg_newo (n := nI N) (N := N) hx hb hown ht wd_1_210 hK hM hS (nI_pos (by omega)) (nI_clamp (by omega)) (by omega) (by show 0 + 1 ≤ 1; omega) (by show 0 + N ≤ 2000; omega) dd_AR_copyOf3_7 (fun H hM hz hS => ?_)
  rw [hsz] at hM hz ⊢
  have hsz := hz
  have hM : hm G (mp_up M sz (oA G N (fun _ => none))) H := hM
  have hF : ∀ z9, (mp_up M sz (oA G N (fun _ => none))) z9 ≠ none → fr M sz z9 := hF_put hF (hA _ (by have := hS.1; omega))
  have mn : (mp_up M sz (oA G N (fun _ => none))) sz = some (oA G N (fun _ => none)) := mp_self _ _ _
  refine lv_goto (tgt := 24) hx hb dd_AR_copyOf3_10 (by decide) ?_
  refine lv_astore_n (lv' := [(3, .ref sz), (0, .ref a0), (1, .int (nI N)), (2, .ref G.2.2.2.2)]) hx hb dd_AR_copyOf3_24 rfl hl (by decide) rfl (fun ls hl => ?_)
  refine lv_aload_n hx hb dd_AR_copyOf3_25 rfl (lv_at hl 1 rfl) ?_
  refine lv_iconst (v := 0) hx hb dd_AR_copyOf3_26 (by decide) ?_
  refine lv_aload_n hx hb dd_AR_copyOf3_27 rfl (lv_at hl 0 rfl) ?_
  refine lv_iconst (v := 0) hx hb dd_AR_copyOf3_28 (by decide) ?_
  refine lv_aload_n hx hb dd_AR_copyOf3_29 rfl (lv_at hl 1 rfl) ?_
  have m0 := mp_old (M := M) (a := sz) (e := (oA G N (fun _ => none))) m0 hn1
  refine mg_alen (v := nI n0) hx hb hK hM 2 m0 rfl rfl dd_AR_copyOf3_30 ?_
  refine lv_iload_n hx hb dd_AR_copyOf3_31 rfl (lv_at hl 2 rfl) ?_
  refine va_mmin (rest := [.int 0, .ref sz, .int 0, .ref a0]) hx hb (hml.trans hl.1.symm) hown (ht _ wd_1_211) (ht _ wd_1_212) (ht _ wd_1_11) (ht _ wd_1_213) (Nat.le_of_ble_eq_true rfl) (Nat.le_of_ble_eq_true rfl) (Nat.le_of_ble_eq_true rfl) (by show 0 + N ≤ 2000; omega) dd_AR_copyOf3_32 ?_
  rw [if_neg (nI_nlt (a := N) (b := n0) hN (by omega))]
  refine mg_copy hx hb (hml.trans hl.1.symm) hown ht wd_1_214 wd_1_216 wd_1_215 wd_1_13 hK hM hS (hF _ (by rw [mn]; exact Option.some_ne_none _)) m0 mn (fun z => by rw [z] at ma; rw [ma] at hn1; cases hn1) (by decide) (by decide) (nI_pos (by omega)) (by rw [nI_clamp (by omega)]; exact Nat.le_of_eq (Nat.zero_add _)) (by rw [nI_clamp (by omega)]; show 0 + n0 ≤ N; omega) (fun i hi y hy => ?_) (Nat.le_of_ble_eq_true rfl) (Nat.le_of_ble_eq_true rfl) dd_AR_copyOf3_35 (fun H locs hM hz hS => ?_)
  · rw [nI_clamp (by omega)] at hi
    exact ob_up (hel i hi y (by rw [← hy]; congr 1; exact (Nat.zero_add i).symm)) hn1
  have hsz := hz.trans hsz
  rw [nI_clamp (show n0 < 2 ^ 31 by omega), sb_cl0] at hM
  rw [mp_mp] at hM
  have hM : hm G (mp_up M sz (oA G N (va_cpy f (fun _ => none) 0 0 n0))) H := hM
  have hF : ∀ z9, (mp_up M sz (oA G N (va_cpy f (fun _ => none) 0 0 n0))) z9 ≠ none → fr M sz z9 := hF_same hF
  have mn : (mp_up M sz (oA G N (va_cpy f (fun _ => none) 0 0 n0))) sz = some (oA G N (va_cpy f (fun _ => none) 0 0 n0)) := mp_self _ _ _
  refine lv_aload_n hx hb dd_AR_copyOf3_38 rfl (lv_at hl 0 rfl) ?_
  exact mw_a (x := (some sz)) hx hb hr (by first | exact Or.inl ⟨_, rfl⟩ | exact Or.inr ⟨_, rfl⟩) hlocks hM hF hS (Nat.le_of_ble_eq_true rfl) (by omega) ⟨rfl, rfl⟩ dd_AR_copyOf3_39
