set_option maxHeartbeats 4000000 in
set_option maxRecDepth 100000 in
theorem cc_M_wrong {l : Launch} {G : gC} {M : mC} {sz : Nat} {y b nd nn : Nat} {I : Nat → Nat → Int32} {J : Nat → Nat → Int64} {Z : Nat → Int32} {kn : Bool} {ft fn mo th : Int32} (hR : rm G M y b nd nn I J Z kn ft fn mo th) {c9 k9 : Int32} : cW l yy_M_wrong bb_M_wrong 3 (some .int) 0 0 0 G M sz [.ref y, .int c9, .int k9] (fun v u => v = some (.int 0) ∧ rm G u y b nd nn I J Z kn (if ft = 0 then c9 else ft) (if ft = 0 then k9 else fn) mo th) := by
  refine me_W (by decide) (Nat.le_of_ble_eq_true rfl) ?_
  intro p e s m below meth c ls hx hb hr hlocks hml hown hname ht hsz hM hK hZ hl
  have hown : s.vm.findClass RR_M = some m.cls := hown
  have hl : lv_has ls 3 [(0, .ref y), (1, .int c9), (2, .int k9)] := hl
  have hS : va_S (fr M sz) s.heap s.heap [] := va_S.rf
  have hF : ∀ q, M q ≠ none → fr M sz q := fr_M
  have hA : ∀ q, s.heap.size ≤ q → fr M sz q := fun q h => fr_A q (by rw [← hsz]; exact h)
  obtain ⟨hyb, my, hA9, hnd, hnn⟩ := id hR
  obtain ⟨a0, a1, a2, a3, a4, a5, a6, a7, a8, a9, a10, a11, a12, a13, a14, a15, a16, a17⟩ := id hA9
  refine lv_aload_n hx hb dd_M_wrong_0 rfl (lv_at hl 0 rfl) ?_
  refine mg_get hx hb ht ii_M hown hK hM my rfl 22 (by decide) wd_2_235 (fun _ h => h) rfl dd_M_wrong_1 ?_
  refine lv_if_ne (tgt := 17) hx hb dd_M_wrong_4 (by decide) (fun c1 => ?_) (fun c1 => ?_)
  · refine lv_iconst (v := 0) hx hb dd_M_wrong_17 (by decide) ?_
    exact mw_i hx hb hr hlocks rfl hM hF hS (Nat.zero_le _) (Nat.zero_le _) ⟨rfl, by simpa [c1] using hR⟩ dd_M_wrong_18
  · refine lv_aload_n hx hb dd_M_wrong_7 rfl (lv_at hl 0 rfl) ?_
    refine lv_iload_n hx hb dd_M_wrong_8 rfl (lv_at hl 1 rfl) ?_
    refine mg_put (v := .int c9) hx hb ht ii_M tt_M tt_M_ok nn_M hown hK hM hS (hF _ (by rw [my]; exact Option.some_ne_none _)) my rfl 22 (by decide) wd_2_235 (fun _ h => h) (Or.inl rfl) rfl rfl rfl (Nat.le_of_ble_eq_true rfl) dd_M_wrong_9 (fun H locs hM hz hoq hS => ?_)
    have hM : hm G (mp_up M y (yC b nd nn kn c9 fn mo th)) H := hM
    have hF : ∀ z9, (mp_up M y (yC b nd nn kn c9 fn mo th)) z9 ≠ none → fr M sz z9 := hF_put hF (hF _ (by rw [my]; exact Option.some_ne_none _))
    have hR : rm G (mp_up M y (yC b nd nn kn c9 fn mo th)) y b nd nn I J Z kn c9 fn mo th := rm_setX hR (by omega) (by omega)
    obtain ⟨u2, eu2⟩ : ∃ z, z = (mp_up M y (yC b nd nn kn c9 fn mo th)) := ⟨_, rfl⟩
    rw [← eu2] at hM hF hR
    clear eu2
    obtain ⟨hyb, my, hA9, hnd, hnn⟩ := id hR
    obtain ⟨a0, a1, a2, a3, a4, a5, a6, a7, a8, a9, a10, a11, a12, a13, a14, a15, a16, a17⟩ := id hA9
    refine lv_aload_n hx hb dd_M_wrong_12 rfl (lv_at hl 0 rfl) ?_
    refine lv_iload_n hx hb dd_M_wrong_13 rfl (lv_at hl 2 rfl) ?_
    refine mg_put (v := .int k9) hx hb ht ii_M tt_M tt_M_ok nn_M hown hK hM hS (hF _ (by rw [my]; exact Option.some_ne_none _)) my rfl 23 (by decide) wd_2_236 (fun _ h => h) (Or.inl rfl) rfl rfl rfl (Nat.le_of_ble_eq_true rfl) dd_M_wrong_14 (fun H locs hM hz hoq hS => ?_)
    have hM : hm G (mp_up u2 y (yC b nd nn kn c9 k9 mo th)) H := hM
    have hF : ∀ z9, (mp_up u2 y (yC b nd nn kn c9 k9 mo th)) z9 ≠ none → fr M sz z9 := hF_put hF (hF _ (by rw [my]; exact Option.some_ne_none _))
    have hR : rm G (mp_up u2 y (yC b nd nn kn c9 k9 mo th)) y b nd nn I J Z kn c9 k9 mo th := rm_setX hR (by omega) (by omega)
    obtain ⟨u3, eu3⟩ : ∃ z, z = (mp_up u2 y (yC b nd nn kn c9 k9 mo th)) := ⟨_, rfl⟩
    rw [← eu3] at hM hF hR
    clear eu3
    obtain ⟨hyb, my, hA9, hnd, hnn⟩ := id hR
    obtain ⟨a0, a1, a2, a3, a4, a5, a6, a7, a8, a9, a10, a11, a12, a13, a14, a15, a16, a17⟩ := id hA9
    refine lv_iconst (v := 0) hx hb dd_M_wrong_17 (by decide) ?_
    exact mw_i hx hb hr hlocks rfl hM hF hS (Nat.zero_le _) (Nat.zero_le _) ⟨rfl, by simpa [eq_true c1] using hR⟩ dd_M_wrong_18

set_option maxHeartbeats 4000000 in
set_option maxRecDepth 100000 in
theorem cc_M_comeTo {l : Launch} {G : gC} {M : mC} {sz : Nat} {y b nd nn : Nat} {I : Nat → Nat → Int32} {T B C : Nat → Int32} {J : Nat → Nat → Int64} {Z : Nat → Int32} {kn : Bool} {fn mo th : Int32} (hR : rm G M y b nd nn (mI I T B C) J Z kn 0 fn mo th) {D : Nat → dR} {N : Nat → nR} {pn : Nat → Nat → Int64} {pt : Nat → Nat → Int32} {np bg ho : Nat → Nat} {pa : Nat → Option Nat} (hD0 : tD nd D pn pt np bg I J Z) (hN0 : tN nd nn N ho pa I J) {k : Nat} (hk : k < nn) : cW l yy_M_comeTo bb_M_comeTo 5 none 3 0 0 G M sz [.ref y, .int (nI k)] (fun v u => v = none ∧ rm G u y b nd nn (mI I (m_come nd D N pa pn np ho (T, B, C, 0, fn, mo) k).1 (m_come nd D N pa pn np ho (T, B, C, 0, fn, mo) k).2.1 (m_come nd D N pa pn np ho (T, B, C, 0, fn, mo) k).2.2.1) J Z kn (m_come nd D N pa pn np ho (T, B, C, 0, fn, mo) k).2.2.2.1 (m_come nd D N pa pn np ho (T, B, C, 0, fn, mo) k).2.2.2.2.1 (m_come nd D N pa pn np ho (T, B, C, 0, fn, mo) k).2.2.2.2.2 th) := by
  refine me_W (by decide) (Nat.le_of_ble_eq_true rfl) ?_
  intro p e s m below meth c ls hx hb hr hlocks hml hown hname ht hsz hM hK hZ hl
  have hown : s.vm.findClass RR_M = some m.cls := hown
  have hl : lv_has ls 5 [(0, .ref y), (1, .int (nI k))] := hl
  have hS : va_S (fr M sz) s.heap s.heap [] := va_S.rf
  have hF : ∀ q, M q ≠ none → fr M sz q := fr_M
  have hA : ∀ q, s.heap.size ≤ q → fr M sz q := fun q h => fr_A q (by rw [← hsz]; exact h)
  obtain ⟨hyb, my, hA9, hnd, hnn⟩ := id hR
  obtain ⟨a0, a1, a2, a3, a4, a5, a6, a7, a8, a9, a10, a11, a12, a13, a14, a15, a16, a17⟩ := rmB_of hA9
  have hD := tD_mI hD0 T B C
  have hN := tN_mI hN0 T B C
  refine lv_aload_n hx hb dd_M_comeTo_0 rfl (lv_at hl 0 rfl) ?_
  refine lv_iload_n hx hb dd_M_comeTo_1 rfl (lv_at hl 1 rfl) ?_
  refine mc_V (As := [.int (nI k)]) (rest := []) 1 (cc_M_there hR (tD_mI hD0 T B C) (tN_mI hN0 T B C) (k := k) hk) hx hb hml hown ht hM hK hl.1 lk_M_116 (by decide +kernel) (by decide) my rfl rfl rfl (Nat.le_of_ble_eq_true rfl) dd_M_comeTo_2 ⟨Nat.zero_le _, Nat.zero_le _⟩ ?_
  refine lv_istore_n (lv' := [(2, .int (m_thr N pa (k + 1) (nI (np (ho k))) k)), (0, .ref y), (1, .int (nI k))]) hx hb dd_M_comeTo_5 rfl hl (by decide) rfl (fun ls hl => ?_)
  refine lv_iload_n hx hb dd_M_comeTo_6 rfl (lv_at hl 0 rfl) ?_
  refine lv_aload_n hx hb dd_M_comeTo_7 rfl (lv_at hl 1 rfl) ?_
  refine mg_get hx hb ht ii_M hown hK hM my rfl 10 (by decide) wd_2_223 (fun _ h => h) rfl dd_M_comeTo_8 ?_
  refine lv_iload_n hx hb dd_M_comeTo_11 rfl (lv_at hl 2 rfl) ?_
  refine mg_iald hx hb hK hM a7 (vp_in_nI (show k < 4096 by omega) (by decide)) dd_M_comeTo_12 ?_
  rw [nI_clamp (show k < 2 ^ 31 by omega)]
  rw [(hN0 k (show k < nn by omega)).1]
  refine mc_S (As := [.int (n_kd (N k))]) (rest := [.int (m_thr N pa (k + 1) (nI (np (ho k))) k)]) 1 (cc_M_hasSecond (k := (n_kd (N k)))) hx hb hml hown ht hM hK hl.1 lk_M_98 (by decide +kernel) (by decide) rfl rfl (Nat.le_of_ble_eq_true rfl) dd_M_comeTo_13 ⟨Nat.zero_le _, Nat.zero_le _⟩ ?_
  refine lb_if_eq (tgt := 23) hx hb dd_M_comeTo_16 (by decide) (fun c1 => ?_) (fun c1 => ?_)
  · refine lv_aload_n hx hb dd_M_comeTo_23 rfl (lv_at hl 1 rfl) ?_
    refine lv_iload_n hx hb dd_M_comeTo_24 rfl (lv_at hl 2 rfl) ?_
    refine lv_iconst (v := 1) hx hb dd_M_comeTo_25 (by decide) ?_
    refine mc_V (As := [.int (nI k), .int 1]) (rest := [.int (m_thr N pa (k + 1) (nI (np (ho k))) k)]) 2 (cc_M_bindsIn hR (tD_mI hD0 T B C) (tN_mI hN0 T B C) (k := k) hk (p9 := 1)) hx hb hml hown ht hM hK hl.1 lk_M_113 (by decide +kernel) (by decide) my rfl rfl rfl (Nat.le_of_ble_eq_true rfl) dd_M_comeTo_26 ⟨Nat.zero_le _, Nat.zero_le _⟩ ?_
    refine lb_if_eq (tgt := 36) hx hb dd_M_comeTo_29 (by decide) (fun c2 => ?_) (fun c2 => ?_)
    · refine lv_iconst (v := 0) hx hb dd_M_comeTo_36 (by decide) ?_
      refine lv_iadd hx hb dd_M_comeTo_37 ?_
      obtain ⟨in9, ein⟩ : ∃ z : Int32, z = ((m_thr N pa (k + 1) (nI (np (ho k))) k) + 0) := ⟨_, rfl⟩
      rw [← ein]
      have hin : m_ins N pa np ho k = in9 := by rw [ein]; simp [m_ins, c1, c2]
      refine lv_istore_n (lv' := [(3, .int in9), (2, .int (m_thr N pa (k + 1) (nI (np (ho k))) k)), (0, .ref y), (1, .int (nI k))]) hx hb dd_M_comeTo_38 rfl hl (by decide) rfl (fun ls hl => ?_)
      refine lv_aload_n hx hb dd_M_comeTo_39 rfl (lv_at hl 2 rfl) ?_
      refine lv_iload_n hx hb dd_M_comeTo_40 rfl (lv_at hl 0 rfl) ?_
      refine lv_aload_n hx hb dd_M_comeTo_41 rfl (lv_at hl 2 rfl) ?_
      refine mg_get hx hb ht ii_M hown hK hM my rfl 24 (by decide) wd_2_237 (fun _ h => h) rfl dd_M_comeTo_42 ?_
      refine lv_icmp_le (tgt := 52) hx hb dd_M_comeTo_45 (by decide) (fun c3 => ?_) (fun c3 => ?_)
      · refine lv_aload_n hx hb dd_M_comeTo_52 rfl (lv_at hl 2 rfl) ?_
        refine mg_get hx hb ht ii_M hown hK hM my rfl 24 (by decide) wd_2_237 (fun _ h => h) rfl dd_M_comeTo_53 ?_
        refine mg_put (v := .int mo) hx hb ht ii_M tt_M tt_M_ok nn_M hown hK hM hS (hF _ (by rw [my]; exact Option.some_ne_none _)) my rfl 24 (by decide) wd_2_237 (fun _ h => h) (Or.inl rfl) rfl rfl rfl (Nat.le_of_ble_eq_true rfl) dd_M_comeTo_56 (fun H locs hM hz hoq hS => ?_)
        have hM : hm G (mp_up M y (yC b nd nn kn 0 fn mo th)) H := hM
        have hF : ∀ z9, (mp_up M y (yC b nd nn kn 0 fn mo th)) z9 ≠ none → fr M sz z9 := hF_put hF (hF _ (by rw [my]; exact Option.some_ne_none _))
        have hR : rm G (mp_up M y (yC b nd nn kn 0 fn mo th)) y b nd nn (mI I T B C) J Z kn 0 fn mo th := rm_setX hR (by omega) (by omega)
        obtain ⟨u4, eu4⟩ : ∃ z, z = (mp_up M y (yC b nd nn kn 0 fn mo th)) := ⟨_, rfl⟩
        rw [← eu4] at hM hF hR
        clear eu4
        obtain ⟨hyb, my, hA9, hnd, hnn⟩ := id hR
        obtain ⟨a0, a1, a2, a3, a4, a5, a6, a7, a8, a9, a10, a11, a12, a13, a14, a15, a16, a17⟩ := rmB_of hA9
        refine lv_aload_n hx hb dd_M_comeTo_59 rfl (lv_at hl 2 rfl) ?_
        refine mg_get hx hb ht ii_M hown hK hM my rfl 19 (by decide) wd_2_232 (fun _ h => h) rfl dd_M_comeTo_60 ?_
        refine lv_iload_n hx hb dd_M_comeTo_63 rfl (lv_at hl 3 rfl) ?_
        refine lv_iconst (v := -1) hx hb dd_M_comeTo_64 (by decide) ?_
        refine mg_iast hx hb hK hM hS (hF _ (by rw [a16]; exact Option.some_ne_none _)) a16 (vp_in_nI (show k < 4096 by omega) (by decide)) dd_M_comeTo_65 (fun H locs hM hz hS => ?_)
        rw [nI_clamp (show k < 2 ^ 31 by omega)] at hM
        have hM : hm G (mp_up u4 (b + 16) (iA G 4096 (upd B k (-1)))) H := hM
        have hF : ∀ z9, (mp_up u4 (b + 16) (iA G 4096 (upd B k (-1)))) z9 ≠ none → fr M sz z9 := hF_put hF (hF _ (by rw [a16]; exact Option.some_ne_none _))
        have hR : rm G (mp_up u4 (b + 16) (iA G 4096 (upd B k (-1)))) y b nd nn (mI I T (upd B k (-1)) C) J Z kn 0 fn mo th := ⟨hR.1, mp_at (by omega) hR.2.1, by have h9 := rmA_s16 hR.2.2.1 (upd B k (-1)); rw [mI_16] at h9; exact h9, hR.2.2.2⟩
        obtain ⟨u5, eu5⟩ : ∃ z, z = (mp_up u4 (b + 16) (iA G 4096 (upd B k (-1)))) := ⟨_, rfl⟩
        rw [← eu5] at hM hF hR
        clear eu5
        obtain ⟨hyb, my, hA9, hnd, hnn⟩ := id hR
        obtain ⟨a0, a1, a2, a3, a4, a5, a6, a7, a8, a9, a10, a11, a12, a13, a14, a15, a16, a17⟩ := rmB_of hA9
        refine lv_aload_n hx hb dd_M_comeTo_66 rfl (lv_at hl 2 rfl) ?_
        refine mg_get hx hb ht ii_M hown hK hM my rfl 20 (by decide) wd_2_233 (fun _ h => h) rfl dd_M_comeTo_67 ?_
        refine lv_iload_n hx hb dd_M_comeTo_70 rfl (lv_at hl 3 rfl) ?_
        refine lv_iconst (v := -1) hx hb dd_M_comeTo_71 (by decide) ?_
        refine mg_iast hx hb hK hM hS (hF _ (by rw [a17]; exact Option.some_ne_none _)) a17 (vp_in_nI (show k < 4096 by omega) (by decide)) dd_M_comeTo_72 (fun H locs hM hz hS => ?_)
        rw [nI_clamp (show k < 2 ^ 31 by omega)] at hM
        have hM : hm G (mp_up u5 (b + 17) (iA G 4096 (upd C k (-1)))) H := hM
        have hF : ∀ z9, (mp_up u5 (b + 17) (iA G 4096 (upd C k (-1)))) z9 ≠ none → fr M sz z9 := hF_put hF (hF _ (by rw [a17]; exact Option.some_ne_none _))
        have hR : rm G (mp_up u5 (b + 17) (iA G 4096 (upd C k (-1)))) y b nd nn (mI I T (upd B k (-1)) (upd C k (-1))) J Z kn 0 fn mo th := ⟨hR.1, mp_at (by omega) hR.2.1, by have h9 := rmA_s17 hR.2.2.1 (upd C k (-1)); rw [mI_17] at h9; exact h9, hR.2.2.2⟩
        obtain ⟨u6, eu6⟩ : ∃ z, z = (mp_up u5 (b + 17) (iA G 4096 (upd C k (-1)))) := ⟨_, rfl⟩
        rw [← eu6] at hM hF hR
        clear eu6
        obtain ⟨hyb, my, hA9, hnd, hnn⟩ := id hR
        obtain ⟨a0, a1, a2, a3, a4, a5, a6, a7, a8, a9, a10, a11, a12, a13, a14, a15, a16, a17⟩ := rmB_of hA9
        refine lv_aload_n hx hb dd_M_comeTo_73 rfl (lv_at hl 2 rfl) ?_
        refine mg_get hx hb ht ii_M hown hK hM my rfl 10 (by decide) wd_2_223 (fun _ h => h) rfl dd_M_comeTo_74 ?_
        refine lv_iload_n hx hb dd_M_comeTo_77 rfl (lv_at hl 3 rfl) ?_
        refine mg_iald hx hb hK hM a7 (vp_in_nI (show k < 4096 by omega) (by decide)) dd_M_comeTo_78 ?_
        rw [nI_clamp (show k < 2 ^ 31 by omega)]
        rw [(hN0 k (show k < nn by omega)).1]
        refine lv_iconst (v := 1) hx hb dd_M_comeTo_79 (by decide) ?_
        refine lv_icmp_ne (tgt := 125) hx hb dd_M_comeTo_80 (by decide) (fun c7 => ?_) (fun c7 => ?_)
        · refine lv_aload_n hx hb dd_M_comeTo_125 rfl (lv_at hl 2 rfl) ?_
          refine mg_get hx hb ht ii_M hown hK hM my rfl 10 (by decide) wd_2_223 (fun _ h => h) rfl dd_M_comeTo_126 ?_
          refine lv_iload_n hx hb dd_M_comeTo_129 rfl (lv_at hl 3 rfl) ?_
          refine mg_iald hx hb hK hM a7 (vp_in_nI (show k < 4096 by omega) (by decide)) dd_M_comeTo_130 ?_
          rw [nI_clamp (show k < 2 ^ 31 by omega)]
          rw [(hN0 k (show k < nn by omega)).1]
          refine mc_S (As := [.int (n_kd (N k))]) (rest := []) 1 (cc_M_due (k := (n_kd (N k)))) hx hb hml hown ht hM hK hl.1 lk_M_101 (by decide +kernel) (by decide) rfl rfl (Nat.le_of_ble_eq_true rfl) dd_M_comeTo_131 ⟨Nat.zero_le _, Nat.zero_le _⟩ ?_
          refine lv_if_ge (tgt := 169) hx hb dd_M_comeTo_134 (by decide) (fun c8 => ?_) (fun c8 => ?_)
          · exact mw_v hx hb hr hlocks hM hF hS (Nat.zero_le _) (Nat.zero_le _) ⟨rfl, by simpa [m_come, hin, c3, c7, c8] using hR⟩ dd_M_comeTo_169
          · refine lv_aload_n hx hb dd_M_comeTo_137 rfl (lv_at hl 2 rfl) ?_
            refine mg_get hx hb ht ii_M hown hK hM my rfl 20 (by decide) wd_2_233 (fun _ h => h) rfl dd_M_comeTo_138 ?_
            refine lv_iload_n hx hb dd_M_comeTo_141 rfl (lv_at hl 3 rfl) ?_
            refine lv_aload_n hx hb dd_M_comeTo_142 rfl (lv_at hl 2 rfl) ?_
            refine lv_iload_n hx hb dd_M_comeTo_143 rfl (lv_at hl 3 rfl) ?_
            refine mc_V (As := [.int (nI k)]) (rest := [.int (nI k), .ref (b + 17)]) 1 (cc_M_targetOf hR (tD_mI hD0 T (upd B k (-1)) (upd C k (-1))) (tN_mI hN0 T (upd B k (-1)) (upd C k (-1))) (k := k) hk) hx hb hml hown ht hM hK hl.1 lk_M_130 (by decide +kernel) (by decide) my rfl rfl rfl (Nat.le_of_ble_eq_true rfl) dd_M_comeTo_144 ⟨Nat.zero_le _, Nat.zero_le _⟩ ?_
            refine mg_iast hx hb hK hM hS (hF _ (by rw [a17]; exact Option.some_ne_none _)) a17 (vp_in_nI (show k < 4096 by omega) (by decide)) dd_M_comeTo_147 (fun H locs hM hz hS => ?_)
            rw [nI_clamp (show k < 2 ^ 31 by omega)] at hM
            have hM : hm G (mp_up u6 (b + 17) (iA G 4096 (upd (upd C k (-1)) k (c_num (m_tgt nd D np (N k)))))) H := hM
            have hF : ∀ z9, (mp_up u6 (b + 17) (iA G 4096 (upd (upd C k (-1)) k (c_num (m_tgt nd D np (N k)))))) z9 ≠ none → fr M sz z9 := hF_put hF (hF _ (by rw [a17]; exact Option.some_ne_none _))
            have hR : rm G (mp_up u6 (b + 17) (iA G 4096 (upd (upd C k (-1)) k (c_num (m_tgt nd D np (N k)))))) y b nd nn (mI I T (upd B k (-1)) (upd (upd C k (-1)) k (c_num (m_tgt nd D np (N k))))) J Z kn 0 fn mo th := ⟨hR.1, mp_at (by omega) hR.2.1, by have h9 := rmA_s17 hR.2.2.1 (upd (upd C k (-1)) k (c_num (m_tgt nd D np (N k)))); rw [mI_17] at h9; exact h9, hR.2.2.2⟩
            obtain ⟨u9, eu9⟩ : ∃ z, z = (mp_up u6 (b + 17) (iA G 4096 (upd (upd C k (-1)) k (c_num (m_tgt nd D np (N k)))))) := ⟨_, rfl⟩
            rw [← eu9] at hM hF hR
            clear eu9
            obtain ⟨hyb, my, hA9, hnd, hnn⟩ := id hR
            obtain ⟨a0, a1, a2, a3, a4, a5, a6, a7, a8, a9, a10, a11, a12, a13, a14, a15, a16, a17⟩ := rmB_of hA9
            refine lv_aload_n hx hb dd_M_comeTo_148 rfl (lv_at hl 2 rfl) ?_
            refine mg_get hx hb ht ii_M hown hK hM my rfl 20 (by decide) wd_2_233 (fun _ h => h) rfl dd_M_comeTo_149 ?_
            refine lv_iload_n hx hb dd_M_comeTo_152 rfl (lv_at hl 3 rfl) ?_
            refine mg_iald hx hb hK hM a17 (vp_in_nI (show k < 4096 by omega) (by decide)) dd_M_comeTo_153 ?_
            rw [nI_clamp (show k < 2 ^ 31 by omega)]
            rw [upd_at]
            rcases hp10 : m_tgt nd D np (N k) with _ | p10
            · rw [cn_none]
              refine lv_if_ge (tgt := 166) hx hb dd_M_comeTo_154 (by decide) (fun z => absurd z (by decide)) (fun _ => ?_)
              refine lv_aload_n hx hb dd_M_comeTo_157 rfl (lv_at hl 2 rfl) ?_
              refine lv_iconst (v := 5) hx hb dd_M_comeTo_158 (by decide) ?_
              refine lv_iload_n hx hb dd_M_comeTo_159 rfl (lv_at hl 3 rfl) ?_
              have hFr := hF_fr hF hS hA
              refine mx_V (As := [.int 5, .int (nI k)]) (rest := []) 2 (cc_M_wrong hR) hx hb hml hown ht hM hK hZ hS hFr hl.1 lk_M_126 (by decide +kernel) (by decide) my rfl rfl rfl (Nat.le_of_ble_eq_true rfl) dd_M_comeTo_160 ⟨Nat.zero_le _, Nat.zero_le _⟩ (fun v u9 H locs hp hM hd hle hk hS => ?_)
              obtain ⟨rfl, hR⟩ := hp
              have hF := fun z9 h => hFr z9 (hd z9 h)
              obtain ⟨u11, eu11⟩ : ∃ z, z = u9 := ⟨_, rfl⟩
              rw [← eu11] at hM hF hR
              obtain ⟨hyb, my, hA9, hnd, hnn⟩ := id hR
              obtain ⟨a0, a1, a2, a3, a4, a5, a6, a7, a8, a9, a10, a11, a12, a13, a14, a15, a16, a17⟩ := rmB_of hA9
              refine lv_goto (tgt := 167) hx hb dd_M_comeTo_163 (by decide) ?_
              refine lv_istore (lv' := [(4, .int 0), (3, .int in9), (2, .int (m_thr N pa (k + 1) (nI (np (ho k))) k)), (0, .ref y), (1, .int (nI k))]) hx hb dd_M_comeTo_167 hl (by decide) rfl (fun ls hl => ?_)
              exact mw_v hx hb hr hlocks hM hF hS (Nat.zero_le _) (Nat.zero_le _) ⟨rfl, by simpa [m_come, hin, c3, c7, c8, hp10] using hR⟩ dd_M_comeTo_169
            · rw [cn_some]
              have hlp10 := m_tgt_lt hp10
              refine lv_if_ge (tgt := 166) hx hb dd_M_comeTo_154 (by decide) (fun _ => ?_) (fun z => absurd (nI_pos' (by omega)) z)
              refine lv_iconst (v := 0) hx hb dd_M_comeTo_166 (by decide) ?_
              refine lv_istore (lv' := [(4, .int 0), (3, .int in9), (2, .int (m_thr N pa (k + 1) (nI (np (ho k))) k)), (0, .ref y), (1, .int (nI k))]) hx hb dd_M_comeTo_167 hl (by decide) rfl (fun ls hl => ?_)
              exact mw_v hx hb hr hlocks hM hF hS (Nat.zero_le _) (Nat.zero_le _) ⟨rfl, by simpa [m_come, hin, c3, c7, c8, hp10] using hR⟩ dd_M_comeTo_169
        · refine lv_aload_n hx hb dd_M_comeTo_83 rfl (lv_at hl 2 rfl) ?_
          refine mg_get hx hb ht ii_M hown hK hM my rfl 19 (by decide) wd_2_232 (fun _ h => h) rfl dd_M_comeTo_84 ?_
          refine lv_iload_n hx hb dd_M_comeTo_87 rfl (lv_at hl 3 rfl) ?_
          refine lv_aload_n hx hb dd_M_comeTo_88 rfl (lv_at hl 2 rfl) ?_
          refine lv_iload_n hx hb dd_M_comeTo_89 rfl (lv_at hl 3 rfl) ?_
          refine lv_aload_n hx hb dd_M_comeTo_90 rfl (lv_at hl 2 rfl) ?_
          refine mg_get hx hb ht ii_M hown hK hM my rfl 11 (by decide) wd_2_224 (fun _ h => h) rfl dd_M_comeTo_91 ?_
          refine lv_iload_n hx hb dd_M_comeTo_94 rfl (lv_at hl 3 rfl) ?_
          refine mg_lald hx hb hK hM a8 (vp_in_nI (show k < 4096 by omega) (by decide)) dd_M_comeTo_95 ?_
          rw [nI_clamp (show k < 2 ^ 31 by omega)]
          rw [(hN0 k (show k < nn by omega)).2.1]
          refine mc_V (As := [.int (nI k), .long (n_fi (N k))]) (rest := [.int (nI k), .ref (b + 16)]) 2 (cc_M_binderOf hR (tD_mI hD0 T (upd B k (-1)) (upd C k (-1))) (tN_mI hN0 T (upd B k (-1)) (upd C k (-1))) (k := k) hk (x9 := n_fi (N k))) hx hb hml hown ht hM hK hl.1 lk_M_122 (by decide +kernel) (by decide) my rfl rfl rfl (Nat.le_of_ble_eq_true rfl) dd_M_comeTo_96 ⟨Nat.zero_le _, Nat.zero_le _⟩ ?_
          refine mg_iast hx hb hK hM hS (hF _ (by rw [a16]; exact Option.some_ne_none _)) a16 (vp_in_nI (show k < 4096 by omega) (by decide)) dd_M_comeTo_99 (fun H locs hM hz hS => ?_)
          rw [nI_clamp (show k < 2 ^ 31 by omega)] at hM
          have hM : hm G (mp_up u6 (b + 16) (iA G 4096 (upd (upd B k (-1)) k (m_bval N pa pn np ho (n_fi (N k)) k)))) H := hM
          have hF : ∀ z9, (mp_up u6 (b + 16) (iA G 4096 (upd (upd B k (-1)) k (m_bval N pa pn np ho (n_fi (N k)) k)))) z9 ≠ none → fr M sz z9 := hF_put hF (hF _ (by rw [a16]; exact Option.some_ne_none _))
          have hR : rm G (mp_up u6 (b + 16) (iA G 4096 (upd (upd B k (-1)) k (m_bval N pa pn np ho (n_fi (N k)) k)))) y b nd nn (mI I T (upd (upd B k (-1)) k (m_bval N pa pn np ho (n_fi (N k)) k)) (upd C k (-1))) J Z kn 0 fn mo th := ⟨hR.1, mp_at (by omega) hR.2.1, by have h9 := rmA_s16 hR.2.2.1 (upd (upd B k (-1)) k (m_bval N pa pn np ho (n_fi (N k)) k)); rw [mI_16] at h9; exact h9, hR.2.2.2⟩
          obtain ⟨u12, eu12⟩ : ∃ z, z = (mp_up u6 (b + 16) (iA G 4096 (upd (upd B k (-1)) k (m_bval N pa pn np ho (n_fi (N k)) k)))) := ⟨_, rfl⟩
          rw [← eu12] at hM hF hR
          clear eu12
          obtain ⟨hyb, my, hA9, hnd, hnn⟩ := id hR
          obtain ⟨a0, a1, a2, a3, a4, a5, a6, a7, a8, a9, a10, a11, a12, a13, a14, a15, a16, a17⟩ := rmB_of hA9
          refine lv_aload_n hx hb dd_M_comeTo_100 rfl (lv_at hl 2 rfl) ?_
          refine mg_get hx hb ht ii_M hown hK hM my rfl 19 (by decide) wd_2_232 (fun _ h => h) rfl dd_M_comeTo_101 ?_
          refine lv_iload_n hx hb dd_M_comeTo_104 rfl (lv_at hl 3 rfl) ?_
          refine mg_iald hx hb hK hM a16 (vp_in_nI (show k < 4096 by omega) (by decide)) dd_M_comeTo_105 ?_
          rw [nI_clamp (show k < 2 ^ 31 by omega)]
          rw [upd_at]
          refine lv_iconst (v := -1) hx hb dd_M_comeTo_106 (by decide) ?_
          refine lv_icmp_ne (tgt := 119) hx hb dd_M_comeTo_107 (by decide) (fun c13 => ?_) (fun c13 => ?_)
          · refine lv_iconst (v := 0) hx hb dd_M_comeTo_119 (by decide) ?_
            refine lv_istore (lv' := [(4, .int 0), (3, .int in9), (2, .int (m_thr N pa (k + 1) (nI (np (ho k))) k)), (0, .ref y), (1, .int (nI k))]) hx hb dd_M_comeTo_120 hl (by decide) rfl (fun ls hl => ?_)
            refine lv_goto (tgt := 169) hx hb dd_M_comeTo_122 (by decide) ?_
            exact mw_v hx hb hr hlocks hM hF hS (Nat.zero_le _) (Nat.zero_le _) ⟨rfl, by simpa [m_come, hin, c3, eq_true c7, c13] using hR⟩ dd_M_comeTo_169
          · refine lv_aload_n hx hb dd_M_comeTo_110 rfl (lv_at hl 2 rfl) ?_
            refine lv_iconst (v := 5) hx hb dd_M_comeTo_111 (by decide) ?_
            refine lv_iload_n hx hb dd_M_comeTo_112 rfl (lv_at hl 3 rfl) ?_
            have hFr := hF_fr hF hS hA
            refine mx_V (As := [.int 5, .int (nI k)]) (rest := []) 2 (cc_M_wrong hR) hx hb hml hown ht hM hK hZ hS hFr hl.1 lk_M_126 (by decide +kernel) (by decide) my rfl rfl rfl (Nat.le_of_ble_eq_true rfl) dd_M_comeTo_113 ⟨Nat.zero_le _, Nat.zero_le _⟩ (fun v u9 H locs hp hM hd hle hk hS => ?_)
            obtain ⟨rfl, hR⟩ := hp
            have hF := fun z9 h => hFr z9 (hd z9 h)
            obtain ⟨u14, eu14⟩ : ∃ z, z = u9 := ⟨_, rfl⟩
            rw [← eu14] at hM hF hR
            obtain ⟨hyb, my, hA9, hnd, hnn⟩ := id hR
            obtain ⟨a0, a1, a2, a3, a4, a5, a6, a7, a8, a9, a10, a11, a12, a13, a14, a15, a16, a17⟩ := rmB_of hA9
            refine lv_goto (tgt := 120) hx hb dd_M_comeTo_116 (by decide) ?_
            refine lv_istore (lv' := [(4, .int 0), (3, .int in9), (2, .int (m_thr N pa (k + 1) (nI (np (ho k))) k)), (0, .ref y), (1, .int (nI k))]) hx hb dd_M_comeTo_120 hl (by decide) rfl (fun ls hl => ?_)
            refine lv_goto (tgt := 169) hx hb dd_M_comeTo_122 (by decide) ?_
            exact mw_v hx hb hr hlocks hM hF hS (Nat.zero_le _) (Nat.zero_le _) ⟨rfl, by simpa [m_come, hin, c3, eq_true c7, eq_true c13] using hR⟩ dd_M_comeTo_169
      · refine lv_iload_n hx hb dd_M_comeTo_48 rfl (lv_at hl 0 rfl) ?_
        refine lv_goto (tgt := 56) hx hb dd_M_comeTo_49 (by decide) ?_
        refine mg_put (v := .int in9) hx hb ht ii_M tt_M tt_M_ok nn_M hown hK hM hS (hF _ (by rw [my]; exact Option.some_ne_none _)) my rfl 24 (by decide) wd_2_237 (fun _ h => h) (Or.inl rfl) rfl rfl rfl (Nat.le_of_ble_eq_true rfl) dd_M_comeTo_56 (fun H locs hM hz hoq hS => ?_)
        have hM : hm G (mp_up M y (yC b nd nn kn 0 fn in9 th)) H := hM
        have hF : ∀ z9, (mp_up M y (yC b nd nn kn 0 fn in9 th)) z9 ≠ none → fr M sz z9 := hF_put hF (hF _ (by rw [my]; exact Option.some_ne_none _))
        have hR : rm G (mp_up M y (yC b nd nn kn 0 fn in9 th)) y b nd nn (mI I T B C) J Z kn 0 fn in9 th := rm_setX hR (by omega) (by omega)
        obtain ⟨u15, eu15⟩ : ∃ z, z = (mp_up M y (yC b nd nn kn 0 fn in9 th)) := ⟨_, rfl⟩
        rw [← eu15] at hM hF hR
        clear eu15
        obtain ⟨hyb, my, hA9, hnd, hnn⟩ := id hR
        obtain ⟨a0, a1, a2, a3, a4, a5, a6, a7, a8, a9, a10, a11, a12, a13, a14, a15, a16, a17⟩ := rmB_of hA9
        refine lv_aload_n hx hb dd_M_comeTo_59 rfl (lv_at hl 2 rfl) ?_
        refine mg_get hx hb ht ii_M hown hK hM my rfl 19 (by decide) wd_2_232 (fun _ h => h) rfl dd_M_comeTo_60 ?_
        refine lv_iload_n hx hb dd_M_comeTo_63 rfl (lv_at hl 3 rfl) ?_
        refine lv_iconst (v := -1) hx hb dd_M_comeTo_64 (by decide) ?_
        refine mg_iast hx hb hK hM hS (hF _ (by rw [a16]; exact Option.some_ne_none _)) a16 (vp_in_nI (show k < 4096 by omega) (by decide)) dd_M_comeTo_65 (fun H locs hM hz hS => ?_)
        rw [nI_clamp (show k < 2 ^ 31 by omega)] at hM
        have hM : hm G (mp_up u15 (b + 16) (iA G 4096 (upd B k (-1)))) H := hM
        have hF : ∀ z9, (mp_up u15 (b + 16) (iA G 4096 (upd B k (-1)))) z9 ≠ none → fr M sz z9 := hF_put hF (hF _ (by rw [a16]; exact Option.some_ne_none _))
        have hR : rm G (mp_up u15 (b + 16) (iA G 4096 (upd B k (-1)))) y b nd nn (mI I T (upd B k (-1)) C) J Z kn 0 fn in9 th := ⟨hR.1, mp_at (by omega) hR.2.1, by have h9 := rmA_s16 hR.2.2.1 (upd B k (-1)); rw [mI_16] at h9; exact h9, hR.2.2.2⟩
        obtain ⟨u16, eu16⟩ : ∃ z, z = (mp_up u15 (b + 16) (iA G 4096 (upd B k (-1)))) := ⟨_, rfl⟩
        rw [← eu16] at hM hF hR
        clear eu16
        obtain ⟨hyb, my, hA9, hnd, hnn⟩ := id hR
        obtain ⟨a0, a1, a2, a3, a4, a5, a6, a7, a8, a9, a10, a11, a12, a13, a14, a15, a16, a17⟩ := rmB_of hA9
        refine lv_aload_n hx hb dd_M_comeTo_66 rfl (lv_at hl 2 rfl) ?_
        refine mg_get hx hb ht ii_M hown hK hM my rfl 20 (by decide) wd_2_233 (fun _ h => h) rfl dd_M_comeTo_67 ?_
        refine lv_iload_n hx hb dd_M_comeTo_70 rfl (lv_at hl 3 rfl) ?_
        refine lv_iconst (v := -1) hx hb dd_M_comeTo_71 (by decide) ?_
        refine mg_iast hx hb hK hM hS (hF _ (by rw [a17]; exact Option.some_ne_none _)) a17 (vp_in_nI (show k < 4096 by omega) (by decide)) dd_M_comeTo_72 (fun H locs hM hz hS => ?_)
        rw [nI_clamp (show k < 2 ^ 31 by omega)] at hM
        have hM : hm G (mp_up u16 (b + 17) (iA G 4096 (upd C k (-1)))) H := hM
        have hF : ∀ z9, (mp_up u16 (b + 17) (iA G 4096 (upd C k (-1)))) z9 ≠ none → fr M sz z9 := hF_put hF (hF _ (by rw [a17]; exact Option.some_ne_none _))
        have hR : rm G (mp_up u16 (b + 17) (iA G 4096 (upd C k (-1)))) y b nd nn (mI I T (upd B k (-1)) (upd C k (-1))) J Z kn 0 fn in9 th := ⟨hR.1, mp_at (by omega) hR.2.1, by have h9 := rmA_s17 hR.2.2.1 (upd C k (-1)); rw [mI_17] at h9; exact h9, hR.2.2.2⟩
        obtain ⟨u17, eu17⟩ : ∃ z, z = (mp_up u16 (b + 17) (iA G 4096 (upd C k (-1)))) := ⟨_, rfl⟩
        rw [← eu17] at hM hF hR
        clear eu17
        obtain ⟨hyb, my, hA9, hnd, hnn⟩ := id hR
        obtain ⟨a0, a1, a2, a3, a4, a5, a6, a7, a8, a9, a10, a11, a12, a13, a14, a15, a16, a17⟩ := rmB_of hA9
        refine lv_aload_n hx hb dd_M_comeTo_73 rfl (lv_at hl 2 rfl) ?_
        refine mg_get hx hb ht ii_M hown hK hM my rfl 10 (by decide) wd_2_223 (fun _ h => h) rfl dd_M_comeTo_74 ?_
        refine lv_iload_n hx hb dd_M_comeTo_77 rfl (lv_at hl 3 rfl) ?_
        refine mg_iald hx hb hK hM a7 (vp_in_nI (show k < 4096 by omega) (by decide)) dd_M_comeTo_78 ?_
        rw [nI_clamp (show k < 2 ^ 31 by omega)]
        rw [(hN0 k (show k < nn by omega)).1]
        refine lv_iconst (v := 1) hx hb dd_M_comeTo_79 (by decide) ?_
        refine lv_icmp_ne (tgt := 125) hx hb dd_M_comeTo_80 (by decide) (fun c18 => ?_) (fun c18 => ?_)
        · refine lv_aload_n hx hb dd_M_comeTo_125 rfl (lv_at hl 2 rfl) ?_
          refine mg_get hx hb ht ii_M hown hK hM my rfl 10 (by decide) wd_2_223 (fun _ h => h) rfl dd_M_comeTo_126 ?_
          refine lv_iload_n hx hb dd_M_comeTo_129 rfl (lv_at hl 3 rfl) ?_
          refine mg_iald hx hb hK hM a7 (vp_in_nI (show k < 4096 by omega) (by decide)) dd_M_comeTo_130 ?_
          rw [nI_clamp (show k < 2 ^ 31 by omega)]
          rw [(hN0 k (show k < nn by omega)).1]
          refine mc_S (As := [.int (n_kd (N k))]) (rest := []) 1 (cc_M_due (k := (n_kd (N k)))) hx hb hml hown ht hM hK hl.1 lk_M_101 (by decide +kernel) (by decide) rfl rfl (Nat.le_of_ble_eq_true rfl) dd_M_comeTo_131 ⟨Nat.zero_le _, Nat.zero_le _⟩ ?_
          refine lv_if_ge (tgt := 169) hx hb dd_M_comeTo_134 (by decide) (fun c19 => ?_) (fun c19 => ?_)
          · exact mw_v hx hb hr hlocks hM hF hS (Nat.zero_le _) (Nat.zero_le _) ⟨rfl, by simpa [m_come, hin, c3, c18, c19] using hR⟩ dd_M_comeTo_169
          · refine lv_aload_n hx hb dd_M_comeTo_137 rfl (lv_at hl 2 rfl) ?_
            refine mg_get hx hb ht ii_M hown hK hM my rfl 20 (by decide) wd_2_233 (fun _ h => h) rfl dd_M_comeTo_138 ?_
            refine lv_iload_n hx hb dd_M_comeTo_141 rfl (lv_at hl 3 rfl) ?_
            refine lv_aload_n hx hb dd_M_comeTo_142 rfl (lv_at hl 2 rfl) ?_
            refine lv_iload_n hx hb dd_M_comeTo_143 rfl (lv_at hl 3 rfl) ?_
            refine mc_V (As := [.int (nI k)]) (rest := [.int (nI k), .ref (b + 17)]) 1 (cc_M_targetOf hR (tD_mI hD0 T (upd B k (-1)) (upd C k (-1))) (tN_mI hN0 T (upd B k (-1)) (upd C k (-1))) (k := k) hk) hx hb hml hown ht hM hK hl.1 lk_M_130 (by decide +kernel) (by decide) my rfl rfl rfl (Nat.le_of_ble_eq_true rfl) dd_M_comeTo_144 ⟨Nat.zero_le _, Nat.zero_le _⟩ ?_
            refine mg_iast hx hb hK hM hS (hF _ (by rw [a17]; exact Option.some_ne_none _)) a17 (vp_in_nI (show k < 4096 by omega) (by decide)) dd_M_comeTo_147 (fun H locs hM hz hS => ?_)
            rw [nI_clamp (show k < 2 ^ 31 by omega)] at hM
            have hM : hm G (mp_up u17 (b + 17) (iA G 4096 (upd (upd C k (-1)) k (c_num (m_tgt nd D np (N k)))))) H := hM
            have hF : ∀ z9, (mp_up u17 (b + 17) (iA G 4096 (upd (upd C k (-1)) k (c_num (m_tgt nd D np (N k)))))) z9 ≠ none → fr M sz z9 := hF_put hF (hF _ (by rw [a17]; exact Option.some_ne_none _))
            have hR : rm G (mp_up u17 (b + 17) (iA G 4096 (upd (upd C k (-1)) k (c_num (m_tgt nd D np (N k)))))) y b nd nn (mI I T (upd B k (-1)) (upd (upd C k (-1)) k (c_num (m_tgt nd D np (N k))))) J Z kn 0 fn in9 th := ⟨hR.1, mp_at (by omega) hR.2.1, by have h9 := rmA_s17 hR.2.2.1 (upd (upd C k (-1)) k (c_num (m_tgt nd D np (N k)))); rw [mI_17] at h9; exact h9, hR.2.2.2⟩
            obtain ⟨u20, eu20⟩ : ∃ z, z = (mp_up u17 (b + 17) (iA G 4096 (upd (upd C k (-1)) k (c_num (m_tgt nd D np (N k)))))) := ⟨_, rfl⟩
            rw [← eu20] at hM hF hR
            clear eu20
            obtain ⟨hyb, my, hA9, hnd, hnn⟩ := id hR
            obtain ⟨a0, a1, a2, a3, a4, a5, a6, a7, a8, a9, a10, a11, a12, a13, a14, a15, a16, a17⟩ := rmB_of hA9
            refine lv_aload_n hx hb dd_M_comeTo_148 rfl (lv_at hl 2 rfl) ?_
            refine mg_get hx hb ht ii_M hown hK hM my rfl 20 (by decide) wd_2_233 (fun _ h => h) rfl dd_M_comeTo_149 ?_
            refine lv_iload_n hx hb dd_M_comeTo_152 rfl (lv_at hl 3 rfl) ?_
            refine mg_iald hx hb hK hM a17 (vp_in_nI (show k < 4096 by omega) (by decide)) dd_M_comeTo_153 ?_
            rw [nI_clamp (show k < 2 ^ 31 by omega)]
            rw [upd_at]
            rcases hp21 : m_tgt nd D np (N k) with _ | p21
            · rw [cn_none]
              refine lv_if_ge (tgt := 166) hx hb dd_M_comeTo_154 (by decide) (fun z => absurd z (by decide)) (fun _ => ?_)
              refine lv_aload_n hx hb dd_M_comeTo_157 rfl (lv_at hl 2 rfl) ?_
              refine lv_iconst (v := 5) hx hb dd_M_comeTo_158 (by decide) ?_
              refine lv_iload_n hx hb dd_M_comeTo_159 rfl (lv_at hl 3 rfl) ?_
              have hFr := hF_fr hF hS hA
              refine mx_V (As := [.int 5, .int (nI k)]) (rest := []) 2 (cc_M_wrong hR) hx hb hml hown ht hM hK hZ hS hFr hl.1 lk_M_126 (by decide +kernel) (by decide) my rfl rfl rfl (Nat.le_of_ble_eq_true rfl) dd_M_comeTo_160 ⟨Nat.zero_le _, Nat.zero_le _⟩ (fun v u9 H locs hp hM hd hle hk hS => ?_)
              obtain ⟨rfl, hR⟩ := hp
              have hF := fun z9 h => hFr z9 (hd z9 h)
              obtain ⟨u22, eu22⟩ : ∃ z, z = u9 := ⟨_, rfl⟩
              rw [← eu22] at hM hF hR
              obtain ⟨hyb, my, hA9, hnd, hnn⟩ := id hR
              obtain ⟨a0, a1, a2, a3, a4, a5, a6, a7, a8, a9, a10, a11, a12, a13, a14, a15, a16, a17⟩ := rmB_of hA9
              refine lv_goto (tgt := 167) hx hb dd_M_comeTo_163 (by decide) ?_
              refine lv_istore (lv' := [(4, .int 0), (3, .int in9), (2, .int (m_thr N pa (k + 1) (nI (np (ho k))) k)), (0, .ref y), (1, .int (nI k))]) hx hb dd_M_comeTo_167 hl (by decide) rfl (fun ls hl => ?_)
              exact mw_v hx hb hr hlocks hM hF hS (Nat.zero_le _) (Nat.zero_le _) ⟨rfl, by simpa [m_come, hin, c3, c18, c19, hp21] using hR⟩ dd_M_comeTo_169
            · rw [cn_some]
              have hlp21 := m_tgt_lt hp21
              refine lv_if_ge (tgt := 166) hx hb dd_M_comeTo_154 (by decide) (fun _ => ?_) (fun z => absurd (nI_pos' (by omega)) z)
              refine lv_iconst (v := 0) hx hb dd_M_comeTo_166 (by decide) ?_
              refine lv_istore (lv' := [(4, .int 0), (3, .int in9), (2, .int (m_thr N pa (k + 1) (nI (np (ho k))) k)), (0, .ref y), (1, .int (nI k))]) hx hb dd_M_comeTo_167 hl (by decide) rfl (fun ls hl => ?_)
              exact mw_v hx hb hr hlocks hM hF hS (Nat.zero_le _) (Nat.zero_le _) ⟨rfl, by simpa [m_come, hin, c3, c18, c19, hp21] using hR⟩ dd_M_comeTo_169
        · refine lv_aload_n hx hb dd_M_comeTo_83 rfl (lv_at hl 2 rfl) ?_
          refine mg_get hx hb ht ii_M hown hK hM my rfl 19 (by decide) wd_2_232 (fun _ h => h) rfl dd_M_comeTo_84 ?_
          refine lv_iload_n hx hb dd_M_comeTo_87 rfl (lv_at hl 3 rfl) ?_
          refine lv_aload_n hx hb dd_M_comeTo_88 rfl (lv_at hl 2 rfl) ?_
          refine lv_iload_n hx hb dd_M_comeTo_89 rfl (lv_at hl 3 rfl) ?_
          refine lv_aload_n hx hb dd_M_comeTo_90 rfl (lv_at hl 2 rfl) ?_
          refine mg_get hx hb ht ii_M hown hK hM my rfl 11 (by decide) wd_2_224 (fun _ h => h) rfl dd_M_comeTo_91 ?_
          refine lv_iload_n hx hb dd_M_comeTo_94 rfl (lv_at hl 3 rfl) ?_
          refine mg_lald hx hb hK hM a8 (vp_in_nI (show k < 4096 by omega) (by decide)) dd_M_comeTo_95 ?_
          rw [nI_clamp (show k < 2 ^ 31 by omega)]
          rw [(hN0 k (show k < nn by omega)).2.1]
          refine mc_V (As := [.int (nI k), .long (n_fi (N k))]) (rest := [.int (nI k), .ref (b + 16)]) 2 (cc_M_binderOf hR (tD_mI hD0 T (upd B k (-1)) (upd C k (-1))) (tN_mI hN0 T (upd B k (-1)) (upd C k (-1))) (k := k) hk (x9 := n_fi (N k))) hx hb hml hown ht hM hK hl.1 lk_M_122 (by decide +kernel) (by decide) my rfl rfl rfl (Nat.le_of_ble_eq_true rfl) dd_M_comeTo_96 ⟨Nat.zero_le _, Nat.zero_le _⟩ ?_
          refine mg_iast hx hb hK hM hS (hF _ (by rw [a16]; exact Option.some_ne_none _)) a16 (vp_in_nI (show k < 4096 by omega) (by decide)) dd_M_comeTo_99 (fun H locs hM hz hS => ?_)
          rw [nI_clamp (show k < 2 ^ 31 by omega)] at hM
          have hM : hm G (mp_up u17 (b + 16) (iA G 4096 (upd (upd B k (-1)) k (m_bval N pa pn np ho (n_fi (N k)) k)))) H := hM
          have hF : ∀ z9, (mp_up u17 (b + 16) (iA G 4096 (upd (upd B k (-1)) k (m_bval N pa pn np ho (n_fi (N k)) k)))) z9 ≠ none → fr M sz z9 := hF_put hF (hF _ (by rw [a16]; exact Option.some_ne_none _))
          have hR : rm G (mp_up u17 (b + 16) (iA G 4096 (upd (upd B k (-1)) k (m_bval N pa pn np ho (n_fi (N k)) k)))) y b nd nn (mI I T (upd (upd B k (-1)) k (m_bval N pa pn np ho (n_fi (N k)) k)) (upd C k (-1))) J Z kn 0 fn in9 th := ⟨hR.1, mp_at (by omega) hR.2.1, by have h9 := rmA_s16 hR.2.2.1 (upd (upd B k (-1)) k (m_bval N pa pn np ho (n_fi (N k)) k)); rw [mI_16] at h9; exact h9, hR.2.2.2⟩
          obtain ⟨u23, eu23⟩ : ∃ z, z = (mp_up u17 (b + 16) (iA G 4096 (upd (upd B k (-1)) k (m_bval N pa pn np ho (n_fi (N k)) k)))) := ⟨_, rfl⟩
          rw [← eu23] at hM hF hR
          clear eu23
          obtain ⟨hyb, my, hA9, hnd, hnn⟩ := id hR
          obtain ⟨a0, a1, a2, a3, a4, a5, a6, a7, a8, a9, a10, a11, a12, a13, a14, a15, a16, a17⟩ := rmB_of hA9
          refine lv_aload_n hx hb dd_M_comeTo_100 rfl (lv_at hl 2 rfl) ?_
          refine mg_get hx hb ht ii_M hown hK hM my rfl 19 (by decide) wd_2_232 (fun _ h => h) rfl dd_M_comeTo_101 ?_
          refine lv_iload_n hx hb dd_M_comeTo_104 rfl (lv_at hl 3 rfl) ?_
          refine mg_iald hx hb hK hM a16 (vp_in_nI (show k < 4096 by omega) (by decide)) dd_M_comeTo_105 ?_
          rw [nI_clamp (show k < 2 ^ 31 by omega)]
          rw [upd_at]
          refine lv_iconst (v := -1) hx hb dd_M_comeTo_106 (by decide) ?_
          refine lv_icmp_ne (tgt := 119) hx hb dd_M_comeTo_107 (by decide) (fun c24 => ?_) (fun c24 => ?_)
          · refine lv_iconst (v := 0) hx hb dd_M_comeTo_119 (by decide) ?_
            refine lv_istore (lv' := [(4, .int 0), (3, .int in9), (2, .int (m_thr N pa (k + 1) (nI (np (ho k))) k)), (0, .ref y), (1, .int (nI k))]) hx hb dd_M_comeTo_120 hl (by decide) rfl (fun ls hl => ?_)
            refine lv_goto (tgt := 169) hx hb dd_M_comeTo_122 (by decide) ?_
            exact mw_v hx hb hr hlocks hM hF hS (Nat.zero_le _) (Nat.zero_le _) ⟨rfl, by simpa [m_come, hin, c3, eq_true c18, c24] using hR⟩ dd_M_comeTo_169
          · refine lv_aload_n hx hb dd_M_comeTo_110 rfl (lv_at hl 2 rfl) ?_
            refine lv_iconst (v := 5) hx hb dd_M_comeTo_111 (by decide) ?_
            refine lv_iload_n hx hb dd_M_comeTo_112 rfl (lv_at hl 3 rfl) ?_
            have hFr := hF_fr hF hS hA
            refine mx_V (As := [.int 5, .int (nI k)]) (rest := []) 2 (cc_M_wrong hR) hx hb hml hown ht hM hK hZ hS hFr hl.1 lk_M_126 (by decide +kernel) (by decide) my rfl rfl rfl (Nat.le_of_ble_eq_true rfl) dd_M_comeTo_113 ⟨Nat.zero_le _, Nat.zero_le _⟩ (fun v u9 H locs hp hM hd hle hk hS => ?_)
            obtain ⟨rfl, hR⟩ := hp
            have hF := fun z9 h => hFr z9 (hd z9 h)
            obtain ⟨u25, eu25⟩ : ∃ z, z = u9 := ⟨_, rfl⟩
            rw [← eu25] at hM hF hR
            obtain ⟨hyb, my, hA9, hnd, hnn⟩ := id hR
            obtain ⟨a0, a1, a2, a3, a4, a5, a6, a7, a8, a9, a10, a11, a12, a13, a14, a15, a16, a17⟩ := rmB_of hA9
            refine lv_goto (tgt := 120) hx hb dd_M_comeTo_116 (by decide) ?_
            refine lv_istore (lv' := [(4, .int 0), (3, .int in9), (2, .int (m_thr N pa (k + 1) (nI (np (ho k))) k)), (0, .ref y), (1, .int (nI k))]) hx hb dd_M_comeTo_120 hl (by decide) rfl (fun ls hl => ?_)
            refine lv_goto (tgt := 169) hx hb dd_M_comeTo_122 (by decide) ?_
            exact mw_v hx hb hr hlocks hM hF hS (Nat.zero_le _) (Nat.zero_le _) ⟨rfl, by simpa [m_come, hin, c3, eq_true c18, eq_true c24] using hR⟩ dd_M_comeTo_169
    · refine lv_iconst (v := 1) hx hb dd_M_comeTo_32 (by decide) ?_
      refine lv_goto (tgt := 37) hx hb dd_M_comeTo_33 (by decide) ?_
      refine lv_iadd hx hb dd_M_comeTo_37 ?_
      obtain ⟨in9, ein⟩ : ∃ z : Int32, z = ((m_thr N pa (k + 1) (nI (np (ho k))) k) + 1) := ⟨_, rfl⟩
      rw [← ein]
      have hin : m_ins N pa np ho k = in9 := by rw [ein]; simp [m_ins, c1, c2]
      refine lv_istore_n (lv' := [(3, .int in9), (2, .int (m_thr N pa (k + 1) (nI (np (ho k))) k)), (0, .ref y), (1, .int (nI k))]) hx hb dd_M_comeTo_38 rfl hl (by decide) rfl (fun ls hl => ?_)
      refine lv_aload_n hx hb dd_M_comeTo_39 rfl (lv_at hl 2 rfl) ?_
      refine lv_iload_n hx hb dd_M_comeTo_40 rfl (lv_at hl 0 rfl) ?_
      refine lv_aload_n hx hb dd_M_comeTo_41 rfl (lv_at hl 2 rfl) ?_
      refine mg_get hx hb ht ii_M hown hK hM my rfl 24 (by decide) wd_2_237 (fun _ h => h) rfl dd_M_comeTo_42 ?_
      refine lv_icmp_le (tgt := 52) hx hb dd_M_comeTo_45 (by decide) (fun c26 => ?_) (fun c26 => ?_)
      · refine lv_aload_n hx hb dd_M_comeTo_52 rfl (lv_at hl 2 rfl) ?_
        refine mg_get hx hb ht ii_M hown hK hM my rfl 24 (by decide) wd_2_237 (fun _ h => h) rfl dd_M_comeTo_53 ?_
        refine mg_put (v := .int mo) hx hb ht ii_M tt_M tt_M_ok nn_M hown hK hM hS (hF _ (by rw [my]; exact Option.some_ne_none _)) my rfl 24 (by decide) wd_2_237 (fun _ h => h) (Or.inl rfl) rfl rfl rfl (Nat.le_of_ble_eq_true rfl) dd_M_comeTo_56 (fun H locs hM hz hoq hS => ?_)
        have hM : hm G (mp_up M y (yC b nd nn kn 0 fn mo th)) H := hM
        have hF : ∀ z9, (mp_up M y (yC b nd nn kn 0 fn mo th)) z9 ≠ none → fr M sz z9 := hF_put hF (hF _ (by rw [my]; exact Option.some_ne_none _))
        have hR : rm G (mp_up M y (yC b nd nn kn 0 fn mo th)) y b nd nn (mI I T B C) J Z kn 0 fn mo th := rm_setX hR (by omega) (by omega)
        obtain ⟨u27, eu27⟩ : ∃ z, z = (mp_up M y (yC b nd nn kn 0 fn mo th)) := ⟨_, rfl⟩
        rw [← eu27] at hM hF hR
        clear eu27
        obtain ⟨hyb, my, hA9, hnd, hnn⟩ := id hR
        obtain ⟨a0, a1, a2, a3, a4, a5, a6, a7, a8, a9, a10, a11, a12, a13, a14, a15, a16, a17⟩ := rmB_of hA9
        refine lv_aload_n hx hb dd_M_comeTo_59 rfl (lv_at hl 2 rfl) ?_
        refine mg_get hx hb ht ii_M hown hK hM my rfl 19 (by decide) wd_2_232 (fun _ h => h) rfl dd_M_comeTo_60 ?_
        refine lv_iload_n hx hb dd_M_comeTo_63 rfl (lv_at hl 3 rfl) ?_
        refine lv_iconst (v := -1) hx hb dd_M_comeTo_64 (by decide) ?_
        refine mg_iast hx hb hK hM hS (hF _ (by rw [a16]; exact Option.some_ne_none _)) a16 (vp_in_nI (show k < 4096 by omega) (by decide)) dd_M_comeTo_65 (fun H locs hM hz hS => ?_)
        rw [nI_clamp (show k < 2 ^ 31 by omega)] at hM
        have hM : hm G (mp_up u27 (b + 16) (iA G 4096 (upd B k (-1)))) H := hM
        have hF : ∀ z9, (mp_up u27 (b + 16) (iA G 4096 (upd B k (-1)))) z9 ≠ none → fr M sz z9 := hF_put hF (hF _ (by rw [a16]; exact Option.some_ne_none _))
        have hR : rm G (mp_up u27 (b + 16) (iA G 4096 (upd B k (-1)))) y b nd nn (mI I T (upd B k (-1)) C) J Z kn 0 fn mo th := ⟨hR.1, mp_at (by omega) hR.2.1, by have h9 := rmA_s16 hR.2.2.1 (upd B k (-1)); rw [mI_16] at h9; exact h9, hR.2.2.2⟩
        obtain ⟨u28, eu28⟩ : ∃ z, z = (mp_up u27 (b + 16) (iA G 4096 (upd B k (-1)))) := ⟨_, rfl⟩
        rw [← eu28] at hM hF hR
        clear eu28
        obtain ⟨hyb, my, hA9, hnd, hnn⟩ := id hR
        obtain ⟨a0, a1, a2, a3, a4, a5, a6, a7, a8, a9, a10, a11, a12, a13, a14, a15, a16, a17⟩ := rmB_of hA9
        refine lv_aload_n hx hb dd_M_comeTo_66 rfl (lv_at hl 2 rfl) ?_
        refine mg_get hx hb ht ii_M hown hK hM my rfl 20 (by decide) wd_2_233 (fun _ h => h) rfl dd_M_comeTo_67 ?_
        refine lv_iload_n hx hb dd_M_comeTo_70 rfl (lv_at hl 3 rfl) ?_
        refine lv_iconst (v := -1) hx hb dd_M_comeTo_71 (by decide) ?_
        refine mg_iast hx hb hK hM hS (hF _ (by rw [a17]; exact Option.some_ne_none _)) a17 (vp_in_nI (show k < 4096 by omega) (by decide)) dd_M_comeTo_72 (fun H locs hM hz hS => ?_)
        rw [nI_clamp (show k < 2 ^ 31 by omega)] at hM
        have hM : hm G (mp_up u28 (b + 17) (iA G 4096 (upd C k (-1)))) H := hM
        have hF : ∀ z9, (mp_up u28 (b + 17) (iA G 4096 (upd C k (-1)))) z9 ≠ none → fr M sz z9 := hF_put hF (hF _ (by rw [a17]; exact Option.some_ne_none _))
        have hR : rm G (mp_up u28 (b + 17) (iA G 4096 (upd C k (-1)))) y b nd nn (mI I T (upd B k (-1)) (upd C k (-1))) J Z kn 0 fn mo th := ⟨hR.1, mp_at (by omega) hR.2.1, by have h9 := rmA_s17 hR.2.2.1 (upd C k (-1)); rw [mI_17] at h9; exact h9, hR.2.2.2⟩
        obtain ⟨u29, eu29⟩ : ∃ z, z = (mp_up u28 (b + 17) (iA G 4096 (upd C k (-1)))) := ⟨_, rfl⟩
        rw [← eu29] at hM hF hR
        clear eu29
        obtain ⟨hyb, my, hA9, hnd, hnn⟩ := id hR
        obtain ⟨a0, a1, a2, a3, a4, a5, a6, a7, a8, a9, a10, a11, a12, a13, a14, a15, a16, a17⟩ := rmB_of hA9
        refine lv_aload_n hx hb dd_M_comeTo_73 rfl (lv_at hl 2 rfl) ?_
        refine mg_get hx hb ht ii_M hown hK hM my rfl 10 (by decide) wd_2_223 (fun _ h => h) rfl dd_M_comeTo_74 ?_
        refine lv_iload_n hx hb dd_M_comeTo_77 rfl (lv_at hl 3 rfl) ?_
        refine mg_iald hx hb hK hM a7 (vp_in_nI (show k < 4096 by omega) (by decide)) dd_M_comeTo_78 ?_
        rw [nI_clamp (show k < 2 ^ 31 by omega)]
        rw [(hN0 k (show k < nn by omega)).1]
        refine lv_iconst (v := 1) hx hb dd_M_comeTo_79 (by decide) ?_
        refine lv_icmp_ne (tgt := 125) hx hb dd_M_comeTo_80 (by decide) (fun c30 => ?_) (fun c30 => ?_)
        · refine lv_aload_n hx hb dd_M_comeTo_125 rfl (lv_at hl 2 rfl) ?_
          refine mg_get hx hb ht ii_M hown hK hM my rfl 10 (by decide) wd_2_223 (fun _ h => h) rfl dd_M_comeTo_126 ?_
          refine lv_iload_n hx hb dd_M_comeTo_129 rfl (lv_at hl 3 rfl) ?_
          refine mg_iald hx hb hK hM a7 (vp_in_nI (show k < 4096 by omega) (by decide)) dd_M_comeTo_130 ?_
          rw [nI_clamp (show k < 2 ^ 31 by omega)]
          rw [(hN0 k (show k < nn by omega)).1]
          refine mc_S (As := [.int (n_kd (N k))]) (rest := []) 1 (cc_M_due (k := (n_kd (N k)))) hx hb hml hown ht hM hK hl.1 lk_M_101 (by decide +kernel) (by decide) rfl rfl (Nat.le_of_ble_eq_true rfl) dd_M_comeTo_131 ⟨Nat.zero_le _, Nat.zero_le _⟩ ?_
          refine lv_if_ge (tgt := 169) hx hb dd_M_comeTo_134 (by decide) (fun c31 => ?_) (fun c31 => ?_)
          · exact mw_v hx hb hr hlocks hM hF hS (Nat.zero_le _) (Nat.zero_le _) ⟨rfl, by simpa [m_come, hin, c26, c30, c31] using hR⟩ dd_M_comeTo_169
          · refine lv_aload_n hx hb dd_M_comeTo_137 rfl (lv_at hl 2 rfl) ?_
            refine mg_get hx hb ht ii_M hown hK hM my rfl 20 (by decide) wd_2_233 (fun _ h => h) rfl dd_M_comeTo_138 ?_
            refine lv_iload_n hx hb dd_M_comeTo_141 rfl (lv_at hl 3 rfl) ?_
            refine lv_aload_n hx hb dd_M_comeTo_142 rfl (lv_at hl 2 rfl) ?_
            refine lv_iload_n hx hb dd_M_comeTo_143 rfl (lv_at hl 3 rfl) ?_
            refine mc_V (As := [.int (nI k)]) (rest := [.int (nI k), .ref (b + 17)]) 1 (cc_M_targetOf hR (tD_mI hD0 T (upd B k (-1)) (upd C k (-1))) (tN_mI hN0 T (upd B k (-1)) (upd C k (-1))) (k := k) hk) hx hb hml hown ht hM hK hl.1 lk_M_130 (by decide +kernel) (by decide) my rfl rfl rfl (Nat.le_of_ble_eq_true rfl) dd_M_comeTo_144 ⟨Nat.zero_le _, Nat.zero_le _⟩ ?_
            refine mg_iast hx hb hK hM hS (hF _ (by rw [a17]; exact Option.some_ne_none _)) a17 (vp_in_nI (show k < 4096 by omega) (by decide)) dd_M_comeTo_147 (fun H locs hM hz hS => ?_)
            rw [nI_clamp (show k < 2 ^ 31 by omega)] at hM
            have hM : hm G (mp_up u29 (b + 17) (iA G 4096 (upd (upd C k (-1)) k (c_num (m_tgt nd D np (N k)))))) H := hM
            have hF : ∀ z9, (mp_up u29 (b + 17) (iA G 4096 (upd (upd C k (-1)) k (c_num (m_tgt nd D np (N k)))))) z9 ≠ none → fr M sz z9 := hF_put hF (hF _ (by rw [a17]; exact Option.some_ne_none _))
            have hR : rm G (mp_up u29 (b + 17) (iA G 4096 (upd (upd C k (-1)) k (c_num (m_tgt nd D np (N k)))))) y b nd nn (mI I T (upd B k (-1)) (upd (upd C k (-1)) k (c_num (m_tgt nd D np (N k))))) J Z kn 0 fn mo th := ⟨hR.1, mp_at (by omega) hR.2.1, by have h9 := rmA_s17 hR.2.2.1 (upd (upd C k (-1)) k (c_num (m_tgt nd D np (N k)))); rw [mI_17] at h9; exact h9, hR.2.2.2⟩
            obtain ⟨u32, eu32⟩ : ∃ z, z = (mp_up u29 (b + 17) (iA G 4096 (upd (upd C k (-1)) k (c_num (m_tgt nd D np (N k)))))) := ⟨_, rfl⟩
            rw [← eu32] at hM hF hR
            clear eu32
            obtain ⟨hyb, my, hA9, hnd, hnn⟩ := id hR
            obtain ⟨a0, a1, a2, a3, a4, a5, a6, a7, a8, a9, a10, a11, a12, a13, a14, a15, a16, a17⟩ := rmB_of hA9
            refine lv_aload_n hx hb dd_M_comeTo_148 rfl (lv_at hl 2 rfl) ?_
            refine mg_get hx hb ht ii_M hown hK hM my rfl 20 (by decide) wd_2_233 (fun _ h => h) rfl dd_M_comeTo_149 ?_
            refine lv_iload_n hx hb dd_M_comeTo_152 rfl (lv_at hl 3 rfl) ?_
            refine mg_iald hx hb hK hM a17 (vp_in_nI (show k < 4096 by omega) (by decide)) dd_M_comeTo_153 ?_
            rw [nI_clamp (show k < 2 ^ 31 by omega)]
            rw [upd_at]
            rcases hp33 : m_tgt nd D np (N k) with _ | p33
            · rw [cn_none]
              refine lv_if_ge (tgt := 166) hx hb dd_M_comeTo_154 (by decide) (fun z => absurd z (by decide)) (fun _ => ?_)
              refine lv_aload_n hx hb dd_M_comeTo_157 rfl (lv_at hl 2 rfl) ?_
              refine lv_iconst (v := 5) hx hb dd_M_comeTo_158 (by decide) ?_
              refine lv_iload_n hx hb dd_M_comeTo_159 rfl (lv_at hl 3 rfl) ?_
              have hFr := hF_fr hF hS hA
              refine mx_V (As := [.int 5, .int (nI k)]) (rest := []) 2 (cc_M_wrong hR) hx hb hml hown ht hM hK hZ hS hFr hl.1 lk_M_126 (by decide +kernel) (by decide) my rfl rfl rfl (Nat.le_of_ble_eq_true rfl) dd_M_comeTo_160 ⟨Nat.zero_le _, Nat.zero_le _⟩ (fun v u9 H locs hp hM hd hle hk hS => ?_)
              obtain ⟨rfl, hR⟩ := hp
              have hF := fun z9 h => hFr z9 (hd z9 h)
              obtain ⟨u34, eu34⟩ : ∃ z, z = u9 := ⟨_, rfl⟩
              rw [← eu34] at hM hF hR
              obtain ⟨hyb, my, hA9, hnd, hnn⟩ := id hR
              obtain ⟨a0, a1, a2, a3, a4, a5, a6, a7, a8, a9, a10, a11, a12, a13, a14, a15, a16, a17⟩ := rmB_of hA9
              refine lv_goto (tgt := 167) hx hb dd_M_comeTo_163 (by decide) ?_
              refine lv_istore (lv' := [(4, .int 0), (3, .int in9), (2, .int (m_thr N pa (k + 1) (nI (np (ho k))) k)), (0, .ref y), (1, .int (nI k))]) hx hb dd_M_comeTo_167 hl (by decide) rfl (fun ls hl => ?_)
              exact mw_v hx hb hr hlocks hM hF hS (Nat.zero_le _) (Nat.zero_le _) ⟨rfl, by simpa [m_come, hin, c26, c30, c31, hp33] using hR⟩ dd_M_comeTo_169
            · rw [cn_some]
              have hlp33 := m_tgt_lt hp33
              refine lv_if_ge (tgt := 166) hx hb dd_M_comeTo_154 (by decide) (fun _ => ?_) (fun z => absurd (nI_pos' (by omega)) z)
              refine lv_iconst (v := 0) hx hb dd_M_comeTo_166 (by decide) ?_
              refine lv_istore (lv' := [(4, .int 0), (3, .int in9), (2, .int (m_thr N pa (k + 1) (nI (np (ho k))) k)), (0, .ref y), (1, .int (nI k))]) hx hb dd_M_comeTo_167 hl (by decide) rfl (fun ls hl => ?_)
              exact mw_v hx hb hr hlocks hM hF hS (Nat.zero_le _) (Nat.zero_le _) ⟨rfl, by simpa [m_come, hin, c26, c30, c31, hp33] using hR⟩ dd_M_comeTo_169
        · refine lv_aload_n hx hb dd_M_comeTo_83 rfl (lv_at hl 2 rfl) ?_
          refine mg_get hx hb ht ii_M hown hK hM my rfl 19 (by decide) wd_2_232 (fun _ h => h) rfl dd_M_comeTo_84 ?_
          refine lv_iload_n hx hb dd_M_comeTo_87 rfl (lv_at hl 3 rfl) ?_
          refine lv_aload_n hx hb dd_M_comeTo_88 rfl (lv_at hl 2 rfl) ?_
          refine lv_iload_n hx hb dd_M_comeTo_89 rfl (lv_at hl 3 rfl) ?_
          refine lv_aload_n hx hb dd_M_comeTo_90 rfl (lv_at hl 2 rfl) ?_
          refine mg_get hx hb ht ii_M hown hK hM my rfl 11 (by decide) wd_2_224 (fun _ h => h) rfl dd_M_comeTo_91 ?_
          refine lv_iload_n hx hb dd_M_comeTo_94 rfl (lv_at hl 3 rfl) ?_
          refine mg_lald hx hb hK hM a8 (vp_in_nI (show k < 4096 by omega) (by decide)) dd_M_comeTo_95 ?_
          rw [nI_clamp (show k < 2 ^ 31 by omega)]
          rw [(hN0 k (show k < nn by omega)).2.1]
          refine mc_V (As := [.int (nI k), .long (n_fi (N k))]) (rest := [.int (nI k), .ref (b + 16)]) 2 (cc_M_binderOf hR (tD_mI hD0 T (upd B k (-1)) (upd C k (-1))) (tN_mI hN0 T (upd B k (-1)) (upd C k (-1))) (k := k) hk (x9 := n_fi (N k))) hx hb hml hown ht hM hK hl.1 lk_M_122 (by decide +kernel) (by decide) my rfl rfl rfl (Nat.le_of_ble_eq_true rfl) dd_M_comeTo_96 ⟨Nat.zero_le _, Nat.zero_le _⟩ ?_
          refine mg_iast hx hb hK hM hS (hF _ (by rw [a16]; exact Option.some_ne_none _)) a16 (vp_in_nI (show k < 4096 by omega) (by decide)) dd_M_comeTo_99 (fun H locs hM hz hS => ?_)
          rw [nI_clamp (show k < 2 ^ 31 by omega)] at hM
          have hM : hm G (mp_up u29 (b + 16) (iA G 4096 (upd (upd B k (-1)) k (m_bval N pa pn np ho (n_fi (N k)) k)))) H := hM
          have hF : ∀ z9, (mp_up u29 (b + 16) (iA G 4096 (upd (upd B k (-1)) k (m_bval N pa pn np ho (n_fi (N k)) k)))) z9 ≠ none → fr M sz z9 := hF_put hF (hF _ (by rw [a16]; exact Option.some_ne_none _))
          have hR : rm G (mp_up u29 (b + 16) (iA G 4096 (upd (upd B k (-1)) k (m_bval N pa pn np ho (n_fi (N k)) k)))) y b nd nn (mI I T (upd (upd B k (-1)) k (m_bval N pa pn np ho (n_fi (N k)) k)) (upd C k (-1))) J Z kn 0 fn mo th := ⟨hR.1, mp_at (by omega) hR.2.1, by have h9 := rmA_s16 hR.2.2.1 (upd (upd B k (-1)) k (m_bval N pa pn np ho (n_fi (N k)) k)); rw [mI_16] at h9; exact h9, hR.2.2.2⟩
          obtain ⟨u35, eu35⟩ : ∃ z, z = (mp_up u29 (b + 16) (iA G 4096 (upd (upd B k (-1)) k (m_bval N pa pn np ho (n_fi (N k)) k)))) := ⟨_, rfl⟩
          rw [← eu35] at hM hF hR
          clear eu35
          obtain ⟨hyb, my, hA9, hnd, hnn⟩ := id hR
          obtain ⟨a0, a1, a2, a3, a4, a5, a6, a7, a8, a9, a10, a11, a12, a13, a14, a15, a16, a17⟩ := rmB_of hA9
          refine lv_aload_n hx hb dd_M_comeTo_100 rfl (lv_at hl 2 rfl) ?_
          refine mg_get hx hb ht ii_M hown hK hM my rfl 19 (by decide) wd_2_232 (fun _ h => h) rfl dd_M_comeTo_101 ?_
          refine lv_iload_n hx hb dd_M_comeTo_104 rfl (lv_at hl 3 rfl) ?_
          refine mg_iald hx hb hK hM a16 (vp_in_nI (show k < 4096 by omega) (by decide)) dd_M_comeTo_105 ?_
          rw [nI_clamp (show k < 2 ^ 31 by omega)]
          rw [upd_at]
          refine lv_iconst (v := -1) hx hb dd_M_comeTo_106 (by decide) ?_
          refine lv_icmp_ne (tgt := 119) hx hb dd_M_comeTo_107 (by decide) (fun c36 => ?_) (fun c36 => ?_)
          · refine lv_iconst (v := 0) hx hb dd_M_comeTo_119 (by decide) ?_
            refine lv_istore (lv' := [(4, .int 0), (3, .int in9), (2, .int (m_thr N pa (k + 1) (nI (np (ho k))) k)), (0, .ref y), (1, .int (nI k))]) hx hb dd_M_comeTo_120 hl (by decide) rfl (fun ls hl => ?_)
            refine lv_goto (tgt := 169) hx hb dd_M_comeTo_122 (by decide) ?_
            exact mw_v hx hb hr hlocks hM hF hS (Nat.zero_le _) (Nat.zero_le _) ⟨rfl, by simpa [m_come, hin, c26, eq_true c30, c36] using hR⟩ dd_M_comeTo_169
          · refine lv_aload_n hx hb dd_M_comeTo_110 rfl (lv_at hl 2 rfl) ?_
            refine lv_iconst (v := 5) hx hb dd_M_comeTo_111 (by decide) ?_
            refine lv_iload_n hx hb dd_M_comeTo_112 rfl (lv_at hl 3 rfl) ?_
            have hFr := hF_fr hF hS hA
            refine mx_V (As := [.int 5, .int (nI k)]) (rest := []) 2 (cc_M_wrong hR) hx hb hml hown ht hM hK hZ hS hFr hl.1 lk_M_126 (by decide +kernel) (by decide) my rfl rfl rfl (Nat.le_of_ble_eq_true rfl) dd_M_comeTo_113 ⟨Nat.zero_le _, Nat.zero_le _⟩ (fun v u9 H locs hp hM hd hle hk hS => ?_)
            obtain ⟨rfl, hR⟩ := hp
            have hF := fun z9 h => hFr z9 (hd z9 h)
            obtain ⟨u37, eu37⟩ : ∃ z, z = u9 := ⟨_, rfl⟩
            rw [← eu37] at hM hF hR
            obtain ⟨hyb, my, hA9, hnd, hnn⟩ := id hR
            obtain ⟨a0, a1, a2, a3, a4, a5, a6, a7, a8, a9, a10, a11, a12, a13, a14, a15, a16, a17⟩ := rmB_of hA9
            refine lv_goto (tgt := 120) hx hb dd_M_comeTo_116 (by decide) ?_
            refine lv_istore (lv' := [(4, .int 0), (3, .int in9), (2, .int (m_thr N pa (k + 1) (nI (np (ho k))) k)), (0, .ref y), (1, .int (nI k))]) hx hb dd_M_comeTo_120 hl (by decide) rfl (fun ls hl => ?_)
            refine lv_goto (tgt := 169) hx hb dd_M_comeTo_122 (by decide) ?_
            exact mw_v hx hb hr hlocks hM hF hS (Nat.zero_le _) (Nat.zero_le _) ⟨rfl, by simpa [m_come, hin, c26, eq_true c30, eq_true c36] using hR⟩ dd_M_comeTo_169
      · refine lv_iload_n hx hb dd_M_comeTo_48 rfl (lv_at hl 0 rfl) ?_
        refine lv_goto (tgt := 56) hx hb dd_M_comeTo_49 (by decide) ?_
        refine mg_put (v := .int in9) hx hb ht ii_M tt_M tt_M_ok nn_M hown hK hM hS (hF _ (by rw [my]; exact Option.some_ne_none _)) my rfl 24 (by decide) wd_2_237 (fun _ h => h) (Or.inl rfl) rfl rfl rfl (Nat.le_of_ble_eq_true rfl) dd_M_comeTo_56 (fun H locs hM hz hoq hS => ?_)
        have hM : hm G (mp_up M y (yC b nd nn kn 0 fn in9 th)) H := hM
        have hF : ∀ z9, (mp_up M y (yC b nd nn kn 0 fn in9 th)) z9 ≠ none → fr M sz z9 := hF_put hF (hF _ (by rw [my]; exact Option.some_ne_none _))
        have hR : rm G (mp_up M y (yC b nd nn kn 0 fn in9 th)) y b nd nn (mI I T B C) J Z kn 0 fn in9 th := rm_setX hR (by omega) (by omega)
        obtain ⟨u38, eu38⟩ : ∃ z, z = (mp_up M y (yC b nd nn kn 0 fn in9 th)) := ⟨_, rfl⟩
        rw [← eu38] at hM hF hR
        clear eu38
        obtain ⟨hyb, my, hA9, hnd, hnn⟩ := id hR
        obtain ⟨a0, a1, a2, a3, a4, a5, a6, a7, a8, a9, a10, a11, a12, a13, a14, a15, a16, a17⟩ := rmB_of hA9
        refine lv_aload_n hx hb dd_M_comeTo_59 rfl (lv_at hl 2 rfl) ?_
        refine mg_get hx hb ht ii_M hown hK hM my rfl 19 (by decide) wd_2_232 (fun _ h => h) rfl dd_M_comeTo_60 ?_
        refine lv_iload_n hx hb dd_M_comeTo_63 rfl (lv_at hl 3 rfl) ?_
        refine lv_iconst (v := -1) hx hb dd_M_comeTo_64 (by decide) ?_
        refine mg_iast hx hb hK hM hS (hF _ (by rw [a16]; exact Option.some_ne_none _)) a16 (vp_in_nI (show k < 4096 by omega) (by decide)) dd_M_comeTo_65 (fun H locs hM hz hS => ?_)
        rw [nI_clamp (show k < 2 ^ 31 by omega)] at hM
        have hM : hm G (mp_up u38 (b + 16) (iA G 4096 (upd B k (-1)))) H := hM
        have hF : ∀ z9, (mp_up u38 (b + 16) (iA G 4096 (upd B k (-1)))) z9 ≠ none → fr M sz z9 := hF_put hF (hF _ (by rw [a16]; exact Option.some_ne_none _))
        have hR : rm G (mp_up u38 (b + 16) (iA G 4096 (upd B k (-1)))) y b nd nn (mI I T (upd B k (-1)) C) J Z kn 0 fn in9 th := ⟨hR.1, mp_at (by omega) hR.2.1, by have h9 := rmA_s16 hR.2.2.1 (upd B k (-1)); rw [mI_16] at h9; exact h9, hR.2.2.2⟩
        obtain ⟨u39, eu39⟩ : ∃ z, z = (mp_up u38 (b + 16) (iA G 4096 (upd B k (-1)))) := ⟨_, rfl⟩
        rw [← eu39] at hM hF hR
        clear eu39
        obtain ⟨hyb, my, hA9, hnd, hnn⟩ := id hR
        obtain ⟨a0, a1, a2, a3, a4, a5, a6, a7, a8, a9, a10, a11, a12, a13, a14, a15, a16, a17⟩ := rmB_of hA9
        refine lv_aload_n hx hb dd_M_comeTo_66 rfl (lv_at hl 2 rfl) ?_
        refine mg_get hx hb ht ii_M hown hK hM my rfl 20 (by decide) wd_2_233 (fun _ h => h) rfl dd_M_comeTo_67 ?_
        refine lv_iload_n hx hb dd_M_comeTo_70 rfl (lv_at hl 3 rfl) ?_
        refine lv_iconst (v := -1) hx hb dd_M_comeTo_71 (by decide) ?_
        refine mg_iast hx hb hK hM hS (hF _ (by rw [a17]; exact Option.some_ne_none _)) a17 (vp_in_nI (show k < 4096 by omega) (by decide)) dd_M_comeTo_72 (fun H locs hM hz hS => ?_)
        rw [nI_clamp (show k < 2 ^ 31 by omega)] at hM
        have hM : hm G (mp_up u39 (b + 17) (iA G 4096 (upd C k (-1)))) H := hM
        have hF : ∀ z9, (mp_up u39 (b + 17) (iA G 4096 (upd C k (-1)))) z9 ≠ none → fr M sz z9 := hF_put hF (hF _ (by rw [a17]; exact Option.some_ne_none _))
        have hR : rm G (mp_up u39 (b + 17) (iA G 4096 (upd C k (-1)))) y b nd nn (mI I T (upd B k (-1)) (upd C k (-1))) J Z kn 0 fn in9 th := ⟨hR.1, mp_at (by omega) hR.2.1, by have h9 := rmA_s17 hR.2.2.1 (upd C k (-1)); rw [mI_17] at h9; exact h9, hR.2.2.2⟩
        obtain ⟨u40, eu40⟩ : ∃ z, z = (mp_up u39 (b + 17) (iA G 4096 (upd C k (-1)))) := ⟨_, rfl⟩
        rw [← eu40] at hM hF hR
        clear eu40
        obtain ⟨hyb, my, hA9, hnd, hnn⟩ := id hR
        obtain ⟨a0, a1, a2, a3, a4, a5, a6, a7, a8, a9, a10, a11, a12, a13, a14, a15, a16, a17⟩ := rmB_of hA9
        refine lv_aload_n hx hb dd_M_comeTo_73 rfl (lv_at hl 2 rfl) ?_
        refine mg_get hx hb ht ii_M hown hK hM my rfl 10 (by decide) wd_2_223 (fun _ h => h) rfl dd_M_comeTo_74 ?_
        refine lv_iload_n hx hb dd_M_comeTo_77 rfl (lv_at hl 3 rfl) ?_
        refine mg_iald hx hb hK hM a7 (vp_in_nI (show k < 4096 by omega) (by decide)) dd_M_comeTo_78 ?_
        rw [nI_clamp (show k < 2 ^ 31 by omega)]
        rw [(hN0 k (show k < nn by omega)).1]
        refine lv_iconst (v := 1) hx hb dd_M_comeTo_79 (by decide) ?_
        refine lv_icmp_ne (tgt := 125) hx hb dd_M_comeTo_80 (by decide) (fun c41 => ?_) (fun c41 => ?_)
        · refine lv_aload_n hx hb dd_M_comeTo_125 rfl (lv_at hl 2 rfl) ?_
          refine mg_get hx hb ht ii_M hown hK hM my rfl 10 (by decide) wd_2_223 (fun _ h => h) rfl dd_M_comeTo_126 ?_
          refine lv_iload_n hx hb dd_M_comeTo_129 rfl (lv_at hl 3 rfl) ?_
          refine mg_iald hx hb hK hM a7 (vp_in_nI (show k < 4096 by omega) (by decide)) dd_M_comeTo_130 ?_
          rw [nI_clamp (show k < 2 ^ 31 by omega)]
          rw [(hN0 k (show k < nn by omega)).1]
          refine mc_S (As := [.int (n_kd (N k))]) (rest := []) 1 (cc_M_due (k := (n_kd (N k)))) hx hb hml hown ht hM hK hl.1 lk_M_101 (by decide +kernel) (by decide) rfl rfl (Nat.le_of_ble_eq_true rfl) dd_M_comeTo_131 ⟨Nat.zero_le _, Nat.zero_le _⟩ ?_
          refine lv_if_ge (tgt := 169) hx hb dd_M_comeTo_134 (by decide) (fun c42 => ?_) (fun c42 => ?_)
          · exact mw_v hx hb hr hlocks hM hF hS (Nat.zero_le _) (Nat.zero_le _) ⟨rfl, by simpa [m_come, hin, c26, c41, c42] using hR⟩ dd_M_comeTo_169
          · refine lv_aload_n hx hb dd_M_comeTo_137 rfl (lv_at hl 2 rfl) ?_
            refine mg_get hx hb ht ii_M hown hK hM my rfl 20 (by decide) wd_2_233 (fun _ h => h) rfl dd_M_comeTo_138 ?_
            refine lv_iload_n hx hb dd_M_comeTo_141 rfl (lv_at hl 3 rfl) ?_
            refine lv_aload_n hx hb dd_M_comeTo_142 rfl (lv_at hl 2 rfl) ?_
            refine lv_iload_n hx hb dd_M_comeTo_143 rfl (lv_at hl 3 rfl) ?_
            refine mc_V (As := [.int (nI k)]) (rest := [.int (nI k), .ref (b + 17)]) 1 (cc_M_targetOf hR (tD_mI hD0 T (upd B k (-1)) (upd C k (-1))) (tN_mI hN0 T (upd B k (-1)) (upd C k (-1))) (k := k) hk) hx hb hml hown ht hM hK hl.1 lk_M_130 (by decide +kernel) (by decide) my rfl rfl rfl (Nat.le_of_ble_eq_true rfl) dd_M_comeTo_144 ⟨Nat.zero_le _, Nat.zero_le _⟩ ?_
            refine mg_iast hx hb hK hM hS (hF _ (by rw [a17]; exact Option.some_ne_none _)) a17 (vp_in_nI (show k < 4096 by omega) (by decide)) dd_M_comeTo_147 (fun H locs hM hz hS => ?_)
            rw [nI_clamp (show k < 2 ^ 31 by omega)] at hM
            have hM : hm G (mp_up u40 (b + 17) (iA G 4096 (upd (upd C k (-1)) k (c_num (m_tgt nd D np (N k)))))) H := hM
            have hF : ∀ z9, (mp_up u40 (b + 17) (iA G 4096 (upd (upd C k (-1)) k (c_num (m_tgt nd D np (N k)))))) z9 ≠ none → fr M sz z9 := hF_put hF (hF _ (by rw [a17]; exact Option.some_ne_none _))
            have hR : rm G (mp_up u40 (b + 17) (iA G 4096 (upd (upd C k (-1)) k (c_num (m_tgt nd D np (N k)))))) y b nd nn (mI I T (upd B k (-1)) (upd (upd C k (-1)) k (c_num (m_tgt nd D np (N k))))) J Z kn 0 fn in9 th := ⟨hR.1, mp_at (by omega) hR.2.1, by have h9 := rmA_s17 hR.2.2.1 (upd (upd C k (-1)) k (c_num (m_tgt nd D np (N k)))); rw [mI_17] at h9; exact h9, hR.2.2.2⟩
            obtain ⟨u43, eu43⟩ : ∃ z, z = (mp_up u40 (b + 17) (iA G 4096 (upd (upd C k (-1)) k (c_num (m_tgt nd D np (N k)))))) := ⟨_, rfl⟩
            rw [← eu43] at hM hF hR
            clear eu43
            obtain ⟨hyb, my, hA9, hnd, hnn⟩ := id hR
            obtain ⟨a0, a1, a2, a3, a4, a5, a6, a7, a8, a9, a10, a11, a12, a13, a14, a15, a16, a17⟩ := rmB_of hA9
            refine lv_aload_n hx hb dd_M_comeTo_148 rfl (lv_at hl 2 rfl) ?_
            refine mg_get hx hb ht ii_M hown hK hM my rfl 20 (by decide) wd_2_233 (fun _ h => h) rfl dd_M_comeTo_149 ?_
            refine lv_iload_n hx hb dd_M_comeTo_152 rfl (lv_at hl 3 rfl) ?_
            refine mg_iald hx hb hK hM a17 (vp_in_nI (show k < 4096 by omega) (by decide)) dd_M_comeTo_153 ?_
            rw [nI_clamp (show k < 2 ^ 31 by omega)]
            rw [upd_at]
            rcases hp44 : m_tgt nd D np (N k) with _ | p44
            · rw [cn_none]
              refine lv_if_ge (tgt := 166) hx hb dd_M_comeTo_154 (by decide) (fun z => absurd z (by decide)) (fun _ => ?_)
              refine lv_aload_n hx hb dd_M_comeTo_157 rfl (lv_at hl 2 rfl) ?_
              refine lv_iconst (v := 5) hx hb dd_M_comeTo_158 (by decide) ?_
              refine lv_iload_n hx hb dd_M_comeTo_159 rfl (lv_at hl 3 rfl) ?_
              have hFr := hF_fr hF hS hA
              refine mx_V (As := [.int 5, .int (nI k)]) (rest := []) 2 (cc_M_wrong hR) hx hb hml hown ht hM hK hZ hS hFr hl.1 lk_M_126 (by decide +kernel) (by decide) my rfl rfl rfl (Nat.le_of_ble_eq_true rfl) dd_M_comeTo_160 ⟨Nat.zero_le _, Nat.zero_le _⟩ (fun v u9 H locs hp hM hd hle hk hS => ?_)
              obtain ⟨rfl, hR⟩ := hp
              have hF := fun z9 h => hFr z9 (hd z9 h)
              obtain ⟨u45, eu45⟩ : ∃ z, z = u9 := ⟨_, rfl⟩
              rw [← eu45] at hM hF hR
              obtain ⟨hyb, my, hA9, hnd, hnn⟩ := id hR
              obtain ⟨a0, a1, a2, a3, a4, a5, a6, a7, a8, a9, a10, a11, a12, a13, a14, a15, a16, a17⟩ := rmB_of hA9
              refine lv_goto (tgt := 167) hx hb dd_M_comeTo_163 (by decide) ?_
              refine lv_istore (lv' := [(4, .int 0), (3, .int in9), (2, .int (m_thr N pa (k + 1) (nI (np (ho k))) k)), (0, .ref y), (1, .int (nI k))]) hx hb dd_M_comeTo_167 hl (by decide) rfl (fun ls hl => ?_)
              exact mw_v hx hb hr hlocks hM hF hS (Nat.zero_le _) (Nat.zero_le _) ⟨rfl, by simpa [m_come, hin, c26, c41, c42, hp44] using hR⟩ dd_M_comeTo_169
            · rw [cn_some]
              have hlp44 := m_tgt_lt hp44
              refine lv_if_ge (tgt := 166) hx hb dd_M_comeTo_154 (by decide) (fun _ => ?_) (fun z => absurd (nI_pos' (by omega)) z)
              refine lv_iconst (v := 0) hx hb dd_M_comeTo_166 (by decide) ?_
              refine lv_istore (lv' := [(4, .int 0), (3, .int in9), (2, .int (m_thr N pa (k + 1) (nI (np (ho k))) k)), (0, .ref y), (1, .int (nI k))]) hx hb dd_M_comeTo_167 hl (by decide) rfl (fun ls hl => ?_)
              exact mw_v hx hb hr hlocks hM hF hS (Nat.zero_le _) (Nat.zero_le _) ⟨rfl, by simpa [m_come, hin, c26, c41, c42, hp44] using hR⟩ dd_M_comeTo_169
        · refine lv_aload_n hx hb dd_M_comeTo_83 rfl (lv_at hl 2 rfl) ?_
          refine mg_get hx hb ht ii_M hown hK hM my rfl 19 (by decide) wd_2_232 (fun _ h => h) rfl dd_M_comeTo_84 ?_
          refine lv_iload_n hx hb dd_M_comeTo_87 rfl (lv_at hl 3 rfl) ?_
          refine lv_aload_n hx hb dd_M_comeTo_88 rfl (lv_at hl 2 rfl) ?_
          refine lv_iload_n hx hb dd_M_comeTo_89 rfl (lv_at hl 3 rfl) ?_
          refine lv_aload_n hx hb dd_M_comeTo_90 rfl (lv_at hl 2 rfl) ?_
          refine mg_get hx hb ht ii_M hown hK hM my rfl 11 (by decide) wd_2_224 (fun _ h => h) rfl dd_M_comeTo_91 ?_
          refine lv_iload_n hx hb dd_M_comeTo_94 rfl (lv_at hl 3 rfl) ?_
          refine mg_lald hx hb hK hM a8 (vp_in_nI (show k < 4096 by omega) (by decide)) dd_M_comeTo_95 ?_
          rw [nI_clamp (show k < 2 ^ 31 by omega)]
          rw [(hN0 k (show k < nn by omega)).2.1]
          refine mc_V (As := [.int (nI k), .long (n_fi (N k))]) (rest := [.int (nI k), .ref (b + 16)]) 2 (cc_M_binderOf hR (tD_mI hD0 T (upd B k (-1)) (upd C k (-1))) (tN_mI hN0 T (upd B k (-1)) (upd C k (-1))) (k := k) hk (x9 := n_fi (N k))) hx hb hml hown ht hM hK hl.1 lk_M_122 (by decide +kernel) (by decide) my rfl rfl rfl (Nat.le_of_ble_eq_true rfl) dd_M_comeTo_96 ⟨Nat.zero_le _, Nat.zero_le _⟩ ?_
          refine mg_iast hx hb hK hM hS (hF _ (by rw [a16]; exact Option.some_ne_none _)) a16 (vp_in_nI (show k < 4096 by omega) (by decide)) dd_M_comeTo_99 (fun H locs hM hz hS => ?_)
          rw [nI_clamp (show k < 2 ^ 31 by omega)] at hM
          have hM : hm G (mp_up u40 (b + 16) (iA G 4096 (upd (upd B k (-1)) k (m_bval N pa pn np ho (n_fi (N k)) k)))) H := hM
          have hF : ∀ z9, (mp_up u40 (b + 16) (iA G 4096 (upd (upd B k (-1)) k (m_bval N pa pn np ho (n_fi (N k)) k)))) z9 ≠ none → fr M sz z9 := hF_put hF (hF _ (by rw [a16]; exact Option.some_ne_none _))
          have hR : rm G (mp_up u40 (b + 16) (iA G 4096 (upd (upd B k (-1)) k (m_bval N pa pn np ho (n_fi (N k)) k)))) y b nd nn (mI I T (upd (upd B k (-1)) k (m_bval N pa pn np ho (n_fi (N k)) k)) (upd C k (-1))) J Z kn 0 fn in9 th := ⟨hR.1, mp_at (by omega) hR.2.1, by have h9 := rmA_s16 hR.2.2.1 (upd (upd B k (-1)) k (m_bval N pa pn np ho (n_fi (N k)) k)); rw [mI_16] at h9; exact h9, hR.2.2.2⟩
          obtain ⟨u46, eu46⟩ : ∃ z, z = (mp_up u40 (b + 16) (iA G 4096 (upd (upd B k (-1)) k (m_bval N pa pn np ho (n_fi (N k)) k)))) := ⟨_, rfl⟩
          rw [← eu46] at hM hF hR
          clear eu46
          obtain ⟨hyb, my, hA9, hnd, hnn⟩ := id hR
          obtain ⟨a0, a1, a2, a3, a4, a5, a6, a7, a8, a9, a10, a11, a12, a13, a14, a15, a16, a17⟩ := rmB_of hA9
          refine lv_aload_n hx hb dd_M_comeTo_100 rfl (lv_at hl 2 rfl) ?_
          refine mg_get hx hb ht ii_M hown hK hM my rfl 19 (by decide) wd_2_232 (fun _ h => h) rfl dd_M_comeTo_101 ?_
          refine lv_iload_n hx hb dd_M_comeTo_104 rfl (lv_at hl 3 rfl) ?_
          refine mg_iald hx hb hK hM a16 (vp_in_nI (show k < 4096 by omega) (by decide)) dd_M_comeTo_105 ?_
          rw [nI_clamp (show k < 2 ^ 31 by omega)]
          rw [upd_at]
          refine lv_iconst (v := -1) hx hb dd_M_comeTo_106 (by decide) ?_
          refine lv_icmp_ne (tgt := 119) hx hb dd_M_comeTo_107 (by decide) (fun c47 => ?_) (fun c47 => ?_)
          · refine lv_iconst (v := 0) hx hb dd_M_comeTo_119 (by decide) ?_
            refine lv_istore (lv' := [(4, .int 0), (3, .int in9), (2, .int (m_thr N pa (k + 1) (nI (np (ho k))) k)), (0, .ref y), (1, .int (nI k))]) hx hb dd_M_comeTo_120 hl (by decide) rfl (fun ls hl => ?_)
            refine lv_goto (tgt := 169) hx hb dd_M_comeTo_122 (by decide) ?_
            exact mw_v hx hb hr hlocks hM hF hS (Nat.zero_le _) (Nat.zero_le _) ⟨rfl, by simpa [m_come, hin, c26, eq_true c41, c47] using hR⟩ dd_M_comeTo_169
          · refine lv_aload_n hx hb dd_M_comeTo_110 rfl (lv_at hl 2 rfl) ?_
            refine lv_iconst (v := 5) hx hb dd_M_comeTo_111 (by decide) ?_
            refine lv_iload_n hx hb dd_M_comeTo_112 rfl (lv_at hl 3 rfl) ?_
            have hFr := hF_fr hF hS hA
            refine mx_V (As := [.int 5, .int (nI k)]) (rest := []) 2 (cc_M_wrong hR) hx hb hml hown ht hM hK hZ hS hFr hl.1 lk_M_126 (by decide +kernel) (by decide) my rfl rfl rfl (Nat.le_of_ble_eq_true rfl) dd_M_comeTo_113 ⟨Nat.zero_le _, Nat.zero_le _⟩ (fun v u9 H locs hp hM hd hle hk hS => ?_)
            obtain ⟨rfl, hR⟩ := hp
            have hF := fun z9 h => hFr z9 (hd z9 h)
            obtain ⟨u48, eu48⟩ : ∃ z, z = u9 := ⟨_, rfl⟩
            rw [← eu48] at hM hF hR
            obtain ⟨hyb, my, hA9, hnd, hnn⟩ := id hR
            obtain ⟨a0, a1, a2, a3, a4, a5, a6, a7, a8, a9, a10, a11, a12, a13, a14, a15, a16, a17⟩ := rmB_of hA9
            refine lv_goto (tgt := 120) hx hb dd_M_comeTo_116 (by decide) ?_
            refine lv_istore (lv' := [(4, .int 0), (3, .int in9), (2, .int (m_thr N pa (k + 1) (nI (np (ho k))) k)), (0, .ref y), (1, .int (nI k))]) hx hb dd_M_comeTo_120 hl (by decide) rfl (fun ls hl => ?_)
            refine lv_goto (tgt := 169) hx hb dd_M_comeTo_122 (by decide) ?_
            exact mw_v hx hb hr hlocks hM hF hS (Nat.zero_le _) (Nat.zero_le _) ⟨rfl, by simpa [m_come, hin, c26, eq_true c41, eq_true c47] using hR⟩ dd_M_comeTo_169
  · refine lv_iconst (v := 2) hx hb dd_M_comeTo_19 (by decide) ?_
    refine lv_goto (tgt := 37) hx hb dd_M_comeTo_20 (by decide) ?_
    refine lv_iadd hx hb dd_M_comeTo_37 ?_
    obtain ⟨in9, ein⟩ : ∃ z : Int32, z = ((m_thr N pa (k + 1) (nI (np (ho k))) k) + 2) := ⟨_, rfl⟩
    rw [← ein]
    have hin : m_ins N pa np ho k = in9 := by rw [ein]; simp [m_ins, c1]
    refine lv_istore_n (lv' := [(3, .int in9), (2, .int (m_thr N pa (k + 1) (nI (np (ho k))) k)), (0, .ref y), (1, .int (nI k))]) hx hb dd_M_comeTo_38 rfl hl (by decide) rfl (fun ls hl => ?_)
    refine lv_aload_n hx hb dd_M_comeTo_39 rfl (lv_at hl 2 rfl) ?_
    refine lv_iload_n hx hb dd_M_comeTo_40 rfl (lv_at hl 0 rfl) ?_
    refine lv_aload_n hx hb dd_M_comeTo_41 rfl (lv_at hl 2 rfl) ?_
    refine mg_get hx hb ht ii_M hown hK hM my rfl 24 (by decide) wd_2_237 (fun _ h => h) rfl dd_M_comeTo_42 ?_
    refine lv_icmp_le (tgt := 52) hx hb dd_M_comeTo_45 (by decide) (fun c49 => ?_) (fun c49 => ?_)
    · refine lv_aload_n hx hb dd_M_comeTo_52 rfl (lv_at hl 2 rfl) ?_
      refine mg_get hx hb ht ii_M hown hK hM my rfl 24 (by decide) wd_2_237 (fun _ h => h) rfl dd_M_comeTo_53 ?_
      refine mg_put (v := .int mo) hx hb ht ii_M tt_M tt_M_ok nn_M hown hK hM hS (hF _ (by rw [my]; exact Option.some_ne_none _)) my rfl 24 (by decide) wd_2_237 (fun _ h => h) (Or.inl rfl) rfl rfl rfl (Nat.le_of_ble_eq_true rfl) dd_M_comeTo_56 (fun H locs hM hz hoq hS => ?_)
      have hM : hm G (mp_up M y (yC b nd nn kn 0 fn mo th)) H := hM
      have hF : ∀ z9, (mp_up M y (yC b nd nn kn 0 fn mo th)) z9 ≠ none → fr M sz z9 := hF_put hF (hF _ (by rw [my]; exact Option.some_ne_none _))
      have hR : rm G (mp_up M y (yC b nd nn kn 0 fn mo th)) y b nd nn (mI I T B C) J Z kn 0 fn mo th := rm_setX hR (by omega) (by omega)
      obtain ⟨u50, eu50⟩ : ∃ z, z = (mp_up M y (yC b nd nn kn 0 fn mo th)) := ⟨_, rfl⟩
      rw [← eu50] at hM hF hR
      clear eu50
      obtain ⟨hyb, my, hA9, hnd, hnn⟩ := id hR
      obtain ⟨a0, a1, a2, a3, a4, a5, a6, a7, a8, a9, a10, a11, a12, a13, a14, a15, a16, a17⟩ := rmB_of hA9
      refine lv_aload_n hx hb dd_M_comeTo_59 rfl (lv_at hl 2 rfl) ?_
      refine mg_get hx hb ht ii_M hown hK hM my rfl 19 (by decide) wd_2_232 (fun _ h => h) rfl dd_M_comeTo_60 ?_
      refine lv_iload_n hx hb dd_M_comeTo_63 rfl (lv_at hl 3 rfl) ?_
      refine lv_iconst (v := -1) hx hb dd_M_comeTo_64 (by decide) ?_
      refine mg_iast hx hb hK hM hS (hF _ (by rw [a16]; exact Option.some_ne_none _)) a16 (vp_in_nI (show k < 4096 by omega) (by decide)) dd_M_comeTo_65 (fun H locs hM hz hS => ?_)
      rw [nI_clamp (show k < 2 ^ 31 by omega)] at hM
      have hM : hm G (mp_up u50 (b + 16) (iA G 4096 (upd B k (-1)))) H := hM
      have hF : ∀ z9, (mp_up u50 (b + 16) (iA G 4096 (upd B k (-1)))) z9 ≠ none → fr M sz z9 := hF_put hF (hF _ (by rw [a16]; exact Option.some_ne_none _))
      have hR : rm G (mp_up u50 (b + 16) (iA G 4096 (upd B k (-1)))) y b nd nn (mI I T (upd B k (-1)) C) J Z kn 0 fn mo th := ⟨hR.1, mp_at (by omega) hR.2.1, by have h9 := rmA_s16 hR.2.2.1 (upd B k (-1)); rw [mI_16] at h9; exact h9, hR.2.2.2⟩
      obtain ⟨u51, eu51⟩ : ∃ z, z = (mp_up u50 (b + 16) (iA G 4096 (upd B k (-1)))) := ⟨_, rfl⟩
      rw [← eu51] at hM hF hR
      clear eu51
      obtain ⟨hyb, my, hA9, hnd, hnn⟩ := id hR
      obtain ⟨a0, a1, a2, a3, a4, a5, a6, a7, a8, a9, a10, a11, a12, a13, a14, a15, a16, a17⟩ := rmB_of hA9
      refine lv_aload_n hx hb dd_M_comeTo_66 rfl (lv_at hl 2 rfl) ?_
      refine mg_get hx hb ht ii_M hown hK hM my rfl 20 (by decide) wd_2_233 (fun _ h => h) rfl dd_M_comeTo_67 ?_
      refine lv_iload_n hx hb dd_M_comeTo_70 rfl (lv_at hl 3 rfl) ?_
      refine lv_iconst (v := -1) hx hb dd_M_comeTo_71 (by decide) ?_
      refine mg_iast hx hb hK hM hS (hF _ (by rw [a17]; exact Option.some_ne_none _)) a17 (vp_in_nI (show k < 4096 by omega) (by decide)) dd_M_comeTo_72 (fun H locs hM hz hS => ?_)
      rw [nI_clamp (show k < 2 ^ 31 by omega)] at hM
      have hM : hm G (mp_up u51 (b + 17) (iA G 4096 (upd C k (-1)))) H := hM
      have hF : ∀ z9, (mp_up u51 (b + 17) (iA G 4096 (upd C k (-1)))) z9 ≠ none → fr M sz z9 := hF_put hF (hF _ (by rw [a17]; exact Option.some_ne_none _))
      have hR : rm G (mp_up u51 (b + 17) (iA G 4096 (upd C k (-1)))) y b nd nn (mI I T (upd B k (-1)) (upd C k (-1))) J Z kn 0 fn mo th := ⟨hR.1, mp_at (by omega) hR.2.1, by have h9 := rmA_s17 hR.2.2.1 (upd C k (-1)); rw [mI_17] at h9; exact h9, hR.2.2.2⟩
      obtain ⟨u52, eu52⟩ : ∃ z, z = (mp_up u51 (b + 17) (iA G 4096 (upd C k (-1)))) := ⟨_, rfl⟩
      rw [← eu52] at hM hF hR
      clear eu52
      obtain ⟨hyb, my, hA9, hnd, hnn⟩ := id hR
      obtain ⟨a0, a1, a2, a3, a4, a5, a6, a7, a8, a9, a10, a11, a12, a13, a14, a15, a16, a17⟩ := rmB_of hA9
      refine lv_aload_n hx hb dd_M_comeTo_73 rfl (lv_at hl 2 rfl) ?_
      refine mg_get hx hb ht ii_M hown hK hM my rfl 10 (by decide) wd_2_223 (fun _ h => h) rfl dd_M_comeTo_74 ?_
      refine lv_iload_n hx hb dd_M_comeTo_77 rfl (lv_at hl 3 rfl) ?_
      refine mg_iald hx hb hK hM a7 (vp_in_nI (show k < 4096 by omega) (by decide)) dd_M_comeTo_78 ?_
      rw [nI_clamp (show k < 2 ^ 31 by omega)]
      rw [(hN0 k (show k < nn by omega)).1]
      refine lv_iconst (v := 1) hx hb dd_M_comeTo_79 (by decide) ?_
      refine lv_icmp_ne (tgt := 125) hx hb dd_M_comeTo_80 (by decide) (fun c53 => ?_) (fun c53 => ?_)
      · refine lv_aload_n hx hb dd_M_comeTo_125 rfl (lv_at hl 2 rfl) ?_
        refine mg_get hx hb ht ii_M hown hK hM my rfl 10 (by decide) wd_2_223 (fun _ h => h) rfl dd_M_comeTo_126 ?_
        refine lv_iload_n hx hb dd_M_comeTo_129 rfl (lv_at hl 3 rfl) ?_
        refine mg_iald hx hb hK hM a7 (vp_in_nI (show k < 4096 by omega) (by decide)) dd_M_comeTo_130 ?_
        rw [nI_clamp (show k < 2 ^ 31 by omega)]
        rw [(hN0 k (show k < nn by omega)).1]
        refine mc_S (As := [.int (n_kd (N k))]) (rest := []) 1 (cc_M_due (k := (n_kd (N k)))) hx hb hml hown ht hM hK hl.1 lk_M_101 (by decide +kernel) (by decide) rfl rfl (Nat.le_of_ble_eq_true rfl) dd_M_comeTo_131 ⟨Nat.zero_le _, Nat.zero_le _⟩ ?_
        refine lv_if_ge (tgt := 169) hx hb dd_M_comeTo_134 (by decide) (fun c54 => ?_) (fun c54 => ?_)
        · exact mw_v hx hb hr hlocks hM hF hS (Nat.zero_le _) (Nat.zero_le _) ⟨rfl, by simpa [m_come, hin, c49, c53, c54] using hR⟩ dd_M_comeTo_169
        · refine lv_aload_n hx hb dd_M_comeTo_137 rfl (lv_at hl 2 rfl) ?_
          refine mg_get hx hb ht ii_M hown hK hM my rfl 20 (by decide) wd_2_233 (fun _ h => h) rfl dd_M_comeTo_138 ?_
          refine lv_iload_n hx hb dd_M_comeTo_141 rfl (lv_at hl 3 rfl) ?_
          refine lv_aload_n hx hb dd_M_comeTo_142 rfl (lv_at hl 2 rfl) ?_
          refine lv_iload_n hx hb dd_M_comeTo_143 rfl (lv_at hl 3 rfl) ?_
          refine mc_V (As := [.int (nI k)]) (rest := [.int (nI k), .ref (b + 17)]) 1 (cc_M_targetOf hR (tD_mI hD0 T (upd B k (-1)) (upd C k (-1))) (tN_mI hN0 T (upd B k (-1)) (upd C k (-1))) (k := k) hk) hx hb hml hown ht hM hK hl.1 lk_M_130 (by decide +kernel) (by decide) my rfl rfl rfl (Nat.le_of_ble_eq_true rfl) dd_M_comeTo_144 ⟨Nat.zero_le _, Nat.zero_le _⟩ ?_
          refine mg_iast hx hb hK hM hS (hF _ (by rw [a17]; exact Option.some_ne_none _)) a17 (vp_in_nI (show k < 4096 by omega) (by decide)) dd_M_comeTo_147 (fun H locs hM hz hS => ?_)
          rw [nI_clamp (show k < 2 ^ 31 by omega)] at hM
          have hM : hm G (mp_up u52 (b + 17) (iA G 4096 (upd (upd C k (-1)) k (c_num (m_tgt nd D np (N k)))))) H := hM
          have hF : ∀ z9, (mp_up u52 (b + 17) (iA G 4096 (upd (upd C k (-1)) k (c_num (m_tgt nd D np (N k)))))) z9 ≠ none → fr M sz z9 := hF_put hF (hF _ (by rw [a17]; exact Option.some_ne_none _))
          have hR : rm G (mp_up u52 (b + 17) (iA G 4096 (upd (upd C k (-1)) k (c_num (m_tgt nd D np (N k)))))) y b nd nn (mI I T (upd B k (-1)) (upd (upd C k (-1)) k (c_num (m_tgt nd D np (N k))))) J Z kn 0 fn mo th := ⟨hR.1, mp_at (by omega) hR.2.1, by have h9 := rmA_s17 hR.2.2.1 (upd (upd C k (-1)) k (c_num (m_tgt nd D np (N k)))); rw [mI_17] at h9; exact h9, hR.2.2.2⟩
          obtain ⟨u55, eu55⟩ : ∃ z, z = (mp_up u52 (b + 17) (iA G 4096 (upd (upd C k (-1)) k (c_num (m_tgt nd D np (N k)))))) := ⟨_, rfl⟩
          rw [← eu55] at hM hF hR
          clear eu55
          obtain ⟨hyb, my, hA9, hnd, hnn⟩ := id hR
          obtain ⟨a0, a1, a2, a3, a4, a5, a6, a7, a8, a9, a10, a11, a12, a13, a14, a15, a16, a17⟩ := rmB_of hA9
          refine lv_aload_n hx hb dd_M_comeTo_148 rfl (lv_at hl 2 rfl) ?_
          refine mg_get hx hb ht ii_M hown hK hM my rfl 20 (by decide) wd_2_233 (fun _ h => h) rfl dd_M_comeTo_149 ?_
          refine lv_iload_n hx hb dd_M_comeTo_152 rfl (lv_at hl 3 rfl) ?_
          refine mg_iald hx hb hK hM a17 (vp_in_nI (show k < 4096 by omega) (by decide)) dd_M_comeTo_153 ?_
          rw [nI_clamp (show k < 2 ^ 31 by omega)]
          rw [upd_at]
          rcases hp56 : m_tgt nd D np (N k) with _ | p56
          · rw [cn_none]
            refine lv_if_ge (tgt := 166) hx hb dd_M_comeTo_154 (by decide) (fun z => absurd z (by decide)) (fun _ => ?_)
            refine lv_aload_n hx hb dd_M_comeTo_157 rfl (lv_at hl 2 rfl) ?_
            refine lv_iconst (v := 5) hx hb dd_M_comeTo_158 (by decide) ?_
            refine lv_iload_n hx hb dd_M_comeTo_159 rfl (lv_at hl 3 rfl) ?_
            have hFr := hF_fr hF hS hA
            refine mx_V (As := [.int 5, .int (nI k)]) (rest := []) 2 (cc_M_wrong hR) hx hb hml hown ht hM hK hZ hS hFr hl.1 lk_M_126 (by decide +kernel) (by decide) my rfl rfl rfl (Nat.le_of_ble_eq_true rfl) dd_M_comeTo_160 ⟨Nat.zero_le _, Nat.zero_le _⟩ (fun v u9 H locs hp hM hd hle hk hS => ?_)
            obtain ⟨rfl, hR⟩ := hp
            have hF := fun z9 h => hFr z9 (hd z9 h)
            obtain ⟨u57, eu57⟩ : ∃ z, z = u9 := ⟨_, rfl⟩
            rw [← eu57] at hM hF hR
            obtain ⟨hyb, my, hA9, hnd, hnn⟩ := id hR
            obtain ⟨a0, a1, a2, a3, a4, a5, a6, a7, a8, a9, a10, a11, a12, a13, a14, a15, a16, a17⟩ := rmB_of hA9
            refine lv_goto (tgt := 167) hx hb dd_M_comeTo_163 (by decide) ?_
            refine lv_istore (lv' := [(4, .int 0), (3, .int in9), (2, .int (m_thr N pa (k + 1) (nI (np (ho k))) k)), (0, .ref y), (1, .int (nI k))]) hx hb dd_M_comeTo_167 hl (by decide) rfl (fun ls hl => ?_)
            exact mw_v hx hb hr hlocks hM hF hS (Nat.zero_le _) (Nat.zero_le _) ⟨rfl, by simpa [m_come, hin, c49, c53, c54, hp56] using hR⟩ dd_M_comeTo_169
          · rw [cn_some]
            have hlp56 := m_tgt_lt hp56
            refine lv_if_ge (tgt := 166) hx hb dd_M_comeTo_154 (by decide) (fun _ => ?_) (fun z => absurd (nI_pos' (by omega)) z)
            refine lv_iconst (v := 0) hx hb dd_M_comeTo_166 (by decide) ?_
            refine lv_istore (lv' := [(4, .int 0), (3, .int in9), (2, .int (m_thr N pa (k + 1) (nI (np (ho k))) k)), (0, .ref y), (1, .int (nI k))]) hx hb dd_M_comeTo_167 hl (by decide) rfl (fun ls hl => ?_)
            exact mw_v hx hb hr hlocks hM hF hS (Nat.zero_le _) (Nat.zero_le _) ⟨rfl, by simpa [m_come, hin, c49, c53, c54, hp56] using hR⟩ dd_M_comeTo_169
      · refine lv_aload_n hx hb dd_M_comeTo_83 rfl (lv_at hl 2 rfl) ?_
        refine mg_get hx hb ht ii_M hown hK hM my rfl 19 (by decide) wd_2_232 (fun _ h => h) rfl dd_M_comeTo_84 ?_
        refine lv_iload_n hx hb dd_M_comeTo_87 rfl (lv_at hl 3 rfl) ?_
        refine lv_aload_n hx hb dd_M_comeTo_88 rfl (lv_at hl 2 rfl) ?_
        refine lv_iload_n hx hb dd_M_comeTo_89 rfl (lv_at hl 3 rfl) ?_
        refine lv_aload_n hx hb dd_M_comeTo_90 rfl (lv_at hl 2 rfl) ?_
        refine mg_get hx hb ht ii_M hown hK hM my rfl 11 (by decide) wd_2_224 (fun _ h => h) rfl dd_M_comeTo_91 ?_
        refine lv_iload_n hx hb dd_M_comeTo_94 rfl (lv_at hl 3 rfl) ?_
        refine mg_lald hx hb hK hM a8 (vp_in_nI (show k < 4096 by omega) (by decide)) dd_M_comeTo_95 ?_
        rw [nI_clamp (show k < 2 ^ 31 by omega)]
        rw [(hN0 k (show k < nn by omega)).2.1]
        refine mc_V (As := [.int (nI k), .long (n_fi (N k))]) (rest := [.int (nI k), .ref (b + 16)]) 2 (cc_M_binderOf hR (tD_mI hD0 T (upd B k (-1)) (upd C k (-1))) (tN_mI hN0 T (upd B k (-1)) (upd C k (-1))) (k := k) hk (x9 := n_fi (N k))) hx hb hml hown ht hM hK hl.1 lk_M_122 (by decide +kernel) (by decide) my rfl rfl rfl (Nat.le_of_ble_eq_true rfl) dd_M_comeTo_96 ⟨Nat.zero_le _, Nat.zero_le _⟩ ?_
        refine mg_iast hx hb hK hM hS (hF _ (by rw [a16]; exact Option.some_ne_none _)) a16 (vp_in_nI (show k < 4096 by omega) (by decide)) dd_M_comeTo_99 (fun H locs hM hz hS => ?_)
        rw [nI_clamp (show k < 2 ^ 31 by omega)] at hM
        have hM : hm G (mp_up u52 (b + 16) (iA G 4096 (upd (upd B k (-1)) k (m_bval N pa pn np ho (n_fi (N k)) k)))) H := hM
        have hF : ∀ z9, (mp_up u52 (b + 16) (iA G 4096 (upd (upd B k (-1)) k (m_bval N pa pn np ho (n_fi (N k)) k)))) z9 ≠ none → fr M sz z9 := hF_put hF (hF _ (by rw [a16]; exact Option.some_ne_none _))
        have hR : rm G (mp_up u52 (b + 16) (iA G 4096 (upd (upd B k (-1)) k (m_bval N pa pn np ho (n_fi (N k)) k)))) y b nd nn (mI I T (upd (upd B k (-1)) k (m_bval N pa pn np ho (n_fi (N k)) k)) (upd C k (-1))) J Z kn 0 fn mo th := ⟨hR.1, mp_at (by omega) hR.2.1, by have h9 := rmA_s16 hR.2.2.1 (upd (upd B k (-1)) k (m_bval N pa pn np ho (n_fi (N k)) k)); rw [mI_16] at h9; exact h9, hR.2.2.2⟩
        obtain ⟨u58, eu58⟩ : ∃ z, z = (mp_up u52 (b + 16) (iA G 4096 (upd (upd B k (-1)) k (m_bval N pa pn np ho (n_fi (N k)) k)))) := ⟨_, rfl⟩
        rw [← eu58] at hM hF hR
        clear eu58
        obtain ⟨hyb, my, hA9, hnd, hnn⟩ := id hR
        obtain ⟨a0, a1, a2, a3, a4, a5, a6, a7, a8, a9, a10, a11, a12, a13, a14, a15, a16, a17⟩ := rmB_of hA9
        refine lv_aload_n hx hb dd_M_comeTo_100 rfl (lv_at hl 2 rfl) ?_
        refine mg_get hx hb ht ii_M hown hK hM my rfl 19 (by decide) wd_2_232 (fun _ h => h) rfl dd_M_comeTo_101 ?_
        refine lv_iload_n hx hb dd_M_comeTo_104 rfl (lv_at hl 3 rfl) ?_
        refine mg_iald hx hb hK hM a16 (vp_in_nI (show k < 4096 by omega) (by decide)) dd_M_comeTo_105 ?_
        rw [nI_clamp (show k < 2 ^ 31 by omega)]
        rw [upd_at]
        refine lv_iconst (v := -1) hx hb dd_M_comeTo_106 (by decide) ?_
        refine lv_icmp_ne (tgt := 119) hx hb dd_M_comeTo_107 (by decide) (fun c59 => ?_) (fun c59 => ?_)
        · refine lv_iconst (v := 0) hx hb dd_M_comeTo_119 (by decide) ?_
          refine lv_istore (lv' := [(4, .int 0), (3, .int in9), (2, .int (m_thr N pa (k + 1) (nI (np (ho k))) k)), (0, .ref y), (1, .int (nI k))]) hx hb dd_M_comeTo_120 hl (by decide) rfl (fun ls hl => ?_)
          refine lv_goto (tgt := 169) hx hb dd_M_comeTo_122 (by decide) ?_
          exact mw_v hx hb hr hlocks hM hF hS (Nat.zero_le _) (Nat.zero_le _) ⟨rfl, by simpa [m_come, hin, c49, eq_true c53, c59] using hR⟩ dd_M_comeTo_169
        · refine lv_aload_n hx hb dd_M_comeTo_110 rfl (lv_at hl 2 rfl) ?_
          refine lv_iconst (v := 5) hx hb dd_M_comeTo_111 (by decide) ?_
          refine lv_iload_n hx hb dd_M_comeTo_112 rfl (lv_at hl 3 rfl) ?_
          have hFr := hF_fr hF hS hA
          refine mx_V (As := [.int 5, .int (nI k)]) (rest := []) 2 (cc_M_wrong hR) hx hb hml hown ht hM hK hZ hS hFr hl.1 lk_M_126 (by decide +kernel) (by decide) my rfl rfl rfl (Nat.le_of_ble_eq_true rfl) dd_M_comeTo_113 ⟨Nat.zero_le _, Nat.zero_le _⟩ (fun v u9 H locs hp hM hd hle hk hS => ?_)
          obtain ⟨rfl, hR⟩ := hp
          have hF := fun z9 h => hFr z9 (hd z9 h)
          obtain ⟨u60, eu60⟩ : ∃ z, z = u9 := ⟨_, rfl⟩
          rw [← eu60] at hM hF hR
          obtain ⟨hyb, my, hA9, hnd, hnn⟩ := id hR
          obtain ⟨a0, a1, a2, a3, a4, a5, a6, a7, a8, a9, a10, a11, a12, a13, a14, a15, a16, a17⟩ := rmB_of hA9
          refine lv_goto (tgt := 120) hx hb dd_M_comeTo_116 (by decide) ?_
          refine lv_istore (lv' := [(4, .int 0), (3, .int in9), (2, .int (m_thr N pa (k + 1) (nI (np (ho k))) k)), (0, .ref y), (1, .int (nI k))]) hx hb dd_M_comeTo_120 hl (by decide) rfl (fun ls hl => ?_)
          refine lv_goto (tgt := 169) hx hb dd_M_comeTo_122 (by decide) ?_
          exact mw_v hx hb hr hlocks hM hF hS (Nat.zero_le _) (Nat.zero_le _) ⟨rfl, by simpa [m_come, hin, c49, eq_true c53, eq_true c59] using hR⟩ dd_M_comeTo_169
    · refine lv_iload_n hx hb dd_M_comeTo_48 rfl (lv_at hl 0 rfl) ?_
      refine lv_goto (tgt := 56) hx hb dd_M_comeTo_49 (by decide) ?_
      refine mg_put (v := .int in9) hx hb ht ii_M tt_M tt_M_ok nn_M hown hK hM hS (hF _ (by rw [my]; exact Option.some_ne_none _)) my rfl 24 (by decide) wd_2_237 (fun _ h => h) (Or.inl rfl) rfl rfl rfl (Nat.le_of_ble_eq_true rfl) dd_M_comeTo_56 (fun H locs hM hz hoq hS => ?_)
      have hM : hm G (mp_up M y (yC b nd nn kn 0 fn in9 th)) H := hM
      have hF : ∀ z9, (mp_up M y (yC b nd nn kn 0 fn in9 th)) z9 ≠ none → fr M sz z9 := hF_put hF (hF _ (by rw [my]; exact Option.some_ne_none _))
      have hR : rm G (mp_up M y (yC b nd nn kn 0 fn in9 th)) y b nd nn (mI I T B C) J Z kn 0 fn in9 th := rm_setX hR (by omega) (by omega)
      obtain ⟨u61, eu61⟩ : ∃ z, z = (mp_up M y (yC b nd nn kn 0 fn in9 th)) := ⟨_, rfl⟩
      rw [← eu61] at hM hF hR
      clear eu61
      obtain ⟨hyb, my, hA9, hnd, hnn⟩ := id hR
      obtain ⟨a0, a1, a2, a3, a4, a5, a6, a7, a8, a9, a10, a11, a12, a13, a14, a15, a16, a17⟩ := rmB_of hA9
      refine lv_aload_n hx hb dd_M_comeTo_59 rfl (lv_at hl 2 rfl) ?_
      refine mg_get hx hb ht ii_M hown hK hM my rfl 19 (by decide) wd_2_232 (fun _ h => h) rfl dd_M_comeTo_60 ?_
      refine lv_iload_n hx hb dd_M_comeTo_63 rfl (lv_at hl 3 rfl) ?_
      refine lv_iconst (v := -1) hx hb dd_M_comeTo_64 (by decide) ?_
      refine mg_iast hx hb hK hM hS (hF _ (by rw [a16]; exact Option.some_ne_none _)) a16 (vp_in_nI (show k < 4096 by omega) (by decide)) dd_M_comeTo_65 (fun H locs hM hz hS => ?_)
      rw [nI_clamp (show k < 2 ^ 31 by omega)] at hM
      have hM : hm G (mp_up u61 (b + 16) (iA G 4096 (upd B k (-1)))) H := hM
      have hF : ∀ z9, (mp_up u61 (b + 16) (iA G 4096 (upd B k (-1)))) z9 ≠ none → fr M sz z9 := hF_put hF (hF _ (by rw [a16]; exact Option.some_ne_none _))
      have hR : rm G (mp_up u61 (b + 16) (iA G 4096 (upd B k (-1)))) y b nd nn (mI I T (upd B k (-1)) C) J Z kn 0 fn in9 th := ⟨hR.1, mp_at (by omega) hR.2.1, by have h9 := rmA_s16 hR.2.2.1 (upd B k (-1)); rw [mI_16] at h9; exact h9, hR.2.2.2⟩
      obtain ⟨u62, eu62⟩ : ∃ z, z = (mp_up u61 (b + 16) (iA G 4096 (upd B k (-1)))) := ⟨_, rfl⟩
      rw [← eu62] at hM hF hR
      clear eu62
      obtain ⟨hyb, my, hA9, hnd, hnn⟩ := id hR
      obtain ⟨a0, a1, a2, a3, a4, a5, a6, a7, a8, a9, a10, a11, a12, a13, a14, a15, a16, a17⟩ := rmB_of hA9
      refine lv_aload_n hx hb dd_M_comeTo_66 rfl (lv_at hl 2 rfl) ?_
      refine mg_get hx hb ht ii_M hown hK hM my rfl 20 (by decide) wd_2_233 (fun _ h => h) rfl dd_M_comeTo_67 ?_
      refine lv_iload_n hx hb dd_M_comeTo_70 rfl (lv_at hl 3 rfl) ?_
      refine lv_iconst (v := -1) hx hb dd_M_comeTo_71 (by decide) ?_
      refine mg_iast hx hb hK hM hS (hF _ (by rw [a17]; exact Option.some_ne_none _)) a17 (vp_in_nI (show k < 4096 by omega) (by decide)) dd_M_comeTo_72 (fun H locs hM hz hS => ?_)
      rw [nI_clamp (show k < 2 ^ 31 by omega)] at hM
      have hM : hm G (mp_up u62 (b + 17) (iA G 4096 (upd C k (-1)))) H := hM
      have hF : ∀ z9, (mp_up u62 (b + 17) (iA G 4096 (upd C k (-1)))) z9 ≠ none → fr M sz z9 := hF_put hF (hF _ (by rw [a17]; exact Option.some_ne_none _))
      have hR : rm G (mp_up u62 (b + 17) (iA G 4096 (upd C k (-1)))) y b nd nn (mI I T (upd B k (-1)) (upd C k (-1))) J Z kn 0 fn in9 th := ⟨hR.1, mp_at (by omega) hR.2.1, by have h9 := rmA_s17 hR.2.2.1 (upd C k (-1)); rw [mI_17] at h9; exact h9, hR.2.2.2⟩
      obtain ⟨u63, eu63⟩ : ∃ z, z = (mp_up u62 (b + 17) (iA G 4096 (upd C k (-1)))) := ⟨_, rfl⟩
      rw [← eu63] at hM hF hR
      clear eu63
      obtain ⟨hyb, my, hA9, hnd, hnn⟩ := id hR
      obtain ⟨a0, a1, a2, a3, a4, a5, a6, a7, a8, a9, a10, a11, a12, a13, a14, a15, a16, a17⟩ := rmB_of hA9
      refine lv_aload_n hx hb dd_M_comeTo_73 rfl (lv_at hl 2 rfl) ?_
      refine mg_get hx hb ht ii_M hown hK hM my rfl 10 (by decide) wd_2_223 (fun _ h => h) rfl dd_M_comeTo_74 ?_
      refine lv_iload_n hx hb dd_M_comeTo_77 rfl (lv_at hl 3 rfl) ?_
      refine mg_iald hx hb hK hM a7 (vp_in_nI (show k < 4096 by omega) (by decide)) dd_M_comeTo_78 ?_
      rw [nI_clamp (show k < 2 ^ 31 by omega)]
      rw [(hN0 k (show k < nn by omega)).1]
      refine lv_iconst (v := 1) hx hb dd_M_comeTo_79 (by decide) ?_
      refine lv_icmp_ne (tgt := 125) hx hb dd_M_comeTo_80 (by decide) (fun c64 => ?_) (fun c64 => ?_)
      · refine lv_aload_n hx hb dd_M_comeTo_125 rfl (lv_at hl 2 rfl) ?_
        refine mg_get hx hb ht ii_M hown hK hM my rfl 10 (by decide) wd_2_223 (fun _ h => h) rfl dd_M_comeTo_126 ?_
        refine lv_iload_n hx hb dd_M_comeTo_129 rfl (lv_at hl 3 rfl) ?_
        refine mg_iald hx hb hK hM a7 (vp_in_nI (show k < 4096 by omega) (by decide)) dd_M_comeTo_130 ?_
        rw [nI_clamp (show k < 2 ^ 31 by omega)]
        rw [(hN0 k (show k < nn by omega)).1]
        refine mc_S (As := [.int (n_kd (N k))]) (rest := []) 1 (cc_M_due (k := (n_kd (N k)))) hx hb hml hown ht hM hK hl.1 lk_M_101 (by decide +kernel) (by decide) rfl rfl (Nat.le_of_ble_eq_true rfl) dd_M_comeTo_131 ⟨Nat.zero_le _, Nat.zero_le _⟩ ?_
        refine lv_if_ge (tgt := 169) hx hb dd_M_comeTo_134 (by decide) (fun c65 => ?_) (fun c65 => ?_)
        · exact mw_v hx hb hr hlocks hM hF hS (Nat.zero_le _) (Nat.zero_le _) ⟨rfl, by simpa [m_come, hin, c49, c64, c65] using hR⟩ dd_M_comeTo_169
        · refine lv_aload_n hx hb dd_M_comeTo_137 rfl (lv_at hl 2 rfl) ?_
          refine mg_get hx hb ht ii_M hown hK hM my rfl 20 (by decide) wd_2_233 (fun _ h => h) rfl dd_M_comeTo_138 ?_
          refine lv_iload_n hx hb dd_M_comeTo_141 rfl (lv_at hl 3 rfl) ?_
          refine lv_aload_n hx hb dd_M_comeTo_142 rfl (lv_at hl 2 rfl) ?_
          refine lv_iload_n hx hb dd_M_comeTo_143 rfl (lv_at hl 3 rfl) ?_
          refine mc_V (As := [.int (nI k)]) (rest := [.int (nI k), .ref (b + 17)]) 1 (cc_M_targetOf hR (tD_mI hD0 T (upd B k (-1)) (upd C k (-1))) (tN_mI hN0 T (upd B k (-1)) (upd C k (-1))) (k := k) hk) hx hb hml hown ht hM hK hl.1 lk_M_130 (by decide +kernel) (by decide) my rfl rfl rfl (Nat.le_of_ble_eq_true rfl) dd_M_comeTo_144 ⟨Nat.zero_le _, Nat.zero_le _⟩ ?_
          refine mg_iast hx hb hK hM hS (hF _ (by rw [a17]; exact Option.some_ne_none _)) a17 (vp_in_nI (show k < 4096 by omega) (by decide)) dd_M_comeTo_147 (fun H locs hM hz hS => ?_)
          rw [nI_clamp (show k < 2 ^ 31 by omega)] at hM
          have hM : hm G (mp_up u63 (b + 17) (iA G 4096 (upd (upd C k (-1)) k (c_num (m_tgt nd D np (N k)))))) H := hM
          have hF : ∀ z9, (mp_up u63 (b + 17) (iA G 4096 (upd (upd C k (-1)) k (c_num (m_tgt nd D np (N k)))))) z9 ≠ none → fr M sz z9 := hF_put hF (hF _ (by rw [a17]; exact Option.some_ne_none _))
          have hR : rm G (mp_up u63 (b + 17) (iA G 4096 (upd (upd C k (-1)) k (c_num (m_tgt nd D np (N k)))))) y b nd nn (mI I T (upd B k (-1)) (upd (upd C k (-1)) k (c_num (m_tgt nd D np (N k))))) J Z kn 0 fn in9 th := ⟨hR.1, mp_at (by omega) hR.2.1, by have h9 := rmA_s17 hR.2.2.1 (upd (upd C k (-1)) k (c_num (m_tgt nd D np (N k)))); rw [mI_17] at h9; exact h9, hR.2.2.2⟩
          obtain ⟨u66, eu66⟩ : ∃ z, z = (mp_up u63 (b + 17) (iA G 4096 (upd (upd C k (-1)) k (c_num (m_tgt nd D np (N k)))))) := ⟨_, rfl⟩
          rw [← eu66] at hM hF hR
          clear eu66
          obtain ⟨hyb, my, hA9, hnd, hnn⟩ := id hR
          obtain ⟨a0, a1, a2, a3, a4, a5, a6, a7, a8, a9, a10, a11, a12, a13, a14, a15, a16, a17⟩ := rmB_of hA9
          refine lv_aload_n hx hb dd_M_comeTo_148 rfl (lv_at hl 2 rfl) ?_
          refine mg_get hx hb ht ii_M hown hK hM my rfl 20 (by decide) wd_2_233 (fun _ h => h) rfl dd_M_comeTo_149 ?_
          refine lv_iload_n hx hb dd_M_comeTo_152 rfl (lv_at hl 3 rfl) ?_
          refine mg_iald hx hb hK hM a17 (vp_in_nI (show k < 4096 by omega) (by decide)) dd_M_comeTo_153 ?_
          rw [nI_clamp (show k < 2 ^ 31 by omega)]
          rw [upd_at]
          rcases hp67 : m_tgt nd D np (N k) with _ | p67
          · rw [cn_none]
            refine lv_if_ge (tgt := 166) hx hb dd_M_comeTo_154 (by decide) (fun z => absurd z (by decide)) (fun _ => ?_)
            refine lv_aload_n hx hb dd_M_comeTo_157 rfl (lv_at hl 2 rfl) ?_
            refine lv_iconst (v := 5) hx hb dd_M_comeTo_158 (by decide) ?_
            refine lv_iload_n hx hb dd_M_comeTo_159 rfl (lv_at hl 3 rfl) ?_
            have hFr := hF_fr hF hS hA
            refine mx_V (As := [.int 5, .int (nI k)]) (rest := []) 2 (cc_M_wrong hR) hx hb hml hown ht hM hK hZ hS hFr hl.1 lk_M_126 (by decide +kernel) (by decide) my rfl rfl rfl (Nat.le_of_ble_eq_true rfl) dd_M_comeTo_160 ⟨Nat.zero_le _, Nat.zero_le _⟩ (fun v u9 H locs hp hM hd hle hk hS => ?_)
            obtain ⟨rfl, hR⟩ := hp
            have hF := fun z9 h => hFr z9 (hd z9 h)
            obtain ⟨u68, eu68⟩ : ∃ z, z = u9 := ⟨_, rfl⟩
            rw [← eu68] at hM hF hR
            obtain ⟨hyb, my, hA9, hnd, hnn⟩ := id hR
            obtain ⟨a0, a1, a2, a3, a4, a5, a6, a7, a8, a9, a10, a11, a12, a13, a14, a15, a16, a17⟩ := rmB_of hA9
            refine lv_goto (tgt := 167) hx hb dd_M_comeTo_163 (by decide) ?_
            refine lv_istore (lv' := [(4, .int 0), (3, .int in9), (2, .int (m_thr N pa (k + 1) (nI (np (ho k))) k)), (0, .ref y), (1, .int (nI k))]) hx hb dd_M_comeTo_167 hl (by decide) rfl (fun ls hl => ?_)
            exact mw_v hx hb hr hlocks hM hF hS (Nat.zero_le _) (Nat.zero_le _) ⟨rfl, by simpa [m_come, hin, c49, c64, c65, hp67] using hR⟩ dd_M_comeTo_169
          · rw [cn_some]
            have hlp67 := m_tgt_lt hp67
            refine lv_if_ge (tgt := 166) hx hb dd_M_comeTo_154 (by decide) (fun _ => ?_) (fun z => absurd (nI_pos' (by omega)) z)
            refine lv_iconst (v := 0) hx hb dd_M_comeTo_166 (by decide) ?_
            refine lv_istore (lv' := [(4, .int 0), (3, .int in9), (2, .int (m_thr N pa (k + 1) (nI (np (ho k))) k)), (0, .ref y), (1, .int (nI k))]) hx hb dd_M_comeTo_167 hl (by decide) rfl (fun ls hl => ?_)
            exact mw_v hx hb hr hlocks hM hF hS (Nat.zero_le _) (Nat.zero_le _) ⟨rfl, by simpa [m_come, hin, c49, c64, c65, hp67] using hR⟩ dd_M_comeTo_169
      · refine lv_aload_n hx hb dd_M_comeTo_83 rfl (lv_at hl 2 rfl) ?_
        refine mg_get hx hb ht ii_M hown hK hM my rfl 19 (by decide) wd_2_232 (fun _ h => h) rfl dd_M_comeTo_84 ?_
        refine lv_iload_n hx hb dd_M_comeTo_87 rfl (lv_at hl 3 rfl) ?_
        refine lv_aload_n hx hb dd_M_comeTo_88 rfl (lv_at hl 2 rfl) ?_
        refine lv_iload_n hx hb dd_M_comeTo_89 rfl (lv_at hl 3 rfl) ?_
        refine lv_aload_n hx hb dd_M_comeTo_90 rfl (lv_at hl 2 rfl) ?_
        refine mg_get hx hb ht ii_M hown hK hM my rfl 11 (by decide) wd_2_224 (fun _ h => h) rfl dd_M_comeTo_91 ?_
        refine lv_iload_n hx hb dd_M_comeTo_94 rfl (lv_at hl 3 rfl) ?_
        refine mg_lald hx hb hK hM a8 (vp_in_nI (show k < 4096 by omega) (by decide)) dd_M_comeTo_95 ?_
        rw [nI_clamp (show k < 2 ^ 31 by omega)]
        rw [(hN0 k (show k < nn by omega)).2.1]
        refine mc_V (As := [.int (nI k), .long (n_fi (N k))]) (rest := [.int (nI k), .ref (b + 16)]) 2 (cc_M_binderOf hR (tD_mI hD0 T (upd B k (-1)) (upd C k (-1))) (tN_mI hN0 T (upd B k (-1)) (upd C k (-1))) (k := k) hk (x9 := n_fi (N k))) hx hb hml hown ht hM hK hl.1 lk_M_122 (by decide +kernel) (by decide) my rfl rfl rfl (Nat.le_of_ble_eq_true rfl) dd_M_comeTo_96 ⟨Nat.zero_le _, Nat.zero_le _⟩ ?_
        refine mg_iast hx hb hK hM hS (hF _ (by rw [a16]; exact Option.some_ne_none _)) a16 (vp_in_nI (show k < 4096 by omega) (by decide)) dd_M_comeTo_99 (fun H locs hM hz hS => ?_)
        rw [nI_clamp (show k < 2 ^ 31 by omega)] at hM
        have hM : hm G (mp_up u63 (b + 16) (iA G 4096 (upd (upd B k (-1)) k (m_bval N pa pn np ho (n_fi (N k)) k)))) H := hM
        have hF : ∀ z9, (mp_up u63 (b + 16) (iA G 4096 (upd (upd B k (-1)) k (m_bval N pa pn np ho (n_fi (N k)) k)))) z9 ≠ none → fr M sz z9 := hF_put hF (hF _ (by rw [a16]; exact Option.some_ne_none _))
        have hR : rm G (mp_up u63 (b + 16) (iA G 4096 (upd (upd B k (-1)) k (m_bval N pa pn np ho (n_fi (N k)) k)))) y b nd nn (mI I T (upd (upd B k (-1)) k (m_bval N pa pn np ho (n_fi (N k)) k)) (upd C k (-1))) J Z kn 0 fn in9 th := ⟨hR.1, mp_at (by omega) hR.2.1, by have h9 := rmA_s16 hR.2.2.1 (upd (upd B k (-1)) k (m_bval N pa pn np ho (n_fi (N k)) k)); rw [mI_16] at h9; exact h9, hR.2.2.2⟩
        obtain ⟨u69, eu69⟩ : ∃ z, z = (mp_up u63 (b + 16) (iA G 4096 (upd (upd B k (-1)) k (m_bval N pa pn np ho (n_fi (N k)) k)))) := ⟨_, rfl⟩
        rw [← eu69] at hM hF hR
        clear eu69
        obtain ⟨hyb, my, hA9, hnd, hnn⟩ := id hR
        obtain ⟨a0, a1, a2, a3, a4, a5, a6, a7, a8, a9, a10, a11, a12, a13, a14, a15, a16, a17⟩ := rmB_of hA9
        refine lv_aload_n hx hb dd_M_comeTo_100 rfl (lv_at hl 2 rfl) ?_
        refine mg_get hx hb ht ii_M hown hK hM my rfl 19 (by decide) wd_2_232 (fun _ h => h) rfl dd_M_comeTo_101 ?_
        refine lv_iload_n hx hb dd_M_comeTo_104 rfl (lv_at hl 3 rfl) ?_
        refine mg_iald hx hb hK hM a16 (vp_in_nI (show k < 4096 by omega) (by decide)) dd_M_comeTo_105 ?_
        rw [nI_clamp (show k < 2 ^ 31 by omega)]
        rw [upd_at]
        refine lv_iconst (v := -1) hx hb dd_M_comeTo_106 (by decide) ?_
        refine lv_icmp_ne (tgt := 119) hx hb dd_M_comeTo_107 (by decide) (fun c70 => ?_) (fun c70 => ?_)
        · refine lv_iconst (v := 0) hx hb dd_M_comeTo_119 (by decide) ?_
          refine lv_istore (lv' := [(4, .int 0), (3, .int in9), (2, .int (m_thr N pa (k + 1) (nI (np (ho k))) k)), (0, .ref y), (1, .int (nI k))]) hx hb dd_M_comeTo_120 hl (by decide) rfl (fun ls hl => ?_)
          refine lv_goto (tgt := 169) hx hb dd_M_comeTo_122 (by decide) ?_
          exact mw_v hx hb hr hlocks hM hF hS (Nat.zero_le _) (Nat.zero_le _) ⟨rfl, by simpa [m_come, hin, c49, eq_true c64, c70] using hR⟩ dd_M_comeTo_169
        · refine lv_aload_n hx hb dd_M_comeTo_110 rfl (lv_at hl 2 rfl) ?_
          refine lv_iconst (v := 5) hx hb dd_M_comeTo_111 (by decide) ?_
          refine lv_iload_n hx hb dd_M_comeTo_112 rfl (lv_at hl 3 rfl) ?_
          have hFr := hF_fr hF hS hA
          refine mx_V (As := [.int 5, .int (nI k)]) (rest := []) 2 (cc_M_wrong hR) hx hb hml hown ht hM hK hZ hS hFr hl.1 lk_M_126 (by decide +kernel) (by decide) my rfl rfl rfl (Nat.le_of_ble_eq_true rfl) dd_M_comeTo_113 ⟨Nat.zero_le _, Nat.zero_le _⟩ (fun v u9 H locs hp hM hd hle hk hS => ?_)
          obtain ⟨rfl, hR⟩ := hp
          have hF := fun z9 h => hFr z9 (hd z9 h)
          obtain ⟨u71, eu71⟩ : ∃ z, z = u9 := ⟨_, rfl⟩
          rw [← eu71] at hM hF hR
          obtain ⟨hyb, my, hA9, hnd, hnn⟩ := id hR
          obtain ⟨a0, a1, a2, a3, a4, a5, a6, a7, a8, a9, a10, a11, a12, a13, a14, a15, a16, a17⟩ := rmB_of hA9
          refine lv_goto (tgt := 120) hx hb dd_M_comeTo_116 (by decide) ?_
          refine lv_istore (lv' := [(4, .int 0), (3, .int in9), (2, .int (m_thr N pa (k + 1) (nI (np (ho k))) k)), (0, .ref y), (1, .int (nI k))]) hx hb dd_M_comeTo_120 hl (by decide) rfl (fun ls hl => ?_)
          refine lv_goto (tgt := 169) hx hb dd_M_comeTo_122 (by decide) ?_
          exact mw_v hx hb hr hlocks hM hF hS (Nat.zero_le _) (Nat.zero_le _) ⟨rfl, by simpa [m_come, hin, c49, eq_true c64, eq_true c70] using hR⟩ dd_M_comeTo_169
