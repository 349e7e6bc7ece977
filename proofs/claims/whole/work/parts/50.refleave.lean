set_option maxHeartbeats 4000000 in
set_option maxRecDepth 100000 in
theorem cc_M_leave {l : Launch} {G : gC} {M : mC} {sz : Nat} {y b nd nn : Nat} {I : Nat → Nat → Int32} {T B C : Nat → Int32} {J : Nat → Nat → Int64} {Z : Nat → Int32} {kn : Bool} {fn mo th : Int32} (hR : rm G M y b nd nn (mI I T B C) J Z kn 0 fn mo th) {D : Nat → dR} {N : Nat → nR} {pn : Nat → Nat → Int64} {pt : Nat → Nat → Int32} {np bg ho : Nat → Nat} {pa : Nat → Option Nat} (hD0 : tD nd D pn pt np bg I J Z) (hN0 : tN nd nn N ho pa I J) {k : Nat} (hk : k < nn) (hg : m_got nd D N pa pn np ho B C k) (hgo : ∀ o, pa k = some o → m_got nd D N pa pn np ho B C o) (hS9 : m_SS nd nn D N pa np k) : cW l yy_M_leave bb_M_leave 3 none 3 0 0 G M sz [.ref y, .int (nI k)] (fun v u => v = none ∧ rm G u y b nd nn (mI I (m_leave nd D N pa pn pt np ho nn (T, B, C, 0, fn, mo) k).1 (m_leave nd D N pa pn pt np ho nn (T, B, C, 0, fn, mo) k).2.1 (m_leave nd D N pa pn pt np ho nn (T, B, C, 0, fn, mo) k).2.2.1) J Z kn (m_leave nd D N pa pn pt np ho nn (T, B, C, 0, fn, mo) k).2.2.2.1 (m_leave nd D N pa pn pt np ho nn (T, B, C, 0, fn, mo) k).2.2.2.2.1 (m_leave nd D N pa pn pt np ho nn (T, B, C, 0, fn, mo) k).2.2.2.2.2 th) := by
  refine me_W (by decide) (Nat.le_of_ble_eq_true rfl) ?_
  intro p e s m below meth c ls hx hb hr hlocks hml hown hname ht hsz hM hK hZ hl
  have hown : s.vm.findClass RR_M = some m.cls := hown
  have hl : lv_has ls 3 [(0, .ref y), (1, .int (nI k))] := hl
  have hS : va_S (fr M sz) s.heap s.heap [] := va_S.rf
  have hF : ∀ q, M q ≠ none → fr M sz q := fr_M
  have hA : ∀ q, s.heap.size ≤ q → fr M sz q := fun q h => fr_A q (by rw [← hsz]; exact h)
  obtain ⟨hyb, my, hA9, hnd, hnn⟩ := id hR
  obtain ⟨a0, a1, a2, a3, a4, a5, a6, a7, a8, a9, a10, a11, a12, a13, a14, a15, a16, a17⟩ := rmB_of hA9
  refine lv_aload_n hx hb dd_M_leave_0 rfl (lv_at hl 0 rfl) ?_
  refine mg_get hx hb ht ii_M hown hK hM my rfl 22 (by decide) wd_2_235 (fun _ h => h) rfl dd_M_leave_1 ?_
  refine lv_if_ne (tgt := 44) hx hb dd_M_leave_4 (by decide) (fun z => absurd (by decide) z) (fun _ => ?_)
  refine lv_aload_n hx hb dd_M_leave_7 rfl (lv_at hl 0 rfl) ?_
  refine mg_get hx hb ht ii_M hown hK hM my rfl 18 (by decide) wd_2_231 (fun _ h => h) rfl dd_M_leave_8 ?_
  refine lv_iload_n hx hb dd_M_leave_11 rfl (lv_at hl 1 rfl) ?_
  refine lv_aload_n hx hb dd_M_leave_12 rfl (lv_at hl 0 rfl) ?_
  refine lv_iload_n hx hb dd_M_leave_13 rfl (lv_at hl 1 rfl) ?_
  obtain ⟨ty9, ety⟩ : ∃ z : Int32, z = m_tyAt nd D N pa pn pt np ho nn T k := ⟨_, rfl⟩
  have hcy : cR l yy_M_typeOf bb_M_typeOf 3 (some .int) 2 G M [.ref y, .int (nI k)] (.int ty9) := by
    rw [ety]
    exact cc_M_typeOf hR (tD_mI hD0 T B C) (tN_mI hN0 T B C) hk (fun h => ⟨(hg.1 h).1, (hg.1 h).2, hS9.1⟩) (t9 := (m_tgt nd D np (N k)).getD 0) (i9 := (m_pt N pa nn k (n_pt (N k) - 1)).getD 0) (got_c hg) (fun h => getD_some (hS9.2.1 h))
  refine mc_V (As := [.int (nI k)]) (rest := [.int (nI k), .ref (b + 15)]) 1 hcy hx hb hml hown ht hM hK hl.1 lk_M_139 (by decide +kernel) (by decide) my rfl rfl rfl (Nat.le_of_ble_eq_true rfl) dd_M_leave_14 ⟨Nat.zero_le _, Nat.zero_le _⟩ ?_
  refine mg_iast hx hb hK hM hS (hF _ (by rw [a15]; exact Option.some_ne_none _)) a15 (vp_in_nI (show k < 4096 by omega) (by decide)) dd_M_leave_17 (fun H locs hM hz hS => ?_)
  rw [nI_clamp (show k < 2 ^ 31 by omega)] at hM
  have hM : hm G (mp_up M (b + 15) (iA G 4096 (upd T k ty9))) H := hM
  have hF : ∀ z9, (mp_up M (b + 15) (iA G 4096 (upd T k ty9))) z9 ≠ none → fr M sz z9 := hF_put hF (hF _ (by rw [a15]; exact Option.some_ne_none _))
  have hR : rm G (mp_up M (b + 15) (iA G 4096 (upd T k ty9))) y b nd nn (mI I (upd T k ty9) B C) J Z kn 0 fn mo th := ⟨hR.1, mp_at (by omega) hR.2.1, by have h9 := rmA_s15 hR.2.2.1 (upd T k ty9); rw [mI_15] at h9; exact h9, hR.2.2.2⟩
  obtain ⟨u1, eu1⟩ : ∃ z, z = (mp_up M (b + 15) (iA G 4096 (upd T k ty9))) := ⟨_, rfl⟩
  rw [← eu1] at hM hF hR
  clear eu1
  obtain ⟨hyb, my, hA9, hnd, hnn⟩ := id hR
  obtain ⟨a0, a1, a2, a3, a4, a5, a6, a7, a8, a9, a10, a11, a12, a13, a14, a15, a16, a17⟩ := rmB_of hA9
  refine lv_aload_n hx hb dd_M_leave_18 rfl (lv_at hl 0 rfl) ?_
  refine lv_iload_n hx hb dd_M_leave_19 rfl (lv_at hl 1 rfl) ?_
  refine lv_aload_n hx hb dd_M_leave_20 rfl (lv_at hl 0 rfl) ?_
  refine mg_get hx hb ht ii_M hown hK hM my rfl 18 (by decide) wd_2_231 (fun _ h => h) rfl dd_M_leave_21 ?_
  refine lv_iload_n hx hb dd_M_leave_24 rfl (lv_at hl 1 rfl) ?_
  refine mg_iald hx hb hK hM a15 (vp_in_nI (show k < 4096 by omega) (by decide)) dd_M_leave_25 ?_
  rw [nI_clamp (show k < 2 ^ 31 by omega)]
  rw [upd_at]
  obtain ⟨st9, est⟩ : ∃ z : Bool, z = m_stAt nd D N pa pt np ho nn (upd T k ty9) k ty9 := ⟨_, rfl⟩
  have hcs : cR l yy_M_canStand bb_M_canStand 6 (some .boolean) 1 G u1 [.ref y, .int (nI k), .int ty9] (.int (bI st9)) := by
    rw [est]
    exact cc_M_canStand hR (tD_mI hD0 (upd T k ty9) B C) (tN_mI hN0 (upd T k ty9) B C) hk (ty := ty9) (t9 := (m_tgt nd D np (c_q N (pa k))).getD 0) (q9 := (n_pl (N k)).toNatClampNeg) (i9 := (m_pt N pa nn ((pa k).getD 0) 1).getD 0) (st_c (fun t ht => (hD0 t ht).2.2.2.2.2.1) hS9 hgo) (st_l hS9)
  refine mc_V (As := [.int (nI k), .int ty9]) (rest := []) 2 hcs hx hb hml hown ht hM hK hl.1 lk_M_142 (by decide +kernel) (by decide) my rfl rfl rfl (Nat.le_of_ble_eq_true rfl) dd_M_leave_26 ⟨Nat.zero_le _, Nat.zero_le _⟩ ?_
  refine lb_if_eq (tgt := 36) hx hb dd_M_leave_29 (by decide) (fun c2 => ?_) (fun c2 => ?_)
  · refine lv_aload_n hx hb dd_M_leave_36 rfl (lv_at hl 0 rfl) ?_
    refine lv_bipush (v := 6) hx hb dd_M_leave_37 (by decide) ?_
    refine lv_iload_n hx hb dd_M_leave_39 rfl (lv_at hl 1 rfl) ?_
    have hFr := hF_fr hF hS hA
    refine mx_V (As := [.int 6, .int (nI k)]) (rest := []) 2 (cc_M_wrong hR) hx hb hml hown ht hM hK hZ hS hFr hl.1 lk_M_126 (by decide +kernel) (by decide) my rfl rfl rfl (Nat.le_of_ble_eq_true rfl) dd_M_leave_40 ⟨Nat.zero_le _, Nat.zero_le _⟩ (fun v u9 H locs hp hM hd hle hk hS => ?_)
    obtain ⟨rfl, hR⟩ := hp
    have hF := fun z9 h => hFr z9 (hd z9 h)
    obtain ⟨u3, eu3⟩ : ∃ z, z = u9 := ⟨_, rfl⟩
    rw [← eu3] at hM hF hR
    obtain ⟨hyb, my, hA9, hnd, hnn⟩ := id hR
    obtain ⟨a0, a1, a2, a3, a4, a5, a6, a7, a8, a9, a10, a11, a12, a13, a14, a15, a16, a17⟩ := rmB_of hA9
    refine lv_istore_n (lv' := [(2, .int 0), (0, .ref y), (1, .int (nI k))]) hx hb dd_M_leave_43 rfl hl (by decide) rfl (fun ls hl => ?_)
    have hz9 : (m_leave nd D N pa pn pt np ho nn (T, B, C, 0, fn, mo) k) = (upd T k ty9, B, C, 6, nI k, mo) := by simp only [m_leave]; rw [← ety, ← est, if_neg (by rw [c2]; decide)]
    exact mw_v hx hb hr hlocks hM hF hS (Nat.zero_le _) (Nat.zero_le _) ⟨rfl, by rw [hz9]; simpa using hR⟩ dd_M_leave_44
  · refine lv_iconst (v := 0) hx hb dd_M_leave_32 (by decide) ?_
    refine lv_goto (tgt := 43) hx hb dd_M_leave_33 (by decide) ?_
    refine lv_istore_n (lv' := [(2, .int 0), (0, .ref y), (1, .int (nI k))]) hx hb dd_M_leave_43 rfl hl (by decide) rfl (fun ls hl => ?_)
    have hz9 : (m_leave nd D N pa pn pt np ho nn (T, B, C, 0, fn, mo) k) = (upd T k ty9, B, C, 0, fn, mo) := by simp only [m_leave]; rw [← ety, ← est, if_pos c2]
    exact mw_v hx hb hr hlocks hM hF hS (Nat.zero_le _) (Nat.zero_le _) ⟨rfl, by rw [hz9]; exact hR⟩ dd_M_leave_44

set_option maxHeartbeats 4000000 in
set_option maxRecDepth 100000 in
theorem cc_M_check {l : Launch} {G : gC} {M : mC} {sz : Nat} {y b nd nn : Nat} {I : Nat → Nat → Int32} {T B C : Nat → Int32} {J : Nat → Nat → Int64} {Z : Nat → Int32} {kn : Bool} {ft fn mo th : Int32} (hR : rm G M y b nd nn (mI I T B C) J Z kn ft fn mo th) {D : Nat → dR} {N : Nat → nR} {pn : Nat → Nat → Int64} {pt : Nat → Nat → Int32} {np bg ho : Nat → Nat} {pa : Nat → Option Nat} (hD0 : tD nd D pn pt np bg I J Z) (hN0 : tN nd nn N ho pa I J) (hSS : m_whole nd nn bg N pa = true → ∀ k, k < nn → m_SS nd nn D N pa np k) : cW l yy_M_check bb_M_check 3 (some .int) 4 8 4000 G M sz [.ref y] (fun v u => (m_whole nd nn bg N pa = false ∧ v = some (.int (-1)) ∧ rm G u y b nd nn (mI I T B C) J Z kn ft fn mo 0) ∨ (m_whole nd nn bg N pa = true ∧ v = some (.int (m_check nd D N pa pn pt np ho nn T B C).2.2.2.1) ∧ rm G u y b nd nn (mI I (m_check nd D N pa pn pt np ho nn T B C).1 (m_check nd D N pa pn pt np ho nn T B C).2.1 (m_check nd D N pa pn pt np ho nn T B C).2.2.1) J Z (decide ((m_check nd D N pa pn pt np ho nn T B C).2.2.2.1 = 0)) (m_check nd D N pa pn pt np ho nn T B C).2.2.2.1 (m_check nd D N pa pn pt np ho nn T B C).2.2.2.2.1 (m_check nd D N pa pn pt np ho nn T B C).2.2.2.2.2 0)) := by
  refine me_W (by decide) (Nat.le_of_ble_eq_true rfl) ?_
  intro p e s m below meth c ls hx hb hr hlocks hml hown hname ht hsz hM hK hZ hl
  have hown : s.vm.findClass RR_M = some m.cls := hown
  have hl : lv_has ls 3 [(0, .ref y)] := hl
  have hS : va_S (fr M sz) s.heap s.heap [] := va_S.rf
  have hF : ∀ q, M q ≠ none → fr M sz q := fr_M
  have hA : ∀ q, s.heap.size ≤ q → fr M sz q := fun q h => fr_A q (by rw [← hsz]; exact h)
  have loop : (m_whole nd nn bg N pa = true) → (∀ k, k < nn → m_SS nd nn D N pa np k) → ∀ (f k : Nat) (u1 : mC) (T1 B1 C1 : Nat → Int32) (ft1 fn1 mo1 : Int32) (H : Heap) (locs : List Loc) (ls : Array Slot), k + f = nn → rm G u1 y b nd nn (mI I T1 B1 C1) J Z kn ft1 fn1 mo1 0 → (ft1 = 0 → ∀ i, i < k → m_got nd D N pa pn np ho B1 C1 i) → hm G u1 H → (∀ q, u1 q ≠ none → fr M sz q) → va_S (fr M sz) s.heap H locs → lv_has ls 3 [(1, .int (nI k)), (0, .ref y)] → m_alls nd D N pa pn pt np ho nn f k (T1, B1, C1, ft1, fn1, mo1) = (m_check nd D N pa pn pt np ho nn T B C) → W p l e (rd 4 8 4000) s m ([.ref y] : List Value).toArray below meth c H locs 0 0 (MQ below (cQ G M sz (fun v u => (m_whole nd nn bg N pa = false ∧ v = some (.int (-1)) ∧ rm G u y b nd nn (mI I T B C) J Z kn ft fn mo 0) ∨ (m_whole nd nn bg N pa = true ∧ v = some (.int (m_check nd D N pa pn pt np ho nn T B C).2.2.2.1) ∧ rm G u y b nd nn (mI I (m_check nd D N pa pn pt np ho nn T B C).1 (m_check nd D N pa pn pt np ho nn T B C).2.1 (m_check nd D N pa pn pt np ho nn T B C).2.2.1) J Z (decide ((m_check nd D N pa pn pt np ho nn T B C).2.2.2.1 = 0)) (m_check nd D N pa pn pt np ho nn T B C).2.2.2.1 (m_check nd D N pa pn pt np ho nn T B C).2.2.2.2.1 (m_check nd D N pa pn pt np ho nn T B C).2.2.2.2.2 0))) ([.ref y] : List Value).toArray s 8 4000 (fr M sz)) (F0 m 45 ls []) := by
    intro hwh hS9 f
    induction f with
    | zero =>
      intro k u1 T1 B1 C1 ft1 fn1 mo1 H locs ls hkf hR hgot hM hF hS hl hres
      obtain ⟨hyb, my, hA9, hnd, hnn⟩ := id hR
      obtain ⟨a0, a1, a2, a3, a4, a5, a6, a7, a8, a9, a10, a11, a12, a13, a14, a15, a16, a17⟩ := rmB_of hA9
      refine lv_iload_n hx hb dd_M_check_45 rfl (lv_at hl 0 rfl) ?_
      refine lv_aload_n hx hb dd_M_check_46 rfl (lv_at hl 1 rfl) ?_
      refine mg_get hx hb ht ii_M hown hK hM my rfl 9 (by decide) wd_2_222 (fun _ h => h) rfl dd_M_check_47 ?_
      refine lv_icmp_ge (tgt := 114) hx hb dd_M_check_50 (by decide) (fun _ => ?_) (fun z => absurd (nI_le (a := nn) (b := k) (by omega) (by omega)) z)
      refine lv_aload_n hx hb dd_M_check_114 rfl (lv_at hl 1 rfl) ?_
      refine lv_aload_n hx hb dd_M_check_115 rfl (lv_at hl 1 rfl) ?_
      refine mg_get hx hb ht ii_M hown hK hM my rfl 22 (by decide) wd_2_235 (fun _ h => h) rfl dd_M_check_116 ?_
      refine lv_if_ne (tgt := 126) hx hb dd_M_check_119 (by decide) (fun c1 => ?_) (fun c1 => ?_)
      · refine lv_iconst (v := 0) hx hb dd_M_check_126 (by decide) ?_
        refine mg_put (v := .int 0) hx hb ht ii_M tt_M tt_M_ok nn_M hown hK hM hS (hF _ (by rw [my]; exact Option.some_ne_none _)) my rfl 21 (by decide) wd_2_234 (fun _ h => h) (Or.inl rfl) rfl rfl rfl (Nat.le_of_ble_eq_true rfl) dd_M_check_127 (fun H locs hM hz hoq hS => ?_)
        have hM : hm G (mp_up u1 y (yC b nd nn false ft1 fn1 mo1 0)) H := hM
        have hF : ∀ z9, (mp_up u1 y (yC b nd nn false ft1 fn1 mo1 0)) z9 ≠ none → fr M sz z9 := hF_put hF (hF _ (by rw [my]; exact Option.some_ne_none _))
        have hR : rm G (mp_up u1 y (yC b nd nn false ft1 fn1 mo1 0)) y b nd nn (mI I T1 B1 C1) J Z false ft1 fn1 mo1 0 := rm_setX hR (by omega) (by omega)
        obtain ⟨u2, eu2⟩ : ∃ z, z = (mp_up u1 y (yC b nd nn false ft1 fn1 mo1 0)) := ⟨_, rfl⟩
        rw [← eu2] at hM hF hR
        clear eu2
        obtain ⟨hyb, my, hA9, hnd, hnn⟩ := id hR
        obtain ⟨a0, a1, a2, a3, a4, a5, a6, a7, a8, a9, a10, a11, a12, a13, a14, a15, a16, a17⟩ := rmB_of hA9
        refine lv_aload_n hx hb dd_M_check_130 rfl (lv_at hl 1 rfl) ?_
        refine mg_get hx hb ht ii_M hown hK hM my rfl 22 (by decide) wd_2_235 (fun _ h => h) rfl dd_M_check_131 ?_
        have hres : (T1, B1, C1, ft1, fn1, mo1) = (m_check nd D N pa pn pt np ho nn T B C) := hres
        have hdz : decide (ft1 = 0) = false := decide_eq_false c1
        exact mw_i hx hb hr hlocks rfl hM hF hS (Nat.le_of_ble_eq_true rfl) (Nat.le_of_ble_eq_true rfl) (Or.inr ⟨hwh, by rw [← hres], by rw [← hres]; simp only []; rw [hdz]; exact hR⟩) dd_M_check_134
      · refine lv_iconst (v := 1) hx hb dd_M_check_122 (by decide) ?_
        refine lv_goto (tgt := 127) hx hb dd_M_check_123 (by decide) ?_
        refine mg_put (v := .int 1) hx hb ht ii_M tt_M tt_M_ok nn_M hown hK hM hS (hF _ (by rw [my]; exact Option.some_ne_none _)) my rfl 21 (by decide) wd_2_234 (fun _ h => h) (Or.inl rfl) rfl rfl rfl (Nat.le_of_ble_eq_true rfl) dd_M_check_127 (fun H locs hM hz hoq hS => ?_)
        have hM : hm G (mp_up u1 y (yC b nd nn true ft1 fn1 mo1 0)) H := hM
        have hF : ∀ z9, (mp_up u1 y (yC b nd nn true ft1 fn1 mo1 0)) z9 ≠ none → fr M sz z9 := hF_put hF (hF _ (by rw [my]; exact Option.some_ne_none _))
        have hR : rm G (mp_up u1 y (yC b nd nn true ft1 fn1 mo1 0)) y b nd nn (mI I T1 B1 C1) J Z true ft1 fn1 mo1 0 := rm_setX hR (by omega) (by omega)
        obtain ⟨u3, eu3⟩ : ∃ z, z = (mp_up u1 y (yC b nd nn true ft1 fn1 mo1 0)) := ⟨_, rfl⟩
        rw [← eu3] at hM hF hR
        clear eu3
        obtain ⟨hyb, my, hA9, hnd, hnn⟩ := id hR
        obtain ⟨a0, a1, a2, a3, a4, a5, a6, a7, a8, a9, a10, a11, a12, a13, a14, a15, a16, a17⟩ := rmB_of hA9
        refine lv_aload_n hx hb dd_M_check_130 rfl (lv_at hl 1 rfl) ?_
        refine mg_get hx hb ht ii_M hown hK hM my rfl 22 (by decide) wd_2_235 (fun _ h => h) rfl dd_M_check_131 ?_
        have hres : (T1, B1, C1, ft1, fn1, mo1) = (m_check nd D N pa pn pt np ho nn T B C) := hres
        have hdz : decide (ft1 = 0) = true := decide_eq_true c1
        exact mw_i hx hb hr hlocks rfl hM hF hS (Nat.le_of_ble_eq_true rfl) (Nat.le_of_ble_eq_true rfl) (Or.inr ⟨hwh, by rw [← hres], by rw [← hres]; simp only []; rw [hdz]; exact hR⟩) dd_M_check_134
    | succ f ih =>
      intro k u1 T1 B1 C1 ft1 fn1 mo1 H locs ls hkf hR hgot hM hF hS hl hres
      obtain ⟨hyb, my, hA9, hnd, hnn⟩ := id hR
      obtain ⟨a0, a1, a2, a3, a4, a5, a6, a7, a8, a9, a10, a11, a12, a13, a14, a15, a16, a17⟩ := rmB_of hA9
      have inner : ∀ (g : Nat) (o : Option Nat) (u2 : mC) (T2 B2 C2 : Nat → Int32) (ft2 fn2 mo2 : Int32) (H : Heap) (locs : List Loc) (ls : Array Slot), (∀ j, o = some j → j ≤ k ∧ j < g) → rm G u2 y b nd nn (mI I T2 B2 C2) J Z kn ft2 fn2 mo2 0 → (ft2 = 0 → ∀ i, i ≤ k → m_got nd D N pa pn np ho B2 C2 i) → hm G u2 H → (∀ q, u2 q ≠ none → fr M sz q) → va_S (fr M sz) s.heap H locs → lv_has ls 3 [(2, .int (c_num o)), (1, .int (nI k)), (0, .ref y)] → m_alls nd D N pa pn pt np ho nn f (k + 1) (m_lvs nd D N pa pn pt np ho nn k g (T2, B2, C2, ft2, fn2, mo2) o) = (m_check nd D N pa pn pt np ho nn T B C) → W p l e (rd 4 8 4000) s m ([.ref y] : List Value).toArray below meth c H locs 0 0 (MQ below (cQ G M sz (fun v u => (m_whole nd nn bg N pa = false ∧ v = some (.int (-1)) ∧ rm G u y b nd nn (mI I T B C) J Z kn ft fn mo 0) ∨ (m_whole nd nn bg N pa = true ∧ v = some (.int (m_check nd D N pa pn pt np ho nn T B C).2.2.2.1) ∧ rm G u y b nd nn (mI I (m_check nd D N pa pn pt np ho nn T B C).1 (m_check nd D N pa pn pt np ho nn T B C).2.1 (m_check nd D N pa pn pt np ho nn T B C).2.2.1) J Z (decide ((m_check nd D N pa pn pt np ho nn T B C).2.2.2.1 = 0)) (m_check nd D N pa pn pt np ho nn T B C).2.2.2.1 (m_check nd D N pa pn pt np ho nn T B C).2.2.2.2.1 (m_check nd D N pa pn pt np ho nn T B C).2.2.2.2.2 0))) ([.ref y] : List Value).toArray s 8 4000 (fr M sz)) (F0 m 67 ls []) := by
        intro g
        induction g with
        | zero =>
          intro o u2 T2 B2 C2 ft2 fn2 mo2 H locs ls ho9 hR hgot hM hF hS hl hres
          cases o with
          | some j => exact absurd (ho9 j rfl).2 (Nat.not_lt_zero _)
          | none =>
            have hl : lv_has ls 3 [(2, .int (-1)), (1, .int (nI k)), (0, .ref y)] := hl
            obtain ⟨hyb, my, hA9, hnd, hnn⟩ := id hR
            obtain ⟨a0, a1, a2, a3, a4, a5, a6, a7, a8, a9, a10, a11, a12, a13, a14, a15, a16, a17⟩ := rmB_of hA9
            refine lv_iload_n hx hb dd_M_check_67 rfl (lv_at hl 0 rfl) ?_
            refine lv_if_lt (tgt := 108) hx hb dd_M_check_68 (by decide) (fun _ => ?_) (fun z => absurd (by decide) z)
            obtain ⟨x1, ex1⟩ : ∃ y : Int32, y = (nI k) + 1 := ⟨_, rfl⟩
            refine lv_iinc (v := x1) (lv' := [(1, .int x1), (2, .int (-1)), (0, .ref y)]) hx hb dd_M_check_108 hl (k := 1) rfl (by rw [ex1]; rfl) (by decide) rfl (fun ls hl => ?_)
            refine lv_goto (tgt := 45) hx hb dd_M_check_111 (by decide) ?_
            rw [ex1, nI_1] at hl
            exact ih (k + 1) u2 T2 B2 C2 ft2 fn2 mo2 H locs ls (by omega) hR (fun h i hi => hgot h i (by omega)) hM hF hS (lv_sub hl [0, 2] rfl) (by rw [← hres]; rfl)
        | succ g ih2 =>
          intro o u2 T2 B2 C2 ft2 fn2 mo2 H locs ls ho9 hR hgot hM hF hS hl hres
          cases o with
          | none =>
            have hl : lv_has ls 3 [(2, .int (-1)), (1, .int (nI k)), (0, .ref y)] := hl
            obtain ⟨hyb, my, hA9, hnd, hnn⟩ := id hR
            obtain ⟨a0, a1, a2, a3, a4, a5, a6, a7, a8, a9, a10, a11, a12, a13, a14, a15, a16, a17⟩ := rmB_of hA9
            refine lv_iload_n hx hb dd_M_check_67 rfl (lv_at hl 0 rfl) ?_
            refine lv_if_lt (tgt := 108) hx hb dd_M_check_68 (by decide) (fun _ => ?_) (fun z => absurd (by decide) z)
            obtain ⟨x1, ex1⟩ : ∃ y : Int32, y = (nI k) + 1 := ⟨_, rfl⟩
            refine lv_iinc (v := x1) (lv' := [(1, .int x1), (2, .int (-1)), (0, .ref y)]) hx hb dd_M_check_108 hl (k := 1) rfl (by rw [ex1]; rfl) (by decide) rfl (fun ls hl => ?_)
            refine lv_goto (tgt := 45) hx hb dd_M_check_111 (by decide) ?_
            rw [ex1, nI_1] at hl
            exact ih (k + 1) u2 T2 B2 C2 ft2 fn2 mo2 H locs ls (by omega) hR (fun h i hi => hgot h i (by omega)) hM hF hS (lv_sub hl [0, 2] rfl) (by rw [← hres]; rfl)
          | some j =>
            have hl : lv_has ls 3 [(2, .int (nI j)), (1, .int (nI k)), (0, .ref y)] := hl
            obtain ⟨hjk, hjg⟩ := ho9 j rfl
            obtain ⟨hyb, my, hA9, hnd, hnn⟩ := id hR
            obtain ⟨a0, a1, a2, a3, a4, a5, a6, a7, a8, a9, a10, a11, a12, a13, a14, a15, a16, a17⟩ := rmB_of hA9
            refine lv_iload_n hx hb dd_M_check_67 rfl (lv_at hl 0 rfl) ?_
            refine lv_if_lt (tgt := 108) hx hb dd_M_check_68 (by decide) (fun z => absurd z (nI_pos (by omega))) (fun _ => ?_)
            refine lv_aload_n hx hb dd_M_check_71 rfl (lv_at hl 2 rfl) ?_
            refine mg_get hx hb ht ii_M hown hK hM my rfl 22 (by decide) wd_2_235 (fun _ h => h) rfl dd_M_check_72 ?_
            refine lv_if_ne (tgt := 108) hx hb dd_M_check_75 (by decide) (fun c1 => ?_) (fun c1 => ?_)
            · obtain ⟨x2, ex2⟩ : ∃ y : Int32, y = (nI k) + 1 := ⟨_, rfl⟩
              refine lv_iinc (v := x2) (lv' := [(1, .int x2), (2, .int (nI j)), (0, .ref y)]) hx hb dd_M_check_108 hl (k := 1) rfl (by rw [ex2]; rfl) (by decide) rfl (fun ls hl => ?_)
              refine lv_goto (tgt := 45) hx hb dd_M_check_111 (by decide) ?_
              rw [ex2, nI_1] at hl
              exact ih (k + 1) u2 T2 B2 C2 ft2 fn2 mo2 H locs ls (by omega) hR (fun h i hi => hgot h i (by omega)) hM hF hS (lv_sub hl [0, 2] rfl) (by rw [← hres]; simp only [m_lvs]; rw [if_neg c1])
            · subst c1
              obtain ⟨hyb, my, hA9, hnd, hnn⟩ := id hR
              obtain ⟨a0, a1, a2, a3, a4, a5, a6, a7, a8, a9, a10, a11, a12, a13, a14, a15, a16, a17⟩ := rmB_of hA9
              refine lv_aload_n hx hb dd_M_check_78 rfl (lv_at hl 2 rfl) ?_
              refine lv_iload_n hx hb dd_M_check_79 rfl (lv_at hl 0 rfl) ?_
              refine lv_iload_n hx hb dd_M_check_80 rfl (lv_at hl 1 rfl) ?_
              refine lv_iconst (v := 1) hx hb dd_M_check_81 (by decide) ?_
              refine lv_iadd hx hb dd_M_check_82 ?_
              rw [nI_1]
              refine lv_aload_n hx hb dd_M_check_83 rfl (lv_at hl 2 rfl) ?_
              refine mg_get hx hb ht ii_M hown hK hM my rfl 9 (by decide) wd_2_222 (fun _ h => h) rfl dd_M_check_84 ?_
              refine mc_V (As := [.int (nI j), .int (nI (k + 1)), .int (nI nn)]) (rest := []) 3 (cc_M_isEnd hR (tD_mI hD0 T2 B2 C2) (tN_mI hN0 T2 B2 C2) (j := j) (k := k) (by omega) (by omega)) hx hb hml hown ht hM hK hl.1 lk_M_154 (by decide +kernel) (by decide) my rfl rfl rfl (Nat.le_of_ble_eq_true rfl) dd_M_check_87 ⟨Nat.le_of_ble_eq_true rfl, Nat.le_of_ble_eq_true rfl⟩ ?_
              refine lb_if_eq (tgt := 108) hx hb dd_M_check_90 (by decide) (fun c3 => ?_) (fun c3 => ?_)
              · obtain ⟨x4, ex4⟩ : ∃ y : Int32, y = (nI k) + 1 := ⟨_, rfl⟩
                refine lv_iinc (v := x4) (lv' := [(1, .int x4), (2, .int (nI j)), (0, .ref y)]) hx hb dd_M_check_108 hl (k := 1) rfl (by rw [ex4]; rfl) (by decide) rfl (fun ls hl => ?_)
                refine lv_goto (tgt := 45) hx hb dd_M_check_111 (by decide) ?_
                rw [ex4, nI_1] at hl
                exact ih (k + 1) u2 T2 B2 C2 0 fn2 mo2 H locs ls (by omega) hR (fun h i hi => hgot h i (by omega)) hM hF hS (lv_sub hl [0, 2] rfl) (by rw [← hres]; simp only [m_lvs]; rw [if_pos trivial, if_neg (by rw [c3]; decide)])
              · refine lv_aload_n hx hb dd_M_check_93 rfl (lv_at hl 2 rfl) ?_
                refine lv_iload_n hx hb dd_M_check_94 rfl (lv_at hl 0 rfl) ?_
                have hg9 := hgot rfl
                have hFr := hF_fr hF hS hA
                refine mx_V (As := [.int (nI j)]) (rest := []) 1 (cc_M_leave hR hD0 hN0 (show j < nn by omega) (hg9 j (by omega)) (fun o h => hg9 o (by have := (hN0 j (by omega)).2.2.2.2.2.2.2.2.2 o h; omega)) (hS9 j (by omega))) hx hb hml hown ht hM hK hZ hS hFr hl.1 lk_M_158 (by decide +kernel) (by decide) my rfl rfl rfl (Nat.le_of_ble_eq_true rfl) dd_M_check_95 ⟨Nat.le_of_ble_eq_true rfl, Nat.le_of_ble_eq_true rfl⟩ (fun v u9 H locs hp hM hd hle hk hS => ?_)
                have hbc := lv_BC (nd := nd) (nn := nn) (D := D) (N := N) (pa := pa) (pn := pn) (pt := pt) (np := np) (ho := ho) (z := (T2, B2, C2, 0, fn2, mo2)) (k := j)
                obtain ⟨z7, ez7⟩ : ∃ z, z = m_leave nd D N pa pn pt np ho nn (T2, B2, C2, 0, fn2, mo2) j := ⟨_, rfl⟩
                rw [← ez7] at hp
                obtain ⟨rfl, hR⟩ := hp
                have hF := fun z9 h => hFr z9 (hd z9 h)
                obtain ⟨hyb, my, hA9, hnd, hnn⟩ := id hR
                obtain ⟨a0, a1, a2, a3, a4, a5, a6, a7, a8, a9, a10, a11, a12, a13, a14, a15, a16, a17⟩ := rmB_of hA9
                rw [← ez7] at hbc
                refine lv_aload_n hx hb dd_M_check_98 rfl (lv_at hl 2 rfl) ?_
                refine mg_get hx hb ht ii_M hown hK hM my rfl 14 (by decide) wd_2_227 (fun _ h => h) rfl dd_M_check_99 ?_
                refine lv_iload_n hx hb dd_M_check_102 rfl (lv_at hl 0 rfl) ?_
                refine mg_iald hx hb hK hM a11 (vp_in_nI (show j < 4096 by omega) (by decide)) dd_M_check_103 ?_
                rw [nI_clamp (show j < 2 ^ 31 by omega)]
                rw [(hN0 j (show j < nn by omega)).2.2.2.2.1]
                refine lv_istore_n (lv' := [(2, .int (c_num (pa j))), (1, .int (nI k)), (0, .ref y)]) hx hb dd_M_check_104 rfl hl (by decide) rfl (fun ls hl => ?_)
                refine lv_goto (tgt := 67) hx hb dd_M_check_105 (by decide) ?_
                exact ih2 (pa j) u9 z7.1 z7.2.1 z7.2.2.1 z7.2.2.2.1 z7.2.2.2.2.1 z7.2.2.2.2.2 H locs ls (fun q hq => by have := (hN0 j (by omega)).2.2.2.2.2.2.2.2.2 q hq; omega) hR (fun h i hi => by rw [hbc.1, hbc.2]; exact hg9 i hi) hM hF hS hl (by rw [← hres]; simp only [m_lvs]; rw [if_pos trivial, if_pos c3, ez7])
      refine lv_iload_n hx hb dd_M_check_45 rfl (lv_at hl 0 rfl) ?_
      refine lv_aload_n hx hb dd_M_check_46 rfl (lv_at hl 1 rfl) ?_
      refine mg_get hx hb ht ii_M hown hK hM my rfl 9 (by decide) wd_2_222 (fun _ h => h) rfl dd_M_check_47 ?_
      refine lv_icmp_ge (tgt := 114) hx hb dd_M_check_50 (by decide) (fun z => absurd z (nI_ge (a := k) (b := nn) (by omega) (by omega))) (fun _ => ?_)
      refine lv_aload_n hx hb dd_M_check_53 rfl (lv_at hl 1 rfl) ?_
      refine mg_get hx hb ht ii_M hown hK hM my rfl 22 (by decide) wd_2_235 (fun _ h => h) rfl dd_M_check_54 ?_
      refine lv_if_ne (tgt := 114) hx hb dd_M_check_57 (by decide) (fun c1 => ?_) (fun c1 => ?_)
      · refine lv_aload_n hx hb dd_M_check_114 rfl (lv_at hl 1 rfl) ?_
        refine lv_aload_n hx hb dd_M_check_115 rfl (lv_at hl 1 rfl) ?_
        refine mg_get hx hb ht ii_M hown hK hM my rfl 22 (by decide) wd_2_235 (fun _ h => h) rfl dd_M_check_116 ?_
        refine lv_if_ne (tgt := 126) hx hb dd_M_check_119 (by decide) (fun c2 => ?_) (fun c2 => ?_)
        · refine lv_iconst (v := 0) hx hb dd_M_check_126 (by decide) ?_
          refine mg_put (v := .int 0) hx hb ht ii_M tt_M tt_M_ok nn_M hown hK hM hS (hF _ (by rw [my]; exact Option.some_ne_none _)) my rfl 21 (by decide) wd_2_234 (fun _ h => h) (Or.inl rfl) rfl rfl rfl (Nat.le_of_ble_eq_true rfl) dd_M_check_127 (fun H locs hM hz hoq hS => ?_)
          have hM : hm G (mp_up u1 y (yC b nd nn false ft1 fn1 mo1 0)) H := hM
          have hF : ∀ z9, (mp_up u1 y (yC b nd nn false ft1 fn1 mo1 0)) z9 ≠ none → fr M sz z9 := hF_put hF (hF _ (by rw [my]; exact Option.some_ne_none _))
          have hR : rm G (mp_up u1 y (yC b nd nn false ft1 fn1 mo1 0)) y b nd nn (mI I T1 B1 C1) J Z false ft1 fn1 mo1 0 := rm_setX hR (by omega) (by omega)
          obtain ⟨u3, eu3⟩ : ∃ z, z = (mp_up u1 y (yC b nd nn false ft1 fn1 mo1 0)) := ⟨_, rfl⟩
          rw [← eu3] at hM hF hR
          clear eu3
          obtain ⟨hyb, my, hA9, hnd, hnn⟩ := id hR
          obtain ⟨a0, a1, a2, a3, a4, a5, a6, a7, a8, a9, a10, a11, a12, a13, a14, a15, a16, a17⟩ := rmB_of hA9
          refine lv_aload_n hx hb dd_M_check_130 rfl (lv_at hl 1 rfl) ?_
          refine mg_get hx hb ht ii_M hown hK hM my rfl 22 (by decide) wd_2_235 (fun _ h => h) rfl dd_M_check_131 ?_
          have hres : (T1, B1, C1, ft1, fn1, mo1) = (m_check nd D N pa pn pt np ho nn T B C) := by rw [← hres]; simp only [m_alls]; rw [if_neg c1]
          have hdz : decide (ft1 = 0) = false := decide_eq_false c2
          exact mw_i hx hb hr hlocks rfl hM hF hS (Nat.le_of_ble_eq_true rfl) (Nat.le_of_ble_eq_true rfl) (Or.inr ⟨hwh, by rw [← hres], by rw [← hres]; simp only []; rw [hdz]; exact hR⟩) dd_M_check_134
        · refine lv_iconst (v := 1) hx hb dd_M_check_122 (by decide) ?_
          refine lv_goto (tgt := 127) hx hb dd_M_check_123 (by decide) ?_
          refine mg_put (v := .int 1) hx hb ht ii_M tt_M tt_M_ok nn_M hown hK hM hS (hF _ (by rw [my]; exact Option.some_ne_none _)) my rfl 21 (by decide) wd_2_234 (fun _ h => h) (Or.inl rfl) rfl rfl rfl (Nat.le_of_ble_eq_true rfl) dd_M_check_127 (fun H locs hM hz hoq hS => ?_)
          have hM : hm G (mp_up u1 y (yC b nd nn true ft1 fn1 mo1 0)) H := hM
          have hF : ∀ z9, (mp_up u1 y (yC b nd nn true ft1 fn1 mo1 0)) z9 ≠ none → fr M sz z9 := hF_put hF (hF _ (by rw [my]; exact Option.some_ne_none _))
          have hR : rm G (mp_up u1 y (yC b nd nn true ft1 fn1 mo1 0)) y b nd nn (mI I T1 B1 C1) J Z true ft1 fn1 mo1 0 := rm_setX hR (by omega) (by omega)
          obtain ⟨u4, eu4⟩ : ∃ z, z = (mp_up u1 y (yC b nd nn true ft1 fn1 mo1 0)) := ⟨_, rfl⟩
          rw [← eu4] at hM hF hR
          clear eu4
          obtain ⟨hyb, my, hA9, hnd, hnn⟩ := id hR
          obtain ⟨a0, a1, a2, a3, a4, a5, a6, a7, a8, a9, a10, a11, a12, a13, a14, a15, a16, a17⟩ := rmB_of hA9
          refine lv_aload_n hx hb dd_M_check_130 rfl (lv_at hl 1 rfl) ?_
          refine mg_get hx hb ht ii_M hown hK hM my rfl 22 (by decide) wd_2_235 (fun _ h => h) rfl dd_M_check_131 ?_
          have hres : (T1, B1, C1, ft1, fn1, mo1) = (m_check nd D N pa pn pt np ho nn T B C) := by rw [← hres]; simp only [m_alls]; rw [if_neg c1]
          have hdz : decide (ft1 = 0) = true := decide_eq_true c2
          exact mw_i hx hb hr hlocks rfl hM hF hS (Nat.le_of_ble_eq_true rfl) (Nat.le_of_ble_eq_true rfl) (Or.inr ⟨hwh, by rw [← hres], by rw [← hres]; simp only []; rw [hdz]; exact hR⟩) dd_M_check_134
      · subst c1
        obtain ⟨hyb, my, hA9, hnd, hnn⟩ := id hR
        obtain ⟨a0, a1, a2, a3, a4, a5, a6, a7, a8, a9, a10, a11, a12, a13, a14, a15, a16, a17⟩ := rmB_of hA9
        refine lv_aload_n hx hb dd_M_check_60 rfl (lv_at hl 1 rfl) ?_
        refine lv_iload_n hx hb dd_M_check_61 rfl (lv_at hl 0 rfl) ?_
        have hFr := hF_fr hF hS hA
        refine mx_V (As := [.int (nI k)]) (rest := []) 1 (cc_M_comeTo hR hD0 hN0 (show k < nn by omega)) hx hb hml hown ht hM hK hZ hS hFr hl.1 lk_M_150 (by decide +kernel) (by decide) my rfl rfl rfl (Nat.le_of_ble_eq_true rfl) dd_M_check_62 ⟨Nat.le_of_ble_eq_true rfl, Nat.le_of_ble_eq_true rfl⟩ (fun v u9 H locs hp hM hd hle hk hS => ?_)
        have hgt := come_got (z := (T1, B1, C1, 0, fn1, mo1)) (k := k) (hgot rfl)
        obtain ⟨z8, ez8⟩ : ∃ z, z = m_come nd D N pa pn np ho (T1, B1, C1, 0, fn1, mo1) k := ⟨_, rfl⟩
        rw [← ez8] at hp
        obtain ⟨rfl, hR⟩ := hp
        have hF := fun z9 h => hFr z9 (hd z9 h)
        obtain ⟨hyb, my, hA9, hnd, hnn⟩ := id hR
        obtain ⟨a0, a1, a2, a3, a4, a5, a6, a7, a8, a9, a10, a11, a12, a13, a14, a15, a16, a17⟩ := rmB_of hA9
        rw [← ez8] at hgt
        refine lv_iload_n hx hb dd_M_check_65 rfl (lv_at hl 0 rfl) ?_
        refine lv_istore_n (lv' := [(2, .int (nI k)), (1, .int (nI k)), (0, .ref y)]) hx hb dd_M_check_66 rfl hl (by decide) rfl (fun ls hl => ?_)
        exact inner (k + 1) (some k) u9 z8.1 z8.2.1 z8.2.2.1 z8.2.2.2.1 z8.2.2.2.2.1 z8.2.2.2.2.2 H locs ls (fun j h => by cases h; omega) hR (fun h i hi => hgt h i hi) hM hF hS hl (by rw [← hres]; simp only [m_alls]; rw [if_pos trivial, ez8])
  obtain ⟨hyb, my, hA9, hnd, hnn⟩ := id hR
  obtain ⟨a0, a1, a2, a3, a4, a5, a6, a7, a8, a9, a10, a11, a12, a13, a14, a15, a16, a17⟩ := rmB_of hA9
  refine lv_aload_n hx hb dd_M_check_0 rfl (lv_at hl 0 rfl) ?_
  refine lv_iconst (v := 0) hx hb dd_M_check_1 (by decide) ?_
  refine mg_put (v := .int 0) hx hb ht ii_M tt_M tt_M_ok nn_M hown hK hM hS (hF _ (by rw [my]; exact Option.some_ne_none _)) my rfl 0 (by decide) wd_2_213 (fun _ h => h) (Or.inl rfl) rfl rfl rfl (Nat.le_of_ble_eq_true rfl) dd_M_check_2 (fun H locs hM hz hoq hS => ?_)
  have hM : hm G (mp_up M y (yC b nd nn kn ft fn mo 0)) H := hM
  have hF : ∀ z9, (mp_up M y (yC b nd nn kn ft fn mo 0)) z9 ≠ none → fr M sz z9 := hF_put hF (hF _ (by rw [my]; exact Option.some_ne_none _))
  have hR : rm G (mp_up M y (yC b nd nn kn ft fn mo 0)) y b nd nn (mI I T B C) J Z kn ft fn mo 0 := rm_setX hR (by omega) (by omega)
  obtain ⟨u1, eu1⟩ : ∃ z, z = (mp_up M y (yC b nd nn kn ft fn mo 0)) := ⟨_, rfl⟩
  rw [← eu1] at hM hF hR
  clear eu1
  obtain ⟨hyb, my, hA9, hnd, hnn⟩ := id hR
  obtain ⟨a0, a1, a2, a3, a4, a5, a6, a7, a8, a9, a10, a11, a12, a13, a14, a15, a16, a17⟩ := rmB_of hA9
  refine lv_aload_n hx hb dd_M_check_5 rfl (lv_at hl 0 rfl) ?_
  refine mc_V (As := []) (rest := []) 0 (cc_M_isWhole hR (tD_mI hD0 T B C) (tN_mI hN0 T B C)) hx hb hml hown ht hM hK hl.1 lk_M_90 (by decide +kernel) (by decide) my rfl rfl rfl (Nat.le_of_ble_eq_true rfl) dd_M_check_6 ⟨Nat.le_of_ble_eq_true rfl, Nat.le_of_ble_eq_true rfl⟩ ?_
  refine lb_if_ne (tgt := 14) hx hb dd_M_check_9 (by decide) (fun c2 => ?_) (fun c2 => ?_)
  · refine lv_aload_n hx hb dd_M_check_14 rfl (lv_at hl 0 rfl) ?_
    refine lv_iconst (v := 0) hx hb dd_M_check_15 (by decide) ?_
    refine mg_put (v := .int 0) hx hb ht ii_M tt_M tt_M_ok nn_M hown hK hM hS (hF _ (by rw [my]; exact Option.some_ne_none _)) my rfl 22 (by decide) wd_2_235 (fun _ h => h) (Or.inl rfl) rfl rfl rfl (Nat.le_of_ble_eq_true rfl) dd_M_check_16 (fun H locs hM hz hoq hS => ?_)
    have hM : hm G (mp_up u1 y (yC b nd nn kn 0 fn mo 0)) H := hM
    have hF : ∀ z9, (mp_up u1 y (yC b nd nn kn 0 fn mo 0)) z9 ≠ none → fr M sz z9 := hF_put hF (hF _ (by rw [my]; exact Option.some_ne_none _))
    have hR : rm G (mp_up u1 y (yC b nd nn kn 0 fn mo 0)) y b nd nn (mI I T B C) J Z kn 0 fn mo 0 := rm_setX hR (by omega) (by omega)
    obtain ⟨u3, eu3⟩ : ∃ z, z = (mp_up u1 y (yC b nd nn kn 0 fn mo 0)) := ⟨_, rfl⟩
    rw [← eu3] at hM hF hR
    clear eu3
    obtain ⟨hyb, my, hA9, hnd, hnn⟩ := id hR
    obtain ⟨a0, a1, a2, a3, a4, a5, a6, a7, a8, a9, a10, a11, a12, a13, a14, a15, a16, a17⟩ := rmB_of hA9
    refine lv_aload_n hx hb dd_M_check_19 rfl (lv_at hl 0 rfl) ?_
    refine lv_iconst (v := -1) hx hb dd_M_check_20 (by decide) ?_
    refine mg_put (v := .int (-1)) hx hb ht ii_M tt_M tt_M_ok nn_M hown hK hM hS (hF _ (by rw [my]; exact Option.some_ne_none _)) my rfl 23 (by decide) wd_2_236 (fun _ h => h) (Or.inl rfl) rfl rfl rfl (Nat.le_of_ble_eq_true rfl) dd_M_check_21 (fun H locs hM hz hoq hS => ?_)
    have hM : hm G (mp_up u3 y (yC b nd nn kn 0 (-1) mo 0)) H := hM
    have hF : ∀ z9, (mp_up u3 y (yC b nd nn kn 0 (-1) mo 0)) z9 ≠ none → fr M sz z9 := hF_put hF (hF _ (by rw [my]; exact Option.some_ne_none _))
    have hR : rm G (mp_up u3 y (yC b nd nn kn 0 (-1) mo 0)) y b nd nn (mI I T B C) J Z kn 0 (-1) mo 0 := rm_setX hR (by omega) (by omega)
    obtain ⟨u4, eu4⟩ : ∃ z, z = (mp_up u3 y (yC b nd nn kn 0 (-1) mo 0)) := ⟨_, rfl⟩
    rw [← eu4] at hM hF hR
    clear eu4
    obtain ⟨hyb, my, hA9, hnd, hnn⟩ := id hR
    obtain ⟨a0, a1, a2, a3, a4, a5, a6, a7, a8, a9, a10, a11, a12, a13, a14, a15, a16, a17⟩ := rmB_of hA9
    refine lv_aload_n hx hb dd_M_check_24 rfl (lv_at hl 0 rfl) ?_
    refine lv_iconst (v := 0) hx hb dd_M_check_25 (by decide) ?_
    refine mg_put (v := .int 0) hx hb ht ii_M tt_M tt_M_ok nn_M hown hK hM hS (hF _ (by rw [my]; exact Option.some_ne_none _)) my rfl 24 (by decide) wd_2_237 (fun _ h => h) (Or.inl rfl) rfl rfl rfl (Nat.le_of_ble_eq_true rfl) dd_M_check_26 (fun H locs hM hz hoq hS => ?_)
    have hM : hm G (mp_up u4 y (yC b nd nn kn 0 (-1) 0 0)) H := hM
    have hF : ∀ z9, (mp_up u4 y (yC b nd nn kn 0 (-1) 0 0)) z9 ≠ none → fr M sz z9 := hF_put hF (hF _ (by rw [my]; exact Option.some_ne_none _))
    have hR : rm G (mp_up u4 y (yC b nd nn kn 0 (-1) 0 0)) y b nd nn (mI I T B C) J Z kn 0 (-1) 0 0 := rm_setX hR (by omega) (by omega)
    obtain ⟨u5, eu5⟩ : ∃ z, z = (mp_up u4 y (yC b nd nn kn 0 (-1) 0 0)) := ⟨_, rfl⟩
    rw [← eu5] at hM hF hR
    clear eu5
    obtain ⟨hyb, my, hA9, hnd, hnn⟩ := id hR
    obtain ⟨a0, a1, a2, a3, a4, a5, a6, a7, a8, a9, a10, a11, a12, a13, a14, a15, a16, a17⟩ := rmB_of hA9
    refine lv_aload_n hx hb dd_M_check_29 rfl (lv_at hl 0 rfl) ?_
    refine mc_V (As := []) (rest := []) 0 (cc_M_isMain hR (tD_mI hD0 T B C) (tN_mI hN0 T B C)) hx hb hml hown ht hM hK hl.1 lk_M_147 (by decide +kernel) (by decide) my rfl rfl rfl (Nat.le_of_ble_eq_true rfl) dd_M_check_30 ⟨Nat.le_of_ble_eq_true rfl, Nat.le_of_ble_eq_true rfl⟩ ?_
    refine lb_if_ne (tgt := 43) hx hb dd_M_check_33 (by decide) (fun c6 => ?_) (fun c6 => ?_)
    · refine lv_iconst (v := 0) hx hb dd_M_check_43 (by decide) ?_
      refine lv_istore_n (lv' := [(1, .int 0), (0, .ref y)]) hx hb dd_M_check_44 rfl hl (by decide) rfl (fun ls hl => ?_)
      exact loop c2 (hSS c2) nn 0 _ T B C 0 (-1) 0 H locs ls (by omega) hR (fun _ i hi => absurd hi (Nat.not_lt_zero _)) hM hF hS (by rw [nI_0]; exact hl) (by unfold m_check; rw [if_pos c6])
    · refine lv_aload_n hx hb dd_M_check_36 rfl (lv_at hl 0 rfl) ?_
      refine lv_iconst (v := 4) hx hb dd_M_check_37 (by decide) ?_
      refine lv_iconst (v := -1) hx hb dd_M_check_38 (by decide) ?_
      have hFr := hF_fr hF hS hA
      refine mx_V (As := [.int 4, .int (-1)]) (rest := []) 2 (cc_M_wrong hR) hx hb hml hown ht hM hK hZ hS hFr hl.1 lk_M_126 (by decide +kernel) (by decide) my rfl rfl rfl (Nat.le_of_ble_eq_true rfl) dd_M_check_39 ⟨Nat.le_of_ble_eq_true rfl, Nat.le_of_ble_eq_true rfl⟩ (fun v u9 H locs hp hM hd hle hk hS => ?_)
      obtain ⟨rfl, hR⟩ := hp
      have hF := fun z9 h => hFr z9 (hd z9 h)
      obtain ⟨u7, eu7⟩ : ∃ z, z = u9 := ⟨_, rfl⟩
      rw [← eu7] at hM hF hR
      obtain ⟨hyb, my, hA9, hnd, hnn⟩ := id hR
      obtain ⟨a0, a1, a2, a3, a4, a5, a6, a7, a8, a9, a10, a11, a12, a13, a14, a15, a16, a17⟩ := rmB_of hA9
      refine lv_pop hx hb dd_M_check_42 rfl ?_
      refine lv_iconst (v := 0) hx hb dd_M_check_43 (by decide) ?_
      refine lv_istore_n (lv' := [(1, .int 0), (0, .ref y)]) hx hb dd_M_check_44 rfl hl (by decide) rfl (fun ls hl => ?_)
      exact loop c2 (hSS c2) nn 0 _ T B C 4 (-1) 0 H locs ls (by omega) (by simpa using hR) (fun _ i hi => absurd hi (Nat.not_lt_zero _)) hM hF hS (by rw [nI_0]; exact hl) (by unfold m_check; rw [if_neg (by rw [c6]; decide)])
  · refine lv_iconst (v := -1) hx hb dd_M_check_12 (by decide) ?_
    exact mw_i hx hb hr hlocks rfl hM hF hS (Nat.le_of_ble_eq_true rfl) (Nat.le_of_ble_eq_true rfl) (Or.inl ⟨c2, rfl, hR⟩) dd_M_check_13
