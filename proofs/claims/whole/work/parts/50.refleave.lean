set_option maxHeartbeats 4000000 in
set_option maxRecDepth 100000 in
theorem cc_M_leave {l : Launch} {G : gC} {M : mC} {sz : Nat} {y b nd nn : Nat} {I : Nat → Nat → Int32} {T B C : Nat → Int32} {J : Nat → Nat → Int64} {Z : Nat → Int32} {kn : Bool} {fn mo th : Int32} (hR : rm G M y b nd nn (mI I T B C) J Z kn 0 fn mo th) {D : Nat → dR} {N : Nat → nR} {pn : Nat → Nat → Int64} {pt : Nat → Nat → Int32} {np bg ho : Nat → Nat} {pa : Nat → Option Nat} (hD0 : tD nd D pn pt np bg I J Z) (hN0 : tN nd nn N ho pa I J) {k : Nat} (hk : k < nn) (hg : m_got nd D N pa pn np ho B C k) (hgo : ∀ o, pa k = some o → m_got nd D N pa pn np ho B C o) (hS9 : m_SS nd nn D N pa np k) : cW l yy_M_leave bb_M_leave 3 none 3 0 0 G M sz [.ref y, .int (nI k)] (fun v u => v = none ∧ rm G u y b nd nn (mI I (m_leave nd D N pa pn pt np ho nn (T, B, C, 0, fn, mo) k).1 (m_leave nd D N pa pn pt np ho nn (T, B, C, 0, fn, mo) k).2.1 (m_leave nd D N pa pn pt np ho nn (T, B, C, 0, fn, mo) k).2.2.1) J Z kn (m_leave nd D N pa pn pt np ho nn (T, B, C, 0, fn, mo) k).2.2.2.1 (m_leave nd D N pa pn pt np ho nn (T, B, C, 0, fn, mo) k).2.2.2.2.1 (m_leave nd D N pa pn pt np ho nn (T, B, C, 0, fn, mo) k).2.2.2.2.2 th) := by
  refine me_W (by decide) (Nat.le_of_ble_eq_true rfl) ?_
  intro p e s m below meth c ls hx hb hr hlocks hml hown hname ht hsz hM hK hZ hl
  have hown : s.vm.findClass RR_M = some m.cls := hown
  have hl : lv_has ls 3 [(0, .ref y), (1, .int (nI k))] := hl
  have hS : va_S (fr M sz) s.heap s.heap [] := va_S.rf
  have hF : ∀ q, M q ≠ none → fr M sz q := fr_M
  have hA : ∀ q, s.heap.size ≤ q → fr M sz q := fun q h => fr_A q (by rw [← hsz]; exact h)
  obtain ⟨hyb, my, hA9, hnd, hnn⟩ := id hR
  obtain ⟨a0, a1, a2, a3, a4, a5, a6, a7, a8, a9, a10, a11, a12, a13, a14, a15, a16, a17⟩ := rmB_of hA9
  refine lv_aload_n hx hb dd_M_leave_0 rfl (lv_at hl 0 rfl) ?_
  refine mg_get hx hb ht ii_M hown hK hM my rfl 22 (by decide) wd_2_235 (fun _ h => h) rfl dd_M_leave_1 ?_
  refine lv_if_ne (tgt := 44) hx hb dd_M_leave_4 (by decide) (fun z => absurd (by decide) z) (fun _ => ?_)
  refine lv_aload_n hx hb dd_M_leave_7 rfl (lv_at hl 0 rfl) ?_
  refine mg_get hx hb ht ii_M hown hK hM my rfl 18 (by decide) wd_2_231 (fun _ h => h) rfl dd_M_leave_8 ?_
  refine lv_iload_n hx hb dd_M_leave_11 rfl (lv_at hl 1 rfl) ?_
  refine lv_aload_n hx hb dd_M_leave_12 rfl (lv_at hl 0 rfl) ?_
  refine lv_iload_n hx hb dd_M_leave_13 rfl (lv_at hl 1 rfl) ?_
  obtain ⟨ty9, ety⟩ : ∃ z : Int32, z = m_tyAt nd D N pa pn pt np ho nn T k := ⟨_, rfl⟩
  have hcy : cR l yy_M_typeOf bb_M_typeOf 3 (some .int) 2 G M [.ref y, .int (nI k)] (.int ty9) := by
    rw [ety]
    exact cc_M_typeOf hR (tD_mI hD0 T B C) (tN_mI hN0 T B C) hk (fun h => ⟨(hg.1 h).1, (hg.1 h).2, hS9.1⟩) (t9 := (m_tgt nd D np (N k)).getD 0) (i9 := (m_pt N pa nn k (n_pt (N k) - 1)).getD 0) (got_c hg) (fun h => getD_some (hS9.2.1 h))
  refine mc_V (As := [.int (nI k)]) (rest := [.int (nI k), .ref (b + 15)]) 1 hcy hx hb hml hown ht hM hK hl.1 lk_M_139 (by decide +kernel) (by decide) my rfl rfl rfl (Nat.le_of_ble_eq_true rfl) dd_M_leave_14 ⟨Nat.zero_le _, Nat.zero_le _⟩ ?_
  refine mg_iast hx hb hK hM hS (hF _ (by rw [a15]; exact Option.some_ne_none _)) a15 (vp_in_nI (show k < 4096 by omega) (by decide)) dd_M_leave_17 (fun H locs hM hz hS => ?_)
  rw [nI_clamp (show k < 2 ^ 31 by omega)] at hM
  have hM : hm G (mp_up M (b + 15) (iA G 4096 (upd T k ty9))) H := hM
  have hF : ∀ z9, (mp_up M (b + 15) (iA G 4096 (upd T k ty9))) z9 ≠ none → fr M sz z9 := hF_put hF (hF _ (by rw [a15]; exact Option.some_ne_none _))
  have hR : rm G (mp_up M (b + 15) (iA G 4096 (upd T k ty9))) y b nd nn (mI I (upd T k ty9) B C) J Z kn 0 fn mo th := ⟨hR.1, mp_at (by omega) hR.2.1, by have h9 := rmA_s15 hR.2.2.1 (upd T k ty9); rw [mI_15] at h9; exact h9, hR.2.2.2⟩
  obtain ⟨u1, eu1⟩ : ∃ z, z = (mp_up M (b + 15) (iA G 4096 (upd T k ty9))) := ⟨_, rfl⟩
  rw [← eu1] at hM hF hR
  clear eu1
  obtain ⟨hyb, my, hA9, hnd, hnn⟩ := id hR
  obtain ⟨a0, a1, a2, a3, a4, a5, a6, a7, a8, a9, a10, a11, a12, a13, a14, a15, a16, a17⟩ := rmB_of hA9
  refine lv_aload_n hx hb dd_M_leave_18 rfl (lv_at hl 0 rfl) ?_
  refine lv_iload_n hx hb dd_M_leave_19 rfl (lv_at hl 1 rfl) ?_
  refine lv_aload_n hx hb dd_M_leave_20 rfl (lv_at hl 0 rfl) ?_
  refine mg_get hx hb ht ii_M hown hK hM my rfl 18 (by decide) wd_2_231 (fun _ h => h) rfl dd_M_leave_21 ?_
  refine lv_iload_n hx hb dd_M_leave_24 rfl (lv_at hl 1 rfl) ?_
  refine mg_iald hx hb hK hM a15 (vp_in_nI (show k < 4096 by omega) (by decide)) dd_M_leave_25 ?_
  rw [nI_clamp (show k < 2 ^ 31 by omega)]
  rw [upd_at]
  obtain ⟨st9, est⟩ : ∃ z : Bool, z = m_stAt nd D N pa pt np ho nn (upd T k ty9) k ty9 := ⟨_, rfl⟩
  have hcs : cR l yy_M_canStand bb_M_canStand 6 (some .boolean) 1 G u1 [.ref y, .int (nI k), .int ty9] (.int (bI st9)) := by
    rw [est]
    exact cc_M_canStand hR (tD_mI hD0 (upd T k ty9) B C) (tN_mI hN0 (upd T k ty9) B C) hk (ty := ty9) (t9 := (m_tgt nd D np (c_q N (pa k))).getD 0) (q9 := (n_pl (N k)).toNatClampNeg) (i9 := (m_pt N pa nn ((pa k).getD 0) 1).getD 0) (st_c (fun t ht => (hD0 t ht).2.2.2.2.2.1) hS9 hgo) (st_l hS9)
  refine mc_V (As := [.int (nI k), .int ty9]) (rest := []) 2 hcs hx hb hml hown ht hM hK hl.1 lk_M_142 (by decide +kernel) (by decide) my rfl rfl rfl (Nat.le_of_ble_eq_true rfl) dd_M_leave_26 ⟨Nat.zero_le _, Nat.zero_le _⟩ ?_
  refine lb_if_eq (tgt := 36) hx hb dd_M_leave_29 (by decide) (fun c2 => ?_) (fun c2 => ?_)
  · refine lv_aload_n hx hb dd_M_leave_36 rfl (lv_at hl 0 rfl) ?_
    refine lv_bipush (v := 6) hx hb dd_M_leave_37 (by decide) ?_
    refine lv_iload_n hx hb dd_M_leave_39 rfl (lv_at hl 1 rfl) ?_
    have hFr := hF_fr hF hS hA
    refine mx_V (As := [.int 6, .int (nI k)]) (rest := []) 2 (cc_M_wrong hR) hx hb hml hown ht hM hK hZ hS hFr hl.1 lk_M_126 (by decide +kernel) (by decide) my rfl rfl rfl (Nat.le_of_ble_eq_true rfl) dd_M_leave_40 ⟨Nat.zero_le _, Nat.zero_le _⟩ (fun v u9 H locs hp hM hd hle hk hS => ?_)
    obtain ⟨rfl, hR⟩ := hp
    have hF := fun z9 h => hFr z9 (hd z9 h)
    obtain ⟨u3, eu3⟩ : ∃ z, z = u9 := ⟨_, rfl⟩
    rw [← eu3] at hM hF hR
    obtain ⟨hyb, my, hA9, hnd, hnn⟩ := id hR
    obtain ⟨a0, a1, a2, a3, a4, a5, a6, a7, a8, a9, a10, a11, a12, a13, a14, a15, a16, a17⟩ := rmB_of hA9
    refine lv_istore_n (lv' := [(2, .int 0), (0, .ref y), (1, .int (nI k))]) hx hb dd_M_leave_43 rfl hl (by decide) rfl (fun ls hl => ?_)
    have hz9 : (m_leave nd D N pa pn pt np ho nn (T, B, C, 0, fn, mo) k) = (upd T k ty9, B, C, 6, nI k, mo) := by simp only [m_leave]; rw [← ety, ← est, if_neg (by rw [c2]; decide)]
    exact mw_v hx hb hr hlocks hM hF hS (Nat.zero_le _) (Nat.zero_le _) ⟨rfl, by rw [hz9]; simpa using hR⟩ dd_M_leave_44
  · refine lv_iconst (v := 0) hx hb dd_M_leave_32 (by decide) ?_
    refine lv_goto (tgt := 43) hx hb dd_M_leave_33 (by decide) ?_
    refine lv_istore_n (lv' := [(2, .int 0), (0, .ref y), (1, .int (nI k))]) hx hb dd_M_leave_43 rfl hl (by decide) rfl (fun ls hl => ?_)
    have hz9 : (m_leave nd D N pa pn pt np ho nn (T, B, C, 0, fn, mo) k) = (upd T k ty9, B, C, 0, fn, mo) := by simp only [m_leave]; rw [← ety, ← est, if_pos c2]
    exact mw_v hx hb hr hlocks hM hF hS (Nat.zero_le _) (Nat.zero_le _) ⟨rfl, by rw [hz9]; exact hR⟩ dd_M_leave_44
