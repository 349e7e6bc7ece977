set_option maxHeartbeats 4000000 in
set_option maxRecDepth 100000 in
theorem cc_M_typeOfVariable_p {l : Launch} {G : gC} {M : mC} {y b nd nn : Nat} {I : Nat → Nat → Int32} {J : Nat → Nat → Int64} {Z : Nat → Int32} {kn : Bool} {ft fn mo th : Int32} (hR : rm G M y b nd nn I J Z kn ft fn mo th) {D : Nat → dR} {N : Nat → nR} {pn : Nat → Nat → Int64} {pt : Nat → Nat → Int32} {np bg ho : Nat → Nat} {pa : Nat → Option Nat} (hD : tD nd D pn pt np bg I J Z) (hN : tN nd nn N ho pa I J) {k : Nat} (hk : k < nn) {t9 : Nat} (hB : I 16 k = -2 - nI t9) (ht9 : t9 < np (ho k)) : cR l yy_M_typeOfVariable bb_M_typeOfVariable 4 (some .int) 1 G M [.ref y, .int (nI k)] (.int (pt (ho k) t9)) := by
  refine me_R (by decide) (Nat.le_of_ble_eq_true rfl) ?_
  intro p e s m below meth c ls hx hb hr hlocks hml hown ht hM hK hl
  have hown : s.vm.findClass RR_M = some m.cls := hown
  have hl : lv_has ls 4 [(0, .ref y), (1, .int (nI k))] := hl
  obtain ⟨hyb, my, hA9, hnd, hnn⟩ := id hR
  obtain ⟨a0, a1, a2, a3, a4, a5, a6, a7, a8, a9, a10, a11, a12, a13, a14, a15, a16, a17⟩ := id hA9
  have hhk := (hN k hk).2.2.2.2.2.2.2.2.1
  have hn8 := (hD (ho k) hhk).2.2.2.2.2.1
  refine lv_aload_n hx hb dd_M_typeOfVariable_0 rfl (lv_at hl 0 rfl) ?_
  refine mg_get hx hb ht ii_M hown hK hM my rfl 19 (by decide) wd_2_232 (fun _ h => h) rfl dd_M_typeOfVariable_1 ?_
  refine lv_iload_n hx hb dd_M_typeOfVariable_4 rfl (lv_at hl 1 rfl) ?_
  refine mg_iald hx hb hK hM a16 (vp_in_nI (show k < 4096 by omega) (by decide)) dd_M_typeOfVariable_5 ?_
  rw [nI_clamp (show k < 2 ^ 31 by omega)]
  rw [hB]
  refine lv_istore_n (lv' := [(2, .int (-2 - nI t9)), (0, .ref y), (1, .int (nI k))]) hx hb dd_M_typeOfVariable_6 rfl hl (by decide) rfl (fun ls hl => ?_)
  refine lv_iload_n hx hb dd_M_typeOfVariable_7 rfl (lv_at hl 0 rfl) ?_
  refine lv_if_ge (tgt := 30) hx hb dd_M_typeOfVariable_8 (by decide) (fun z => absurd z (neg_p (by omega))) (fun _ => ?_)
  refine lv_aload_n hx hb dd_M_typeOfVariable_11 rfl (lv_at hl 1 rfl) ?_
  refine mg_get hx hb ht ii_M hown hK hM my rfl 7 (by decide) wd_2_220 (fun _ h => h) rfl dd_M_typeOfVariable_12 ?_
  refine lv_bipush (v := 8) hx hb dd_M_typeOfVariable_15 (by decide) ?_
  refine lv_aload_n hx hb dd_M_typeOfVariable_17 rfl (lv_at hl 1 rfl) ?_
  refine mg_get hx hb ht ii_M hown hK hM my rfl 16 (by decide) wd_2_229 (fun _ h => h) rfl dd_M_typeOfVariable_18 ?_
  refine lv_iload_n hx hb dd_M_typeOfVariable_21 rfl (lv_at hl 2 rfl) ?_
  refine mg_iald hx hb hK hM a13 (vp_in_nI (show k < 4096 by omega) (by decide)) dd_M_typeOfVariable_22 ?_
  rw [nI_clamp (show k < 2 ^ 31 by omega)]
  rw [(hN k (show k < nn by omega)).2.2.2.2.2.2.1]
  have hho := (hN k (show k < nn by omega)).2.2.2.2.2.2.2.2.1
  refine lv_imul hx hb dd_M_typeOfVariable_23 ?_
  rw [nI_8]
  refine lv_iconst (v := 2) hx hb dd_M_typeOfVariable_24 (by decide) ?_
  refine lv_isub hx hb dd_M_typeOfVariable_25 ?_
  refine lv_iload_n hx hb dd_M_typeOfVariable_26 rfl (lv_at hl 0 rfl) ?_
  refine lv_isub hx hb dd_M_typeOfVariable_27 ?_
  rw [ix_p]
  refine mg_iald hx hb hK hM a5 (vp_in_nI (show (8 * (ho k) + t9) < 512 by omega) (by decide)) dd_M_typeOfVariable_28 ?_
  rw [nI_clamp (show (8 * (ho k) + t9) < 2 ^ 31 by omega)]
  rw [(hD (ho k) (show (ho k) < nd by omega)).2.2.2.2.2.2.2.2 t9 (show t9 < np (ho k) by omega)]
  exact mr_i hx hb hr hlocks rfl rfl dd_M_typeOfVariable_29

set_option maxHeartbeats 4000000 in
set_option maxRecDepth 100000 in
theorem cc_M_typeOfVariable_b {l : Launch} {G : gC} {M : mC} {y b nd nn : Nat} {I : Nat → Nat → Int32} {J : Nat → Nat → Int64} {Z : Nat → Int32} {kn : Bool} {ft fn mo th : Int32} (hR : rm G M y b nd nn I J Z kn ft fn mo th) {D : Nat → dR} {N : Nat → nR} {pn : Nat → Nat → Int64} {pt : Nat → Nat → Int32} {np bg ho : Nat → Nat} {pa : Nat → Option Nat} (hD : tD nd D pn pt np bg I J Z) (hN : tN nd nn N ho pa I J) {k : Nat} (hk : k < nn) {b9 i9 : Nat} (hB : I 16 k = nI b9) (hb9 : b9 < nn) (hi9 : k_isCase (n_kd (N b9)) = false → m_pt N pa nn b9 0 = some i9) : cR l yy_M_typeOfVariable bb_M_typeOfVariable 4 (some .int) 1 G M [.ref y, .int (nI k)] (.int (m_tyB (I 15) N k b9 i9)) := by
  refine me_R (by decide) (Nat.le_of_ble_eq_true rfl) ?_
  intro p e s m below meth c ls hx hb hr hlocks hml hown ht hM hK hl
  have hown : s.vm.findClass RR_M = some m.cls := hown
  have hl : lv_has ls 4 [(0, .ref y), (1, .int (nI k))] := hl
  obtain ⟨hyb, my, hA9, hnd, hnn⟩ := id hR
  obtain ⟨a0, a1, a2, a3, a4, a5, a6, a7, a8, a9, a10, a11, a12, a13, a14, a15, a16, a17⟩ := id hA9
  refine lv_aload_n hx hb dd_M_typeOfVariable_0 rfl (lv_at hl 0 rfl) ?_
  refine mg_get hx hb ht ii_M hown hK hM my rfl 19 (by decide) wd_2_232 (fun _ h => h) rfl dd_M_typeOfVariable_1 ?_
  refine lv_iload_n hx hb dd_M_typeOfVariable_4 rfl (lv_at hl 1 rfl) ?_
  refine mg_iald hx hb hK hM a16 (vp_in_nI (show k < 4096 by omega) (by decide)) dd_M_typeOfVariable_5 ?_
  rw [nI_clamp (show k < 2 ^ 31 by omega)]
  rw [hB]
  refine lv_istore_n (lv' := [(2, .int (nI b9)), (0, .ref y), (1, .int (nI k))]) hx hb dd_M_typeOfVariable_6 rfl hl (by decide) rfl (fun ls hl => ?_)
  refine lv_iload_n hx hb dd_M_typeOfVariable_7 rfl (lv_at hl 0 rfl) ?_
  refine lv_if_ge (tgt := 30) hx hb dd_M_typeOfVariable_8 (by decide) (fun _ => ?_) (fun z => absurd (nI_pos' (by omega)) z)
  refine lv_aload_n hx hb dd_M_typeOfVariable_30 rfl (lv_at hl 1 rfl) ?_
  refine mg_get hx hb ht ii_M hown hK hM my rfl 10 (by decide) wd_2_223 (fun _ h => h) rfl dd_M_typeOfVariable_31 ?_
  refine lv_iload_n hx hb dd_M_typeOfVariable_34 rfl (lv_at hl 0 rfl) ?_
  refine mg_iald hx hb hK hM a7 (vp_in_nI (show b9 < 4096 by omega) (by decide)) dd_M_typeOfVariable_35 ?_
  rw [nI_clamp (show b9 < 2 ^ 31 by omega)]
  rw [(hN b9 (show b9 < nn by omega)).1]
  refine mc_S (As := [.int (n_kd (N b9))]) (rest := []) 1 (cc_M_hasSecond (k := (n_kd (N b9)))) hx hb hml hown ht hM hK hl.1 lk_M_98 (by decide +kernel) (by decide) rfl rfl (Nat.le_of_ble_eq_true rfl) dd_M_typeOfVariable_36 ⟨Nat.zero_le _, Nat.zero_le _⟩ ?_
  refine lb_if_eq (tgt := 64) hx hb dd_M_typeOfVariable_39 (by decide) (fun c1 => ?_) (fun c1 => ?_)
  · refine lv_aload_n hx hb dd_M_typeOfVariable_64 rfl (lv_at hl 1 rfl) ?_
    refine mg_get hx hb ht ii_M hown hK hM my rfl 18 (by decide) wd_2_231 (fun _ h => h) rfl dd_M_typeOfVariable_65 ?_
    refine lv_aload_n hx hb dd_M_typeOfVariable_68 rfl (lv_at hl 1 rfl) ?_
    refine lv_iload_n hx hb dd_M_typeOfVariable_69 rfl (lv_at hl 0 rfl) ?_
    refine lv_iconst (v := 0) hx hb dd_M_typeOfVariable_70 (by decide) ?_
    have hpt9 := hi9 c1
    have hlt9 := (m_part_lt _ _ _ hpt9).2
    refine mc_V (As := [.int (nI b9), .int 0]) (rest := [.ref (b + 15)]) 2 (cc_M_partOf hR hD hN (k := b9) (by omega) hpt9) hx hb hml hown ht hM hK hl.1 lk_M_133 (by decide +kernel) (by decide) my rfl rfl rfl (Nat.le_of_ble_eq_true rfl) dd_M_typeOfVariable_71 ⟨Nat.zero_le _, Nat.zero_le _⟩ ?_
    refine mg_iald hx hb hK hM a15 (vp_in_nI (show i9 < 4096 by omega) (by decide)) dd_M_typeOfVariable_74 ?_
    rw [nI_clamp (show i9 < 2 ^ 31 by omega)]
    refine lv_istore_n (lv' := [(3, .int ((I 15) i9)), (2, .int (nI b9)), (0, .ref y), (1, .int (nI k))]) hx hb dd_M_typeOfVariable_75 rfl hl (by decide) rfl (fun ls hl => ?_)
    refine lv_aload_n hx hb dd_M_typeOfVariable_76 rfl (lv_at hl 2 rfl) ?_
    refine mg_get hx hb ht ii_M hown hK hM my rfl 10 (by decide) wd_2_223 (fun _ h => h) rfl dd_M_typeOfVariable_77 ?_
    refine lv_iload_n hx hb dd_M_typeOfVariable_80 rfl (lv_at hl 1 rfl) ?_
    refine mg_iald hx hb hK hM a7 (vp_in_nI (show b9 < 4096 by omega) (by decide)) dd_M_typeOfVariable_81 ?_
    rw [nI_clamp (show b9 < 2 ^ 31 by omega)]
    rw [(hN b9 (show b9 < nn by omega)).1]
    refine lv_bipush (v := 18) hx hb dd_M_typeOfVariable_82 (by decide) ?_
    refine lv_icmp_ne (tgt := 100) hx hb dd_M_typeOfVariable_84 (by decide) (fun c2 => ?_) (fun c2 => ?_)
    · refine lv_iload_n hx hb dd_M_typeOfVariable_100 rfl (lv_at hl 0 rfl) ?_
      exact mr_i hx hb hr hlocks rfl (by simp [bI, m_tyB, c1, c2]) dd_M_typeOfVariable_101
    · refine lv_iload_n hx hb dd_M_typeOfVariable_87 rfl (lv_at hl 0 rfl) ?_
      refine lv_iconst (v := 2) hx hb dd_M_typeOfVariable_88 (by decide) ?_
      refine lv_icmp_ne (tgt := 96) hx hb dd_M_typeOfVariable_89 (by decide) (fun c3 => ?_) (fun c3 => ?_)
      · refine lv_iconst (v := 1) hx hb dd_M_typeOfVariable_96 (by decide) ?_
        refine lv_goto (tgt := 101) hx hb dd_M_typeOfVariable_97 (by decide) ?_
        exact mr_i hx hb hr hlocks rfl (by simp [bI, m_tyB, c1, eq_true c2, c3]) dd_M_typeOfVariable_101
      · refine lv_iconst (v := 0) hx hb dd_M_typeOfVariable_92 (by decide) ?_
        refine lv_goto (tgt := 101) hx hb dd_M_typeOfVariable_93 (by decide) ?_
        exact mr_i hx hb hr hlocks rfl (by simp [bI, m_tyB, c1, eq_true c2, eq_true c3]) dd_M_typeOfVariable_101
  · refine lv_aload_n hx hb dd_M_typeOfVariable_42 rfl (lv_at hl 1 rfl) ?_
    refine mg_get hx hb ht ii_M hown hK hM my rfl 11 (by decide) wd_2_224 (fun _ h => h) rfl dd_M_typeOfVariable_43 ?_
    refine lv_iload_n hx hb dd_M_typeOfVariable_46 rfl (lv_at hl 0 rfl) ?_
    refine mg_lald hx hb hK hM a8 (vp_in_nI (show b9 < 4096 by omega) (by decide)) dd_M_typeOfVariable_47 ?_
    rw [nI_clamp (show b9 < 2 ^ 31 by omega)]
    rw [(hN b9 (show b9 < nn by omega)).2.1]
    refine lv_aload_n hx hb dd_M_typeOfVariable_48 rfl (lv_at hl 1 rfl) ?_
    refine mg_get hx hb ht ii_M hown hK hM my rfl 11 (by decide) wd_2_224 (fun _ h => h) rfl dd_M_typeOfVariable_49 ?_
    refine lv_iload_n hx hb dd_M_typeOfVariable_52 rfl (lv_at hl 2 rfl) ?_
    refine mg_lald hx hb hK hM a8 (vp_in_nI (show k < 4096 by omega) (by decide)) dd_M_typeOfVariable_53 ?_
    rw [nI_clamp (show k < 2 ^ 31 by omega)]
    rw [(hN k (show k < nn by omega)).2.1]
    refine W.lcmp hx hb dd_M_typeOfVariable_54 ?_
    refine lc_if_ne (tgt := 62) hx hb dd_M_typeOfVariable_55 (by decide) (fun c4 => ?_) (fun c4 => ?_)
    · refine lv_iconst (v := 3) hx hb dd_M_typeOfVariable_62 (by decide) ?_
      exact mr_i hx hb hr hlocks rfl (by simp [bI, m_tyB, c1, c4]) dd_M_typeOfVariable_63
    · refine lv_iconst (v := 0) hx hb dd_M_typeOfVariable_58 (by decide) ?_
      refine lv_goto (tgt := 63) hx hb dd_M_typeOfVariable_59 (by decide) ?_
      exact mr_i hx hb hr hlocks rfl (by simp [bI, m_tyB, c1, eq_true c4]) dd_M_typeOfVariable_63

theorem cc_M_typeOfVariable {l : Launch} {G : gC} {M : mC} {y b nd nn : Nat} {I : Nat → Nat → Int32} {J : Nat → Nat → Int64} {Z : Nat → Int32} {kn : Bool} {ft fn mo th : Int32} (hR : rm G M y b nd nn I J Z kn ft fn mo th) {D : Nat → dR} {N : Nat → nR} {pn : Nat → Nat → Int64} {pt : Nat → Nat → Int32} {np bg ho : Nat → Nat} {pa : Nat → Option Nat} (hD : tD nd D pn pt np bg I J Z) (hN : tN nd nn N ho pa I J) {k : Nat} (hk : k < nn) (hB : I 16 k = m_bval N pa pn np ho (n_fi (N k)) k) (hB1 : m_bval N pa pn np ho (n_fi (N k)) k ≠ -1) (hi9 : ∀ b9, m_bo N pa (n_fi (N k)) (k + 1) k = some b9 → k_isCase (n_kd (N b9)) = false → (m_pt N pa nn b9 0).isSome = true) : cR l yy_M_typeOfVariable bb_M_typeOfVariable 4 (some .int) 1 G M [.ref y, .int (nI k)] (.int (m_tyV (I 15) N pa pn pt np ho nn k)) := by
  unfold m_tyV
  unfold m_bval at hB hB1
  cases hb : m_bo N pa (n_fi (N k)) (k + 1) k with
  | some b9 =>
    rw [hb] at hB
    refine cc_M_typeOfVariable_b hR hD hN hk hB (by have := m_bo_lt (fun j hj => (hN j hj).2.2.2.2.2.2.2.2.2) _ _ _ hk hb; omega) (fun hc => ?_)
    obtain ⟨i, hi⟩ := Option.isSome_iff_exists.mp (hi9 b9 hb hc)
    rw [hi]
    rfl
  | none =>
    rw [hb] at hB hB1
    cases ht : m_pi (pn (ho k)) (n_fi (N k)) (np (ho k)) 0 with
    | none => rw [ht] at hB1; exact absurd rfl hB1
    | some t =>
      rw [ht] at hB
      have := m_pi_lt _ _ _ ht
      exact cc_M_typeOfVariable_p hR hD hN hk hB (by omega)

set_option maxHeartbeats 4000000 in
set_option maxRecDepth 100000 in
theorem cc_M_typeOf {l : Launch} {G : gC} {M : mC} {y b nd nn : Nat} {I : Nat → Nat → Int32} {J : Nat → Nat → Int64} {Z : Nat → Int32} {kn : Bool} {ft fn mo th : Int32} (hR : rm G M y b nd nn I J Z kn ft fn mo th) {D : Nat → dR} {N : Nat → nR} {pn : Nat → Nat → Int64} {pt : Nat → Nat → Int32} {np bg ho : Nat → Nat} {pa : Nat → Option Nat} (hD : tD nd D pn pt np bg I J Z) (hN : tN nd nn N ho pa I J) {k : Nat} (hk : k < nn) (hv : n_kd (N k) = 1 → I 16 k = m_bval N pa pn np ho (n_fi (N k)) k ∧ m_bval N pa pn np ho (n_fi (N k)) k ≠ -1 ∧ ∀ b9, m_bo N pa (n_fi (N k)) (k + 1) k = some b9 → k_isCase (n_kd (N b9)) = false → (m_pt N pa nn b9 0).isSome = true) {t9 i9 : Nat} (hc9 : k_isCall (n_kd (N k)) = true → I 17 k = nI t9 ∧ t9 < nd) (hl9 : m_useLast (n_kd (N k)) = true → m_pt N pa nn k (n_pt (N k) - 1) = some i9) : cR l yy_M_typeOf bb_M_typeOf 3 (some .int) 2 G M [.ref y, .int (nI k)] (.int (m_tyK (n_kd (N k)) (m_tyV (I 15) N pa pn pt np ho nn k) (d_vt (D t9)) (I 15 i9))) := by
  refine me_R (by decide) (Nat.le_of_ble_eq_true rfl) ?_
  intro p e s m below meth c ls hx hb hr hlocks hml hown ht hM hK hl
  have hown : s.vm.findClass RR_M = some m.cls := hown
  have hl : lv_has ls 3 [(0, .ref y), (1, .int (nI k))] := hl
  obtain ⟨hyb, my, hA9, hnd, hnn⟩ := id hR
  obtain ⟨a0, a1, a2, a3, a4, a5, a6, a7, a8, a9, a10, a11, a12, a13, a14, a15, a16, a17⟩ := id hA9
  refine lv_aload_n hx hb dd_M_typeOf_0 rfl (lv_at hl 0 rfl) ?_
  refine mg_get hx hb ht ii_M hown hK hM my rfl 10 (by decide) wd_2_223 (fun _ h => h) rfl dd_M_typeOf_1 ?_
  refine lv_iload_n hx hb dd_M_typeOf_4 rfl (lv_at hl 1 rfl) ?_
  refine mg_iald hx hb hK hM a7 (vp_in_nI (show k < 4096 by omega) (by decide)) dd_M_typeOf_5 ?_
  rw [nI_clamp (show k < 2 ^ 31 by omega)]
  rw [(hN k (show k < nn by omega)).1]
  refine lv_istore_n (lv' := [(2, .int (n_kd (N k))), (0, .ref y), (1, .int (nI k))]) hx hb dd_M_typeOf_6 rfl hl (by decide) rfl (fun ls hl => ?_)
  refine lv_iload_n hx hb dd_M_typeOf_7 rfl (lv_at hl 0 rfl) ?_
  refine lv_iconst (v := 1) hx hb dd_M_typeOf_8 (by decide) ?_
  refine lv_icmp_ne (tgt := 18) hx hb dd_M_typeOf_9 (by decide) (fun c1 => ?_) (fun c1 => ?_)
  · refine lv_iload_n hx hb dd_M_typeOf_18 rfl (lv_at hl 0 rfl) ?_
    refine lv_if_eq (tgt := 33) hx hb dd_M_typeOf_19 (by decide) (fun c2 => ?_) (fun c2 => ?_)
    · refine lv_iconst (v := 0) hx hb dd_M_typeOf_33 (by decide) ?_
      exact mr_i hx hb hr hlocks rfl (by simp [bI, m_tyK, c1, eq_true c2]) dd_M_typeOf_34
    · refine lv_iload_n hx hb dd_M_typeOf_22 rfl (lv_at hl 0 rfl) ?_
      refine lv_iconst (v := 3) hx hb dd_M_typeOf_23 (by decide) ?_
      refine lv_icmp_lt (tgt := 35) hx hb dd_M_typeOf_24 (by decide) (fun c3 => ?_) (fun c3 => ?_)
      · refine lv_iload_n hx hb dd_M_typeOf_35 rfl (lv_at hl 0 rfl) ?_
        refine lv_iconst (v := 2) hx hb dd_M_typeOf_36 (by decide) ?_
        refine lv_icmp_eq (tgt := 46) hx hb dd_M_typeOf_37 (by decide) (fun c4 => ?_) (fun c4 => ?_)
        · refine lv_iconst (v := 1) hx hb dd_M_typeOf_46 (by decide) ?_
          exact mr_i hx hb hr hlocks rfl (by simp [bI, m_tyK, c1, c2, c3, eq_true c4]) dd_M_typeOf_47
        · refine lv_iload_n hx hb dd_M_typeOf_40 rfl (lv_at hl 0 rfl) ?_
          refine lv_bipush (v := 13) hx hb dd_M_typeOf_41 (by decide) ?_
          refine lv_icmp_ne (tgt := 48) hx hb dd_M_typeOf_43 (by decide) (fun c5 => ?_) (fun c5 => ?_)
          · refine lv_iload_n hx hb dd_M_typeOf_48 rfl (lv_at hl 0 rfl) ?_
            refine lv_bipush (v := 14) hx hb dd_M_typeOf_49 (by decide) ?_
            refine lv_icmp_eq (tgt := 66) hx hb dd_M_typeOf_51 (by decide) (fun c6 => ?_) (fun c6 => ?_)
            · refine lv_aload_n hx hb dd_M_typeOf_66 rfl (lv_at hl 1 rfl) ?_
              refine mg_get hx hb ht ii_M hown hK hM my rfl 4 (by decide) wd_2_217 (fun _ h => h) rfl dd_M_typeOf_67 ?_
              refine lv_aload_n hx hb dd_M_typeOf_70 rfl (lv_at hl 1 rfl) ?_
              refine mg_get hx hb ht ii_M hown hK hM my rfl 20 (by decide) wd_2_233 (fun _ h => h) rfl dd_M_typeOf_71 ?_
              refine lv_iload_n hx hb dd_M_typeOf_74 rfl (lv_at hl 2 rfl) ?_
              refine mg_iald hx hb hK hM a17 (vp_in_nI (show k < 4096 by omega) (by decide)) dd_M_typeOf_75 ?_
              rw [nI_clamp (show k < 2 ^ 31 by omega)]
              obtain ⟨hg1, hg2⟩ := hc9 (by simp [k_isCall, c1, c2, c3, c4, c5, eq_true c6])
              rw [hg1]
              refine mg_iald hx hb hK hM a2 (vp_in_nI (show t9 < 64 by omega) (by decide)) dd_M_typeOf_76 ?_
              rw [nI_clamp (show t9 < 2 ^ 31 by omega)]
              rw [(hD t9 (show t9 < nd by omega)).2.2.1]
              exact mr_i hx hb hr hlocks rfl (by simp [bI, m_tyK, c1, c2, c3, c4, c5, eq_true c6]) dd_M_typeOf_77
            · refine lv_iload_n hx hb dd_M_typeOf_54 rfl (lv_at hl 0 rfl) ?_
              refine lv_bipush (v := 15) hx hb dd_M_typeOf_55 (by decide) ?_
              refine lv_icmp_eq (tgt := 66) hx hb dd_M_typeOf_57 (by decide) (fun c7 => ?_) (fun c7 => ?_)
              · refine lv_aload_n hx hb dd_M_typeOf_66 rfl (lv_at hl 1 rfl) ?_
                refine mg_get hx hb ht ii_M hown hK hM my rfl 4 (by decide) wd_2_217 (fun _ h => h) rfl dd_M_typeOf_67 ?_
                refine lv_aload_n hx hb dd_M_typeOf_70 rfl (lv_at hl 1 rfl) ?_
                refine mg_get hx hb ht ii_M hown hK hM my rfl 20 (by decide) wd_2_233 (fun _ h => h) rfl dd_M_typeOf_71 ?_
                refine lv_iload_n hx hb dd_M_typeOf_74 rfl (lv_at hl 2 rfl) ?_
                refine mg_iald hx hb hK hM a17 (vp_in_nI (show k < 4096 by omega) (by decide)) dd_M_typeOf_75 ?_
                rw [nI_clamp (show k < 2 ^ 31 by omega)]
                obtain ⟨hg1, hg2⟩ := hc9 (by simp [k_isCall, c1, c2, c3, c4, c5, c6, eq_true c7])
                rw [hg1]
                refine mg_iald hx hb hK hM a2 (vp_in_nI (show t9 < 64 by omega) (by decide)) dd_M_typeOf_76 ?_
                rw [nI_clamp (show t9 < 2 ^ 31 by omega)]
                rw [(hD t9 (show t9 < nd by omega)).2.2.1]
                exact mr_i hx hb hr hlocks rfl (by simp [bI, m_tyK, c1, c2, c3, c4, c5, c6, eq_true c7]) dd_M_typeOf_77
              · refine lv_iload_n hx hb dd_M_typeOf_60 rfl (lv_at hl 0 rfl) ?_
                refine lv_bipush (v := 23) hx hb dd_M_typeOf_61 (by decide) ?_
                refine lv_icmp_ne (tgt := 78) hx hb dd_M_typeOf_63 (by decide) (fun c8 => ?_) (fun c8 => ?_)
                · refine lv_iload_n hx hb dd_M_typeOf_78 rfl (lv_at hl 0 rfl) ?_
                  refine lv_bipush (v := 16) hx hb dd_M_typeOf_79 (by decide) ?_
                  refine lv_icmp_ne (tgt := 88) hx hb dd_M_typeOf_81 (by decide) (fun c9 => ?_) (fun c9 => ?_)
                  · refine lv_iload_n hx hb dd_M_typeOf_88 rfl (lv_at hl 0 rfl) ?_
                    refine lv_bipush (v := 17) hx hb dd_M_typeOf_89 (by decide) ?_
                    refine lv_icmp_ne (tgt := 98) hx hb dd_M_typeOf_91 (by decide) (fun c10 => ?_) (fun c10 => ?_)
                    · refine lv_aload_n hx hb dd_M_typeOf_98 rfl (lv_at hl 1 rfl) ?_
                      refine mg_get hx hb ht ii_M hown hK hM my rfl 18 (by decide) wd_2_231 (fun _ h => h) rfl dd_M_typeOf_99 ?_
                      refine lv_aload_n hx hb dd_M_typeOf_102 rfl (lv_at hl 1 rfl) ?_
                      refine lv_iload_n hx hb dd_M_typeOf_103 rfl (lv_at hl 2 rfl) ?_
                      refine lv_aload_n hx hb dd_M_typeOf_104 rfl (lv_at hl 1 rfl) ?_
                      refine mg_get hx hb ht ii_M hown hK hM my rfl 13 (by decide) wd_2_226 (fun _ h => h) rfl dd_M_typeOf_105 ?_
                      refine lv_iload_n hx hb dd_M_typeOf_108 rfl (lv_at hl 2 rfl) ?_
                      refine mg_iald hx hb hK hM a10 (vp_in_nI (show k < 4096 by omega) (by decide)) dd_M_typeOf_109 ?_
                      rw [nI_clamp (show k < 2 ^ 31 by omega)]
                      rw [(hN k (show k < nn by omega)).2.2.2.1]
                      refine lv_iconst (v := 1) hx hb dd_M_typeOf_110 (by decide) ?_
                      refine lv_isub hx hb dd_M_typeOf_111 ?_
                      have hpt9 := hl9 (by simp [m_useLast, c1, c2, c3, c4, c5, c6, c7, c8, c9, c10])
                      have hlt9 := (m_part_lt _ _ _ hpt9).2
                      refine mc_V (As := [.int (nI k), .int ((n_pt (N k)) - 1)]) (rest := [.ref (b + 15)]) 2 (cc_M_partOf hR hD hN (k := k) (by omega) hpt9) hx hb hml hown ht hM hK hl.1 lk_M_133 (by decide +kernel) (by decide) my rfl rfl rfl (Nat.le_of_ble_eq_true rfl) dd_M_typeOf_112 ⟨Nat.zero_le _, Nat.zero_le _⟩ ?_
                      refine mg_iald hx hb hK hM a15 (vp_in_nI (show i9 < 4096 by omega) (by decide)) dd_M_typeOf_115 ?_
                      rw [nI_clamp (show i9 < 2 ^ 31 by omega)]
                      exact mr_i hx hb hr hlocks rfl (by simp [bI, m_tyK, c1, c2, c3, c4, c5, c6, c7, c8, c9, c10]) dd_M_typeOf_116
                    · refine lv_iconst (v := 3) hx hb dd_M_typeOf_94 (by decide) ?_
                      refine lv_goto (tgt := 116) hx hb dd_M_typeOf_95 (by decide) ?_
                      exact mr_i hx hb hr hlocks rfl (by simp [bI, m_tyK, c1, c2, c3, c4, c5, c6, c7, c8, c9, eq_true c10]) dd_M_typeOf_116
                  · refine lv_iconst (v := 2) hx hb dd_M_typeOf_84 (by decide) ?_
                    refine lv_goto (tgt := 116) hx hb dd_M_typeOf_85 (by decide) ?_
                    exact mr_i hx hb hr hlocks rfl (by simp [bI, m_tyK, c1, c2, c3, c4, c5, c6, c7, c8, eq_true c9]) dd_M_typeOf_116
                · refine lv_aload_n hx hb dd_M_typeOf_66 rfl (lv_at hl 1 rfl) ?_
                  refine mg_get hx hb ht ii_M hown hK hM my rfl 4 (by decide) wd_2_217 (fun _ h => h) rfl dd_M_typeOf_67 ?_
                  refine lv_aload_n hx hb dd_M_typeOf_70 rfl (lv_at hl 1 rfl) ?_
                  refine mg_get hx hb ht ii_M hown hK hM my rfl 20 (by decide) wd_2_233 (fun _ h => h) rfl dd_M_typeOf_71 ?_
                  refine lv_iload_n hx hb dd_M_typeOf_74 rfl (lv_at hl 2 rfl) ?_
                  refine mg_iald hx hb hK hM a17 (vp_in_nI (show k < 4096 by omega) (by decide)) dd_M_typeOf_75 ?_
                  rw [nI_clamp (show k < 2 ^ 31 by omega)]
                  obtain ⟨hg1, hg2⟩ := hc9 (by simp [k_isCall, c1, c2, c3, c4, c5, c6, c7, eq_true c8])
                  rw [hg1]
                  refine mg_iald hx hb hK hM a2 (vp_in_nI (show t9 < 64 by omega) (by decide)) dd_M_typeOf_76 ?_
                  rw [nI_clamp (show t9 < 2 ^ 31 by omega)]
                  rw [(hD t9 (show t9 < nd by omega)).2.2.1]
                  exact mr_i hx hb hr hlocks rfl (by simp [bI, m_tyK, c1, c2, c3, c4, c5, c6, c7, eq_true c8]) dd_M_typeOf_77
          · refine lv_iconst (v := 1) hx hb dd_M_typeOf_46 (by decide) ?_
            exact mr_i hx hb hr hlocks rfl (by simp [bI, m_tyK, c1, c2, c3, c4, eq_true c5]) dd_M_typeOf_47
      · refine lv_iload_n hx hb dd_M_typeOf_27 rfl (lv_at hl 0 rfl) ?_
        refine lv_bipush (v := 9) hx hb dd_M_typeOf_28 (by decide) ?_
        refine lv_icmp_gt (tgt := 35) hx hb dd_M_typeOf_30 (by decide) (fun c11 => ?_) (fun c11 => ?_)
        · refine lv_iload_n hx hb dd_M_typeOf_35 rfl (lv_at hl 0 rfl) ?_
          refine lv_iconst (v := 2) hx hb dd_M_typeOf_36 (by decide) ?_
          refine lv_icmp_eq (tgt := 46) hx hb dd_M_typeOf_37 (by decide) (fun c12 => ?_) (fun c12 => ?_)
          · refine lv_iconst (v := 1) hx hb dd_M_typeOf_46 (by decide) ?_
            exact mr_i hx hb hr hlocks rfl (by simp [bI, m_tyK, c1, c2, c3, c11, eq_true c12]) dd_M_typeOf_47
          · refine lv_iload_n hx hb dd_M_typeOf_40 rfl (lv_at hl 0 rfl) ?_
            refine lv_bipush (v := 13) hx hb dd_M_typeOf_41 (by decide) ?_
            refine lv_icmp_ne (tgt := 48) hx hb dd_M_typeOf_43 (by decide) (fun c13 => ?_) (fun c13 => ?_)
            · refine lv_iload_n hx hb dd_M_typeOf_48 rfl (lv_at hl 0 rfl) ?_
              refine lv_bipush (v := 14) hx hb dd_M_typeOf_49 (by decide) ?_
              refine lv_icmp_eq (tgt := 66) hx hb dd_M_typeOf_51 (by decide) (fun c14 => ?_) (fun c14 => ?_)
              · refine lv_aload_n hx hb dd_M_typeOf_66 rfl (lv_at hl 1 rfl) ?_
                refine mg_get hx hb ht ii_M hown hK hM my rfl 4 (by decide) wd_2_217 (fun _ h => h) rfl dd_M_typeOf_67 ?_
                refine lv_aload_n hx hb dd_M_typeOf_70 rfl (lv_at hl 1 rfl) ?_
                refine mg_get hx hb ht ii_M hown hK hM my rfl 20 (by decide) wd_2_233 (fun _ h => h) rfl dd_M_typeOf_71 ?_
                refine lv_iload_n hx hb dd_M_typeOf_74 rfl (lv_at hl 2 rfl) ?_
                refine mg_iald hx hb hK hM a17 (vp_in_nI (show k < 4096 by omega) (by decide)) dd_M_typeOf_75 ?_
                rw [nI_clamp (show k < 2 ^ 31 by omega)]
                obtain ⟨hg1, hg2⟩ := hc9 (by simp [k_isCall, c1, c2, c3, c11, c12, c13, eq_true c14])
                rw [hg1]
                refine mg_iald hx hb hK hM a2 (vp_in_nI (show t9 < 64 by omega) (by decide)) dd_M_typeOf_76 ?_
                rw [nI_clamp (show t9 < 2 ^ 31 by omega)]
                rw [(hD t9 (show t9 < nd by omega)).2.2.1]
                exact mr_i hx hb hr hlocks rfl (by simp [bI, m_tyK, c1, c2, c3, c11, c12, c13, eq_true c14]) dd_M_typeOf_77
              · refine lv_iload_n hx hb dd_M_typeOf_54 rfl (lv_at hl 0 rfl) ?_
                refine lv_bipush (v := 15) hx hb dd_M_typeOf_55 (by decide) ?_
                refine lv_icmp_eq (tgt := 66) hx hb dd_M_typeOf_57 (by decide) (fun c15 => ?_) (fun c15 => ?_)
                · refine lv_aload_n hx hb dd_M_typeOf_66 rfl (lv_at hl 1 rfl) ?_
                  refine mg_get hx hb ht ii_M hown hK hM my rfl 4 (by decide) wd_2_217 (fun _ h => h) rfl dd_M_typeOf_67 ?_
                  refine lv_aload_n hx hb dd_M_typeOf_70 rfl (lv_at hl 1 rfl) ?_
                  refine mg_get hx hb ht ii_M hown hK hM my rfl 20 (by decide) wd_2_233 (fun _ h => h) rfl dd_M_typeOf_71 ?_
                  refine lv_iload_n hx hb dd_M_typeOf_74 rfl (lv_at hl 2 rfl) ?_
                  refine mg_iald hx hb hK hM a17 (vp_in_nI (show k < 4096 by omega) (by decide)) dd_M_typeOf_75 ?_
                  rw [nI_clamp (show k < 2 ^ 31 by omega)]
                  obtain ⟨hg1, hg2⟩ := hc9 (by simp [k_isCall, c1, c2, c3, c11, c12, c13, c14, eq_true c15])
                  rw [hg1]
                  refine mg_iald hx hb hK hM a2 (vp_in_nI (show t9 < 64 by omega) (by decide)) dd_M_typeOf_76 ?_
                  rw [nI_clamp (show t9 < 2 ^ 31 by omega)]
                  rw [(hD t9 (show t9 < nd by omega)).2.2.1]
                  exact mr_i hx hb hr hlocks rfl (by simp [bI, m_tyK, c1, c2, c3, c11, c12, c13, c14, eq_true c15]) dd_M_typeOf_77
                · refine lv_iload_n hx hb dd_M_typeOf_60 rfl (lv_at hl 0 rfl) ?_
                  refine lv_bipush (v := 23) hx hb dd_M_typeOf_61 (by decide) ?_
                  refine lv_icmp_ne (tgt := 78) hx hb dd_M_typeOf_63 (by decide) (fun c16 => ?_) (fun c16 => ?_)
                  · refine lv_iload_n hx hb dd_M_typeOf_78 rfl (lv_at hl 0 rfl) ?_
                    refine lv_bipush (v := 16) hx hb dd_M_typeOf_79 (by decide) ?_
                    refine lv_icmp_ne (tgt := 88) hx hb dd_M_typeOf_81 (by decide) (fun c17 => ?_) (fun c17 => ?_)
                    · refine lv_iload_n hx hb dd_M_typeOf_88 rfl (lv_at hl 0 rfl) ?_
                      refine lv_bipush (v := 17) hx hb dd_M_typeOf_89 (by decide) ?_
                      refine lv_icmp_ne (tgt := 98) hx hb dd_M_typeOf_91 (by decide) (fun c18 => ?_) (fun c18 => ?_)
                      · refine lv_aload_n hx hb dd_M_typeOf_98 rfl (lv_at hl 1 rfl) ?_
                        refine mg_get hx hb ht ii_M hown hK hM my rfl 18 (by decide) wd_2_231 (fun _ h => h) rfl dd_M_typeOf_99 ?_
                        refine lv_aload_n hx hb dd_M_typeOf_102 rfl (lv_at hl 1 rfl) ?_
                        refine lv_iload_n hx hb dd_M_typeOf_103 rfl (lv_at hl 2 rfl) ?_
                        refine lv_aload_n hx hb dd_M_typeOf_104 rfl (lv_at hl 1 rfl) ?_
                        refine mg_get hx hb ht ii_M hown hK hM my rfl 13 (by decide) wd_2_226 (fun _ h => h) rfl dd_M_typeOf_105 ?_
                        refine lv_iload_n hx hb dd_M_typeOf_108 rfl (lv_at hl 2 rfl) ?_
                        refine mg_iald hx hb hK hM a10 (vp_in_nI (show k < 4096 by omega) (by decide)) dd_M_typeOf_109 ?_
                        rw [nI_clamp (show k < 2 ^ 31 by omega)]
                        rw [(hN k (show k < nn by omega)).2.2.2.1]
                        refine lv_iconst (v := 1) hx hb dd_M_typeOf_110 (by decide) ?_
                        refine lv_isub hx hb dd_M_typeOf_111 ?_
                        have hpt9 := hl9 (by simp [m_useLast, c1, c2, c3, c11, c12, c13, c14, c15, c16, c17, c18])
                        have hlt9 := (m_part_lt _ _ _ hpt9).2
                        refine mc_V (As := [.int (nI k), .int ((n_pt (N k)) - 1)]) (rest := [.ref (b + 15)]) 2 (cc_M_partOf hR hD hN (k := k) (by omega) hpt9) hx hb hml hown ht hM hK hl.1 lk_M_133 (by decide +kernel) (by decide) my rfl rfl rfl (Nat.le_of_ble_eq_true rfl) dd_M_typeOf_112 ⟨Nat.zero_le _, Nat.zero_le _⟩ ?_
                        refine mg_iald hx hb hK hM a15 (vp_in_nI (show i9 < 4096 by omega) (by decide)) dd_M_typeOf_115 ?_
                        rw [nI_clamp (show i9 < 2 ^ 31 by omega)]
                        exact mr_i hx hb hr hlocks rfl (by simp [bI, m_tyK, c1, c2, c3, c11, c12, c13, c14, c15, c16, c17, c18]) dd_M_typeOf_116
                      · refine lv_iconst (v := 3) hx hb dd_M_typeOf_94 (by decide) ?_
                        refine lv_goto (tgt := 116) hx hb dd_M_typeOf_95 (by decide) ?_
                        exact mr_i hx hb hr hlocks rfl (by simp [bI, m_tyK, c1, c2, c3, c11, c12, c13, c14, c15, c16, c17, eq_true c18]) dd_M_typeOf_116
                    · refine lv_iconst (v := 2) hx hb dd_M_typeOf_84 (by decide) ?_
                      refine lv_goto (tgt := 116) hx hb dd_M_typeOf_85 (by decide) ?_
                      exact mr_i hx hb hr hlocks rfl (by simp [bI, m_tyK, c1, c2, c3, c11, c12, c13, c14, c15, c16, eq_true c17]) dd_M_typeOf_116
                  · refine lv_aload_n hx hb dd_M_typeOf_66 rfl (lv_at hl 1 rfl) ?_
                    refine mg_get hx hb ht ii_M hown hK hM my rfl 4 (by decide) wd_2_217 (fun _ h => h) rfl dd_M_typeOf_67 ?_
                    refine lv_aload_n hx hb dd_M_typeOf_70 rfl (lv_at hl 1 rfl) ?_
                    refine mg_get hx hb ht ii_M hown hK hM my rfl 20 (by decide) wd_2_233 (fun _ h => h) rfl dd_M_typeOf_71 ?_
                    refine lv_iload_n hx hb dd_M_typeOf_74 rfl (lv_at hl 2 rfl) ?_
                    refine mg_iald hx hb hK hM a17 (vp_in_nI (show k < 4096 by omega) (by decide)) dd_M_typeOf_75 ?_
                    rw [nI_clamp (show k < 2 ^ 31 by omega)]
                    obtain ⟨hg1, hg2⟩ := hc9 (by simp [k_isCall, c1, c2, c3, c11, c12, c13, c14, c15, eq_true c16])
                    rw [hg1]
                    refine mg_iald hx hb hK hM a2 (vp_in_nI (show t9 < 64 by omega) (by decide)) dd_M_typeOf_76 ?_
                    rw [nI_clamp (show t9 < 2 ^ 31 by omega)]
                    rw [(hD t9 (show t9 < nd by omega)).2.2.1]
                    exact mr_i hx hb hr hlocks rfl (by simp [bI, m_tyK, c1, c2, c3, c11, c12, c13, c14, c15, eq_true c16]) dd_M_typeOf_77
            · refine lv_iconst (v := 1) hx hb dd_M_typeOf_46 (by decide) ?_
              exact mr_i hx hb hr hlocks rfl (by simp [bI, m_tyK, c1, c2, c3, c11, c12, eq_true c13]) dd_M_typeOf_47
        · refine lv_iconst (v := 0) hx hb dd_M_typeOf_33 (by decide) ?_
          exact mr_i hx hb hr hlocks rfl (by simp [bI, m_tyK, c1, c2, c3, c11]) dd_M_typeOf_34
  · refine lv_aload_n hx hb dd_M_typeOf_12 rfl (lv_at hl 1 rfl) ?_
    refine lv_iload_n hx hb dd_M_typeOf_13 rfl (lv_at hl 2 rfl) ?_
    refine mc_V (As := [.int (nI k)]) (rest := []) 1 (cc_M_typeOfVariable hR hD hN hk (hv c1).1 (hv c1).2.1 (hv c1).2.2) hx hb hml hown ht hM hK hl.1 lk_M_136 (by decide +kernel) (by decide) my rfl rfl rfl (Nat.le_of_ble_eq_true rfl) dd_M_typeOf_14 ⟨Nat.zero_le _, Nat.zero_le _⟩ ?_
    exact mr_i hx hb hr hlocks rfl (by simp [bI, m_tyK, eq_true c1]) dd_M_typeOf_17

set_option maxHeartbeats 4000000 in
set_option maxRecDepth 100000 in
theorem cc_M_canStand {l : Launch} {G : gC} {M : mC} {y b nd nn : Nat} {I : Nat → Nat → Int32} {J : Nat → Nat → Int64} {Z : Nat → Int32} {kn : Bool} {ft fn mo th : Int32} (hR : rm G M y b nd nn I J Z kn ft fn mo th) {D : Nat → dR} {N : Nat → nR} {pn : Nat → Nat → Int64} {pt : Nat → Nat → Int32} {np bg ho : Nat → Nat} {pa : Nat → Option Nat} (hD : tD nd D pn pt np bg I J Z) (hN : tN nd nn N ho pa I J) {k : Nat} (hk : k < nn) {ty : Int32} {t9 q9 i9 : Nat} (hc9 : ∀ o, pa k = some o → ¬ 0 ≤ m_due (n_kd (N o)) → I 17 o = nI t9 ∧ t9 < nd ∧ n_pl (N k) = nI q9 ∧ q9 < np t9) (hl9 : ∀ o, pa k = some o → 0 ≤ m_due (n_kd (N o)) → 9 < n_kd (N o) → n_kd (N o) ≠ 13 → n_kd (N o) ≠ 18 → n_pl (N k) ≠ 0 → n_pl (N k) ≠ 1 → n_kd (N o) ≠ 11 → n_kd (N o) ≠ 16 → n_kd (N o) ≠ 17 → n_kd (N o) ≠ 19 → n_kd (N o) ≠ 21 → m_pt N pa nn o 1 = some i9) : cR l yy_M_canStand bb_M_canStand 6 (some .boolean) 1 G M [.ref y, .int (nI k), .int ty] (.int (bI (m_std D N ho pa k ty (pt t9 q9) (I 15 i9)))) := by
  refine me_R (by decide) (Nat.le_of_ble_eq_true rfl) ?_
  intro p e s m below meth c ls hx hb hr hlocks hml hown ht hM hK hl
  have hown : s.vm.findClass RR_M = some m.cls := hown
  have hl : lv_has ls 6 [(0, .ref y), (1, .int (nI k)), (2, .int ty)] := hl
  obtain ⟨hyb, my, hA9, hnd, hnn⟩ := id hR
  obtain ⟨a0, a1, a2, a3, a4, a5, a6, a7, a8, a9, a10, a11, a12, a13, a14, a15, a16, a17⟩ := id hA9
  refine lv_aload_n hx hb dd_M_canStand_0 rfl (lv_at hl 0 rfl) ?_
  refine mg_get hx hb ht ii_M hown hK hM my rfl 14 (by decide) wd_2_227 (fun _ h => h) rfl dd_M_canStand_1 ?_
  refine lv_iload_n hx hb dd_M_canStand_4 rfl (lv_at hl 1 rfl) ?_
  refine mg_iald hx hb hK hM a11 (vp_in_nI (show k < 4096 by omega) (by decide)) dd_M_canStand_5 ?_
  rw [nI_clamp (show k < 2 ^ 31 by omega)]
  rw [(hN k (show k < nn by omega)).2.2.2.2.1]
  rcases hp1 : pa k with _ | p1
  · rw [cn_none]
    refine lv_istore_n (lv' := [(3, .int (-1)), (0, .ref y), (1, .int (nI k)), (2, .int ty)]) hx hb dd_M_canStand_6 rfl hl (by decide) rfl (fun ls hl => ?_)
    refine lv_iload_n hx hb dd_M_canStand_7 rfl (lv_at hl 0 rfl) ?_
    refine lv_if_ge (tgt := 32) hx hb dd_M_canStand_8 (by decide) (fun z => absurd z (by decide)) (fun _ => ?_)
    refine lv_iload_n hx hb dd_M_canStand_11 rfl (lv_at hl 3 rfl) ?_
    refine lv_aload_n hx hb dd_M_canStand_12 rfl (lv_at hl 1 rfl) ?_
    refine mg_get hx hb ht ii_M hown hK hM my rfl 4 (by decide) wd_2_217 (fun _ h => h) rfl dd_M_canStand_13 ?_
    refine lv_aload_n hx hb dd_M_canStand_16 rfl (lv_at hl 1 rfl) ?_
    refine mg_get hx hb ht ii_M hown hK hM my rfl 16 (by decide) wd_2_229 (fun _ h => h) rfl dd_M_canStand_17 ?_
    refine lv_iload_n hx hb dd_M_canStand_20 rfl (lv_at hl 2 rfl) ?_
    refine mg_iald hx hb hK hM a13 (vp_in_nI (show k < 4096 by omega) (by decide)) dd_M_canStand_21 ?_
    rw [nI_clamp (show k < 2 ^ 31 by omega)]
    rw [(hN k (show k < nn by omega)).2.2.2.2.2.2.1]
    have hho := (hN k (show k < nn by omega)).2.2.2.2.2.2.2.2.1
    refine mg_iald hx hb hK hM a2 (vp_in_nI (show (ho k) < 64 by omega) (by decide)) dd_M_canStand_22 ?_
    rw [nI_clamp (show (ho k) < 2 ^ 31 by omega)]
    rw [(hD (ho k) (show (ho k) < nd by omega)).2.2.1]
    refine lv_icmp_ne (tgt := 30) hx hb dd_M_canStand_23 (by decide) (fun c2 => ?_) (fun c2 => ?_)
    · refine lv_iconst (v := 0) hx hb dd_M_canStand_30 (by decide) ?_
      exact mr_i hx hb hr hlocks rfl (by simp [bI, m_std, m_in, hp1, c2]) dd_M_canStand_31
    · refine lv_iconst (v := 1) hx hb dd_M_canStand_26 (by decide) ?_
      refine lv_goto (tgt := 31) hx hb dd_M_canStand_27 (by decide) ?_
      exact mr_i hx hb hr hlocks rfl (by simp [bI, m_std, m_in, hp1, eq_true c2]) dd_M_canStand_31
  · rw [cn_some]
    have hlp1 := (hN k (show k < nn by omega)).2.2.2.2.2.2.2.2.2 p1 hp1
    refine lv_istore_n (lv' := [(3, .int (nI p1)), (0, .ref y), (1, .int (nI k)), (2, .int ty)]) hx hb dd_M_canStand_6 rfl hl (by decide) rfl (fun ls hl => ?_)
    refine lv_iload_n hx hb dd_M_canStand_7 rfl (lv_at hl 0 rfl) ?_
    refine lv_if_ge (tgt := 32) hx hb dd_M_canStand_8 (by decide) (fun _ => ?_) (fun z => absurd (nI_pos' (by omega)) z)
    refine lv_aload_n hx hb dd_M_canStand_32 rfl (lv_at hl 1 rfl) ?_
    refine mg_get hx hb ht ii_M hown hK hM my rfl 15 (by decide) wd_2_228 (fun _ h => h) rfl dd_M_canStand_33 ?_
    refine lv_iload_n hx hb dd_M_canStand_36 rfl (lv_at hl 2 rfl) ?_
    refine mg_iald hx hb hK hM a12 (vp_in_nI (show k < 4096 by omega) (by decide)) dd_M_canStand_37 ?_
    rw [nI_clamp (show k < 2 ^ 31 by omega)]
    rw [(hN k (show k < nn by omega)).2.2.2.2.2.1]
    refine lv_istore (lv' := [(4, .int (n_pl (N k))), (3, .int (nI p1)), (0, .ref y), (1, .int (nI k)), (2, .int ty)]) hx hb dd_M_canStand_38 hl (by decide) rfl (fun ls hl => ?_)
    refine lv_aload_n hx hb dd_M_canStand_40 rfl (lv_at hl 2 rfl) ?_
    refine mg_get hx hb ht ii_M hown hK hM my rfl 10 (by decide) wd_2_223 (fun _ h => h) rfl dd_M_canStand_41 ?_
    refine lv_iload_n hx hb dd_M_canStand_44 rfl (lv_at hl 1 rfl) ?_
    refine mg_iald hx hb hK hM a7 (vp_in_nI (show p1 < 4096 by omega) (by decide)) dd_M_canStand_45 ?_
    rw [nI_clamp (show p1 < 2 ^ 31 by omega)]
    rw [(hN p1 (show p1 < nn by omega)).1]
    refine lv_istore (lv' := [(5, .int (n_kd (N p1))), (4, .int (n_pl (N k))), (3, .int (nI p1)), (0, .ref y), (1, .int (nI k)), (2, .int ty)]) hx hb dd_M_canStand_46 hl (by decide) rfl (fun ls hl => ?_)
    refine lv_iload hx hb dd_M_canStand_48 (lv_at hl 0 rfl) ?_
    refine mc_S (As := [.int (n_kd (N p1))]) (rest := []) 1 (cc_M_due (k := (n_kd (N p1)))) hx hb hml hown ht hM hK hl.1 lk_M_101 (by decide +kernel) (by decide) rfl rfl (Nat.le_of_ble_eq_true rfl) dd_M_canStand_50 ⟨Nat.zero_le _, Nat.zero_le _⟩ ?_
    refine lv_if_ge (tgt := 83) hx hb dd_M_canStand_53 (by decide) (fun c3 => ?_) (fun c3 => ?_)
    · refine lv_iload hx hb dd_M_canStand_83 (lv_at hl 0 rfl) ?_
      refine lv_bipush (v := 9) hx hb dd_M_canStand_85 (by decide) ?_
      refine lv_icmp_gt (tgt := 100) hx hb dd_M_canStand_87 (by decide) (fun c4 => ?_) (fun c4 => ?_)
      · refine lv_iload hx hb dd_M_canStand_100 (lv_at hl 0 rfl) ?_
        by_cases c6 : (n_kd (N p1)) = 11
        · refine lv_tableIn (tgt := 228) hx hb dd_M_canStand_102 (by rw [c6]; decide) (by rw [c6]; decide) (by rw [c6]; rfl) (by decide) ?_
          refine lv_iconst (v := 1) hx hb dd_M_canStand_228 (by decide) ?_
          exact mr_i hx hb hr hlocks rfl (by simp [bI, m_std, m_in, hp1, c3, c4, eq_true c6]) dd_M_canStand_229
        by_cases c7 : (n_kd (N p1)) = 13
        · refine lv_tableIn (tgt := 160) hx hb dd_M_canStand_102 (by rw [c7]; decide) (by rw [c7]; decide) (by rw [c7]; rfl) (by decide) ?_
          refine lv_iload_n hx hb dd_M_canStand_160 rfl (lv_at hl 5 rfl) ?_
          refine lv_iload hx hb dd_M_canStand_161 (lv_at hl 1 rfl) ?_
          refine lv_if_ne (tgt := 170) hx hb dd_M_canStand_163 (by decide) (fun c8 => ?_) (fun c8 => ?_)
          · refine lv_iconst (v := 3) hx hb dd_M_canStand_170 (by decide) ?_
            refine lv_icmp_ne (tgt := 178) hx hb dd_M_canStand_171 (by decide) (fun c9 => ?_) (fun c9 => ?_)
            · refine lv_iconst (v := 0) hx hb dd_M_canStand_178 (by decide) ?_
              exact mr_i hx hb hr hlocks rfl (by simp [bI, m_std, m_in, hp1, c3, c4, c6, eq_true c7, c8, c9]) dd_M_canStand_179
            · refine lv_iconst (v := 1) hx hb dd_M_canStand_174 (by decide) ?_
              refine lv_goto (tgt := 179) hx hb dd_M_canStand_175 (by decide) ?_
              exact mr_i hx hb hr hlocks rfl (by simp [bI, m_std, m_in, hp1, c3, c4, c6, eq_true c7, c8, eq_true c9]) dd_M_canStand_179
          · refine lv_iconst (v := 0) hx hb dd_M_canStand_166 (by decide) ?_
            refine lv_goto (tgt := 171) hx hb dd_M_canStand_167 (by decide) ?_
            refine lv_icmp_ne (tgt := 178) hx hb dd_M_canStand_171 (by decide) (fun c10 => ?_) (fun c10 => ?_)
            · refine lv_iconst (v := 0) hx hb dd_M_canStand_178 (by decide) ?_
              exact mr_i hx hb hr hlocks rfl (by simp [bI, m_std, m_in, hp1, c3, c4, c6, eq_true c7, eq_true c8, c10]) dd_M_canStand_179
            · refine lv_iconst (v := 1) hx hb dd_M_canStand_174 (by decide) ?_
              refine lv_goto (tgt := 179) hx hb dd_M_canStand_175 (by decide) ?_
              exact mr_i hx hb hr hlocks rfl (by simp [bI, m_std, m_in, hp1, c3, c4, c6, eq_true c7, eq_true c8, eq_true c10]) dd_M_canStand_179
        by_cases c11 : (n_kd (N p1)) = 16
        · refine lv_tableIn (tgt := 180) hx hb dd_M_canStand_102 (by rw [c11]; decide) (by rw [c11]; decide) (by rw [c11]; rfl) (by decide) ?_
          refine lv_iload_n hx hb dd_M_canStand_180 rfl (lv_at hl 5 rfl) ?_
          refine lv_if_ne (tgt := 188) hx hb dd_M_canStand_181 (by decide) (fun c12 => ?_) (fun c12 => ?_)
          · refine lv_iconst (v := 0) hx hb dd_M_canStand_188 (by decide) ?_
            exact mr_i hx hb hr hlocks rfl (by simp [bI, m_std, m_in, hp1, c3, c4, c6, c7, eq_true c11, c12]) dd_M_canStand_189
          · refine lv_iconst (v := 1) hx hb dd_M_canStand_184 (by decide) ?_
            refine lv_goto (tgt := 189) hx hb dd_M_canStand_185 (by decide) ?_
            exact mr_i hx hb hr hlocks rfl (by simp [bI, m_std, m_in, hp1, c3, c4, c6, c7, eq_true c11, eq_true c12]) dd_M_canStand_189
        by_cases c13 : (n_kd (N p1)) = 17
        · refine lv_tableIn (tgt := 190) hx hb dd_M_canStand_102 (by rw [c13]; decide) (by rw [c13]; decide) (by rw [c13]; rfl) (by decide) ?_
          refine lv_iload_n hx hb dd_M_canStand_190 rfl (lv_at hl 5 rfl) ?_
          refine lv_iconst (v := 1) hx hb dd_M_canStand_191 (by decide) ?_
          refine lv_icmp_ne (tgt := 199) hx hb dd_M_canStand_192 (by decide) (fun c14 => ?_) (fun c14 => ?_)
          · refine lv_iconst (v := 0) hx hb dd_M_canStand_199 (by decide) ?_
            exact mr_i hx hb hr hlocks rfl (by simp [bI, m_std, m_in, hp1, c3, c4, c6, c7, c11, eq_true c13, c14]) dd_M_canStand_200
          · refine lv_iconst (v := 1) hx hb dd_M_canStand_195 (by decide) ?_
            refine lv_goto (tgt := 200) hx hb dd_M_canStand_196 (by decide) ?_
            exact mr_i hx hb hr hlocks rfl (by simp [bI, m_std, m_in, hp1, c3, c4, c6, c7, c11, eq_true c13, eq_true c14]) dd_M_canStand_200
        by_cases c15 : (n_kd (N p1)) = 18
        · refine lv_tableIn (tgt := 201) hx hb dd_M_canStand_102 (by rw [c15]; decide) (by rw [c15]; decide) (by rw [c15]; rfl) (by decide) ?_
          refine lv_iload hx hb dd_M_canStand_201 (lv_at hl 1 rfl) ?_
          refine lv_if_gt (tgt := 211) hx hb dd_M_canStand_203 (by decide) (fun c16 => ?_) (fun c16 => ?_)
          · refine lv_iconst (v := 1) hx hb dd_M_canStand_211 (by decide) ?_
            refine lv_goto (tgt := 216) hx hb dd_M_canStand_212 (by decide) ?_
            exact mr_i hx hb hr hlocks rfl (by simp [bI, m_std, m_in, hp1, c3, c4, c6, c7, c11, c13, eq_true c15, c16]) dd_M_canStand_216
          · refine lv_iload_n hx hb dd_M_canStand_206 rfl (lv_at hl 5 rfl) ?_
            refine lv_iconst (v := 1) hx hb dd_M_canStand_207 (by decide) ?_
            refine lv_icmp_le (tgt := 215) hx hb dd_M_canStand_208 (by decide) (fun c17 => ?_) (fun c17 => ?_)
            · refine lv_iconst (v := 0) hx hb dd_M_canStand_215 (by decide) ?_
              exact mr_i hx hb hr hlocks rfl (by simp [bI, m_std, m_in, hp1, c3, c4, c6, c7, c11, c13, eq_true c15, c16, c17]) dd_M_canStand_216
            · refine lv_iconst (v := 1) hx hb dd_M_canStand_211 (by decide) ?_
              refine lv_goto (tgt := 216) hx hb dd_M_canStand_212 (by decide) ?_
              exact mr_i hx hb hr hlocks rfl (by simp [bI, m_std, m_in, hp1, c3, c4, c6, c7, c11, c13, eq_true c15, c16, c17]) dd_M_canStand_216
        by_cases c18 : (n_kd (N p1)) = 19
        · refine lv_tableIn (tgt := 217) hx hb dd_M_canStand_102 (by rw [c18]; decide) (by rw [c18]; decide) (by rw [c18]; rfl) (by decide) ?_
          refine lv_iload_n hx hb dd_M_canStand_217 rfl (lv_at hl 5 rfl) ?_
          refine lv_iconst (v := 2) hx hb dd_M_canStand_218 (by decide) ?_
          refine lv_icmp_ge (tgt := 226) hx hb dd_M_canStand_219 (by decide) (fun c19 => ?_) (fun c19 => ?_)
          · refine lv_iconst (v := 0) hx hb dd_M_canStand_226 (by decide) ?_
            exact mr_i hx hb hr hlocks rfl (by simp [bI, m_std, m_in, hp1, c3, c4, c6, c7, c11, c13, c15, eq_true c18, c19]) dd_M_canStand_227
          · refine lv_iconst (v := 1) hx hb dd_M_canStand_222 (by decide) ?_
            refine lv_goto (tgt := 227) hx hb dd_M_canStand_223 (by decide) ?_
            exact mr_i hx hb hr hlocks rfl (by simp [bI, m_std, m_in, hp1, c3, c4, c6, c7, c11, c13, c15, eq_true c18, c19]) dd_M_canStand_227
        by_cases c20 : (n_kd (N p1)) = 21
        · refine lv_tableIn (tgt := 228) hx hb dd_M_canStand_102 (by rw [c20]; decide) (by rw [c20]; decide) (by rw [c20]; rfl) (by decide) ?_
          refine lv_iconst (v := 1) hx hb dd_M_canStand_228 (by decide) ?_
          exact mr_i hx hb hr hlocks rfl (by simp [bI, m_std, m_in, hp1, c3, c4, c6, c7, c11, c13, c15, c18, eq_true c20]) dd_M_canStand_229
        by_cases c21 : (n_kd (N p1)) = 12
        · refine lv_tableIn (tgt := 230) hx hb dd_M_canStand_102 (by rw [c21]; decide) (by rw [c21]; decide) (by rw [c21]; rfl) (by decide) ?_
          refine lv_iload hx hb dd_M_canStand_230 (lv_at hl 1 rfl) ?_
          refine lv_if_ne (tgt := 260) hx hb dd_M_canStand_232 (by decide) (fun c22 => ?_) (fun c22 => ?_)
          · refine lv_iload hx hb dd_M_canStand_260 (lv_at hl 1 rfl) ?_
            refine lv_iconst (v := 1) hx hb dd_M_canStand_262 (by decide) ?_
            refine lv_icmp_eq (tgt := 281) hx hb dd_M_canStand_263 (by decide) (fun c23 => ?_) (fun c23 => ?_)
            · refine lv_iconst (v := 1) hx hb dd_M_canStand_281 (by decide) ?_
              refine lv_goto (tgt := 286) hx hb dd_M_canStand_282 (by decide) ?_
              exact mr_i hx hb hr hlocks rfl (by simp [bI, m_std, m_in, hp1, c3, c4, c6, c7, c11, c13, c15, c18, c20, eq_true c21, c22, eq_true c23]) dd_M_canStand_286
            · refine lv_iload_n hx hb dd_M_canStand_266 rfl (lv_at hl 5 rfl) ?_
              refine lv_aload_n hx hb dd_M_canStand_267 rfl (lv_at hl 3 rfl) ?_
              refine mg_get hx hb ht ii_M hown hK hM my rfl 18 (by decide) wd_2_231 (fun _ h => h) rfl dd_M_canStand_268 ?_
              refine lv_aload_n hx hb dd_M_canStand_271 rfl (lv_at hl 3 rfl) ?_
              refine lv_iload_n hx hb dd_M_canStand_272 rfl (lv_at hl 2 rfl) ?_
              refine lv_iconst (v := 1) hx hb dd_M_canStand_273 (by decide) ?_
              have hpt9 := hl9 p1 hp1 (by assumption) (by assumption) (by first | assumption | (rw [by assumption]; decide)) (by first | assumption | (rw [by assumption]; decide)) (by assumption) (by assumption) (by first | assumption | (rw [by assumption]; decide)) (by first | assumption | (rw [by assumption]; decide)) (by first | assumption | (rw [by assumption]; decide)) (by first | assumption | (rw [by assumption]; decide)) (by first | assumption | (rw [by assumption]; decide))
              have hlt9 := (m_part_lt _ _ _ hpt9).2
              refine mc_V (As := [.int (nI p1), .int 1]) (rest := [.ref (b + 15), .int ty]) 2 (cc_M_partOf hR hD hN (k := p1) (by omega) hpt9) hx hb hml hown ht hM hK hl.1 lk_M_133 (by decide +kernel) (by decide) my rfl rfl rfl (Nat.le_of_ble_eq_true rfl) dd_M_canStand_274 ⟨Nat.zero_le _, Nat.zero_le _⟩ ?_
              refine mg_iald hx hb hK hM a15 (vp_in_nI (show i9 < 4096 by omega) (by decide)) dd_M_canStand_277 ?_
              rw [nI_clamp (show i9 < 2 ^ 31 by omega)]
              refine lv_icmp_ne (tgt := 285) hx hb dd_M_canStand_278 (by decide) (fun c24 => ?_) (fun c24 => ?_)
              · refine lv_iconst (v := 0) hx hb dd_M_canStand_285 (by decide) ?_
                exact mr_i hx hb hr hlocks rfl (by simp [bI, m_std, m_in, hp1, c3, c4, c6, c7, c11, c13, c15, c18, c20, eq_true c21, c22, c23, c24]) dd_M_canStand_286
              · refine lv_iconst (v := 1) hx hb dd_M_canStand_281 (by decide) ?_
                refine lv_goto (tgt := 286) hx hb dd_M_canStand_282 (by decide) ?_
                exact mr_i hx hb hr hlocks rfl (by simp [bI, m_std, m_in, hp1, c3, c4, c6, c7, c11, c13, c15, c18, c20, eq_true c21, c22, c23, eq_true c24]) dd_M_canStand_286
          · refine lv_iload_n hx hb dd_M_canStand_235 rfl (lv_at hl 5 rfl) ?_
            refine lv_iload hx hb dd_M_canStand_236 (lv_at hl 0 rfl) ?_
            refine mc_S (As := [.int (n_kd (N p1))]) (rest := [.int ty]) 1 (cc_M_hasSecond (k := (n_kd (N p1)))) hx hb hml hown ht hM hK hl.1 lk_M_98 (by decide +kernel) (by decide) rfl rfl (Nat.le_of_ble_eq_true rfl) dd_M_canStand_238 ⟨Nat.zero_le _, Nat.zero_le _⟩ ?_
            refine lb_if_eq (tgt := 248) hx hb dd_M_canStand_241 (by decide) (fun c25 => ?_) (fun c25 => ?_)
            · refine lv_iconst (v := 0) hx hb dd_M_canStand_248 (by decide) ?_
              refine lv_icmp_ne (tgt := 256) hx hb dd_M_canStand_249 (by decide) (fun c26 => ?_) (fun c26 => ?_)
              · refine lv_iconst (v := 0) hx hb dd_M_canStand_256 (by decide) ?_
                refine lv_goto (tgt := 286) hx hb dd_M_canStand_257 (by decide) ?_
                exact mr_i hx hb hr hlocks rfl (by simp [bI, m_std, m_in, hp1, c3, c4, c6, c7, c11, c13, c15, c18, c20, eq_true c21, eq_true c22, c25, c26]) dd_M_canStand_286
              · refine lv_iconst (v := 1) hx hb dd_M_canStand_252 (by decide) ?_
                refine lv_goto (tgt := 286) hx hb dd_M_canStand_253 (by decide) ?_
                exact mr_i hx hb hr hlocks rfl (by simp [bI, m_std, m_in, hp1, c3, c4, c6, c7, c11, c13, c15, c18, c20, eq_true c21, eq_true c22, c25, eq_true c26]) dd_M_canStand_286
            · refine lv_iconst (v := 1) hx hb dd_M_canStand_244 (by decide) ?_
              refine lv_goto (tgt := 249) hx hb dd_M_canStand_245 (by decide) ?_
              refine lv_icmp_ne (tgt := 256) hx hb dd_M_canStand_249 (by decide) (fun c27 => ?_) (fun c27 => ?_)
              · refine lv_iconst (v := 0) hx hb dd_M_canStand_256 (by decide) ?_
                refine lv_goto (tgt := 286) hx hb dd_M_canStand_257 (by decide) ?_
                exact mr_i hx hb hr hlocks rfl (by simp [bI, m_std, m_in, hp1, c3, c4, c6, c7, c11, c13, c15, c18, c20, eq_true c21, eq_true c22, c25, c27]) dd_M_canStand_286
              · refine lv_iconst (v := 1) hx hb dd_M_canStand_252 (by decide) ?_
                refine lv_goto (tgt := 286) hx hb dd_M_canStand_253 (by decide) ?_
                exact mr_i hx hb hr hlocks rfl (by simp [bI, m_std, m_in, hp1, c3, c4, c6, c7, c11, c13, c15, c18, c20, eq_true c21, eq_true c22, c25, eq_true c27]) dd_M_canStand_286
        by_cases c28 : (n_kd (N p1)) = 14
        · refine lv_tableIn (tgt := 230) hx hb dd_M_canStand_102 (by rw [c28]; decide) (by rw [c28]; decide) (by rw [c28]; rfl) (by decide) ?_
          refine lv_iload hx hb dd_M_canStand_230 (lv_at hl 1 rfl) ?_
          refine lv_if_ne (tgt := 260) hx hb dd_M_canStand_232 (by decide) (fun c29 => ?_) (fun c29 => ?_)
          · refine lv_iload hx hb dd_M_canStand_260 (lv_at hl 1 rfl) ?_
            refine lv_iconst (v := 1) hx hb dd_M_canStand_262 (by decide) ?_
            refine lv_icmp_eq (tgt := 281) hx hb dd_M_canStand_263 (by decide) (fun c30 => ?_) (fun c30 => ?_)
            · refine lv_iconst (v := 1) hx hb dd_M_canStand_281 (by decide) ?_
              refine lv_goto (tgt := 286) hx hb dd_M_canStand_282 (by decide) ?_
              exact mr_i hx hb hr hlocks rfl (by simp [bI, m_std, m_in, hp1, c3, c4, c6, c7, c11, c13, c15, c18, c20, c21, eq_true c28, c29, eq_true c30]) dd_M_canStand_286
            · refine lv_iload_n hx hb dd_M_canStand_266 rfl (lv_at hl 5 rfl) ?_
              refine lv_aload_n hx hb dd_M_canStand_267 rfl (lv_at hl 3 rfl) ?_
              refine mg_get hx hb ht ii_M hown hK hM my rfl 18 (by decide) wd_2_231 (fun _ h => h) rfl dd_M_canStand_268 ?_
              refine lv_aload_n hx hb dd_M_canStand_271 rfl (lv_at hl 3 rfl) ?_
              refine lv_iload_n hx hb dd_M_canStand_272 rfl (lv_at hl 2 rfl) ?_
              refine lv_iconst (v := 1) hx hb dd_M_canStand_273 (by decide) ?_
              have hpt9 := hl9 p1 hp1 (by assumption) (by assumption) (by first | assumption | (rw [by assumption]; decide)) (by first | assumption | (rw [by assumption]; decide)) (by assumption) (by assumption) (by first | assumption | (rw [by assumption]; decide)) (by first | assumption | (rw [by assumption]; decide)) (by first | assumption | (rw [by assumption]; decide)) (by first | assumption | (rw [by assumption]; decide)) (by first | assumption | (rw [by assumption]; decide))
              have hlt9 := (m_part_lt _ _ _ hpt9).2
              refine mc_V (As := [.int (nI p1), .int 1]) (rest := [.ref (b + 15), .int ty]) 2 (cc_M_partOf hR hD hN (k := p1) (by omega) hpt9) hx hb hml hown ht hM hK hl.1 lk_M_133 (by decide +kernel) (by decide) my rfl rfl rfl (Nat.le_of_ble_eq_true rfl) dd_M_canStand_274 ⟨Nat.zero_le _, Nat.zero_le _⟩ ?_
              refine mg_iald hx hb hK hM a15 (vp_in_nI (show i9 < 4096 by omega) (by decide)) dd_M_canStand_277 ?_
              rw [nI_clamp (show i9 < 2 ^ 31 by omega)]
              refine lv_icmp_ne (tgt := 285) hx hb dd_M_canStand_278 (by decide) (fun c31 => ?_) (fun c31 => ?_)
              · refine lv_iconst (v := 0) hx hb dd_M_canStand_285 (by decide) ?_
                exact mr_i hx hb hr hlocks rfl (by simp [bI, m_std, m_in, hp1, c3, c4, c6, c7, c11, c13, c15, c18, c20, c21, eq_true c28, c29, c30, c31]) dd_M_canStand_286
              · refine lv_iconst (v := 1) hx hb dd_M_canStand_281 (by decide) ?_
                refine lv_goto (tgt := 286) hx hb dd_M_canStand_282 (by decide) ?_
                exact mr_i hx hb hr hlocks rfl (by simp [bI, m_std, m_in, hp1, c3, c4, c6, c7, c11, c13, c15, c18, c20, c21, eq_true c28, c29, c30, eq_true c31]) dd_M_canStand_286
          · refine lv_iload_n hx hb dd_M_canStand_235 rfl (lv_at hl 5 rfl) ?_
            refine lv_iload hx hb dd_M_canStand_236 (lv_at hl 0 rfl) ?_
            refine mc_S (As := [.int (n_kd (N p1))]) (rest := [.int ty]) 1 (cc_M_hasSecond (k := (n_kd (N p1)))) hx hb hml hown ht hM hK hl.1 lk_M_98 (by decide +kernel) (by decide) rfl rfl (Nat.le_of_ble_eq_true rfl) dd_M_canStand_238 ⟨Nat.zero_le _, Nat.zero_le _⟩ ?_
            refine lb_if_eq (tgt := 248) hx hb dd_M_canStand_241 (by decide) (fun c32 => ?_) (fun c32 => ?_)
            · refine lv_iconst (v := 0) hx hb dd_M_canStand_248 (by decide) ?_
              refine lv_icmp_ne (tgt := 256) hx hb dd_M_canStand_249 (by decide) (fun c33 => ?_) (fun c33 => ?_)
              · refine lv_iconst (v := 0) hx hb dd_M_canStand_256 (by decide) ?_
                refine lv_goto (tgt := 286) hx hb dd_M_canStand_257 (by decide) ?_
                exact mr_i hx hb hr hlocks rfl (by simp [bI, m_std, m_in, hp1, c3, c4, c6, c7, c11, c13, c15, c18, c20, c21, eq_true c28, eq_true c29, c32, c33]) dd_M_canStand_286
              · refine lv_iconst (v := 1) hx hb dd_M_canStand_252 (by decide) ?_
                refine lv_goto (tgt := 286) hx hb dd_M_canStand_253 (by decide) ?_
                exact mr_i hx hb hr hlocks rfl (by simp [bI, m_std, m_in, hp1, c3, c4, c6, c7, c11, c13, c15, c18, c20, c21, eq_true c28, eq_true c29, c32, eq_true c33]) dd_M_canStand_286
            · refine lv_iconst (v := 1) hx hb dd_M_canStand_244 (by decide) ?_
              refine lv_goto (tgt := 249) hx hb dd_M_canStand_245 (by decide) ?_
              refine lv_icmp_ne (tgt := 256) hx hb dd_M_canStand_249 (by decide) (fun c34 => ?_) (fun c34 => ?_)
              · refine lv_iconst (v := 0) hx hb dd_M_canStand_256 (by decide) ?_
                refine lv_goto (tgt := 286) hx hb dd_M_canStand_257 (by decide) ?_
                exact mr_i hx hb hr hlocks rfl (by simp [bI, m_std, m_in, hp1, c3, c4, c6, c7, c11, c13, c15, c18, c20, c21, eq_true c28, eq_true c29, c32, c34]) dd_M_canStand_286
              · refine lv_iconst (v := 1) hx hb dd_M_canStand_252 (by decide) ?_
                refine lv_goto (tgt := 286) hx hb dd_M_canStand_253 (by decide) ?_
                exact mr_i hx hb hr hlocks rfl (by simp [bI, m_std, m_in, hp1, c3, c4, c6, c7, c11, c13, c15, c18, c20, c21, eq_true c28, eq_true c29, c32, eq_true c34]) dd_M_canStand_286
        by_cases c35 : (n_kd (N p1)) = 15
        · refine lv_tableIn (tgt := 230) hx hb dd_M_canStand_102 (by rw [c35]; decide) (by rw [c35]; decide) (by rw [c35]; rfl) (by decide) ?_
          refine lv_iload hx hb dd_M_canStand_230 (lv_at hl 1 rfl) ?_
          refine lv_if_ne (tgt := 260) hx hb dd_M_canStand_232 (by decide) (fun c36 => ?_) (fun c36 => ?_)
          · refine lv_iload hx hb dd_M_canStand_260 (lv_at hl 1 rfl) ?_
            refine lv_iconst (v := 1) hx hb dd_M_canStand_262 (by decide) ?_
            refine lv_icmp_eq (tgt := 281) hx hb dd_M_canStand_263 (by decide) (fun c37 => ?_) (fun c37 => ?_)
            · refine lv_iconst (v := 1) hx hb dd_M_canStand_281 (by decide) ?_
              refine lv_goto (tgt := 286) hx hb dd_M_canStand_282 (by decide) ?_
              exact mr_i hx hb hr hlocks rfl (by simp [bI, m_std, m_in, hp1, c3, c4, c6, c7, c11, c13, c15, c18, c20, c21, c28, eq_true c35, c36, eq_true c37]) dd_M_canStand_286
            · refine lv_iload_n hx hb dd_M_canStand_266 rfl (lv_at hl 5 rfl) ?_
              refine lv_aload_n hx hb dd_M_canStand_267 rfl (lv_at hl 3 rfl) ?_
              refine mg_get hx hb ht ii_M hown hK hM my rfl 18 (by decide) wd_2_231 (fun _ h => h) rfl dd_M_canStand_268 ?_
              refine lv_aload_n hx hb dd_M_canStand_271 rfl (lv_at hl 3 rfl) ?_
              refine lv_iload_n hx hb dd_M_canStand_272 rfl (lv_at hl 2 rfl) ?_
              refine lv_iconst (v := 1) hx hb dd_M_canStand_273 (by decide) ?_
              have hpt9 := hl9 p1 hp1 (by assumption) (by assumption) (by first | assumption | (rw [by assumption]; decide)) (by first | assumption | (rw [by assumption]; decide)) (by assumption) (by assumption) (by first | assumption | (rw [by assumption]; decide)) (by first | assumption | (rw [by assumption]; decide)) (by first | assumption | (rw [by assumption]; decide)) (by first | assumption | (rw [by assumption]; decide)) (by first | assumption | (rw [by assumption]; decide))
              have hlt9 := (m_part_lt _ _ _ hpt9).2
              refine mc_V (As := [.int (nI p1), .int 1]) (rest := [.ref (b + 15), .int ty]) 2 (cc_M_partOf hR hD hN (k := p1) (by omega) hpt9) hx hb hml hown ht hM hK hl.1 lk_M_133 (by decide +kernel) (by decide) my rfl rfl rfl (Nat.le_of_ble_eq_true rfl) dd_M_canStand_274 ⟨Nat.zero_le _, Nat.zero_le _⟩ ?_
              refine mg_iald hx hb hK hM a15 (vp_in_nI (show i9 < 4096 by omega) (by decide)) dd_M_canStand_277 ?_
              rw [nI_clamp (show i9 < 2 ^ 31 by omega)]
              refine lv_icmp_ne (tgt := 285) hx hb dd_M_canStand_278 (by decide) (fun c38 => ?_) (fun c38 => ?_)
              · refine lv_iconst (v := 0) hx hb dd_M_canStand_285 (by decide) ?_
                exact mr_i hx hb hr hlocks rfl (by simp [bI, m_std, m_in, hp1, c3, c4, c6, c7, c11, c13, c15, c18, c20, c21, c28, eq_true c35, c36, c37, c38]) dd_M_canStand_286
              · refine lv_iconst (v := 1) hx hb dd_M_canStand_281 (by decide) ?_
                refine lv_goto (tgt := 286) hx hb dd_M_canStand_282 (by decide) ?_
                exact mr_i hx hb hr hlocks rfl (by simp [bI, m_std, m_in, hp1, c3, c4, c6, c7, c11, c13, c15, c18, c20, c21, c28, eq_true c35, c36, c37, eq_true c38]) dd_M_canStand_286
          · refine lv_iload_n hx hb dd_M_canStand_235 rfl (lv_at hl 5 rfl) ?_
            refine lv_iload hx hb dd_M_canStand_236 (lv_at hl 0 rfl) ?_
            refine mc_S (As := [.int (n_kd (N p1))]) (rest := [.int ty]) 1 (cc_M_hasSecond (k := (n_kd (N p1)))) hx hb hml hown ht hM hK hl.1 lk_M_98 (by decide +kernel) (by decide) rfl rfl (Nat.le_of_ble_eq_true rfl) dd_M_canStand_238 ⟨Nat.zero_le _, Nat.zero_le _⟩ ?_
            refine lb_if_eq (tgt := 248) hx hb dd_M_canStand_241 (by decide) (fun c39 => ?_) (fun c39 => ?_)
            · refine lv_iconst (v := 0) hx hb dd_M_canStand_248 (by decide) ?_
              refine lv_icmp_ne (tgt := 256) hx hb dd_M_canStand_249 (by decide) (fun c40 => ?_) (fun c40 => ?_)
              · refine lv_iconst (v := 0) hx hb dd_M_canStand_256 (by decide) ?_
                refine lv_goto (tgt := 286) hx hb dd_M_canStand_257 (by decide) ?_
                exact mr_i hx hb hr hlocks rfl (by simp [bI, m_std, m_in, hp1, c3, c4, c6, c7, c11, c13, c15, c18, c20, c21, c28, eq_true c35, eq_true c36, c39, c40]) dd_M_canStand_286
              · refine lv_iconst (v := 1) hx hb dd_M_canStand_252 (by decide) ?_
                refine lv_goto (tgt := 286) hx hb dd_M_canStand_253 (by decide) ?_
                exact mr_i hx hb hr hlocks rfl (by simp [bI, m_std, m_in, hp1, c3, c4, c6, c7, c11, c13, c15, c18, c20, c21, c28, eq_true c35, eq_true c36, c39, eq_true c40]) dd_M_canStand_286
            · refine lv_iconst (v := 1) hx hb dd_M_canStand_244 (by decide) ?_
              refine lv_goto (tgt := 249) hx hb dd_M_canStand_245 (by decide) ?_
              refine lv_icmp_ne (tgt := 256) hx hb dd_M_canStand_249 (by decide) (fun c41 => ?_) (fun c41 => ?_)
              · refine lv_iconst (v := 0) hx hb dd_M_canStand_256 (by decide) ?_
                refine lv_goto (tgt := 286) hx hb dd_M_canStand_257 (by decide) ?_
                exact mr_i hx hb hr hlocks rfl (by simp [bI, m_std, m_in, hp1, c3, c4, c6, c7, c11, c13, c15, c18, c20, c21, c28, eq_true c35, eq_true c36, c39, c41]) dd_M_canStand_286
              · refine lv_iconst (v := 1) hx hb dd_M_canStand_252 (by decide) ?_
                refine lv_goto (tgt := 286) hx hb dd_M_canStand_253 (by decide) ?_
                exact mr_i hx hb hr hlocks rfl (by simp [bI, m_std, m_in, hp1, c3, c4, c6, c7, c11, c13, c15, c18, c20, c21, c28, eq_true c35, eq_true c36, c39, eq_true c41]) dd_M_canStand_286
        by_cases c42 : (n_kd (N p1)) = 20
        · refine lv_tableIn (tgt := 230) hx hb dd_M_canStand_102 (by rw [c42]; decide) (by rw [c42]; decide) (by rw [c42]; rfl) (by decide) ?_
          refine lv_iload hx hb dd_M_canStand_230 (lv_at hl 1 rfl) ?_
          refine lv_if_ne (tgt := 260) hx hb dd_M_canStand_232 (by decide) (fun c43 => ?_) (fun c43 => ?_)
          · refine lv_iload hx hb dd_M_canStand_260 (lv_at hl 1 rfl) ?_
            refine lv_iconst (v := 1) hx hb dd_M_canStand_262 (by decide) ?_
            refine lv_icmp_eq (tgt := 281) hx hb dd_M_canStand_263 (by decide) (fun c44 => ?_) (fun c44 => ?_)
            · refine lv_iconst (v := 1) hx hb dd_M_canStand_281 (by decide) ?_
              refine lv_goto (tgt := 286) hx hb dd_M_canStand_282 (by decide) ?_
              exact mr_i hx hb hr hlocks rfl (by simp [bI, m_std, m_in, hp1, c3, c4, c6, c7, c11, c13, c15, c18, c20, c21, c28, c35, eq_true c42, c43, eq_true c44]) dd_M_canStand_286
            · refine lv_iload_n hx hb dd_M_canStand_266 rfl (lv_at hl 5 rfl) ?_
              refine lv_aload_n hx hb dd_M_canStand_267 rfl (lv_at hl 3 rfl) ?_
              refine mg_get hx hb ht ii_M hown hK hM my rfl 18 (by decide) wd_2_231 (fun _ h => h) rfl dd_M_canStand_268 ?_
              refine lv_aload_n hx hb dd_M_canStand_271 rfl (lv_at hl 3 rfl) ?_
              refine lv_iload_n hx hb dd_M_canStand_272 rfl (lv_at hl 2 rfl) ?_
              refine lv_iconst (v := 1) hx hb dd_M_canStand_273 (by decide) ?_
              have hpt9 := hl9 p1 hp1 (by assumption) (by assumption) (by first | assumption | (rw [by assumption]; decide)) (by first | assumption | (rw [by assumption]; decide)) (by assumption) (by assumption) (by first | assumption | (rw [by assumption]; decide)) (by first | assumption | (rw [by assumption]; decide)) (by first | assumption | (rw [by assumption]; decide)) (by first | assumption | (rw [by assumption]; decide)) (by first | assumption | (rw [by assumption]; decide))
              have hlt9 := (m_part_lt _ _ _ hpt9).2
              refine mc_V (As := [.int (nI p1), .int 1]) (rest := [.ref (b + 15), .int ty]) 2 (cc_M_partOf hR hD hN (k := p1) (by omega) hpt9) hx hb hml hown ht hM hK hl.1 lk_M_133 (by decide +kernel) (by decide) my rfl rfl rfl (Nat.le_of_ble_eq_true rfl) dd_M_canStand_274 ⟨Nat.zero_le _, Nat.zero_le _⟩ ?_
              refine mg_iald hx hb hK hM a15 (vp_in_nI (show i9 < 4096 by omega) (by decide)) dd_M_canStand_277 ?_
              rw [nI_clamp (show i9 < 2 ^ 31 by omega)]
              refine lv_icmp_ne (tgt := 285) hx hb dd_M_canStand_278 (by decide) (fun c45 => ?_) (fun c45 => ?_)
              · refine lv_iconst (v := 0) hx hb dd_M_canStand_285 (by decide) ?_
                exact mr_i hx hb hr hlocks rfl (by simp [bI, m_std, m_in, hp1, c3, c4, c6, c7, c11, c13, c15, c18, c20, c21, c28, c35, eq_true c42, c43, c44, c45]) dd_M_canStand_286
              · refine lv_iconst (v := 1) hx hb dd_M_canStand_281 (by decide) ?_
                refine lv_goto (tgt := 286) hx hb dd_M_canStand_282 (by decide) ?_
                exact mr_i hx hb hr hlocks rfl (by simp [bI, m_std, m_in, hp1, c3, c4, c6, c7, c11, c13, c15, c18, c20, c21, c28, c35, eq_true c42, c43, c44, eq_true c45]) dd_M_canStand_286
          · refine lv_iload_n hx hb dd_M_canStand_235 rfl (lv_at hl 5 rfl) ?_
            refine lv_iload hx hb dd_M_canStand_236 (lv_at hl 0 rfl) ?_
            refine mc_S (As := [.int (n_kd (N p1))]) (rest := [.int ty]) 1 (cc_M_hasSecond (k := (n_kd (N p1)))) hx hb hml hown ht hM hK hl.1 lk_M_98 (by decide +kernel) (by decide) rfl rfl (Nat.le_of_ble_eq_true rfl) dd_M_canStand_238 ⟨Nat.zero_le _, Nat.zero_le _⟩ ?_
            refine lb_if_eq (tgt := 248) hx hb dd_M_canStand_241 (by decide) (fun c46 => ?_) (fun c46 => ?_)
            · refine lv_iconst (v := 0) hx hb dd_M_canStand_248 (by decide) ?_
              refine lv_icmp_ne (tgt := 256) hx hb dd_M_canStand_249 (by decide) (fun c47 => ?_) (fun c47 => ?_)
              · refine lv_iconst (v := 0) hx hb dd_M_canStand_256 (by decide) ?_
                refine lv_goto (tgt := 286) hx hb dd_M_canStand_257 (by decide) ?_
                exact mr_i hx hb hr hlocks rfl (by simp [bI, m_std, m_in, hp1, c3, c4, c6, c7, c11, c13, c15, c18, c20, c21, c28, c35, eq_true c42, eq_true c43, c46, c47]) dd_M_canStand_286
              · refine lv_iconst (v := 1) hx hb dd_M_canStand_252 (by decide) ?_
                refine lv_goto (tgt := 286) hx hb dd_M_canStand_253 (by decide) ?_
                exact mr_i hx hb hr hlocks rfl (by simp [bI, m_std, m_in, hp1, c3, c4, c6, c7, c11, c13, c15, c18, c20, c21, c28, c35, eq_true c42, eq_true c43, c46, eq_true c47]) dd_M_canStand_286
            · refine lv_iconst (v := 1) hx hb dd_M_canStand_244 (by decide) ?_
              refine lv_goto (tgt := 249) hx hb dd_M_canStand_245 (by decide) ?_
              refine lv_icmp_ne (tgt := 256) hx hb dd_M_canStand_249 (by decide) (fun c48 => ?_) (fun c48 => ?_)
              · refine lv_iconst (v := 0) hx hb dd_M_canStand_256 (by decide) ?_
                refine lv_goto (tgt := 286) hx hb dd_M_canStand_257 (by decide) ?_
                exact mr_i hx hb hr hlocks rfl (by simp [bI, m_std, m_in, hp1, c3, c4, c6, c7, c11, c13, c15, c18, c20, c21, c28, c35, eq_true c42, eq_true c43, c46, c48]) dd_M_canStand_286
              · refine lv_iconst (v := 1) hx hb dd_M_canStand_252 (by decide) ?_
                refine lv_goto (tgt := 286) hx hb dd_M_canStand_253 (by decide) ?_
                exact mr_i hx hb hr hlocks rfl (by simp [bI, m_std, m_in, hp1, c3, c4, c6, c7, c11, c13, c15, c18, c20, c21, c28, c35, eq_true c42, eq_true c43, c46, eq_true c48]) dd_M_canStand_286
        have c49 : ((n_kd (N p1)) : Int32).toInt < 11 ∨ 21 < ((n_kd (N p1)) : Int32).toInt := by (have z0 := lv_neT (a := 11) c6 (by decide); have z1 := lv_neT (a := 13) c7 (by decide); have z2 := lv_neT (a := 16) c11 (by decide); have z3 := lv_neT (a := 17) c13 (by decide); have z4 := lv_neT (a := 18) c15 (by decide); have z5 := lv_neT (a := 19) c18 (by decide); have z6 := lv_neT (a := 21) c20 (by decide); have z7 := lv_neT (a := 12) c21 (by decide); have z8 := lv_neT (a := 14) c28 (by decide); have z9 := lv_neT (a := 15) c35 (by decide); have z10 := lv_neT (a := 20) c42 (by decide); omega)
        refine lv_tableOut (tgt := 230) hx hb dd_M_canStand_102 c49 (by decide) ?_
        refine lv_iload hx hb dd_M_canStand_230 (lv_at hl 1 rfl) ?_
        refine lv_if_ne (tgt := 260) hx hb dd_M_canStand_232 (by decide) (fun c50 => ?_) (fun c50 => ?_)
        · refine lv_iload hx hb dd_M_canStand_260 (lv_at hl 1 rfl) ?_
          refine lv_iconst (v := 1) hx hb dd_M_canStand_262 (by decide) ?_
          refine lv_icmp_eq (tgt := 281) hx hb dd_M_canStand_263 (by decide) (fun c51 => ?_) (fun c51 => ?_)
          · refine lv_iconst (v := 1) hx hb dd_M_canStand_281 (by decide) ?_
            refine lv_goto (tgt := 286) hx hb dd_M_canStand_282 (by decide) ?_
            exact mr_i hx hb hr hlocks rfl (by simp [bI, m_std, m_in, hp1, c3, c4, c6, c7, c11, c13, c15, c18, c20, c21, c28, c35, c42, c50, eq_true c51]) dd_M_canStand_286
          · refine lv_iload_n hx hb dd_M_canStand_266 rfl (lv_at hl 5 rfl) ?_
            refine lv_aload_n hx hb dd_M_canStand_267 rfl (lv_at hl 3 rfl) ?_
            refine mg_get hx hb ht ii_M hown hK hM my rfl 18 (by decide) wd_2_231 (fun _ h => h) rfl dd_M_canStand_268 ?_
            refine lv_aload_n hx hb dd_M_canStand_271 rfl (lv_at hl 3 rfl) ?_
            refine lv_iload_n hx hb dd_M_canStand_272 rfl (lv_at hl 2 rfl) ?_
            refine lv_iconst (v := 1) hx hb dd_M_canStand_273 (by decide) ?_
            have hpt9 := hl9 p1 hp1 (by assumption) (by assumption) (by first | assumption | (rw [by assumption]; decide)) (by first | assumption | (rw [by assumption]; decide)) (by assumption) (by assumption) (by first | assumption | (rw [by assumption]; decide)) (by first | assumption | (rw [by assumption]; decide)) (by first | assumption | (rw [by assumption]; decide)) (by first | assumption | (rw [by assumption]; decide)) (by first | assumption | (rw [by assumption]; decide))
            have hlt9 := (m_part_lt _ _ _ hpt9).2
            refine mc_V (As := [.int (nI p1), .int 1]) (rest := [.ref (b + 15), .int ty]) 2 (cc_M_partOf hR hD hN (k := p1) (by omega) hpt9) hx hb hml hown ht hM hK hl.1 lk_M_133 (by decide +kernel) (by decide) my rfl rfl rfl (Nat.le_of_ble_eq_true rfl) dd_M_canStand_274 ⟨Nat.zero_le _, Nat.zero_le _⟩ ?_
            refine mg_iald hx hb hK hM a15 (vp_in_nI (show i9 < 4096 by omega) (by decide)) dd_M_canStand_277 ?_
            rw [nI_clamp (show i9 < 2 ^ 31 by omega)]
            refine lv_icmp_ne (tgt := 285) hx hb dd_M_canStand_278 (by decide) (fun c52 => ?_) (fun c52 => ?_)
            · refine lv_iconst (v := 0) hx hb dd_M_canStand_285 (by decide) ?_
              exact mr_i hx hb hr hlocks rfl (by simp [bI, m_std, m_in, hp1, c3, c4, c6, c7, c11, c13, c15, c18, c20, c21, c28, c35, c42, c50, c51, c52]) dd_M_canStand_286
            · refine lv_iconst (v := 1) hx hb dd_M_canStand_281 (by decide) ?_
              refine lv_goto (tgt := 286) hx hb dd_M_canStand_282 (by decide) ?_
              exact mr_i hx hb hr hlocks rfl (by simp [bI, m_std, m_in, hp1, c3, c4, c6, c7, c11, c13, c15, c18, c20, c21, c28, c35, c42, c50, c51, eq_true c52]) dd_M_canStand_286
        · refine lv_iload_n hx hb dd_M_canStand_235 rfl (lv_at hl 5 rfl) ?_
          refine lv_iload hx hb dd_M_canStand_236 (lv_at hl 0 rfl) ?_
          refine mc_S (As := [.int (n_kd (N p1))]) (rest := [.int ty]) 1 (cc_M_hasSecond (k := (n_kd (N p1)))) hx hb hml hown ht hM hK hl.1 lk_M_98 (by decide +kernel) (by decide) rfl rfl (Nat.le_of_ble_eq_true rfl) dd_M_canStand_238 ⟨Nat.zero_le _, Nat.zero_le _⟩ ?_
          refine lb_if_eq (tgt := 248) hx hb dd_M_canStand_241 (by decide) (fun c53 => ?_) (fun c53 => ?_)
          · refine lv_iconst (v := 0) hx hb dd_M_canStand_248 (by decide) ?_
            refine lv_icmp_ne (tgt := 256) hx hb dd_M_canStand_249 (by decide) (fun c54 => ?_) (fun c54 => ?_)
            · refine lv_iconst (v := 0) hx hb dd_M_canStand_256 (by decide) ?_
              refine lv_goto (tgt := 286) hx hb dd_M_canStand_257 (by decide) ?_
              exact mr_i hx hb hr hlocks rfl (by simp [bI, m_std, m_in, hp1, c3, c4, c6, c7, c11, c13, c15, c18, c20, c21, c28, c35, c42, eq_true c50, c53, c54]) dd_M_canStand_286
            · refine lv_iconst (v := 1) hx hb dd_M_canStand_252 (by decide) ?_
              refine lv_goto (tgt := 286) hx hb dd_M_canStand_253 (by decide) ?_
              exact mr_i hx hb hr hlocks rfl (by simp [bI, m_std, m_in, hp1, c3, c4, c6, c7, c11, c13, c15, c18, c20, c21, c28, c35, c42, eq_true c50, c53, eq_true c54]) dd_M_canStand_286
          · refine lv_iconst (v := 1) hx hb dd_M_canStand_244 (by decide) ?_
            refine lv_goto (tgt := 249) hx hb dd_M_canStand_245 (by decide) ?_
            refine lv_icmp_ne (tgt := 256) hx hb dd_M_canStand_249 (by decide) (fun c55 => ?_) (fun c55 => ?_)
            · refine lv_iconst (v := 0) hx hb dd_M_canStand_256 (by decide) ?_
              refine lv_goto (tgt := 286) hx hb dd_M_canStand_257 (by decide) ?_
              exact mr_i hx hb hr hlocks rfl (by simp [bI, m_std, m_in, hp1, c3, c4, c6, c7, c11, c13, c15, c18, c20, c21, c28, c35, c42, eq_true c50, c53, c55]) dd_M_canStand_286
            · refine lv_iconst (v := 1) hx hb dd_M_canStand_252 (by decide) ?_
              refine lv_goto (tgt := 286) hx hb dd_M_canStand_253 (by decide) ?_
              exact mr_i hx hb hr hlocks rfl (by simp [bI, m_std, m_in, hp1, c3, c4, c6, c7, c11, c13, c15, c18, c20, c21, c28, c35, c42, eq_true c50, c53, eq_true c55]) dd_M_canStand_286
      · refine lv_iload_n hx hb dd_M_canStand_90 rfl (lv_at hl 5 rfl) ?_
        refine lv_if_ne (tgt := 98) hx hb dd_M_canStand_91 (by decide) (fun c56 => ?_) (fun c56 => ?_)
        · refine lv_iconst (v := 0) hx hb dd_M_canStand_98 (by decide) ?_
          exact mr_i hx hb hr hlocks rfl (by simp [bI, m_std, m_in, hp1, c3, c4, c56]) dd_M_canStand_99
        · refine lv_iconst (v := 1) hx hb dd_M_canStand_94 (by decide) ?_
          refine lv_goto (tgt := 99) hx hb dd_M_canStand_95 (by decide) ?_
          exact mr_i hx hb hr hlocks rfl (by simp [bI, m_std, m_in, hp1, c3, c4, eq_true c56]) dd_M_canStand_99
    · refine lv_iload_n hx hb dd_M_canStand_56 rfl (lv_at hl 5 rfl) ?_
      refine lv_aload_n hx hb dd_M_canStand_57 rfl (lv_at hl 3 rfl) ?_
      refine mg_get hx hb ht ii_M hown hK hM my rfl 7 (by decide) wd_2_220 (fun _ h => h) rfl dd_M_canStand_58 ?_
      refine lv_bipush (v := 8) hx hb dd_M_canStand_61 (by decide) ?_
      refine lv_aload_n hx hb dd_M_canStand_63 rfl (lv_at hl 3 rfl) ?_
      refine mg_get hx hb ht ii_M hown hK hM my rfl 20 (by decide) wd_2_233 (fun _ h => h) rfl dd_M_canStand_64 ?_
      refine lv_iload_n hx hb dd_M_canStand_67 rfl (lv_at hl 2 rfl) ?_
      refine mg_iald hx hb hK hM a17 (vp_in_nI (show p1 < 4096 by omega) (by decide)) dd_M_canStand_68 ?_
      rw [nI_clamp (show p1 < 2 ^ 31 by omega)]
      obtain ⟨hg1, hg2, hg3, hg4⟩ := hc9 p1 hp1 c3
      have hn9 := (hD t9 hg2).2.2.2.2.2.1
      rw [hg1]
      refine lv_imul hx hb dd_M_canStand_69 ?_
      rw [nI_8]
      refine lv_iload hx hb dd_M_canStand_70 (lv_at hl 1 rfl) ?_
      refine lv_iadd hx hb dd_M_canStand_72 ?_
      rw [hg3, nI_add]
      refine mg_iald hx hb hK hM a5 (vp_in_nI (show (8 * t9 + q9) < 512 by omega) (by decide)) dd_M_canStand_73 ?_
      rw [nI_clamp (show (8 * t9 + q9) < 2 ^ 31 by omega)]
      rw [(hD t9 (show t9 < nd by omega)).2.2.2.2.2.2.2.2 q9 (show q9 < np t9 by omega)]
      refine lv_icmp_ne (tgt := 81) hx hb dd_M_canStand_74 (by decide) (fun c57 => ?_) (fun c57 => ?_)
      · refine lv_iconst (v := 0) hx hb dd_M_canStand_81 (by decide) ?_
        exact mr_i hx hb hr hlocks rfl (by simp [bI, m_std, m_in, hp1, c3, c57]) dd_M_canStand_82
      · refine lv_iconst (v := 1) hx hb dd_M_canStand_77 (by decide) ?_
        refine lv_goto (tgt := 82) hx hb dd_M_canStand_78 (by decide) ?_
        exact mr_i hx hb hr hlocks rfl (by simp [bI, m_std, m_in, hp1, c3, eq_true c57]) dd_M_canStand_82
