set_option maxHeartbeats 4000000 in
set_option maxRecDepth 100000 in
theorem cc_M_lacking_n {l : Launch} {G : gC} {M : mC} {y b nn : Nat} {I : Nat → Nat → Int32} {J : Nat → Nat → Int64} {Z : Nat → Int32} {kn : Bool} {ft fn mo th : Int32} (hR : rm G M y b 0 nn I J Z kn ft fn mo th) {D : Nat → dR} {N : Nat → nR} {pn : Nat → Nat → Int64} {pt : Nat → Nat → Int32} {np bg ho : Nat → Nat} {pa : Nat → Option Nat} (hD : tD 0 D pn pt np bg I J Z) (hN : tN 0 nn N ho pa I J) : cR l yy_M_lacking bb_M_lacking 2 (some .int) 0 G M [.ref y] (.int (c_num (m_lack 0 nn bg N pa))) := by
  refine me_R (by decide) (Nat.le_of_ble_eq_true rfl) ?_
  intro p e s m below meth c ls hx hb hr hlocks hml hown ht hM hK hl
  have hown : s.vm.findClass RR_M = some m.cls := hown
  have hl : lv_has ls 2 [(0, .ref y)] := hl
  obtain ⟨hyb, my, hA9, hnd, hnn⟩ := id hR
  obtain ⟨a0, a1, a2, a3, a4, a5, a6, a7, a8, a9, a10, a11, a12, a13, a14, a15, a16, a17⟩ := id hA9
  have loop : ∀ (f : Nat) (o : Option Nat) (ls : Array Slot), (∀ i, o = some i → i < nn ∧ i < f) → lv_has ls 2 [(1, .int (c_num o)), (0, .ref y)] → m_rest N pa f o = m_lack 0 nn bg N pa → W p l e (rd 0 0 0) s m ([.ref y] : List Value).toArray below meth c s.heap [] 0 0 (MQ below (k2_QcV (.int (c_num (m_lack 0 nn bg N pa)))) ([.ref y] : List Value).toArray s 0 0 (fun _ => False)) (F0 m 36 ls []) := by
    intro f
    induction f with
    | zero =>
      intro o ls ho9 hl hres
      cases o with
      | some i => exact absurd (ho9 i rfl).2 (Nat.not_lt_zero _)
      | none =>
        have hl : lv_has ls 2 [(1, .int (-1)), (0, .ref y)] := hl
        refine lv_iload_n hx hb dd_M_lacking_36 rfl (lv_at hl 0 rfl) ?_
        refine lv_if_lt (tgt := 65) hx hb dd_M_lacking_37 (by decide) (fun _ => ?_) (fun z => absurd (by decide) z)
        refine lv_iload_n hx hb dd_M_lacking_65 rfl (lv_at hl 0 rfl) ?_
        exact mr_i hx hb hr hlocks rfl (by rw [← hres]; rfl) dd_M_lacking_66
    | succ f ih =>
      intro o ls ho9 hl hres
      cases o with
      | none =>
        have hl : lv_has ls 2 [(1, .int (-1)), (0, .ref y)] := hl
        refine lv_iload_n hx hb dd_M_lacking_36 rfl (lv_at hl 0 rfl) ?_
        refine lv_if_lt (tgt := 65) hx hb dd_M_lacking_37 (by decide) (fun _ => ?_) (fun z => absurd (by decide) z)
        refine lv_iload_n hx hb dd_M_lacking_65 rfl (lv_at hl 0 rfl) ?_
        exact mr_i hx hb hr hlocks rfl (by rw [← hres]; rfl) dd_M_lacking_66
      | some i =>
        have hl : lv_has ls 2 [(1, .int (nI i)), (0, .ref y)] := hl
        obtain ⟨hi, hif⟩ := ho9 i rfl
        refine lv_iload_n hx hb dd_M_lacking_36 rfl (lv_at hl 0 rfl) ?_
        refine lv_if_lt (tgt := 65) hx hb dd_M_lacking_37 (by decide) (fun z => absurd z (nI_pos (by omega))) (fun _ => ?_)
        refine lv_aload_n hx hb dd_M_lacking_40 rfl (lv_at hl 1 rfl) ?_
        refine mg_get hx hb ht ii_M hown hK hM my rfl 17 (by decide) wd_2_230 (fun _ h => h) rfl dd_M_lacking_41 ?_
        refine lv_iload_n hx hb dd_M_lacking_44 rfl (lv_at hl 0 rfl) ?_
        refine mg_iald hx hb hK hM a14 (vp_in_nI (show i < 4096 by omega) (by decide)) dd_M_lacking_45 ?_
        rw [nI_clamp (show i < 2 ^ 31 by omega)]
        rw [(hN i (show i < nn by omega)).2.2.2.2.2.2.2.1]
        refine lv_aload_n hx hb dd_M_lacking_46 rfl (lv_at hl 1 rfl) ?_
        refine mg_get hx hb ht ii_M hown hK hM my rfl 13 (by decide) wd_2_226 (fun _ h => h) rfl dd_M_lacking_47 ?_
        refine lv_iload_n hx hb dd_M_lacking_50 rfl (lv_at hl 0 rfl) ?_
        refine mg_iald hx hb hK hM a10 (vp_in_nI (show i < 4096 by omega) (by decide)) dd_M_lacking_51 ?_
        rw [nI_clamp (show i < 2 ^ 31 by omega)]
        rw [(hN i (show i < nn by omega)).2.2.2.1]
        refine lv_icmp_ne (tgt := 65) hx hb dd_M_lacking_52 (by decide) (fun c1 => ?_) (fun c1 => ?_)
        · refine lv_iload_n hx hb dd_M_lacking_65 rfl (lv_at hl 0 rfl) ?_
          exact mr_i hx hb hr hlocks rfl (by rw [← hres]; simp [m_rest, c_num, c1]) dd_M_lacking_66
        · refine lv_aload_n hx hb dd_M_lacking_55 rfl (lv_at hl 1 rfl) ?_
          refine mg_get hx hb ht ii_M hown hK hM my rfl 14 (by decide) wd_2_227 (fun _ h => h) rfl dd_M_lacking_56 ?_
          refine lv_iload_n hx hb dd_M_lacking_59 rfl (lv_at hl 0 rfl) ?_
          refine mg_iald hx hb hK hM a11 (vp_in_nI (show i < 4096 by omega) (by decide)) dd_M_lacking_60 ?_
          rw [nI_clamp (show i < 2 ^ 31 by omega)]
          rw [(hN i (show i < nn by omega)).2.2.2.2.1]
          refine lv_istore_n (lv' := [(1, .int (c_num (pa i))), (0, .ref y)]) hx hb dd_M_lacking_61 rfl hl (by decide) rfl (fun ls hl => ?_)
          refine lv_goto (tgt := 36) hx hb dd_M_lacking_62 (by decide) ?_
          exact ih (pa i) ls (fun q hq => by have := (hN i hi).2.2.2.2.2.2.2.2.2 q hq; omega) hl (by rw [← hres]; simp [m_rest, eq_true c1])
  refine lv_aload_n hx hb dd_M_lacking_0 rfl (lv_at hl 0 rfl) ?_
  refine mg_get hx hb ht ii_M hown hK hM my rfl 1 (by decide) wd_2_214 (fun _ h => h) rfl dd_M_lacking_1 ?_
  refine lv_if_eq (tgt := 25) hx hb dd_M_lacking_4 (by decide) (fun _ => ?_) (fun z => absurd nI_0 z)
  refine lv_iconst (v := -1) hx hb dd_M_lacking_25 (by decide) ?_
  refine lv_goto (tgt := 35) hx hb dd_M_lacking_26 (by decide) ?_
  refine lv_istore_n (lv' := [(1, .int (-1)), (0, .ref y)]) hx hb dd_M_lacking_35 rfl hl (by decide) rfl (fun ls hl => ?_)
  exact loop (nn + 1) none ls (fun i h => by cases h) hl (by rfl)

set_option maxHeartbeats 4000000 in
set_option maxRecDepth 100000 in
theorem cc_M_lacking_s {l : Launch} {G : gC} {M : mC} {y b k nn : Nat} {I : Nat → Nat → Int32} {J : Nat → Nat → Int64} {Z : Nat → Int32} {kn : Bool} {ft fn mo th : Int32} (hR : rm G M y b (k + 1) nn I J Z kn ft fn mo th) {D : Nat → dR} {N : Nat → nR} {pn : Nat → Nat → Int64} {pt : Nat → Nat → Int32} {np bg ho : Nat → Nat} {pa : Nat → Option Nat} (hD : tD (k + 1) D pn pt np bg I J Z) (hN : tN (k + 1) nn N ho pa I J) : cR l yy_M_lacking bb_M_lacking 2 (some .int) 0 G M [.ref y] (.int (c_num (m_lack (k + 1) nn bg N pa))) := by
  refine me_R (by decide) (Nat.le_of_ble_eq_true rfl) ?_
  intro p e s m below meth c ls hx hb hr hlocks hml hown ht hM hK hl
  have hown : s.vm.findClass RR_M = some m.cls := hown
  have hl : lv_has ls 2 [(0, .ref y)] := hl
  obtain ⟨hyb, my, hA9, hnd, hnn⟩ := id hR
  obtain ⟨a0, a1, a2, a3, a4, a5, a6, a7, a8, a9, a10, a11, a12, a13, a14, a15, a16, a17⟩ := id hA9
  have loop : ∀ (f : Nat) (o : Option Nat) (ls : Array Slot), (∀ i, o = some i → i < nn ∧ i < f) → lv_has ls 2 [(1, .int (c_num o)), (0, .ref y)] → m_rest N pa f o = m_lack (k + 1) nn bg N pa → W p l e (rd 0 0 0) s m ([.ref y] : List Value).toArray below meth c s.heap [] 0 0 (MQ below (k2_QcV (.int (c_num (m_lack (k + 1) nn bg N pa)))) ([.ref y] : List Value).toArray s 0 0 (fun _ => False)) (F0 m 36 ls []) := by
    intro f
    induction f with
    | zero =>
      intro o ls ho9 hl hres
      cases o with
      | some i => exact absurd (ho9 i rfl).2 (Nat.not_lt_zero _)
      | none =>
        have hl : lv_has ls 2 [(1, .int (-1)), (0, .ref y)] := hl
        refine lv_iload_n hx hb dd_M_lacking_36 rfl (lv_at hl 0 rfl) ?_
        refine lv_if_lt (tgt := 65) hx hb dd_M_lacking_37 (by decide) (fun _ => ?_) (fun z => absurd (by decide) z)
        refine lv_iload_n hx hb dd_M_lacking_65 rfl (lv_at hl 0 rfl) ?_
        exact mr_i hx hb hr hlocks rfl (by rw [← hres]; rfl) dd_M_lacking_66
    | succ f ih =>
      intro o ls ho9 hl hres
      cases o with
      | none =>
        have hl : lv_has ls 2 [(1, .int (-1)), (0, .ref y)] := hl
        refine lv_iload_n hx hb dd_M_lacking_36 rfl (lv_at hl 0 rfl) ?_
        refine lv_if_lt (tgt := 65) hx hb dd_M_lacking_37 (by decide) (fun _ => ?_) (fun z => absurd (by decide) z)
        refine lv_iload_n hx hb dd_M_lacking_65 rfl (lv_at hl 0 rfl) ?_
        exact mr_i hx hb hr hlocks rfl (by rw [← hres]; rfl) dd_M_lacking_66
      | some i =>
        have hl : lv_has ls 2 [(1, .int (nI i)), (0, .ref y)] := hl
        obtain ⟨hi, hif⟩ := ho9 i rfl
        refine lv_iload_n hx hb dd_M_lacking_36 rfl (lv_at hl 0 rfl) ?_
        refine lv_if_lt (tgt := 65) hx hb dd_M_lacking_37 (by decide) (fun z => absurd z (nI_pos (by omega))) (fun _ => ?_)
        refine lv_aload_n hx hb dd_M_lacking_40 rfl (lv_at hl 1 rfl) ?_
        refine mg_get hx hb ht ii_M hown hK hM my rfl 17 (by decide) wd_2_230 (fun _ h => h) rfl dd_M_lacking_41 ?_
        refine lv_iload_n hx hb dd_M_lacking_44 rfl (lv_at hl 0 rfl) ?_
        refine mg_iald hx hb hK hM a14 (vp_in_nI (show i < 4096 by omega) (by decide)) dd_M_lacking_45 ?_
        rw [nI_clamp (show i < 2 ^ 31 by omega)]
        rw [(hN i (show i < nn by omega)).2.2.2.2.2.2.2.1]
        refine lv_aload_n hx hb dd_M_lacking_46 rfl (lv_at hl 1 rfl) ?_
        refine mg_get hx hb ht ii_M hown hK hM my rfl 13 (by decide) wd_2_226 (fun _ h => h) rfl dd_M_lacking_47 ?_
        refine lv_iload_n hx hb dd_M_lacking_50 rfl (lv_at hl 0 rfl) ?_
        refine mg_iald hx hb hK hM a10 (vp_in_nI (show i < 4096 by omega) (by decide)) dd_M_lacking_51 ?_
        rw [nI_clamp (show i < 2 ^ 31 by omega)]
        rw [(hN i (show i < nn by omega)).2.2.2.1]
        refine lv_icmp_ne (tgt := 65) hx hb dd_M_lacking_52 (by decide) (fun c1 => ?_) (fun c1 => ?_)
        · refine lv_iload_n hx hb dd_M_lacking_65 rfl (lv_at hl 0 rfl) ?_
          exact mr_i hx hb hr hlocks rfl (by rw [← hres]; simp [m_rest, c_num, c1]) dd_M_lacking_66
        · refine lv_aload_n hx hb dd_M_lacking_55 rfl (lv_at hl 1 rfl) ?_
          refine mg_get hx hb ht ii_M hown hK hM my rfl 14 (by decide) wd_2_227 (fun _ h => h) rfl dd_M_lacking_56 ?_
          refine lv_iload_n hx hb dd_M_lacking_59 rfl (lv_at hl 0 rfl) ?_
          refine mg_iald hx hb hK hM a11 (vp_in_nI (show i < 4096 by omega) (by decide)) dd_M_lacking_60 ?_
          rw [nI_clamp (show i < 2 ^ 31 by omega)]
          rw [(hN i (show i < nn by omega)).2.2.2.2.1]
          refine lv_istore_n (lv' := [(1, .int (c_num (pa i))), (0, .ref y)]) hx hb dd_M_lacking_61 rfl hl (by decide) rfl (fun ls hl => ?_)
          refine lv_goto (tgt := 36) hx hb dd_M_lacking_62 (by decide) ?_
          exact ih (pa i) ls (fun q hq => by have := (hN i hi).2.2.2.2.2.2.2.2.2 q hq; omega) hl (by rw [← hres]; simp [m_rest, eq_true c1])
  refine lv_aload_n hx hb dd_M_lacking_0 rfl (lv_at hl 0 rfl) ?_
  refine mg_get hx hb ht ii_M hown hK hM my rfl 1 (by decide) wd_2_214 (fun _ h => h) rfl dd_M_lacking_1 ?_
  refine lv_if_eq (tgt := 25) hx hb dd_M_lacking_4 (by decide) (fun z => absurd z (nI_ne0 (by omega) (by omega))) (fun _ => ?_)
  refine lv_aload_n hx hb dd_M_lacking_7 rfl (lv_at hl 0 rfl) ?_
  refine mg_get hx hb ht ii_M hown hK hM my rfl 9 (by decide) wd_2_222 (fun _ h => h) rfl dd_M_lacking_8 ?_
  refine lv_aload_n hx hb dd_M_lacking_11 rfl (lv_at hl 0 rfl) ?_
  refine mg_get hx hb ht ii_M hown hK hM my rfl 8 (by decide) wd_2_221 (fun _ h => h) rfl dd_M_lacking_12 ?_
  refine lv_aload_n hx hb dd_M_lacking_15 rfl (lv_at hl 0 rfl) ?_
  refine mg_get hx hb ht ii_M hown hK hM my rfl 1 (by decide) wd_2_214 (fun _ h => h) rfl dd_M_lacking_16 ?_
  refine lv_iconst (v := 1) hx hb dd_M_lacking_19 (by decide) ?_
  refine lv_isub hx hb dd_M_lacking_20 ?_
  rw [nI_pred]
  refine mg_iald hx hb hK hM a6 (vp_in_nI (show k < 65 by omega) (by decide)) dd_M_lacking_21 ?_
  rw [nI_clamp (show k < 2 ^ 31 by omega)]
  rw [(hD k (show k < k + 1 by omega)).2.2.2.2.1]
  refine lv_icmp_ne (tgt := 29) hx hb dd_M_lacking_22 (by decide) (fun c1 => ?_) (fun c1 => ?_)
  · refine lv_aload_n hx hb dd_M_lacking_29 rfl (lv_at hl 0 rfl) ?_
    refine mg_get hx hb ht ii_M hown hK hM my rfl 9 (by decide) wd_2_222 (fun _ h => h) rfl dd_M_lacking_30 ?_
    refine lv_iconst (v := 1) hx hb dd_M_lacking_33 (by decide) ?_
    refine lv_isub hx hb dd_M_lacking_34 ?_
    rw [c_pred_num]
    refine lv_istore_n (lv' := [(1, .int (c_num (c_pred nn))), (0, .ref y)]) hx hb dd_M_lacking_35 rfl hl (by decide) rfl (fun ls hl => ?_)
    exact loop (nn + 1) (c_pred nn) ls (fun i h => by cases nn with | zero => cases h | succ n => cases h; omega) hl (by simp [m_lack, c1])
  · refine lv_iconst (v := -1) hx hb dd_M_lacking_25 (by decide) ?_
    refine lv_goto (tgt := 35) hx hb dd_M_lacking_26 (by decide) ?_
    refine lv_istore_n (lv' := [(1, .int (-1)), (0, .ref y)]) hx hb dd_M_lacking_35 rfl hl (by decide) rfl (fun ls hl => ?_)
    exact loop (nn + 1) none ls (fun i h => by cases h) hl (by simp [m_lack, m_rest, eq_true c1])

theorem cc_M_lacking {l : Launch} {G : gC} {M : mC} {y b nd nn : Nat} {I : Nat → Nat → Int32} {J : Nat → Nat → Int64} {Z : Nat → Int32} {kn : Bool} {ft fn mo th : Int32} (hR : rm G M y b nd nn I J Z kn ft fn mo th) {D : Nat → dR} {N : Nat → nR} {pn : Nat → Nat → Int64} {pt : Nat → Nat → Int32} {np bg ho : Nat → Nat} {pa : Nat → Option Nat} (hD : tD nd D pn pt np bg I J Z) (hN : tN nd nn N ho pa I J) : cR l yy_M_lacking bb_M_lacking 2 (some .int) 0 G M [.ref y] (.int (c_num (m_lack nd nn bg N pa))) := by
  cases nd with
  | zero => exact cc_M_lacking_n hR hD hN
  | succ k => exact cc_M_lacking_s hR hD hN

set_option maxHeartbeats 4000000 in
set_option maxRecDepth 100000 in
theorem cc_M_isWhole_n {l : Launch} {G : gC} {M : mC} {y b nn : Nat} {I : Nat → Nat → Int32} {J : Nat → Nat → Int64} {Z : Nat → Int32} {kn : Bool} {ft fn mo th : Int32} (hR : rm G M y b 0 nn I J Z kn ft fn mo th) {D : Nat → dR} {N : Nat → nR} {pn : Nat → Nat → Int64} {pt : Nat → Nat → Int32} {np bg ho : Nat → Nat} {pa : Nat → Option Nat} (hD : tD 0 D pn pt np bg I J Z) (hN : tN 0 nn N ho pa I J) : cR l yy_M_isWhole bb_M_isWhole 1 (some .boolean) 1 G M [.ref y] (.int 1) := by
  refine me_R (by decide) (Nat.le_of_ble_eq_true rfl) ?_
  intro p e s m below meth c ls hx hb hr hlocks hml hown ht hM hK hl
  have hown : s.vm.findClass RR_M = some m.cls := hown
  have hl : lv_has ls 1 [(0, .ref y)] := hl
  obtain ⟨hyb, my, hA9, hnd, hnn⟩ := id hR
  obtain ⟨a0, a1, a2, a3, a4, a5, a6, a7, a8, a9, a10, a11, a12, a13, a14, a15, a16, a17⟩ := id hA9
  refine lv_aload_n hx hb dd_M_isWhole_0 rfl (lv_at hl 0 rfl) ?_
  refine mg_get hx hb ht ii_M hown hK hM my rfl 1 (by decide) wd_2_214 (fun _ h => h) rfl dd_M_isWhole_1 ?_
  refine lv_if_eq (tgt := 32) hx hb dd_M_isWhole_4 (by decide) (fun _ => ?_) (fun z => absurd nI_0 z)
  refine lv_iconst (v := 1) hx hb dd_M_isWhole_32 (by decide) ?_
  refine lv_goto (tgt := 37) hx hb dd_M_isWhole_33 (by decide) ?_
  exact mr_i hx hb hr hlocks rfl rfl dd_M_isWhole_37

set_option maxHeartbeats 4000000 in
set_option maxRecDepth 100000 in
theorem cc_M_isWhole_s {l : Launch} {G : gC} {M : mC} {y b k nn : Nat} {I : Nat → Nat → Int32} {J : Nat → Nat → Int64} {Z : Nat → Int32} {kn : Bool} {ft fn mo th : Int32} (hR : rm G M y b (k + 1) nn I J Z kn ft fn mo th) {D : Nat → dR} {N : Nat → nR} {pn : Nat → Nat → Int64} {pt : Nat → Nat → Int32} {np bg ho : Nat → Nat} {pa : Nat → Option Nat} (hD : tD (k + 1) D pn pt np bg I J Z) (hN : tN (k + 1) nn N ho pa I J) : cR l yy_M_isWhole bb_M_isWhole 1 (some .boolean) 1 G M [.ref y] (.int (bI (m_whole (k + 1) nn bg N pa))) := by
  refine me_R (by decide) (Nat.le_of_ble_eq_true rfl) ?_
  intro p e s m below meth c ls hx hb hr hlocks hml hown ht hM hK hl
  have hown : s.vm.findClass RR_M = some m.cls := hown
  have hl : lv_has ls 1 [(0, .ref y)] := hl
  obtain ⟨hyb, my, hA9, hnd, hnn⟩ := id hR
  obtain ⟨a0, a1, a2, a3, a4, a5, a6, a7, a8, a9, a10, a11, a12, a13, a14, a15, a16, a17⟩ := id hA9
  refine lv_aload_n hx hb dd_M_isWhole_0 rfl (lv_at hl 0 rfl) ?_
  refine mg_get hx hb ht ii_M hown hK hM my rfl 1 (by decide) wd_2_214 (fun _ h => h) rfl dd_M_isWhole_1 ?_
  refine lv_if_eq (tgt := 32) hx hb dd_M_isWhole_4 (by decide) (fun z => absurd z (nI_ne0 (by omega) (by omega))) (fun _ => ?_)
  refine lv_aload_n hx hb dd_M_isWhole_7 rfl (lv_at hl 0 rfl) ?_
  refine mg_get hx hb ht ii_M hown hK hM my rfl 9 (by decide) wd_2_222 (fun _ h => h) rfl dd_M_isWhole_8 ?_
  refine lv_aload_n hx hb dd_M_isWhole_11 rfl (lv_at hl 0 rfl) ?_
  refine mg_get hx hb ht ii_M hown hK hM my rfl 8 (by decide) wd_2_221 (fun _ h => h) rfl dd_M_isWhole_12 ?_
  refine lv_aload_n hx hb dd_M_isWhole_15 rfl (lv_at hl 0 rfl) ?_
  refine mg_get hx hb ht ii_M hown hK hM my rfl 1 (by decide) wd_2_214 (fun _ h => h) rfl dd_M_isWhole_16 ?_
  refine lv_iconst (v := 1) hx hb dd_M_isWhole_19 (by decide) ?_
  refine lv_isub hx hb dd_M_isWhole_20 ?_
  rw [nI_pred]
  refine mg_iald hx hb hK hM a6 (vp_in_nI (show k < 65 by omega) (by decide)) dd_M_isWhole_21 ?_
  rw [nI_clamp (show k < 2 ^ 31 by omega)]
  rw [(hD k (show k < k + 1 by omega)).2.2.2.2.1]
  refine lv_icmp_le (tgt := 36) hx hb dd_M_isWhole_22 (by decide) (fun c1 => ?_) (fun c1 => ?_)
  · refine lv_iconst (v := 0) hx hb dd_M_isWhole_36 (by decide) ?_
    exact mr_i hx hb hr hlocks rfl (by simp [bI, m_whole, c1]) dd_M_isWhole_37
  · refine lv_aload_n hx hb dd_M_isWhole_25 rfl (lv_at hl 0 rfl) ?_
    refine mc_V (As := []) (rest := []) 0 (cc_M_lacking hR hD hN) hx hb hml hown ht hM hK hl.1 lk_M_86 (by decide +kernel) (by decide) my rfl rfl rfl (Nat.le_of_ble_eq_true rfl) dd_M_isWhole_26 ⟨Nat.zero_le _, Nat.zero_le _⟩ ?_
    rcases hp2 : m_lack (k + 1) nn bg N pa with _ | p2
    · rw [cn_none]
      refine lv_if_ge (tgt := 36) hx hb dd_M_isWhole_29 (by decide) (fun z => absurd z (by decide)) (fun _ => ?_)
      refine lv_iconst (v := 1) hx hb dd_M_isWhole_32 (by decide) ?_
      refine lv_goto (tgt := 37) hx hb dd_M_isWhole_33 (by decide) ?_
      exact mr_i hx hb hr hlocks rfl (by simp [bI, m_whole, c1, hp2]) dd_M_isWhole_37
    · rw [cn_some]
      have hlp2 := m_lack_lt (fun j hj => (hN j hj).2.2.2.2.2.2.2.2.2) hp2
      refine lv_if_ge (tgt := 36) hx hb dd_M_isWhole_29 (by decide) (fun _ => ?_) (fun z => absurd (nI_pos' (by omega)) z)
      refine lv_iconst (v := 0) hx hb dd_M_isWhole_36 (by decide) ?_
      exact mr_i hx hb hr hlocks rfl (by simp [bI, m_whole, c1, hp2]) dd_M_isWhole_37

theorem cc_M_isWhole {l : Launch} {G : gC} {M : mC} {y b nd nn : Nat} {I : Nat → Nat → Int32} {J : Nat → Nat → Int64} {Z : Nat → Int32} {kn : Bool} {ft fn mo th : Int32} (hR : rm G M y b nd nn I J Z kn ft fn mo th) {D : Nat → dR} {N : Nat → nR} {pn : Nat → Nat → Int64} {pt : Nat → Nat → Int32} {np bg ho : Nat → Nat} {pa : Nat → Option Nat} (hD : tD nd D pn pt np bg I J Z) (hN : tN nd nn N ho pa I J) : cR l yy_M_isWhole bb_M_isWhole 1 (some .boolean) 1 G M [.ref y] (.int (bI (m_whole nd nn bg N pa))) := by
  cases nd with
  | zero => exact cc_M_isWhole_n hR hD hN
  | succ k => exact cc_M_isWhole_s hR hD hN

set_option maxHeartbeats 4000000 in
set_option maxRecDepth 100000 in
theorem cc_M_isMain_n {l : Launch} {G : gC} {M : mC} {y b nn : Nat} {I : Nat → Nat → Int32} {J : Nat → Nat → Int64} {Z : Nat → Int32} {kn : Bool} {ft fn mo th : Int32} (hR : rm G M y b 0 nn I J Z kn ft fn mo th) {D : Nat → dR} {N : Nat → nR} {pn : Nat → Nat → Int64} {pt : Nat → Nat → Int32} {np bg ho : Nat → Nat} {pa : Nat → Option Nat} (hD : tD 0 D pn pt np bg I J Z) (hN : tN 0 nn N ho pa I J) : cR l yy_M_isMain bb_M_isMain 2 (some .boolean) 0 G M [.ref y] (.int 0) := by
  refine me_R (by decide) (Nat.le_of_ble_eq_true rfl) ?_
  intro p e s m below meth c ls hx hb hr hlocks hml hown ht hM hK hl
  have hown : s.vm.findClass RR_M = some m.cls := hown
  have hl : lv_has ls 2 [(0, .ref y)] := hl
  obtain ⟨hyb, my, hA9, hnd, hnn⟩ := id hR
  obtain ⟨a0, a1, a2, a3, a4, a5, a6, a7, a8, a9, a10, a11, a12, a13, a14, a15, a16, a17⟩ := id hA9
  refine lv_aload_n hx hb dd_M_isMain_0 rfl (lv_at hl 0 rfl) ?_
  refine mg_get hx hb ht ii_M hown hK hM my rfl 1 (by decide) wd_2_214 (fun _ h => h) rfl dd_M_isMain_1 ?_
  refine lv_iconst (v := 1) hx hb dd_M_isMain_4 (by decide) ?_
  refine lv_isub hx hb dd_M_isMain_5 ?_
  obtain ⟨q9, eq9⟩ : ∃ z : Int32, z = nI 0 - 1 := ⟨_, rfl⟩
  rw [← eq9]
  refine lv_istore_n (lv' := [(1, .int q9), (0, .ref y)]) hx hb dd_M_isMain_6 rfl hl (by decide) rfl (fun ls hl => ?_)
  refine lv_aload_n hx hb dd_M_isMain_7 rfl (lv_at hl 1 rfl) ?_
  refine mg_get hx hb ht ii_M hown hK hM my rfl 1 (by decide) wd_2_214 (fun _ h => h) rfl dd_M_isMain_8 ?_
  refine lv_if_le (tgt := 89) hx hb dd_M_isMain_11 (by decide) (fun _ => ?_) (fun z => absurd (by rw [nI_0]; decide) z)
  refine lv_iconst (v := 0) hx hb dd_M_isMain_89 (by decide) ?_
  exact mr_i hx hb hr hlocks rfl rfl dd_M_isMain_90

set_option maxHeartbeats 4000000 in
set_option maxRecDepth 100000 in
theorem cc_M_isMain_s {l : Launch} {G : gC} {M : mC} {y b k nn : Nat} {I : Nat → Nat → Int32} {J : Nat → Nat → Int64} {Z : Nat → Int32} {kn : Bool} {ft fn mo th : Int32} (hR : rm G M y b (k + 1) nn I J Z kn ft fn mo th) {D : Nat → dR} {N : Nat → nR} {pn : Nat → Nat → Int64} {pt : Nat → Nat → Int32} {np bg ho : Nat → Nat} {pa : Nat → Option Nat} (hD : tD (k + 1) D pn pt np bg I J Z) (hN : tN (k + 1) nn N ho pa I J) : cR l yy_M_isMain bb_M_isMain 2 (some .boolean) 0 G M [.ref y] (.int (bI (m_main (k + 1) D np pt))) := by
  refine me_R (by decide) (Nat.le_of_ble_eq_true rfl) ?_
  intro p e s m below meth c ls hx hb hr hlocks hml hown ht hM hK hl
  have hown : s.vm.findClass RR_M = some m.cls := hown
  have hl : lv_has ls 2 [(0, .ref y)] := hl
  obtain ⟨hyb, my, hA9, hnd, hnn⟩ := id hR
  obtain ⟨a0, a1, a2, a3, a4, a5, a6, a7, a8, a9, a10, a11, a12, a13, a14, a15, a16, a17⟩ := id hA9
  have hk8 := (hD k (Nat.lt_succ_self k)).2.2.2.2.2.1
  refine lv_aload_n hx hb dd_M_isMain_0 rfl (lv_at hl 0 rfl) ?_
  refine mg_get hx hb ht ii_M hown hK hM my rfl 1 (by decide) wd_2_214 (fun _ h => h) rfl dd_M_isMain_1 ?_
  refine lv_iconst (v := 1) hx hb dd_M_isMain_4 (by decide) ?_
  refine lv_isub hx hb dd_M_isMain_5 ?_
  rw [nI_pred]
  refine lv_istore_n (lv' := [(1, .int (nI k)), (0, .ref y)]) hx hb dd_M_isMain_6 rfl hl (by decide) rfl (fun ls hl => ?_)
  refine lv_aload_n hx hb dd_M_isMain_7 rfl (lv_at hl 1 rfl) ?_
  refine mg_get hx hb ht ii_M hown hK hM my rfl 1 (by decide) wd_2_214 (fun _ h => h) rfl dd_M_isMain_8 ?_
  refine lv_if_le (tgt := 89) hx hb dd_M_isMain_11 (by decide) (fun z => absurd z (nI_nle (by omega) (by omega))) (fun _ => ?_)
  refine lv_aload_n hx hb dd_M_isMain_14 rfl (lv_at hl 1 rfl) ?_
  refine mg_get hx hb ht ii_M hown hK hM my rfl 2 (by decide) wd_2_215 (fun _ h => h) rfl dd_M_isMain_15 ?_
  refine lv_iload_n hx hb dd_M_isMain_18 rfl (lv_at hl 0 rfl) ?_
  refine lv_if_ge (tgt := 26) hx hb dd_M_isMain_19 (by decide) (fun _ => ?_) (fun z => absurd (nI_pos' (by omega)) z)
  refine lv_iload_n hx hb dd_M_isMain_26 rfl (lv_at hl 0 rfl) ?_
  refine mg_zald hx hb hK hM a0 (vp_in_nI (show k < 64 by omega) (by decide)) dd_M_isMain_27 ?_
  rw [nI_clamp (show k < 2 ^ 31 by omega)]
  rw [(hD k (show k < k + 1 by omega)).1]
  refine lb_if_ne (tgt := 89) hx hb dd_M_isMain_28 (by decide) (fun c1 => ?_) (fun c1 => ?_)
  · refine lv_iconst (v := 0) hx hb dd_M_isMain_89 (by decide) ?_
    exact mr_i hx hb hr hlocks rfl (by simp [bI, m_main, c1]) dd_M_isMain_90
  · refine lv_aload_n hx hb dd_M_isMain_31 rfl (lv_at hl 1 rfl) ?_
    refine mg_get hx hb ht ii_M hown hK hM my rfl 3 (by decide) wd_2_216 (fun _ h => h) rfl dd_M_isMain_32 ?_
    refine lv_iload_n hx hb dd_M_isMain_35 rfl (lv_at hl 0 rfl) ?_
    refine lv_if_ge (tgt := 43) hx hb dd_M_isMain_36 (by decide) (fun _ => ?_) (fun z => absurd (nI_pos' (by omega)) z)
    refine lv_iload_n hx hb dd_M_isMain_43 rfl (lv_at hl 0 rfl) ?_
    refine mg_lald hx hb hK hM a1 (vp_in_nI (show k < 64 by omega) (by decide)) dd_M_isMain_44 ?_
    rw [nI_clamp (show k < 2 ^ 31 by omega)]
    rw [(hD k (show k < k + 1 by omega)).2.1]
    refine lv_ldc2 (v := 427310) hx hb hown (ht _ wd_3_97) dd_M_isMain_45 ?_
    refine W.lcmp hx hb dd_M_isMain_48 ?_
    refine lc_if_ne (tgt := 89) hx hb dd_M_isMain_49 (by decide) (fun c2 => ?_) (fun c2 => ?_)
    · refine lv_iconst (v := 0) hx hb dd_M_isMain_89 (by decide) ?_
      exact mr_i hx hb hr hlocks rfl (by simp [bI, m_main, c1, c2]) dd_M_isMain_90
    · refine lv_aload_n hx hb dd_M_isMain_52 rfl (lv_at hl 1 rfl) ?_
      refine mg_get hx hb ht ii_M hown hK hM my rfl 5 (by decide) wd_2_218 (fun _ h => h) rfl dd_M_isMain_53 ?_
      refine lv_iload_n hx hb dd_M_isMain_56 rfl (lv_at hl 0 rfl) ?_
      refine mg_iald hx hb hK hM a3 (vp_in_nI (show k < 64 by omega) (by decide)) dd_M_isMain_57 ?_
      rw [nI_clamp (show k < 2 ^ 31 by omega)]
      rw [(hD k (show k < k + 1 by omega)).2.2.2.1]
      refine lv_iconst (v := 1) hx hb dd_M_isMain_58 (by decide) ?_
      refine lv_icmp_ne (tgt := 89) hx hb dd_M_isMain_59 (by decide) (fun c3 => ?_) (fun c3 => ?_)
      · refine lv_iconst (v := 0) hx hb dd_M_isMain_89 (by decide) ?_
        exact mr_i hx hb hr hlocks rfl (by simp [bI, m_main, c1, eq_true c2, c3]) dd_M_isMain_90
      · refine lv_aload_n hx hb dd_M_isMain_62 rfl (lv_at hl 1 rfl) ?_
        refine mg_get hx hb ht ii_M hown hK hM my rfl 7 (by decide) wd_2_220 (fun _ h => h) rfl dd_M_isMain_63 ?_
        refine lv_bipush (v := 8) hx hb dd_M_isMain_66 (by decide) ?_
        refine lv_iload_n hx hb dd_M_isMain_68 rfl (lv_at hl 0 rfl) ?_
        refine lv_imul hx hb dd_M_isMain_69 ?_
        rw [nI_8]
        refine mg_iald hx hb hK hM a5 (vp_in_nI (show (8 * k) < 512 by omega) (by decide)) dd_M_isMain_70 ?_
        rw [nI_clamp (show (8 * k) < 2 ^ 31 by omega)]
        have hnp : np k = 1 := (nI_eq (by omega) (by decide)).mp (show nI (np k) = nI 1 from c3)
        rw [show I 5 (8 * k) = pt k 0 from (hD k (Nat.lt_succ_self k)).2.2.2.2.2.2.2.2 0 (by omega)]
        refine lv_iconst (v := 3) hx hb dd_M_isMain_71 (by decide) ?_
        refine lv_icmp_ne (tgt := 89) hx hb dd_M_isMain_72 (by decide) (fun c4 => ?_) (fun c4 => ?_)
        · refine lv_iconst (v := 0) hx hb dd_M_isMain_89 (by decide) ?_
          exact mr_i hx hb hr hlocks rfl (by simp [bI, m_main, c1, eq_true c2, eq_true c3, c4]) dd_M_isMain_90
        · refine lv_aload_n hx hb dd_M_isMain_75 rfl (lv_at hl 1 rfl) ?_
          refine mg_get hx hb ht ii_M hown hK hM my rfl 4 (by decide) wd_2_217 (fun _ h => h) rfl dd_M_isMain_76 ?_
          refine lv_iload_n hx hb dd_M_isMain_79 rfl (lv_at hl 0 rfl) ?_
          refine mg_iald hx hb hK hM a2 (vp_in_nI (show k < 64 by omega) (by decide)) dd_M_isMain_80 ?_
          rw [nI_clamp (show k < 2 ^ 31 by omega)]
          rw [(hD k (show k < k + 1 by omega)).2.2.1]
          refine lv_iconst (v := 3) hx hb dd_M_isMain_81 (by decide) ?_
          refine lv_icmp_ne (tgt := 89) hx hb dd_M_isMain_82 (by decide) (fun c5 => ?_) (fun c5 => ?_)
          · refine lv_iconst (v := 0) hx hb dd_M_isMain_89 (by decide) ?_
            exact mr_i hx hb hr hlocks rfl (by simp [bI, m_main, c1, eq_true c2, eq_true c3, eq_true c4, c5]) dd_M_isMain_90
          · refine lv_iconst (v := 1) hx hb dd_M_isMain_85 (by decide) ?_
            refine lv_goto (tgt := 90) hx hb dd_M_isMain_86 (by decide) ?_
            exact mr_i hx hb hr hlocks rfl (by simp [bI, m_main, c1, eq_true c2, eq_true c3, eq_true c4, eq_true c5]) dd_M_isMain_90

theorem cc_M_isMain {l : Launch} {G : gC} {M : mC} {y b nd nn : Nat} {I : Nat → Nat → Int32} {J : Nat → Nat → Int64} {Z : Nat → Int32} {kn : Bool} {ft fn mo th : Int32} (hR : rm G M y b nd nn I J Z kn ft fn mo th) {D : Nat → dR} {N : Nat → nR} {pn : Nat → Nat → Int64} {pt : Nat → Nat → Int32} {np bg ho : Nat → Nat} {pa : Nat → Option Nat} (hD : tD nd D pn pt np bg I J Z) (hN : tN nd nn N ho pa I J) : cR l yy_M_isMain bb_M_isMain 2 (some .boolean) 0 G M [.ref y] (.int (bI (m_main nd D np pt))) := by
  cases nd with
  | zero => exact cc_M_isMain_n hR hD hN
  | succ k => exact cc_M_isMain_s hR hD hN

set_option maxHeartbeats 4000000 in
set_option maxRecDepth 100000 in
theorem cc_M_partOf {l : Launch} {G : gC} {M : mC} {y b nd nn : Nat} {I : Nat → Nat → Int32} {J : Nat → Nat → Int64} {Z : Nat → Int32} {kn : Bool} {ft fn mo th : Int32} (hR : rm G M y b nd nn I J Z kn ft fn mo th) {D : Nat → dR} {N : Nat → nR} {pn : Nat → Nat → Int64} {pt : Nat → Nat → Int32} {np bg ho : Nat → Nat} {pa : Nat → Option Nat} (hD : tD nd D pn pt np bg I J Z) (hN : tN nd nn N ho pa I J) {k i9 : Nat} {q9 : Int32} (hk : k < nn) (hi9 : m_part N pa k q9 (nn - (k + 1)) (k + 1) = some i9) : cR l yy_M_partOf bb_M_partOf 4 (some .int) 0 G M [.ref y, .int (nI k), .int q9] (.int (nI i9)) := by
  refine me_R (by decide) (Nat.le_of_ble_eq_true rfl) ?_
  intro p e s m below meth c ls hx hb hr hlocks hml hown ht hM hK hl
  have hown : s.vm.findClass RR_M = some m.cls := hown
  have hl : lv_has ls 4 [(0, .ref y), (1, .int (nI k)), (2, .int q9)] := hl
  obtain ⟨hyb, my, hA9, hnd, hnn⟩ := id hR
  obtain ⟨a0, a1, a2, a3, a4, a5, a6, a7, a8, a9, a10, a11, a12, a13, a14, a15, a16, a17⟩ := id hA9
  have loop : ∀ (f j : Nat) (ls : Array Slot), j + f = nn → lv_has ls 4 [(3, .int (nI j)), (0, .ref y), (1, .int (nI k)), (2, .int q9)] → m_part N pa k q9 f j = some i9 → W p l e (rd 0 0 0) s m ([.ref y, .int (nI k), .int q9] : List Value).toArray below meth c s.heap [] 0 0 (MQ below (k2_QcV (.int (nI i9))) ([.ref y, .int (nI k), .int q9] : List Value).toArray s 0 0 (fun _ => False)) (F0 m 4 ls []) := by
    intro f
    induction f with
    | zero =>
      intro j ls hjf hl hres
      cases hres
    | succ f ih =>
      intro j ls hjf hl hres
      refine lv_aload_n hx hb dd_M_partOf_4 rfl (lv_at hl 1 rfl) ?_
      refine mg_get hx hb ht ii_M hown hK hM my rfl 14 (by decide) wd_2_227 (fun _ h => h) rfl dd_M_partOf_5 ?_
      refine lv_iload_n hx hb dd_M_partOf_8 rfl (lv_at hl 0 rfl) ?_
      refine mg_iald hx hb hK hM a11 (vp_in_nI (show j < 4096 by omega) (by decide)) dd_M_partOf_9 ?_
      rw [nI_clamp (show j < 2 ^ 31 by omega)]
      rw [(hN j (show j < nn by omega)).2.2.2.2.1]
      refine lv_iload_n hx hb dd_M_partOf_10 rfl (lv_at hl 2 rfl) ?_
      refine lv_icmp_ne (tgt := 24) hx hb dd_M_partOf_11 (by decide) (fun c1 => ?_) (fun c1 => ?_)
      · obtain ⟨x2, ex2⟩ : ∃ y : Int32, y = (nI j) + 1 := ⟨_, rfl⟩
        refine lv_iinc (v := x2) (lv' := [(3, .int x2), (0, .ref y), (1, .int (nI k)), (2, .int q9)]) hx hb dd_M_partOf_24 hl (k := 0) rfl (by rw [ex2]; rfl) (by decide) rfl (fun ls hl => ?_)
        refine lv_goto (tgt := 4) hx hb dd_M_partOf_27 (by decide) ?_
        rw [ex2, nI_1] at hl
        exact ih (j + 1) ls (by omega) hl (by rw [← hres]; simp [m_part, c1])
      · refine lv_aload_n hx hb dd_M_partOf_14 rfl (lv_at hl 1 rfl) ?_
        refine mg_get hx hb ht ii_M hown hK hM my rfl 15 (by decide) wd_2_228 (fun _ h => h) rfl dd_M_partOf_15 ?_
        refine lv_iload_n hx hb dd_M_partOf_18 rfl (lv_at hl 0 rfl) ?_
        refine mg_iald hx hb hK hM a12 (vp_in_nI (show j < 4096 by omega) (by decide)) dd_M_partOf_19 ?_
        rw [nI_clamp (show j < 2 ^ 31 by omega)]
        rw [(hN j (show j < nn by omega)).2.2.2.2.2.1]
        refine lv_iload_n hx hb dd_M_partOf_20 rfl (lv_at hl 3 rfl) ?_
        refine lv_icmp_eq (tgt := 30) hx hb dd_M_partOf_21 (by decide) (fun c3 => ?_) (fun c3 => ?_)
        · refine lv_iload_n hx hb dd_M_partOf_30 rfl (lv_at hl 0 rfl) ?_
          exact mr_i hx hb hr hlocks rfl (by simp [m_part, eq_true c1, eq_true c3] at hres; rw [hres]) dd_M_partOf_31
        · obtain ⟨x4, ex4⟩ : ∃ y : Int32, y = (nI j) + 1 := ⟨_, rfl⟩
          refine lv_iinc (v := x4) (lv' := [(3, .int x4), (0, .ref y), (1, .int (nI k)), (2, .int q9)]) hx hb dd_M_partOf_24 hl (k := 0) rfl (by rw [ex4]; rfl) (by decide) rfl (fun ls hl => ?_)
          refine lv_goto (tgt := 4) hx hb dd_M_partOf_27 (by decide) ?_
          rw [ex4, nI_1] at hl
          exact ih (j + 1) ls (by omega) hl (by rw [← hres]; simp [m_part, eq_true c1, c3])
  refine lv_iload_n hx hb dd_M_partOf_0 rfl (lv_at hl 1 rfl) ?_
  refine lv_iconst (v := 1) hx hb dd_M_partOf_1 (by decide) ?_
  refine lv_iadd hx hb dd_M_partOf_2 ?_
  rw [nI_1]
  refine lv_istore_n (lv' := [(3, .int (nI (k + 1))), (0, .ref y), (1, .int (nI k)), (2, .int q9)]) hx hb dd_M_partOf_3 rfl hl (by decide) rfl (fun ls hl => ?_)
  exact loop (nn - (k + 1)) (k + 1) ls (by omega) hl hi9

set_option maxHeartbeats 4000000 in
set_option maxRecDepth 100000 in
theorem cc_M_there {l : Launch} {G : gC} {M : mC} {y b nd nn : Nat} {I : Nat → Nat → Int32} {J : Nat → Nat → Int64} {Z : Nat → Int32} {kn : Bool} {ft fn mo th : Int32} (hR : rm G M y b nd nn I J Z kn ft fn mo th) {D : Nat → dR} {N : Nat → nR} {pn : Nat → Nat → Int64} {pt : Nat → Nat → Int32} {np bg ho : Nat → Nat} {pa : Nat → Option Nat} (hD : tD nd D pn pt np bg I J Z) (hN : tN nd nn N ho pa I J) {k : Nat} (hk : k < nn) : cR l yy_M_there bb_M_there 4 (some .int) 2 G M [.ref y, .int (nI k)] (.int (m_thr N pa (k + 1) (nI (np (ho k))) k)) := by
  refine me_R (by decide) (Nat.le_of_ble_eq_true rfl) ?_
  intro p e s m below meth c ls hx hb hr hlocks hml hown ht hM hK hl
  have hown : s.vm.findClass RR_M = some m.cls := hown
  have hl : lv_has ls 4 [(0, .ref y), (1, .int (nI k))] := hl
  obtain ⟨hyb, my, hA9, hnd, hnn⟩ := id hR
  obtain ⟨a0, a1, a2, a3, a4, a5, a6, a7, a8, a9, a10, a11, a12, a13, a14, a15, a16, a17⟩ := id hA9
  have loop : ∀ (f : Nat) (a9 : Int32) (j : Nat) (ls : Array Slot), j < nn ∧ j < f → lv_has ls 4 [(3, .int (nI j)), (2, .int a9), (0, .ref y), (1, .int (nI k))] → m_thr N pa f a9 j = m_thr N pa (k + 1) (nI (np (ho k))) k → W p l e (rd 2 0 0) s m ([.ref y, .int (nI k)] : List Value).toArray below meth c s.heap [] 0 0 (MQ below (k2_QcV (.int (m_thr N pa (k + 1) (nI (np (ho k))) k))) ([.ref y, .int (nI k)] : List Value).toArray s 0 0 (fun _ => False)) (F0 m 14 ls []) := by
    intro f
    induction f with
    | zero =>
      intro a9 j ls hj hl hres
      omega
    | succ f ih =>
      intro a9 j ls hj hl hres
      refine lv_aload_n hx hb dd_M_there_14 rfl (lv_at hl 2 rfl) ?_
      refine mg_get hx hb ht ii_M hown hK hM my rfl 14 (by decide) wd_2_227 (fun _ h => h) rfl dd_M_there_15 ?_
      refine lv_iload_n hx hb dd_M_there_18 rfl (lv_at hl 0 rfl) ?_
      refine mg_iald hx hb hK hM a11 (vp_in_nI (show j < 4096 by omega) (by decide)) dd_M_there_19 ?_
      rw [nI_clamp (show j < 2 ^ 31 by omega)]
      rw [(hN j (show j < nn by omega)).2.2.2.2.1]
      rcases hp1 : pa j with _ | p1
      · rw [cn_none]
        refine lv_if_lt (tgt := 81) hx hb dd_M_there_20 (by decide) (fun _ => ?_) (fun z => absurd (by decide) z)
        refine lv_iload_n hx hb dd_M_there_81 rfl (lv_at hl 1 rfl) ?_
        exact mr_i hx hb hr hlocks rfl (by rw [← hres]; simp [m_thr, hp1]) dd_M_there_82
      · rw [cn_some]
        have hlp1 := (hN j (show j < nn by omega)).2.2.2.2.2.2.2.2.2 p1 hp1
        refine lv_if_lt (tgt := 81) hx hb dd_M_there_20 (by decide) (fun z => absurd z (nI_pos (by omega))) (fun _ => ?_)
        refine lv_iload_n hx hb dd_M_there_23 rfl (lv_at hl 1 rfl) ?_
        refine lv_aload_n hx hb dd_M_there_24 rfl (lv_at hl 2 rfl) ?_
        refine lv_aload_n hx hb dd_M_there_25 rfl (lv_at hl 2 rfl) ?_
        refine mg_get hx hb ht ii_M hown hK hM my rfl 14 (by decide) wd_2_227 (fun _ h => h) rfl dd_M_there_26 ?_
        refine lv_iload_n hx hb dd_M_there_29 rfl (lv_at hl 0 rfl) ?_
        refine mg_iald hx hb hK hM a11 (vp_in_nI (show j < 4096 by omega) (by decide)) dd_M_there_30 ?_
        rw [nI_clamp (show j < 2 ^ 31 by omega)]
        rw [(hN j (show j < nn by omega)).2.2.2.2.1]
        rw [hp1, cn_some]
        refine lv_aload_n hx hb dd_M_there_31 rfl (lv_at hl 2 rfl) ?_
        refine mg_get hx hb ht ii_M hown hK hM my rfl 15 (by decide) wd_2_228 (fun _ h => h) rfl dd_M_there_32 ?_
        refine lv_iload_n hx hb dd_M_there_35 rfl (lv_at hl 0 rfl) ?_
        refine mg_iald hx hb hK hM a12 (vp_in_nI (show j < 4096 by omega) (by decide)) dd_M_there_36 ?_
        rw [nI_clamp (show j < 2 ^ 31 by omega)]
        rw [(hN j (show j < nn by omega)).2.2.2.2.2.1]
        refine mc_V (As := [.int (nI p1), .int (n_pl (N j))]) (rest := [.int a9]) 2 (cc_M_bindsIn hR hD hN (k := p1) (by omega) (p9 := (n_pl (N j)))) hx hb hml hown ht hM hK hl.1 lk_M_113 (by decide +kernel) (by decide) my rfl rfl rfl (Nat.le_of_ble_eq_true rfl) dd_M_there_37 ⟨Nat.zero_le _, Nat.zero_le _⟩ ?_
        refine lb_if_ne (tgt := 47) hx hb dd_M_there_40 (by decide) (fun c2 => ?_) (fun c2 => ?_)
        · refine lv_aload_n hx hb dd_M_there_47 rfl (lv_at hl 2 rfl) ?_
          refine mg_get hx hb ht ii_M hown hK hM my rfl 10 (by decide) wd_2_223 (fun _ h => h) rfl dd_M_there_48 ?_
          refine lv_aload_n hx hb dd_M_there_51 rfl (lv_at hl 2 rfl) ?_
          refine mg_get hx hb ht ii_M hown hK hM my rfl 14 (by decide) wd_2_227 (fun _ h => h) rfl dd_M_there_52 ?_
          refine lv_iload_n hx hb dd_M_there_55 rfl (lv_at hl 0 rfl) ?_
          refine mg_iald hx hb hK hM a11 (vp_in_nI (show j < 4096 by omega) (by decide)) dd_M_there_56 ?_
          rw [nI_clamp (show j < 2 ^ 31 by omega)]
          rw [(hN j (show j < nn by omega)).2.2.2.2.1]
          rw [hp1, cn_some]
          refine mg_iald hx hb hK hM a7 (vp_in_nI (show p1 < 4096 by omega) (by decide)) dd_M_there_57 ?_
          rw [nI_clamp (show p1 < 2 ^ 31 by omega)]
          rw [(hN p1 (show p1 < nn by omega)).1]
          refine mc_S (As := [.int (n_kd (N p1))]) (rest := [.int a9]) 1 (cc_M_hasSecond (k := (n_kd (N p1)))) hx hb hml hown ht hM hK hl.1 lk_M_98 (by decide +kernel) (by decide) rfl rfl (Nat.le_of_ble_eq_true rfl) dd_M_there_58 ⟨Nat.zero_le _, Nat.zero_le _⟩ ?_
          refine lb_if_eq (tgt := 68) hx hb dd_M_there_61 (by decide) (fun c3 => ?_) (fun c3 => ?_)
          · refine lv_iconst (v := 1) hx hb dd_M_there_68 (by decide) ?_
            refine lv_iadd hx hb dd_M_there_69 ?_
            refine lv_istore_n (lv' := [(2, .int (a9 + 1)), (3, .int (nI j)), (0, .ref y), (1, .int (nI k))]) hx hb dd_M_there_70 rfl hl (by decide) rfl (fun ls hl => ?_)
            refine lv_aload_n hx hb dd_M_there_71 rfl (lv_at hl 2 rfl) ?_
            refine mg_get hx hb ht ii_M hown hK hM my rfl 14 (by decide) wd_2_227 (fun _ h => h) rfl dd_M_there_72 ?_
            refine lv_iload_n hx hb dd_M_there_75 rfl (lv_at hl 1 rfl) ?_
            refine mg_iald hx hb hK hM a11 (vp_in_nI (show j < 4096 by omega) (by decide)) dd_M_there_76 ?_
            rw [nI_clamp (show j < 2 ^ 31 by omega)]
            rw [(hN j (show j < nn by omega)).2.2.2.2.1]
            rw [hp1, cn_some]
            refine lv_istore_n (lv' := [(3, .int (nI p1)), (2, .int (a9 + 1)), (0, .ref y), (1, .int (nI k))]) hx hb dd_M_there_77 rfl hl (by decide) rfl (fun ls hl => ?_)
            refine lv_goto (tgt := 14) hx hb dd_M_there_78 (by decide) ?_
            exact ih (a9 + 1) p1 ls (by omega) hl (by rw [← hres]; simp [m_thr, m_vb, hp1, c2, c3])
          · refine lv_iconst (v := 2) hx hb dd_M_there_64 (by decide) ?_
            refine lv_goto (tgt := 69) hx hb dd_M_there_65 (by decide) ?_
            refine lv_iadd hx hb dd_M_there_69 ?_
            refine lv_istore_n (lv' := [(2, .int (a9 + 2)), (3, .int (nI j)), (0, .ref y), (1, .int (nI k))]) hx hb dd_M_there_70 rfl hl (by decide) rfl (fun ls hl => ?_)
            refine lv_aload_n hx hb dd_M_there_71 rfl (lv_at hl 2 rfl) ?_
            refine mg_get hx hb ht ii_M hown hK hM my rfl 14 (by decide) wd_2_227 (fun _ h => h) rfl dd_M_there_72 ?_
            refine lv_iload_n hx hb dd_M_there_75 rfl (lv_at hl 1 rfl) ?_
            refine mg_iald hx hb hK hM a11 (vp_in_nI (show j < 4096 by omega) (by decide)) dd_M_there_76 ?_
            rw [nI_clamp (show j < 2 ^ 31 by omega)]
            rw [(hN j (show j < nn by omega)).2.2.2.2.1]
            rw [hp1, cn_some]
            refine lv_istore_n (lv' := [(3, .int (nI p1)), (2, .int (a9 + 2)), (0, .ref y), (1, .int (nI k))]) hx hb dd_M_there_77 rfl hl (by decide) rfl (fun ls hl => ?_)
            refine lv_goto (tgt := 14) hx hb dd_M_there_78 (by decide) ?_
            exact ih (a9 + 2) p1 ls (by omega) hl (by rw [← hres]; simp [m_thr, m_vb, hp1, c2, c3])
        · refine lv_iconst (v := 0) hx hb dd_M_there_43 (by decide) ?_
          refine lv_goto (tgt := 69) hx hb dd_M_there_44 (by decide) ?_
          refine lv_iadd hx hb dd_M_there_69 ?_
          refine lv_istore_n (lv' := [(2, .int (a9 + 0)), (3, .int (nI j)), (0, .ref y), (1, .int (nI k))]) hx hb dd_M_there_70 rfl hl (by decide) rfl (fun ls hl => ?_)
          refine lv_aload_n hx hb dd_M_there_71 rfl (lv_at hl 2 rfl) ?_
          refine mg_get hx hb ht ii_M hown hK hM my rfl 14 (by decide) wd_2_227 (fun _ h => h) rfl dd_M_there_72 ?_
          refine lv_iload_n hx hb dd_M_there_75 rfl (lv_at hl 1 rfl) ?_
          refine mg_iald hx hb hK hM a11 (vp_in_nI (show j < 4096 by omega) (by decide)) dd_M_there_76 ?_
          rw [nI_clamp (show j < 2 ^ 31 by omega)]
          rw [(hN j (show j < nn by omega)).2.2.2.2.1]
          rw [hp1, cn_some]
          refine lv_istore_n (lv' := [(3, .int (nI p1)), (2, .int (a9 + 0)), (0, .ref y), (1, .int (nI k))]) hx hb dd_M_there_77 rfl hl (by decide) rfl (fun ls hl => ?_)
          refine lv_goto (tgt := 14) hx hb dd_M_there_78 (by decide) ?_
          exact ih (a9 + 0) p1 ls (by omega) hl (by rw [← hres]; simp [m_thr, m_vb, hp1, c2])
  refine lv_aload_n hx hb dd_M_there_0 rfl (lv_at hl 0 rfl) ?_
  refine mg_get hx hb ht ii_M hown hK hM my rfl 5 (by decide) wd_2_218 (fun _ h => h) rfl dd_M_there_1 ?_
  refine lv_aload_n hx hb dd_M_there_4 rfl (lv_at hl 0 rfl) ?_
  refine mg_get hx hb ht ii_M hown hK hM my rfl 16 (by decide) wd_2_229 (fun _ h => h) rfl dd_M_there_5 ?_
  refine lv_iload_n hx hb dd_M_there_8 rfl (lv_at hl 1 rfl) ?_
  refine mg_iald hx hb hK hM a13 (vp_in_nI (show k < 4096 by omega) (by decide)) dd_M_there_9 ?_
  rw [nI_clamp (show k < 2 ^ 31 by omega)]
  rw [(hN k (show k < nn by omega)).2.2.2.2.2.2.1]
  have hho := (hN k (show k < nn by omega)).2.2.2.2.2.2.2.2.1
  refine mg_iald hx hb hK hM a3 (vp_in_nI (show (ho k) < 64 by omega) (by decide)) dd_M_there_10 ?_
  rw [nI_clamp (show (ho k) < 2 ^ 31 by omega)]
  rw [(hD (ho k) (show (ho k) < nd by omega)).2.2.2.1]
  refine lv_istore_n (lv' := [(2, .int (nI (np (ho k)))), (0, .ref y), (1, .int (nI k))]) hx hb dd_M_there_11 rfl hl (by decide) rfl (fun ls hl => ?_)
  refine lv_iload_n hx hb dd_M_there_12 rfl (lv_at hl 2 rfl) ?_
  refine lv_istore_n (lv' := [(3, .int (nI k)), (2, .int (nI (np (ho k)))), (0, .ref y), (1, .int (nI k))]) hx hb dd_M_there_13 rfl hl (by decide) rfl (fun ls hl => ?_)
  exact loop (k + 1) (nI (np (ho k))) k ls (by omega) hl rfl

set_option maxHeartbeats 4000000 in
set_option maxRecDepth 100000 in
theorem cc_M_binderOf {l : Launch} {G : gC} {M : mC} {y b nd nn : Nat} {I : Nat → Nat → Int32} {J : Nat → Nat → Int64} {Z : Nat → Int32} {kn : Bool} {ft fn mo th : Int32} (hR : rm G M y b nd nn I J Z kn ft fn mo th) {D : Nat → dR} {N : Nat → nR} {pn : Nat → Nat → Int64} {pt : Nat → Nat → Int32} {np bg ho : Nat → Nat} {pa : Nat → Option Nat} (hD : tD nd D pn pt np bg I J Z) (hN : tN nd nn N ho pa I J) {k : Nat} (hk : k < nn) {x9 : Int64} : cR l yy_M_binderOf bb_M_binderOf 6 (some .int) 2 G M [.ref y, .int (nI k), .long x9] (.int (m_bval N pa pn np ho x9 k)) := by
  refine me_R (by decide) (Nat.le_of_ble_eq_true rfl) ?_
  intro p e s m below meth c ls hx hb hr hlocks hml hown ht hM hK hl
  have hown : s.vm.findClass RR_M = some m.cls := hown
  have hl : lv_has ls 6 [(0, .ref y), (1, .int (nI k)), (2, .long x9)] := hl
  obtain ⟨hyb, my, hA9, hnd, hnn⟩ := id hR
  obtain ⟨a0, a1, a2, a3, a4, a5, a6, a7, a8, a9, a10, a11, a12, a13, a14, a15, a16, a17⟩ := id hA9
  have hhk := (hN k hk).2.2.2.2.2.2.2.2.1
  have hn8 := (hD (ho k) hhk).2.2.2.2.2.1
  have loop2 : ∀ (f i : Nat) (ls : Array Slot), i + f = np (ho k) → lv_has ls 6 [(5, .int (nI i)), (4, .int (nI (ho k))), (0, .ref y), (1, .int (nI k)), (2, .long x9)] → (m_pv (m_pi (pn (ho k)) x9 f i)) = m_bval N pa pn np ho x9 k → W p l e (rd 2 0 0) s m ([.ref y, .int (nI k), .long x9] : List Value).toArray below meth c s.heap [] 0 0 (MQ below (k2_QcV (.int (m_bval N pa pn np ho x9 k))) ([.ref y, .int (nI k), .long x9] : List Value).toArray s 0 0 (fun _ => False)) (F0 m 88 ls []) := by
    intro f
    induction f with
    | zero =>
      intro i ls hif hl hres
      refine lv_iload hx hb dd_M_binderOf_88 (lv_at hl 0 rfl) ?_
      refine lv_aload_n hx hb dd_M_binderOf_90 rfl (lv_at hl 2 rfl) ?_
      refine mg_get hx hb ht ii_M hown hK hM my rfl 5 (by decide) wd_2_218 (fun _ h => h) rfl dd_M_binderOf_91 ?_
      refine lv_iload hx hb dd_M_binderOf_94 (lv_at hl 1 rfl) ?_
      refine mg_iald hx hb hK hM a3 (vp_in_nI (show (ho k) < 64 by omega) (by decide)) dd_M_binderOf_96 ?_
      rw [nI_clamp (show (ho k) < 2 ^ 31 by omega)]
      rw [(hD (ho k) (show (ho k) < nd by omega)).2.2.2.1]
      refine lv_icmp_ge (tgt := 130) hx hb dd_M_binderOf_97 (by decide) (fun _ => ?_) (fun z => absurd (nI_le (a := np (ho k)) (b := i) (by omega) (by omega)) z)
      refine lv_iconst (v := -1) hx hb dd_M_binderOf_130 (by decide) ?_
      exact mr_i hx hb hr hlocks rfl (by rw [← hres]; rfl) dd_M_binderOf_131
    | succ f ih =>
      intro i ls hif hl hres
      refine lv_iload hx hb dd_M_binderOf_88 (lv_at hl 0 rfl) ?_
      refine lv_aload_n hx hb dd_M_binderOf_90 rfl (lv_at hl 2 rfl) ?_
      refine mg_get hx hb ht ii_M hown hK hM my rfl 5 (by decide) wd_2_218 (fun _ h => h) rfl dd_M_binderOf_91 ?_
      refine lv_iload hx hb dd_M_binderOf_94 (lv_at hl 1 rfl) ?_
      refine mg_iald hx hb hK hM a3 (vp_in_nI (show (ho k) < 64 by omega) (by decide)) dd_M_binderOf_96 ?_
      rw [nI_clamp (show (ho k) < 2 ^ 31 by omega)]
      rw [(hD (ho k) (show (ho k) < nd by omega)).2.2.2.1]
      refine lv_icmp_ge (tgt := 130) hx hb dd_M_binderOf_97 (by decide) (fun z => absurd z (nI_ge (a := i) (b := np (ho k)) (by omega) (by omega))) (fun _ => ?_)
      refine lv_aload_n hx hb dd_M_binderOf_100 rfl (lv_at hl 2 rfl) ?_
      refine mg_get hx hb ht ii_M hown hK hM my rfl 6 (by decide) wd_2_219 (fun _ h => h) rfl dd_M_binderOf_101 ?_
      refine lv_bipush (v := 8) hx hb dd_M_binderOf_104 (by decide) ?_
      refine lv_iload hx hb dd_M_binderOf_106 (lv_at hl 1 rfl) ?_
      refine lv_imul hx hb dd_M_binderOf_108 ?_
      rw [nI_8]
      refine lv_iload hx hb dd_M_binderOf_109 (lv_at hl 0 rfl) ?_
      refine lv_iadd hx hb dd_M_binderOf_111 ?_
      rw [nI_add]
      refine mg_lald hx hb hK hM a4 (vp_in_nI (show (8 * (ho k) + i) < 512 by omega) (by decide)) dd_M_binderOf_112 ?_
      rw [nI_clamp (show (8 * (ho k) + i) < 2 ^ 31 by omega)]
      rw [(hD (ho k) (show (ho k) < nd by omega)).2.2.2.2.2.2.2.1 i (show i < np (ho k) by omega)]
      refine lv_lload_n hx hb dd_M_binderOf_113 rfl (lv_at hl 4 rfl) ?_
      refine W.lcmp hx hb dd_M_binderOf_114 ?_
      refine lc_if_ne (tgt := 124) hx hb dd_M_binderOf_115 (by decide) (fun c1 => ?_) (fun c1 => ?_)
      · obtain ⟨x2, ex2⟩ : ∃ y : Int32, y = (nI i) + 1 := ⟨_, rfl⟩
        refine lv_iinc (v := x2) (lv' := [(5, .int x2), (4, .int (nI (ho k))), (0, .ref y), (1, .int (nI k)), (2, .long x9)]) hx hb dd_M_binderOf_124 hl (k := 0) rfl (by rw [ex2]; rfl) (by decide) rfl (fun ls hl => ?_)
        refine lv_goto (tgt := 88) hx hb dd_M_binderOf_127 (by decide) ?_
        rw [ex2, nI_1] at hl
        exact ih (i + 1) ls (by omega) hl (by rw [← hres]; simp [m_pi, c1])
      · refine lv_bipush (v := (-2)) hx hb dd_M_binderOf_118 (by decide) ?_
        refine lv_iload hx hb dd_M_binderOf_120 (lv_at hl 0 rfl) ?_
        refine lv_isub hx hb dd_M_binderOf_122 ?_
        exact mr_i hx hb hr hlocks rfl (by rw [← hres]; simp [m_pi, m_pv, eq_true c1]) dd_M_binderOf_123
  have loop : ∀ (f : Nat) (j : Nat) (ls : Array Slot), j < nn ∧ j < f → lv_has ls 6 [(4, .int (nI j)), (0, .ref y), (1, .int (nI k)), (2, .long x9)] → m_bo N pa x9 f j = m_bo N pa x9 (k + 1) k → W p l e (rd 2 0 0) s m ([.ref y, .int (nI k), .long x9] : List Value).toArray below meth c s.heap [] 0 0 (MQ below (k2_QcV (.int (m_bval N pa pn np ho x9 k))) ([.ref y, .int (nI k), .long x9] : List Value).toArray s 0 0 (fun _ => False)) (F0 m 3 ls []) := by
    intro f
    induction f with
    | zero =>
      intro j ls hj hl hres
      omega
    | succ f ih =>
      intro j ls hj hl hres
      refine lv_aload_n hx hb dd_M_binderOf_3 rfl (lv_at hl 1 rfl) ?_
      refine mg_get hx hb ht ii_M hown hK hM my rfl 14 (by decide) wd_2_227 (fun _ h => h) rfl dd_M_binderOf_4 ?_
      refine lv_iload hx hb dd_M_binderOf_7 (lv_at hl 0 rfl) ?_
      refine mg_iald hx hb hK hM a11 (vp_in_nI (show j < 4096 by omega) (by decide)) dd_M_binderOf_9 ?_
      rw [nI_clamp (show j < 2 ^ 31 by omega)]
      rw [(hN j (show j < nn by omega)).2.2.2.2.1]
      rcases hp1 : pa j with _ | p1
      · rw [cn_none]
        refine lv_if_lt (tgt := 77) hx hb dd_M_binderOf_10 (by decide) (fun _ => ?_) (fun z => absurd (by decide) z)
        refine lv_aload_n hx hb dd_M_binderOf_77 rfl (lv_at hl 1 rfl) ?_
        refine mg_get hx hb ht ii_M hown hK hM my rfl 16 (by decide) wd_2_229 (fun _ h => h) rfl dd_M_binderOf_78 ?_
        refine lv_iload_n hx hb dd_M_binderOf_81 rfl (lv_at hl 2 rfl) ?_
        refine mg_iald hx hb hK hM a13 (vp_in_nI (show k < 4096 by omega) (by decide)) dd_M_binderOf_82 ?_
        rw [nI_clamp (show k < 2 ^ 31 by omega)]
        rw [(hN k (show k < nn by omega)).2.2.2.2.2.2.1]
        have hho := (hN k (show k < nn by omega)).2.2.2.2.2.2.2.2.1
        refine lv_istore (lv' := [(4, .int (nI (ho k))), (0, .ref y), (1, .int (nI k)), (2, .long x9)]) hx hb dd_M_binderOf_83 hl (by decide) rfl (fun ls hl => ?_)
        refine lv_iconst (v := 0) hx hb dd_M_binderOf_85 (by decide) ?_
        refine lv_istore (lv' := [(5, .int 0), (4, .int (nI (ho k))), (0, .ref y), (1, .int (nI k)), (2, .long x9)]) hx hb dd_M_binderOf_86 hl (by decide) rfl (fun ls hl => ?_)
        exact loop2 (np (ho k)) 0 ls (by omega) (by rw [nI_0]; exact hl) (by unfold m_bval; rw [← hres]; simp [m_bo, hp1])
      · rw [cn_some]
        have hlp1 := (hN j (show j < nn by omega)).2.2.2.2.2.2.2.2.2 p1 hp1
        refine lv_if_lt (tgt := 77) hx hb dd_M_binderOf_10 (by decide) (fun z => absurd z (nI_pos (by omega))) (fun _ => ?_)
        refine lv_aload_n hx hb dd_M_binderOf_13 rfl (lv_at hl 1 rfl) ?_
        refine mg_get hx hb ht ii_M hown hK hM my rfl 14 (by decide) wd_2_227 (fun _ h => h) rfl dd_M_binderOf_14 ?_
        refine lv_iload hx hb dd_M_binderOf_17 (lv_at hl 0 rfl) ?_
        refine mg_iald hx hb hK hM a11 (vp_in_nI (show j < 4096 by omega) (by decide)) dd_M_binderOf_19 ?_
        rw [nI_clamp (show j < 2 ^ 31 by omega)]
        rw [(hN j (show j < nn by omega)).2.2.2.2.1]
        rw [hp1, cn_some]
        refine lv_istore (lv' := [(5, .int (nI p1)), (4, .int (nI j)), (0, .ref y), (1, .int (nI k)), (2, .long x9)]) hx hb dd_M_binderOf_20 hl (by decide) rfl (fun ls hl => ?_)
        refine lv_aload_n hx hb dd_M_binderOf_22 rfl (lv_at hl 2 rfl) ?_
        refine lv_iload hx hb dd_M_binderOf_23 (lv_at hl 0 rfl) ?_
        refine lv_aload_n hx hb dd_M_binderOf_25 rfl (lv_at hl 2 rfl) ?_
        refine mg_get hx hb ht ii_M hown hK hM my rfl 15 (by decide) wd_2_228 (fun _ h => h) rfl dd_M_binderOf_26 ?_
        refine lv_iload hx hb dd_M_binderOf_29 (lv_at hl 1 rfl) ?_
        refine mg_iald hx hb hK hM a12 (vp_in_nI (show j < 4096 by omega) (by decide)) dd_M_binderOf_31 ?_
        rw [nI_clamp (show j < 2 ^ 31 by omega)]
        rw [(hN j (show j < nn by omega)).2.2.2.2.2.1]
        refine mc_V (As := [.int (nI p1), .int (n_pl (N j))]) (rest := []) 2 (cc_M_bindsIn hR hD hN (k := p1) (by omega) (p9 := (n_pl (N j)))) hx hb hml hown ht hM hK hl.1 lk_M_113 (by decide +kernel) (by decide) my rfl rfl rfl (Nat.le_of_ble_eq_true rfl) dd_M_binderOf_32 ⟨Nat.zero_le _, Nat.zero_le _⟩ ?_
        refine lb_if_eq (tgt := 65) hx hb dd_M_binderOf_35 (by decide) (fun c2 => ?_) (fun c2 => ?_)
        · refine lv_aload_n hx hb dd_M_binderOf_65 rfl (lv_at hl 2 rfl) ?_
          refine mg_get hx hb ht ii_M hown hK hM my rfl 14 (by decide) wd_2_227 (fun _ h => h) rfl dd_M_binderOf_66 ?_
          refine lv_iload hx hb dd_M_binderOf_69 (lv_at hl 1 rfl) ?_
          refine mg_iald hx hb hK hM a11 (vp_in_nI (show j < 4096 by omega) (by decide)) dd_M_binderOf_71 ?_
          rw [nI_clamp (show j < 2 ^ 31 by omega)]
          rw [(hN j (show j < nn by omega)).2.2.2.2.1]
          rw [hp1, cn_some]
          refine lv_istore (lv' := [(4, .int (nI p1)), (5, .int (nI p1)), (0, .ref y), (1, .int (nI k)), (2, .long x9)]) hx hb dd_M_binderOf_72 hl (by decide) rfl (fun ls hl => ?_)
          refine lv_goto (tgt := 3) hx hb dd_M_binderOf_74 (by decide) ?_
          exact ih p1 ls (by omega) (lv_sub hl [0, 2, 3, 4] rfl) (by rw [← hres]; simp [m_bo, hp1, c2])
        · refine lv_aload_n hx hb dd_M_binderOf_38 rfl (lv_at hl 2 rfl) ?_
          refine mg_get hx hb ht ii_M hown hK hM my rfl 11 (by decide) wd_2_224 (fun _ h => h) rfl dd_M_binderOf_39 ?_
          refine lv_iload hx hb dd_M_binderOf_42 (lv_at hl 0 rfl) ?_
          refine mg_lald hx hb hK hM a8 (vp_in_nI (show p1 < 4096 by omega) (by decide)) dd_M_binderOf_44 ?_
          rw [nI_clamp (show p1 < 2 ^ 31 by omega)]
          rw [(hN p1 (show p1 < nn by omega)).2.1]
          refine lv_lload_n hx hb dd_M_binderOf_45 rfl (lv_at hl 4 rfl) ?_
          refine W.lcmp hx hb dd_M_binderOf_46 ?_
          refine lc_if_eq (tgt := 62) hx hb dd_M_binderOf_47 (by decide) (fun c3 => ?_) (fun c3 => ?_)
          · refine lv_iload hx hb dd_M_binderOf_62 (lv_at hl 0 rfl) ?_
            exact mr_i hx hb hr hlocks rfl (by unfold m_bval; rw [← hres]; simp [m_bo, hp1, c2, eq_true c3]) dd_M_binderOf_64
          · refine lv_aload_n hx hb dd_M_binderOf_50 rfl (lv_at hl 2 rfl) ?_
            refine mg_get hx hb ht ii_M hown hK hM my rfl 12 (by decide) wd_2_225 (fun _ h => h) rfl dd_M_binderOf_51 ?_
            refine lv_iload hx hb dd_M_binderOf_54 (lv_at hl 0 rfl) ?_
            refine mg_lald hx hb hK hM a9 (vp_in_nI (show p1 < 4096 by omega) (by decide)) dd_M_binderOf_56 ?_
            rw [nI_clamp (show p1 < 2 ^ 31 by omega)]
            rw [(hN p1 (show p1 < nn by omega)).2.2.1]
            refine lv_lload_n hx hb dd_M_binderOf_57 rfl (lv_at hl 4 rfl) ?_
            refine W.lcmp hx hb dd_M_binderOf_58 ?_
            refine lc_if_ne (tgt := 65) hx hb dd_M_binderOf_59 (by decide) (fun c4 => ?_) (fun c4 => ?_)
            · refine lv_aload_n hx hb dd_M_binderOf_65 rfl (lv_at hl 2 rfl) ?_
              refine mg_get hx hb ht ii_M hown hK hM my rfl 14 (by decide) wd_2_227 (fun _ h => h) rfl dd_M_binderOf_66 ?_
              refine lv_iload hx hb dd_M_binderOf_69 (lv_at hl 1 rfl) ?_
              refine mg_iald hx hb hK hM a11 (vp_in_nI (show j < 4096 by omega) (by decide)) dd_M_binderOf_71 ?_
              rw [nI_clamp (show j < 2 ^ 31 by omega)]
              rw [(hN j (show j < nn by omega)).2.2.2.2.1]
              rw [hp1, cn_some]
              refine lv_istore (lv' := [(4, .int (nI p1)), (5, .int (nI p1)), (0, .ref y), (1, .int (nI k)), (2, .long x9)]) hx hb dd_M_binderOf_72 hl (by decide) rfl (fun ls hl => ?_)
              refine lv_goto (tgt := 3) hx hb dd_M_binderOf_74 (by decide) ?_
              exact ih p1 ls (by omega) (lv_sub hl [0, 2, 3, 4] rfl) (by rw [← hres]; simp [m_bo, hp1, c2, c3, c4])
            · refine lv_iload hx hb dd_M_binderOf_62 (lv_at hl 0 rfl) ?_
              exact mr_i hx hb hr hlocks rfl (by unfold m_bval; rw [← hres]; simp [m_bo, hp1, c2, c3, eq_true c4]) dd_M_binderOf_64
  refine lv_iload_n hx hb dd_M_binderOf_0 rfl (lv_at hl 1 rfl) ?_
  refine lv_istore (lv' := [(4, .int (nI k)), (0, .ref y), (1, .int (nI k)), (2, .long x9)]) hx hb dd_M_binderOf_1 hl (by decide) rfl (fun ls hl => ?_)
  exact loop (k + 1) k ls (by omega) hl rfl

set_option maxHeartbeats 4000000 in
set_option maxRecDepth 100000 in
theorem cc_M_targetOf {l : Launch} {G : gC} {M : mC} {y b nd nn : Nat} {I : Nat → Nat → Int32} {J : Nat → Nat → Int64} {Z : Nat → Int32} {kn : Bool} {ft fn mo th : Int32} (hR : rm G M y b nd nn I J Z kn ft fn mo th) {D : Nat → dR} {N : Nat → nR} {pn : Nat → Nat → Int64} {pt : Nat → Nat → Int32} {np bg ho : Nat → Nat} {pa : Nat → Option Nat} (hD : tD nd D pn pt np bg I J Z) (hN : tN nd nn N ho pa I J) {k : Nat} (hk : k < nn) : cR l yy_M_targetOf bb_M_targetOf 4 (some .int) 0 G M [.ref y, .int (nI k)] (.int (c_num (m_tgt nd D np (N k)))) := by
  refine me_R (by decide) (Nat.le_of_ble_eq_true rfl) ?_
  intro p e s m below meth c ls hx hb hr hlocks hml hown ht hM hK hl
  have hown : s.vm.findClass RR_M = some m.cls := hown
  have hl : lv_has ls 4 [(0, .ref y), (1, .int (nI k))] := hl
  obtain ⟨hyb, my, hA9, hnd, hnn⟩ := id hR
  obtain ⟨a0, a1, a2, a3, a4, a5, a6, a7, a8, a9, a10, a11, a12, a13, a14, a15, a16, a17⟩ := id hA9
  have loop : ∀ (f i : Nat) (o : Option Nat) (ls : Array Slot), i + f = nd → (∀ t, o = some t → t < nd) → lv_has ls 4 [(3, .int (nI i)), (2, .int (c_num o)), (0, .ref y), (1, .int (nI k))] → m_tg D (n_fi (N k)) f i o = m_tg D (n_fi (N k)) nd 0 none → W p l e (rd 0 0 0) s m ([.ref y, .int (nI k)] : List Value).toArray below meth c s.heap [] 0 0 (MQ below (k2_QcV (.int (c_num (m_tgt nd D np (N k))))) ([.ref y, .int (nI k)] : List Value).toArray s 0 0 (fun _ => False)) (F0 m 4 ls []) := by
    intro f
    induction f with
    | zero =>
      intro i o ls hif ho9 hl hres
      refine lv_iload_n hx hb dd_M_targetOf_4 rfl (lv_at hl 0 rfl) ?_
      refine lv_aload_n hx hb dd_M_targetOf_5 rfl (lv_at hl 2 rfl) ?_
      refine mg_get hx hb ht ii_M hown hK hM my rfl 1 (by decide) wd_2_214 (fun _ h => h) rfl dd_M_targetOf_6 ?_
      refine lv_icmp_ge (tgt := 40) hx hb dd_M_targetOf_9 (by decide) (fun _ => ?_) (fun z => absurd (nI_le (a := nd) (b := i) (by omega) (by omega)) z)
      have hres : o = m_tg D (n_fi (N k)) nd 0 none := hres
      cases o with
      | none =>
        have hl : lv_has ls 4 [(3, .int (nI i)), (2, .int (-1)), (0, .ref y), (1, .int (nI k))] := hl
        refine lv_iload_n hx hb dd_M_targetOf_40 rfl (lv_at hl 1 rfl) ?_
        refine lv_if_lt (tgt := 104) hx hb dd_M_targetOf_41 (by decide) (fun _ => ?_) (fun z => absurd (by decide) z)
        refine lv_iconst (v := 0) hx hb dd_M_targetOf_104 (by decide) ?_
        refine lv_istore_n (lv' := [(3, .int 0), (2, .int (-1)), (0, .ref y), (1, .int (nI k))]) hx hb dd_M_targetOf_105 rfl hl (by decide) rfl (fun ls hl => ?_)
        refine lv_iload_n hx hb dd_M_targetOf_106 rfl (lv_at hl 0 rfl) ?_
        refine lv_if_eq (tgt := 114) hx hb dd_M_targetOf_107 (by decide) (fun _ => ?_) (fun z => absurd (by decide) z)
        refine lv_iconst (v := -1) hx hb dd_M_targetOf_114 (by decide) ?_
        exact mr_i hx hb hr hlocks rfl (by simp [m_tgt, ← hres, c_num]) dd_M_targetOf_115
      | some t9 =>
        have hl : lv_has ls 4 [(3, .int (nI i)), (2, .int (nI t9)), (0, .ref y), (1, .int (nI k))] := hl
        have ht9 := ho9 t9 rfl
        refine lv_iload_n hx hb dd_M_targetOf_40 rfl (lv_at hl 1 rfl) ?_
        refine lv_if_lt (tgt := 104) hx hb dd_M_targetOf_41 (by decide) (fun z => absurd z (nI_pos (by omega))) (fun _ => ?_)
        refine lv_aload_n hx hb dd_M_targetOf_44 rfl (lv_at hl 2 rfl) ?_
        refine mg_get hx hb ht ii_M hown hK hM my rfl 2 (by decide) wd_2_215 (fun _ h => h) rfl dd_M_targetOf_45 ?_
        refine lv_iload_n hx hb dd_M_targetOf_48 rfl (lv_at hl 1 rfl) ?_
        refine lv_if_ge (tgt := 56) hx hb dd_M_targetOf_49 (by decide) (fun _ => ?_) (fun z => absurd (nI_pos' (by omega)) z)
        refine lv_iload_n hx hb dd_M_targetOf_56 rfl (lv_at hl 1 rfl) ?_
        refine mg_zald hx hb hK hM a0 (vp_in_nI (show t9 < 64 by omega) (by decide)) dd_M_targetOf_57 ?_
        rw [nI_clamp (show t9 < 2 ^ 31 by omega)]
        rw [(hD t9 (show t9 < nd by omega)).1]
        refine lv_aload_n hx hb dd_M_targetOf_58 rfl (lv_at hl 2 rfl) ?_
        refine mg_get hx hb ht ii_M hown hK hM my rfl 10 (by decide) wd_2_223 (fun _ h => h) rfl dd_M_targetOf_59 ?_
        refine lv_iload_n hx hb dd_M_targetOf_62 rfl (lv_at hl 3 rfl) ?_
        refine mg_iald hx hb hK hM a7 (vp_in_nI (show k < 4096 by omega) (by decide)) dd_M_targetOf_63 ?_
        rw [nI_clamp (show k < 2 ^ 31 by omega)]
        rw [(hN k (show k < nn by omega)).1]
        refine lv_bipush (v := 23) hx hb dd_M_targetOf_64 (by decide) ?_
        refine lv_icmp_ne (tgt := 73) hx hb dd_M_targetOf_66 (by decide) (fun c1 => ?_) (fun c1 => ?_)
        · refine lv_iconst (v := 0) hx hb dd_M_targetOf_73 (by decide) ?_
          refine lv_icmp_ne (tgt := 104) hx hb dd_M_targetOf_74 (by decide) (fun c2 => ?_) (fun c2 => ?_)
          · have c2 := bI_n.mp c2
            refine lv_iconst (v := 0) hx hb dd_M_targetOf_104 (by decide) ?_
            refine lv_istore_n (lv' := [(3, .int 0), (2, .int (nI t9)), (0, .ref y), (1, .int (nI k))]) hx hb dd_M_targetOf_105 rfl hl (by decide) rfl (fun ls hl => ?_)
            refine lv_iload_n hx hb dd_M_targetOf_106 rfl (lv_at hl 0 rfl) ?_
            refine lv_if_eq (tgt := 114) hx hb dd_M_targetOf_107 (by decide) (fun _ => ?_) (fun z => absurd (by decide) z)
            refine lv_iconst (v := -1) hx hb dd_M_targetOf_114 (by decide) ?_
            exact mr_i hx hb hr hlocks rfl (by simp [m_tgt, ← hres, c_num, c1, c2]) dd_M_targetOf_115
          · have c2 := bI_0.mp c2
            refine lv_aload_n hx hb dd_M_targetOf_77 rfl (lv_at hl 2 rfl) ?_
            refine mg_get hx hb ht ii_M hown hK hM my rfl 5 (by decide) wd_2_218 (fun _ h => h) rfl dd_M_targetOf_78 ?_
            refine lv_iload_n hx hb dd_M_targetOf_81 rfl (lv_at hl 1 rfl) ?_
            refine lv_if_ge (tgt := 89) hx hb dd_M_targetOf_82 (by decide) (fun _ => ?_) (fun z => absurd (nI_pos' (by omega)) z)
            refine lv_iload_n hx hb dd_M_targetOf_89 rfl (lv_at hl 1 rfl) ?_
            refine mg_iald hx hb hK hM a3 (vp_in_nI (show t9 < 64 by omega) (by decide)) dd_M_targetOf_90 ?_
            rw [nI_clamp (show t9 < 2 ^ 31 by omega)]
            rw [(hD t9 (show t9 < nd by omega)).2.2.2.1]
            refine lv_aload_n hx hb dd_M_targetOf_91 rfl (lv_at hl 2 rfl) ?_
            refine mg_get hx hb ht ii_M hown hK hM my rfl 13 (by decide) wd_2_226 (fun _ h => h) rfl dd_M_targetOf_92 ?_
            refine lv_iload_n hx hb dd_M_targetOf_95 rfl (lv_at hl 3 rfl) ?_
            refine mg_iald hx hb hK hM a10 (vp_in_nI (show k < 4096 by omega) (by decide)) dd_M_targetOf_96 ?_
            rw [nI_clamp (show k < 2 ^ 31 by omega)]
            rw [(hN k (show k < nn by omega)).2.2.2.1]
            refine lv_icmp_ne (tgt := 104) hx hb dd_M_targetOf_97 (by decide) (fun c3 => ?_) (fun c3 => ?_)
            · refine lv_iconst (v := 0) hx hb dd_M_targetOf_104 (by decide) ?_
              refine lv_istore_n (lv' := [(3, .int 0), (2, .int (nI t9)), (0, .ref y), (1, .int (nI k))]) hx hb dd_M_targetOf_105 rfl hl (by decide) rfl (fun ls hl => ?_)
              refine lv_iload_n hx hb dd_M_targetOf_106 rfl (lv_at hl 0 rfl) ?_
              refine lv_if_eq (tgt := 114) hx hb dd_M_targetOf_107 (by decide) (fun _ => ?_) (fun z => absurd (by decide) z)
              refine lv_iconst (v := -1) hx hb dd_M_targetOf_114 (by decide) ?_
              exact mr_i hx hb hr hlocks rfl (by simp [m_tgt, ← hres, c_num, c1, c2, c3]) dd_M_targetOf_115
            · refine lv_iconst (v := 1) hx hb dd_M_targetOf_100 (by decide) ?_
              refine lv_goto (tgt := 105) hx hb dd_M_targetOf_101 (by decide) ?_
              refine lv_istore_n (lv' := [(3, .int 1), (2, .int (nI t9)), (0, .ref y), (1, .int (nI k))]) hx hb dd_M_targetOf_105 rfl hl (by decide) rfl (fun ls hl => ?_)
              refine lv_iload_n hx hb dd_M_targetOf_106 rfl (lv_at hl 0 rfl) ?_
              refine lv_if_eq (tgt := 114) hx hb dd_M_targetOf_107 (by decide) (fun z => absurd z (by decide)) (fun _ => ?_)
              refine lv_iload_n hx hb dd_M_targetOf_110 rfl (lv_at hl 1 rfl) ?_
              refine lv_goto (tgt := 115) hx hb dd_M_targetOf_111 (by decide) ?_
              exact mr_i hx hb hr hlocks rfl (by simp [m_tgt, ← hres, c_num, c1, c2, eq_true c3]) dd_M_targetOf_115
        · refine lv_iconst (v := 1) hx hb dd_M_targetOf_69 (by decide) ?_
          refine lv_goto (tgt := 74) hx hb dd_M_targetOf_70 (by decide) ?_
          refine lv_icmp_ne (tgt := 104) hx hb dd_M_targetOf_74 (by decide) (fun c4 => ?_) (fun c4 => ?_)
          · have c4 := bI_m.mp c4
            refine lv_iconst (v := 0) hx hb dd_M_targetOf_104 (by decide) ?_
            refine lv_istore_n (lv' := [(3, .int 0), (2, .int (nI t9)), (0, .ref y), (1, .int (nI k))]) hx hb dd_M_targetOf_105 rfl hl (by decide) rfl (fun ls hl => ?_)
            refine lv_iload_n hx hb dd_M_targetOf_106 rfl (lv_at hl 0 rfl) ?_
            refine lv_if_eq (tgt := 114) hx hb dd_M_targetOf_107 (by decide) (fun _ => ?_) (fun z => absurd (by decide) z)
            refine lv_iconst (v := -1) hx hb dd_M_targetOf_114 (by decide) ?_
            exact mr_i hx hb hr hlocks rfl (by simp [m_tgt, ← hres, c_num, eq_true c1, c4]) dd_M_targetOf_115
          · have c4 := bI_1.mp c4
            refine lv_aload_n hx hb dd_M_targetOf_77 rfl (lv_at hl 2 rfl) ?_
            refine mg_get hx hb ht ii_M hown hK hM my rfl 5 (by decide) wd_2_218 (fun _ h => h) rfl dd_M_targetOf_78 ?_
            refine lv_iload_n hx hb dd_M_targetOf_81 rfl (lv_at hl 1 rfl) ?_
            refine lv_if_ge (tgt := 89) hx hb dd_M_targetOf_82 (by decide) (fun _ => ?_) (fun z => absurd (nI_pos' (by omega)) z)
            refine lv_iload_n hx hb dd_M_targetOf_89 rfl (lv_at hl 1 rfl) ?_
            refine mg_iald hx hb hK hM a3 (vp_in_nI (show t9 < 64 by omega) (by decide)) dd_M_targetOf_90 ?_
            rw [nI_clamp (show t9 < 2 ^ 31 by omega)]
            rw [(hD t9 (show t9 < nd by omega)).2.2.2.1]
            refine lv_aload_n hx hb dd_M_targetOf_91 rfl (lv_at hl 2 rfl) ?_
            refine mg_get hx hb ht ii_M hown hK hM my rfl 13 (by decide) wd_2_226 (fun _ h => h) rfl dd_M_targetOf_92 ?_
            refine lv_iload_n hx hb dd_M_targetOf_95 rfl (lv_at hl 3 rfl) ?_
            refine mg_iald hx hb hK hM a10 (vp_in_nI (show k < 4096 by omega) (by decide)) dd_M_targetOf_96 ?_
            rw [nI_clamp (show k < 2 ^ 31 by omega)]
            rw [(hN k (show k < nn by omega)).2.2.2.1]
            refine lv_icmp_ne (tgt := 104) hx hb dd_M_targetOf_97 (by decide) (fun c5 => ?_) (fun c5 => ?_)
            · refine lv_iconst (v := 0) hx hb dd_M_targetOf_104 (by decide) ?_
              refine lv_istore_n (lv' := [(3, .int 0), (2, .int (nI t9)), (0, .ref y), (1, .int (nI k))]) hx hb dd_M_targetOf_105 rfl hl (by decide) rfl (fun ls hl => ?_)
              refine lv_iload_n hx hb dd_M_targetOf_106 rfl (lv_at hl 0 rfl) ?_
              refine lv_if_eq (tgt := 114) hx hb dd_M_targetOf_107 (by decide) (fun _ => ?_) (fun z => absurd (by decide) z)
              refine lv_iconst (v := -1) hx hb dd_M_targetOf_114 (by decide) ?_
              exact mr_i hx hb hr hlocks rfl (by simp [m_tgt, ← hres, c_num, eq_true c1, c4, c5]) dd_M_targetOf_115
            · refine lv_iconst (v := 1) hx hb dd_M_targetOf_100 (by decide) ?_
              refine lv_goto (tgt := 105) hx hb dd_M_targetOf_101 (by decide) ?_
              refine lv_istore_n (lv' := [(3, .int 1), (2, .int (nI t9)), (0, .ref y), (1, .int (nI k))]) hx hb dd_M_targetOf_105 rfl hl (by decide) rfl (fun ls hl => ?_)
              refine lv_iload_n hx hb dd_M_targetOf_106 rfl (lv_at hl 0 rfl) ?_
              refine lv_if_eq (tgt := 114) hx hb dd_M_targetOf_107 (by decide) (fun z => absurd z (by decide)) (fun _ => ?_)
              refine lv_iload_n hx hb dd_M_targetOf_110 rfl (lv_at hl 1 rfl) ?_
              refine lv_goto (tgt := 115) hx hb dd_M_targetOf_111 (by decide) ?_
              exact mr_i hx hb hr hlocks rfl (by simp [m_tgt, ← hres, c_num, eq_true c1, c4, eq_true c5]) dd_M_targetOf_115
    | succ f ih =>
      intro i o ls hif ho9 hl hres
      refine lv_iload_n hx hb dd_M_targetOf_4 rfl (lv_at hl 0 rfl) ?_
      refine lv_aload_n hx hb dd_M_targetOf_5 rfl (lv_at hl 2 rfl) ?_
      refine mg_get hx hb ht ii_M hown hK hM my rfl 1 (by decide) wd_2_214 (fun _ h => h) rfl dd_M_targetOf_6 ?_
      refine lv_icmp_ge (tgt := 40) hx hb dd_M_targetOf_9 (by decide) (fun z => absurd z (nI_ge (a := i) (b := nd) (by omega) (by omega))) (fun _ => ?_)
      refine lv_aload_n hx hb dd_M_targetOf_12 rfl (lv_at hl 2 rfl) ?_
      refine mg_get hx hb ht ii_M hown hK hM my rfl 3 (by decide) wd_2_216 (fun _ h => h) rfl dd_M_targetOf_13 ?_
      refine lv_iload_n hx hb dd_M_targetOf_16 rfl (lv_at hl 0 rfl) ?_
      refine mg_lald hx hb hK hM a1 (vp_in_nI (show i < 64 by omega) (by decide)) dd_M_targetOf_17 ?_
      rw [nI_clamp (show i < 2 ^ 31 by omega)]
      rw [(hD i (show i < nd by omega)).2.1]
      refine lv_aload_n hx hb dd_M_targetOf_18 rfl (lv_at hl 2 rfl) ?_
      refine mg_get hx hb ht ii_M hown hK hM my rfl 11 (by decide) wd_2_224 (fun _ h => h) rfl dd_M_targetOf_19 ?_
      refine lv_iload_n hx hb dd_M_targetOf_22 rfl (lv_at hl 3 rfl) ?_
      refine mg_lald hx hb hK hM a8 (vp_in_nI (show k < 4096 by omega) (by decide)) dd_M_targetOf_23 ?_
      rw [nI_clamp (show k < 2 ^ 31 by omega)]
      rw [(hN k (show k < nn by omega)).2.1]
      refine W.lcmp hx hb dd_M_targetOf_24 ?_
      refine lc_if_ne (tgt := 32) hx hb dd_M_targetOf_25 (by decide) (fun c1 => ?_) (fun c1 => ?_)
      · refine lv_iload_n hx hb dd_M_targetOf_32 rfl (lv_at hl 1 rfl) ?_
        refine lv_istore_n (lv' := [(2, .int (c_num o)), (3, .int (nI i)), (0, .ref y), (1, .int (nI k))]) hx hb dd_M_targetOf_33 rfl hl (by decide) rfl (fun ls hl => ?_)
        obtain ⟨x2, ex2⟩ : ∃ y : Int32, y = (nI i) + 1 := ⟨_, rfl⟩
        refine lv_iinc (v := x2) (lv' := [(3, .int x2), (2, .int (c_num o)), (0, .ref y), (1, .int (nI k))]) hx hb dd_M_targetOf_34 hl (k := 1) rfl (by rw [ex2]; rfl) (by decide) rfl (fun ls hl => ?_)
        refine lv_goto (tgt := 4) hx hb dd_M_targetOf_37 (by decide) ?_
        rw [ex2, nI_1] at hl
        exact ih (i + 1) o ls (by omega) ho9 hl (by rw [← hres]; simp [m_tg, c1])
      · refine lv_iload_n hx hb dd_M_targetOf_28 rfl (lv_at hl 0 rfl) ?_
        refine lv_goto (tgt := 33) hx hb dd_M_targetOf_29 (by decide) ?_
        refine lv_istore_n (lv' := [(2, .int (nI i)), (3, .int (nI i)), (0, .ref y), (1, .int (nI k))]) hx hb dd_M_targetOf_33 rfl hl (by decide) rfl (fun ls hl => ?_)
        obtain ⟨x3, ex3⟩ : ∃ y : Int32, y = (nI i) + 1 := ⟨_, rfl⟩
        refine lv_iinc (v := x3) (lv' := [(3, .int x3), (2, .int (nI i)), (0, .ref y), (1, .int (nI k))]) hx hb dd_M_targetOf_34 hl (k := 1) rfl (by rw [ex3]; rfl) (by decide) rfl (fun ls hl => ?_)
        refine lv_goto (tgt := 4) hx hb dd_M_targetOf_37 (by decide) ?_
        rw [ex3, nI_1] at hl
        exact ih (i + 1) (some i) ls (by omega) (fun t h => by cases h; omega) hl (by rw [← hres]; simp [m_tg, eq_true c1])
  refine lv_iconst (v := -1) hx hb dd_M_targetOf_0 (by decide) ?_
  refine lv_istore_n (lv' := [(2, .int (-1)), (0, .ref y), (1, .int (nI k))]) hx hb dd_M_targetOf_1 rfl hl (by decide) rfl (fun ls hl => ?_)
  refine lv_iconst (v := 0) hx hb dd_M_targetOf_2 (by decide) ?_
  refine lv_istore_n (lv' := [(3, .int 0), (2, .int (-1)), (0, .ref y), (1, .int (nI k))]) hx hb dd_M_targetOf_3 rfl hl (by decide) rfl (fun ls hl => ?_)
  exact loop nd 0 none ls (by omega) (fun t h => by cases h) (by rw [nI_0]; exact hl) rfl
