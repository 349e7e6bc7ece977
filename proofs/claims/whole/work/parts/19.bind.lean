/-- no address of the chain is h -/
def chd (h : Nat) : Option Nat → List nR → Prop
  | none, [] => True
  | some a, q :: L => a ≠ h ∧ chd h (n_pa q) L
  | _, _ => False
theorem chn_nil {M : mC} {o : Option Nat} (h : chn M o []) : o = none := by
  cases o with
  | none => rfl
  | some a => exact h.elim
theorem chn_cons {M : mC} {o : Option Nat} {q : nR} {L : List nR} (h : chn M o (q :: L)) : ∃ y, o = some y ∧ M y = some (nC q) ∧ chn M (n_pa q) L := by
  cases o with
  | none => exact h.elim
  | some a => exact ⟨a, rfl, h.1, h.2⟩
theorem chd_cons {h0 : Nat} {o : Option Nat} {q : nR} {L : List nR} (h : chd h0 o (q :: L)) {y : Nat} (ey : o = some y) : y ≠ h0 ∧ chd h0 (n_pa q) L := by
  subst ey
  exact h
theorem hm_nd {M : mC} {a b : Nat} {d : dR} {r : nR} (ha : M a = some (dC d)) (hb : M b = some (nC r)) : a ≠ b := fun z => by rw [z, hb] at ha; cases ha
theorem hm_ni {G : gC} {M : mC} {a b n : Nat} {f : Nat → Int32} {r : nR} (ha : M a = some (iA G n f)) (hb : M b = some (nC r)) : a ≠ b := fun z => by rw [z, hb] at ha; cases ha
set_option maxHeartbeats 4000000 in
set_option maxRecDepth 100000 in
theorem cc_N_bind {l : Launch} {G : gC} {M : mC} {sz : Nat} {h0 : Nat} {r : nR} (m0 : M h0 = some (nC r)) {hd : dR} (md : M (n_ho r) = some (dC hd)) {pn : Nat → Int64} (mn : M (d_apn hd) = some (lA G 8 pn)) {pt : Nat → Int32} (mt : M (d_apt hd) = some (iA G 8 pt)) {L : List nR} (hch : chn M (n_pa r) L) (hcd : chd h0 (n_pa r) L) : cW l yy_N_bind bb_N_bind 3 (some .boolean) 2 0 0 G M sz [.ref h0] (fun v u => v = some (.int (bI (n_bok (n_bnd (n_fi r) r L) (d_index hd pn (n_fi r))))) ∧ u = mp_up M h0 (nC (n_s_vt (n_s_bb r (n_bv (n_bnd (n_fi r) r L) (d_index hd pn (n_fi r)))) (n_bt (n_bnd (n_fi r) r L) (n_fi r) hd pt (d_index hd pn (n_fi r)))))) := by
  refine me_W (by decide) (Nat.le_of_ble_eq_true rfl) ?_
  intro p e s m below meth c ls hx hb hr hlocks hml hown hname ht hsz hM hK hZ hl
  have hown : s.vm.findClass RR_N = some m.cls := hown
  have hl : lv_has ls 3 [(0, .ref h0)] := hl
  have hS : va_S (fr M sz) s.heap s.heap [] := va_S.rf
  have hF : ∀ q, M q ≠ none → fr M sz q := fr_M
  have hA : ∀ q, s.heap.size ≤ q → fr M sz q := fun q h => fr_A q (by rw [← hsz]; exact h)
  have m0' := m0
  have md' := md
  have mt' := mt
  have loop : ∀ (L1 : List nR) (ai : Nat) (ri : nR) (ls : Array Slot), M ai = some (nC ri) → chn M (n_pa ri) L1 → chd h0 (n_pa ri) L1 → lv_has ls 3 [(1, .ref ai), (0, .ref h0)] → n_bnd (n_fi r) ri L1 = (n_bnd (n_fi r) r L) → W p l e (rd 2 0 0) s m ([.ref h0] : List Value).toArray below meth c s.heap [] 0 0 (MQ below (cQ G M sz (fun v u => v = some (.int (bI (n_bok (n_bnd (n_fi r) r L) (d_index hd pn (n_fi r))))) ∧ u = mp_up M h0 (nC (n_s_vt (n_s_bb r (n_bv (n_bnd (n_fi r) r L) (d_index hd pn (n_fi r)))) (n_bt (n_bnd (n_fi r) r L) (n_fi r) hd pt (d_index hd pn (n_fi r))))))) ([.ref h0] : List Value).toArray s 0 0 (fr M sz)) (F0 m 2 ls []) := by
    intro L1
    induction L1 with
    | nil =>
      intro ai ri ls mi hch hcd hl hB
      have ey := chn_nil hch
      replace hB : (n_bnd (n_fi r) r L) = none := by rw [← hB]; rfl
      refine lv_aload_n hx hb dd_N_bind_2 rfl (lv_at hl 0 rfl) ?_
      refine mg_get (v := .null) hx hb ht ii_N hown hK hM mi rfl 2 (by decide) wd_2_36 (fun _ h => h) (congrArg (fun z => some (va_rf z)) ey) dd_N_bind_3 ?_
      refine lv_ifnullN (tgt := 71) hx hb dd_N_bind_6 (by decide) ?_
      refine lv_aload_n hx hb dd_N_bind_71 rfl (lv_at hl 1 rfl) ?_
      refine mg_get hx hb ht ii_N hown hK hM m0 rfl 1 (by decide) wd_2_34 (fun _ h => h) rfl dd_N_bind_72 ?_
      refine lv_aload_n hx hb dd_N_bind_75 rfl (lv_at hl 1 rfl) ?_
      refine mg_get hx hb ht ii_N hown hK hM m0 rfl 5 (by decide) wd_2_44 (fun _ h => h) rfl dd_N_bind_76 ?_
      refine mc_V (As := [.long (n_fi r)]) (rest := []) 1 (cc_D_indexOfParameter md mn (x := n_fi r)) hx hb hml hown ht hM hK hl.1 lk_N_88 (by decide +kernel) (by decide) md rfl rfl rfl (Nat.le_of_ble_eq_true rfl) dd_N_bind_79 ⟨Nat.zero_le _, Nat.zero_le _⟩ ?_
      refine lv_topi (fun ix eix => ?_)
      refine lv_istore_n (lv' := [(2, .int ix), (1, .ref ai), (0, .ref h0)]) hx hb dd_N_bind_82 rfl hl (by decide) rfl (fun ls hl => ?_)
      refine lv_aload_n hx hb dd_N_bind_83 rfl (lv_at hl 2 rfl) ?_
      refine lv_iload_n hx hb dd_N_bind_84 rfl (lv_at hl 0 rfl) ?_
      refine lv_iconst (v := -1) hx hb dd_N_bind_85 (by decide) ?_
      refine lv_icmp_ne (tgt := 93) hx hb dd_N_bind_86 (by decide) (fun c1 => ?_) (fun c1 => ?_)
      · refine lv_bipush (v := (-2)) hx hb dd_N_bind_93 (by decide) ?_
        refine lv_iload_n hx hb dd_N_bind_95 rfl (lv_at hl 0 rfl) ?_
        refine lv_isub hx hb dd_N_bind_96 ?_
        refine lv_topi (fun bx ebx => ?_)
        refine mg_put (v := .int bx) hx hb ht ii_N tt_N tt_N_ok nn_N hown hK hM hS (hF _ (by rw [m0]; exact Option.some_ne_none _)) m0 rfl 11 (by decide) wd_2_55 (fun _ h => h) (Or.inl rfl) rfl rfl rfl (Nat.le_of_ble_eq_true rfl) dd_N_bind_97 (fun H locs hM hz hoq hS => ?_)
        have hM : hm G (mp_up M h0 (nC (n_s_bb r bx))) H := hM
        have hF : ∀ z9, (mp_up M h0 (nC (n_s_bb r bx))) z9 ≠ none → fr M sz z9 := hF_put hF (hF _ (by rw [m0]; exact Option.some_ne_none _))
        have m0 : (mp_up M h0 (nC (n_s_bb r bx))) h0 = some (nC (n_s_bb r bx)) := mp_self _ _ _
        refine lv_aload_n hx hb dd_N_bind_100 rfl (lv_at hl 2 rfl) ?_
        refine lv_aload_n hx hb dd_N_bind_101 rfl (lv_at hl 2 rfl) ?_
        have md := mp_at (M := M) (a := h0) (e := (nC (n_s_bb r bx))) (hm_nd md' m0') md
        have mt1 := mp_at (a := h0) (e := nC (n_s_bb r bx)) (hm_ni mt' m0') mt'
        refine mg_get (v := .ref (n_ho r)) hx hb ht ii_N hown hK hM m0 rfl 1 (by decide) wd_2_34 (fun _ h => h) rfl dd_N_bind_102 ?_
        refine lv_iload_n hx hb dd_N_bind_105 rfl (lv_at hl 0 rfl) ?_
        refine mc_V (As := [.int ix]) (rest := [.ref h0]) 1 (cc_D_parameterType (i := ix) md mt1) hx hb hml hown ht hM hK hl.1 lk_N_92 (by decide +kernel) (by decide) md rfl rfl rfl (Nat.le_of_ble_eq_true rfl) dd_N_bind_106 ⟨Nat.zero_le _, Nat.zero_le _⟩ ?_
        refine mg_put (v := .int (d_ptype hd pt ix)) hx hb ht ii_N tt_N tt_N_ok nn_N hown hK hM hS (hF _ (by rw [m0]; exact Option.some_ne_none _)) m0 rfl 9 (by decide) wd_2_52 (fun _ h => h) (Or.inl rfl) rfl rfl rfl (Nat.le_of_ble_eq_true rfl) dd_N_bind_109 (fun H locs hM hz hoq hS => ?_)
        rw [mp_mp] at hM
        have hM : hm G (mp_up M h0 (nC (n_s_vt (n_s_bb r bx) (d_ptype hd pt ix)))) H := hM
        have hF : ∀ z9, (mp_up M h0 (nC (n_s_vt (n_s_bb r bx) (d_ptype hd pt ix)))) z9 ≠ none → fr M sz z9 := hF_same hF
        have m0 : (mp_up M h0 (nC (n_s_vt (n_s_bb r bx) (d_ptype hd pt ix)))) h0 = some (nC (n_s_vt (n_s_bb r bx) (d_ptype hd pt ix))) := mp_self _ _ _
        refine lv_iload_n hx hb dd_N_bind_112 rfl (lv_at hl 0 rfl) ?_
        refine lv_iconst (v := -1) hx hb dd_N_bind_113 (by decide) ?_
        refine lv_icmp_eq (tgt := 121) hx hb dd_N_bind_114 (by decide) (fun z => absurd z c1) (fun _ => ?_)
        refine lv_iconst (v := 1) hx hb dd_N_bind_117 (by decide) ?_
        refine lv_goto (tgt := 122) hx hb dd_N_bind_118 (by decide) ?_
        exact mw_i hx hb hr hlocks rfl hM hF hS (Nat.zero_le _) (Nat.zero_le _) ⟨by rw [hB, ← eix]; simp [n_bok, bI, c1, ebx], by rw [hB, ← eix]; simp [n_bv, n_bt, c1, ebx]⟩ dd_N_bind_122
      · refine lv_iconst (v := -1) hx hb dd_N_bind_89 (by decide) ?_
        refine lv_goto (tgt := 97) hx hb dd_N_bind_90 (by decide) ?_
        refine mg_put (v := .int (-1)) hx hb ht ii_N tt_N tt_N_ok nn_N hown hK hM hS (hF _ (by rw [m0]; exact Option.some_ne_none _)) m0 rfl 11 (by decide) wd_2_55 (fun _ h => h) (Or.inl rfl) rfl rfl rfl (Nat.le_of_ble_eq_true rfl) dd_N_bind_97 (fun H locs hM hz hoq hS => ?_)
        have hM : hm G (mp_up M h0 (nC (n_s_bb r (-1)))) H := hM
        have hF : ∀ z9, (mp_up M h0 (nC (n_s_bb r (-1)))) z9 ≠ none → fr M sz z9 := hF_put hF (hF _ (by rw [m0]; exact Option.some_ne_none _))
        have m0 : (mp_up M h0 (nC (n_s_bb r (-1)))) h0 = some (nC (n_s_bb r (-1))) := mp_self _ _ _
        refine lv_aload_n hx hb dd_N_bind_100 rfl (lv_at hl 2 rfl) ?_
        refine lv_aload_n hx hb dd_N_bind_101 rfl (lv_at hl 2 rfl) ?_
        have md := mp_at (M := M) (a := h0) (e := (nC (n_s_bb r (-1)))) (hm_nd md' m0') md
        have mt1 := mp_at (a := h0) (e := nC (n_s_bb r (-1))) (hm_ni mt' m0') mt'
        refine mg_get (v := .ref (n_ho r)) hx hb ht ii_N hown hK hM m0 rfl 1 (by decide) wd_2_34 (fun _ h => h) rfl dd_N_bind_102 ?_
        refine lv_iload_n hx hb dd_N_bind_105 rfl (lv_at hl 0 rfl) ?_
        refine mc_V (As := [.int ix]) (rest := [.ref h0]) 1 (cc_D_parameterType (i := ix) md mt1) hx hb hml hown ht hM hK hl.1 lk_N_92 (by decide +kernel) (by decide) md rfl rfl rfl (Nat.le_of_ble_eq_true rfl) dd_N_bind_106 ⟨Nat.zero_le _, Nat.zero_le _⟩ ?_
        refine mg_put (v := .int (d_ptype hd pt ix)) hx hb ht ii_N tt_N tt_N_ok nn_N hown hK hM hS (hF _ (by rw [m0]; exact Option.some_ne_none _)) m0 rfl 9 (by decide) wd_2_52 (fun _ h => h) (Or.inl rfl) rfl rfl rfl (Nat.le_of_ble_eq_true rfl) dd_N_bind_109 (fun H locs hM hz hoq hS => ?_)
        rw [mp_mp] at hM
        have hM : hm G (mp_up M h0 (nC (n_s_vt (n_s_bb r (-1)) (d_ptype hd pt ix)))) H := hM
        have hF : ∀ z9, (mp_up M h0 (nC (n_s_vt (n_s_bb r (-1)) (d_ptype hd pt ix)))) z9 ≠ none → fr M sz z9 := hF_same hF
        have m0 : (mp_up M h0 (nC (n_s_vt (n_s_bb r (-1)) (d_ptype hd pt ix)))) h0 = some (nC (n_s_vt (n_s_bb r (-1)) (d_ptype hd pt ix))) := mp_self _ _ _
        refine lv_iload_n hx hb dd_N_bind_112 rfl (lv_at hl 0 rfl) ?_
        refine lv_iconst (v := -1) hx hb dd_N_bind_113 (by decide) ?_
        refine lv_icmp_eq (tgt := 121) hx hb dd_N_bind_114 (by decide) (fun _ => ?_) (fun z => absurd c1 z)
        refine lv_iconst (v := 0) hx hb dd_N_bind_121 (by decide) ?_
        exact mw_i hx hb hr hlocks rfl hM hF hS (Nat.zero_le _) (Nat.zero_le _) ⟨by rw [hB, ← eix]; simp [n_bok, bI, eq_true c1], by rw [hB, ← eix]; simp [n_bv, n_bt, eq_true c1]⟩ dd_N_bind_122
    | cons q L2 ih =>
      intro ai ri ls mi hch hcd hl hB
      obtain ⟨y, ey, my, hch2⟩ := chn_cons hch
      obtain ⟨hny, hcd2⟩ := chd_cons hcd ey
      refine lv_aload_n hx hb dd_N_bind_2 rfl (lv_at hl 0 rfl) ?_
      refine mg_get (v := .ref y) hx hb ht ii_N hown hK hM mi rfl 2 (by decide) wd_2_36 (fun _ h => h) (congrArg (fun z => some (va_rf z)) ey) dd_N_bind_3 ?_
      refine lv_ifnull hx hb dd_N_bind_6 ?_
      refine lv_aload_n hx hb dd_N_bind_9 rfl (lv_at hl 0 rfl) ?_
      refine mg_get (v := .ref y) hx hb ht ii_N hown hK hM mi rfl 2 (by decide) wd_2_36 (fun _ h => h) (congrArg (fun z => some (va_rf z)) ey) dd_N_bind_10 ?_
      refine lv_astore_n (lv' := [(2, .ref y), (1, .ref ai), (0, .ref h0)]) hx hb dd_N_bind_13 rfl hl (by decide) rfl (fun ls hl => ?_)
      refine lv_aload_n hx hb dd_N_bind_14 rfl (lv_at hl 1 rfl) ?_
      refine mc_V (As := []) (rest := []) 0 (cc_N_isLastPart mi (q := q) (fun z hz => by rw [ey] at hz; cases hz; exact my)) hx hb hml hown ht hM hK hl.1 lk_N_65 (by decide +kernel) (by decide) mi rfl rfl rfl (Nat.le_of_ble_eq_true rfl) dd_N_bind_15 ⟨Nat.zero_le _, Nat.zero_le _⟩ ?_
      refine lb_if_eq (tgt := 66) hx hb dd_N_bind_18 (by decide) (fun c1 => ?_) (fun c1 => ?_)
      · refine lv_aload_n hx hb dd_N_bind_66 rfl (lv_at hl 0 rfl) ?_
        refine lv_astore_n (lv' := [(1, .ref y), (2, .ref y), (0, .ref h0)]) hx hb dd_N_bind_67 rfl hl (by decide) rfl (fun ls hl => ?_)
        refine lv_goto (tgt := 2) hx hb dd_N_bind_68 (by decide) ?_
        exact ih y q ls my hch2 hcd2 (lv_sub hl [0, 2] rfl) (by rw [← hB]; simp [n_bnd, c1])
      · refine lv_aload_n hx hb dd_N_bind_21 rfl (lv_at hl 0 rfl) ?_
        refine lv_aload_n hx hb dd_N_bind_22 rfl (lv_at hl 2 rfl) ?_
        refine mg_get hx hb ht ii_N hown hK hM m0 rfl 5 (by decide) wd_2_44 (fun _ h => h) rfl dd_N_bind_23 ?_
        refine mc_V (As := [.long (n_fi r)]) (rest := []) 1 (cc_N_bindsInLastPart my (x := (n_fi r))) hx hb hml hown ht hM hK hl.1 lk_N_82 (by decide +kernel) (by decide) my rfl rfl rfl (Nat.le_of_ble_eq_true rfl) dd_N_bind_26 ⟨Nat.zero_le _, Nat.zero_le _⟩ ?_
        refine lb_if_eq (tgt := 66) hx hb dd_N_bind_29 (by decide) (fun c2 => ?_) (fun c2 => ?_)
        · refine lv_aload_n hx hb dd_N_bind_66 rfl (lv_at hl 0 rfl) ?_
          refine lv_astore_n (lv' := [(1, .ref y), (2, .ref y), (0, .ref h0)]) hx hb dd_N_bind_67 rfl hl (by decide) rfl (fun ls hl => ?_)
          refine lv_goto (tgt := 2) hx hb dd_N_bind_68 (by decide) ?_
          exact ih y q ls my hch2 hcd2 (lv_sub hl [0, 2] rfl) (by rw [← hB]; simp [n_bnd, c1, c2])
        · have hB2 : n_bnd (n_fi r) r L = some q := by rw [← hB]; simp [n_bnd, c1, c2]
          refine lv_aload_n hx hb dd_N_bind_32 rfl (lv_at hl 2 rfl) ?_
          refine lv_aload_n hx hb dd_N_bind_33 rfl (lv_at hl 0 rfl) ?_
          refine mg_get hx hb ht ii_N hown hK hM my rfl 0 (by decide) wd_2_32 (fun _ h => h) rfl dd_N_bind_34 ?_
          refine mg_put (v := .int (n_num q)) hx hb ht ii_N tt_N tt_N_ok nn_N hown hK hM hS (hF _ (by rw [m0]; exact Option.some_ne_none _)) m0 rfl 11 (by decide) wd_2_55 (fun _ h => h) (Or.inl rfl) rfl rfl rfl (Nat.le_of_ble_eq_true rfl) dd_N_bind_37 (fun H locs hM hz hoq hS => ?_)
          have hM : hm G (mp_up M h0 (nC (n_s_bb r (n_num q)))) H := hM
          have hF : ∀ z9, (mp_up M h0 (nC (n_s_bb r (n_num q)))) z9 ≠ none → fr M sz z9 := hF_put hF (hF _ (by rw [m0]; exact Option.some_ne_none _))
          have m0 : (mp_up M h0 (nC (n_s_bb r (n_num q)))) h0 = some (nC (n_s_bb r (n_num q))) := mp_self _ _ _
          refine lv_aload_n hx hb dd_N_bind_40 rfl (lv_at hl 2 rfl) ?_
          refine lv_aload_n hx hb dd_N_bind_41 rfl (lv_at hl 0 rfl) ?_
          have my := mp_at (M := M) (a := h0) (e := (nC (n_s_bb r (n_num q)))) hny my
          refine mg_get hx hb ht ii_N hown hK hM my rfl 6 (by decide) wd_2_46 (fun _ h => h) rfl dd_N_bind_42 ?_
          refine lv_aload_n hx hb dd_N_bind_45 rfl (lv_at hl 2 rfl) ?_
          refine mg_get hx hb ht ii_N hown hK hM m0 rfl 5 (by decide) wd_2_44 (fun _ h => h) rfl dd_N_bind_46 ?_
          refine W.lcmp hx hb dd_N_bind_49 ?_
          refine lc_if_ne (tgt := 57) hx hb dd_N_bind_50 (by decide) (fun c3 => ?_) (fun c3 => ?_)
          · refine lv_aload_n hx hb dd_N_bind_57 rfl (lv_at hl 0 rfl) ?_
            refine mg_get hx hb ht ii_N hown hK hM my rfl 10 (by decide) wd_2_54 (fun _ h => h) rfl dd_N_bind_58 ?_
            refine mg_put (v := .int (n_tx q)) hx hb ht ii_N tt_N tt_N_ok nn_N hown hK hM hS (hF _ (by rw [m0]; exact Option.some_ne_none _)) m0 rfl 9 (by decide) wd_2_52 (fun _ h => h) (Or.inl rfl) rfl rfl rfl (Nat.le_of_ble_eq_true rfl) dd_N_bind_61 (fun H locs hM hz hoq hS => ?_)
            rw [mp_mp] at hM
            have hM : hm G (mp_up M h0 (nC (n_s_vt (n_s_bb r (n_num q)) (n_tx q)))) H := hM
            have hF : ∀ z9, (mp_up M h0 (nC (n_s_vt (n_s_bb r (n_num q)) (n_tx q)))) z9 ≠ none → fr M sz z9 := hF_same hF
            have m0 : (mp_up M h0 (nC (n_s_vt (n_s_bb r (n_num q)) (n_tx q)))) h0 = some (nC (n_s_vt (n_s_bb r (n_num q)) (n_tx q))) := mp_self _ _ _
            refine lv_iconst (v := 1) hx hb dd_N_bind_64 (by decide) ?_
            exact mw_i hx hb hr hlocks rfl hM hF hS (Nat.zero_le _) (Nat.zero_le _) ⟨by rw [hB2]; rfl, by rw [hB2]; simp [n_bv, n_bt, c3]⟩ dd_N_bind_65
          · refine lv_iconst (v := 3) hx hb dd_N_bind_53 (by decide) ?_
            refine lv_goto (tgt := 61) hx hb dd_N_bind_54 (by decide) ?_
            refine mg_put (v := .int 3) hx hb ht ii_N tt_N tt_N_ok nn_N hown hK hM hS (hF _ (by rw [m0]; exact Option.some_ne_none _)) m0 rfl 9 (by decide) wd_2_52 (fun _ h => h) (Or.inl rfl) rfl rfl rfl (Nat.le_of_ble_eq_true rfl) dd_N_bind_61 (fun H locs hM hz hoq hS => ?_)
            rw [mp_mp] at hM
            have hM : hm G (mp_up M h0 (nC (n_s_vt (n_s_bb r (n_num q)) 3))) H := hM
            have hF : ∀ z9, (mp_up M h0 (nC (n_s_vt (n_s_bb r (n_num q)) 3))) z9 ≠ none → fr M sz z9 := hF_same hF
            have m0 : (mp_up M h0 (nC (n_s_vt (n_s_bb r (n_num q)) 3))) h0 = some (nC (n_s_vt (n_s_bb r (n_num q)) 3)) := mp_self _ _ _
            refine lv_iconst (v := 1) hx hb dd_N_bind_64 (by decide) ?_
            exact mw_i hx hb hr hlocks rfl hM hF hS (Nat.zero_le _) (Nat.zero_le _) ⟨by rw [hB2]; rfl, by rw [hB2]; simp [n_bv, n_bt, eq_true c3]⟩ dd_N_bind_65
  refine lv_aload_n hx hb dd_N_bind_0 rfl (lv_at hl 0 rfl) ?_
  refine lv_astore_n (lv' := [(1, .ref h0), (0, .ref h0)]) hx hb dd_N_bind_1 rfl hl (by decide) rfl (fun ls hl => ?_)
  exact loop L h0 r ls m0 hch hcd hl rfl
