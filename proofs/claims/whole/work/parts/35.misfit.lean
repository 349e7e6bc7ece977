set_option maxHeartbeats 4000000 in
set_option maxRecDepth 100000 in
theorem cc_L_firstMisfit {l : Launch} {G : gC} {M : mC} {sz : Nat} {x ld ln ed en nd nn : Nat} {aD aN : Nat → Nat} {D : Nat → dR} {N : Nat → nR} {pn : Nat → Nat → Int64} {pt : Nat → Nat → Int32} {kn : Bool} {ft fn mv : Int32} (hR : rp G M x ld ln ed en nd nn aD aN D N pn pt kn ft fn mv) {ho : Nat → Nat} {pa ca op : Nat → Option Nat} (hI : rl nd nn aD aN D N ho pa ca op) {j : Nat} (hj : j < nn) : cW l yy_L_firstMisfit bb_L_firstMisfit 2 (some (.object "LevelTypes$Node")) 3 0 0 G M sz [.ref (aN j)] (fun v u => v = some (va_rf ((c_mis D pt ho pa ca (nn + 1) N (some j)).2.map aN)) ∧ rp G u x ld ln ed en nd nn aD aN D (c_mis D pt ho pa ca (nn + 1) N (some j)).1 pn pt kn ft fn mv) := by
  refine me_W (by decide) (Nat.le_of_ble_eq_true rfl) ?_
  intro p e s m below meth c ls hx hb hr hlocks hml hown hname ht hsz hM hK hZ hl
  have hown : s.vm.findClass RR_L = some m.cls := hown
  have hl : lv_has ls 2 [(0, .ref (aN j))] := hl
  have hS : va_S (fr M sz) s.heap s.heap [] := va_S.rf
  have hF : ∀ q, M q ≠ none → fr M sz q := fr_M
  have hA : ∀ q, s.heap.size ≤ q → fr M sz q := fun q h => fr_A q (by rw [← hsz]; exact h)
  have hE := mz_E hZ
  have loop : ∀ (f : Nat) (o : Option Nat) (M1 : mC) (N1 : Nat → nR) (H : Heap) (locs : List Loc) (ls : Array Slot), (∀ i, o = some i → i < nn ∧ i < f) → rp G M1 x ld ln ed en nd nn aD aN D N1 pn pt kn ft fn mv → rl nd nn aD aN D N1 ho pa ca op → hm G M1 H → (∀ q, M1 q ≠ none → fr M sz q) → va_S (fr M sz) s.heap H locs → lv_has ls 2 [(1, va_rf (o.map aN)), (0, .ref (aN j))] → c_mis D pt ho pa ca f N1 o = (c_mis D pt ho pa ca (nn + 1) N (some j)) → W p l e (rd 3 0 0) s m ([.ref (aN j)] : List Value).toArray below meth c H locs 0 0 (MQ below (cQ G M sz (fun v u => v = some (va_rf ((c_mis D pt ho pa ca (nn + 1) N (some j)).2.map aN)) ∧ rp G u x ld ln ed en nd nn aD aN D (c_mis D pt ho pa ca (nn + 1) N (some j)).1 pn pt kn ft fn mv)) ([.ref (aN j)] : List Value).toArray s 0 0 (fr M sz)) (F0 m 2 ls []) := by
    intro f
    induction f with
    | zero =>
      intro o M1 N1 H locs ls ho9 hR hI hM hF hS hl hres
      cases o with
      | some i => exact absurd (ho9 i rfl).2 (Nat.not_lt_zero _)
      | none =>
        have hl : lv_has ls 2 [(1, .null), (0, .ref (aN j))] := hl
        refine lv_aload_nN hx hb dd_L_firstMisfit_2 rfl (lv_at hl 0 rfl) ?_
        refine lv_ifnullN (tgt := 56) hx hb dd_L_firstMisfit_3 (by decide) ?_
        refine lv_null hx hb dd_L_firstMisfit_56 ?_
        exact mw_a (x := none) hx hb hr (by first | exact Or.inl ⟨_, rfl⟩ | exact Or.inr ⟨_, rfl⟩) hlocks hM hF hS (Nat.zero_le _) (Nat.zero_le _) ⟨by rw [← hres]; rfl, by rw [← hres]; exact hR⟩ dd_L_firstMisfit_57
    | succ f ih =>
      intro o M1 N1 H locs ls ho9 hR hI hM hF hS hl hres
      cases o with
      | none =>
        have hl : lv_has ls 2 [(1, .null), (0, .ref (aN j))] := hl
        refine lv_aload_nN hx hb dd_L_firstMisfit_2 rfl (lv_at hl 0 rfl) ?_
        refine lv_ifnullN (tgt := 56) hx hb dd_L_firstMisfit_3 (by decide) ?_
        refine lv_null hx hb dd_L_firstMisfit_56 ?_
        exact mw_a (x := none) hx hb hr (by first | exact Or.inl ⟨_, rfl⟩ | exact Or.inr ⟨_, rfl⟩) hlocks hM hF hS (Nat.zero_le _) (Nat.zero_le _) ⟨by rw [← hres]; rfl, by rw [← hres]; exact hR⟩ dd_L_firstMisfit_57
      | some i =>
        have hl : lv_has ls 2 [(1, .ref (aN i)), (0, .ref (aN j))] := hl
        obtain ⟨hi, hif⟩ := ho9 i rfl
        obtain ⟨mx, hLd, hLn, hD, hN, -, -, hnn⟩ := id hR
        have h00 := e_none hF hE
        have mi := (hN i hi).1
        have md : M1 (n_ho (N1 i)) = some (dC (D (ho i))) := by rw [(hI.1 i hi).1]; exact (hD _ (hI.1 i hi).2.1).1
        refine lv_aload_n hx hb dd_L_firstMisfit_2 rfl (lv_at hl 0 rfl) ?_
        refine lv_ifnull hx hb dd_L_firstMisfit_3 ?_
        refine lv_aload_n hx hb dd_L_firstMisfit_6 rfl (lv_at hl 0 rfl) ?_
        refine mc_V (As := []) (rest := []) 0 (cc_N_fits mi md (q := c_q N1 (pa i)) (rl_q hI hN hi) (rl_mq hI hD hi).1 (rl_mq hI hD hi).2) hx hb hml hown ht hM hK hl.1 lk_L_212 (by decide +kernel) (by decide) mi rfl rfl rfl (Nat.le_of_ble_eq_true rfl) dd_L_firstMisfit_7 ⟨Nat.zero_le _, Nat.zero_le _⟩ ?_
        refine lb_if_ne (tgt := 15) hx hb dd_L_firstMisfit_10 (by decide) (fun c1 => ?_) (fun c1 => ?_)
        · refine lv_aload_n hx hb dd_L_firstMisfit_15 rfl (lv_at hl 0 rfl) ?_
          refine mg_get hx hb ht ii_N hown hK hM mi rfl 2 (by decide) wd_2_38 (fun _ h => h) rfl dd_L_firstMisfit_16 ?_
          refine lr_ifnull (tgt := 37) hx hb dd_L_firstMisfit_19 (by decide) (fun ey2 => ?_) (fun y2 ey2 => ?_)
          · have epn := rl_pa0 hI hi ey2
            have hce : c_hear N1 pa i = N1 := by unfold c_hear; rw [epn]
            have hR2 : rp G M1 x ld ln ed en nd nn aD aN D (c_hear N1 pa i) pn pt kn ft fn mv := by rw [hce]; exact hR
            have hI2 := rl_hear hI i
            obtain ⟨mx, hLd, hLn, hD, hN, -, -, -⟩ := id hR2
            obtain ⟨cl, ml⟩ := ls_obj hLd
            obtain ⟨ck, mk⟩ := ls_obj hLn
            have mi := (hN i hi).1
            have epa : n_pa (c_hear N1 pa i i) = n_pa (N1 i) := (hI2.1 i hi).2.2.1.trans (hI.1 i hi).2.2.1.symm
            refine lv_aload_n hx hb dd_L_firstMisfit_37 rfl (lv_at hl 0 rfl) ?_
            refine mc_V (As := []) (rest := []) 0 (cc_N_isLastPart mi (q := c_q (c_hear N1 pa i) (pa i)) (rl_q hI2 hN hi)) hx hb hml hown ht hM hK hl.1 lk_L_222 (by decide +kernel) (by decide) mi rfl rfl rfl (Nat.le_of_ble_eq_true rfl) dd_L_firstMisfit_38 ⟨Nat.zero_le _, Nat.zero_le _⟩ ?_
            refine lb_if_eq (tgt := 51) hx hb dd_L_firstMisfit_41 (by decide) (fun c3 => ?_) (fun c3 => ?_)
            · refine lv_null hx hb dd_L_firstMisfit_51 ?_
              refine lv_astore_nN (lv' := [(1, .null), (0, .ref (aN j))]) hx hb dd_L_firstMisfit_52 rfl hl (by decide) rfl (fun ls hl => ?_)
              refine lv_goto (tgt := 2) hx hb dd_L_firstMisfit_53 (by decide) ?_
              have hcm : c_mis D pt ho pa ca (f + 1) N1 (some i) = (c_hear N1 pa i, none) := by
                have cf : c_fit D pt N1 ho pa ca i = true := c1
                unfold c_mis
                rw [if_pos cf]
                by_cases hl9 : n_isLast (c_hear N1 pa i i) (c_q (c_hear N1 pa i) (pa i)) = true
                · rw [if_pos hl9, epn, mis_none]
                · rw [if_neg hl9]
              exact ih none _ _ H locs ls (fun i h => by cases h) hR2 hI2 hM hF hS (lv_sub hl [0, 1] rfl) (by rw [mis_none, ← hres, hcm])
            · refine lv_aload_n hx hb dd_L_firstMisfit_44 rfl (lv_at hl 0 rfl) ?_
              refine mg_get (v := .null) hx hb ht ii_N hown hK hM mi rfl 2 (by decide) wd_2_38 (fun _ h => h) (congrArg (fun z => some (va_rf z)) (epa.trans ey2)) dd_L_firstMisfit_45 ?_
              refine lv_goto (tgt := 52) hx hb dd_L_firstMisfit_48 (by decide) ?_
              refine lv_astore_nN (lv' := [(1, .null), (0, .ref (aN j))]) hx hb dd_L_firstMisfit_52 rfl hl (by decide) rfl (fun ls hl => ?_)
              refine lv_goto (tgt := 2) hx hb dd_L_firstMisfit_53 (by decide) ?_
              have hcm : c_mis D pt ho pa ca (f + 1) N1 (some i) = (c_hear N1 pa i, none) := by
                have cf : c_fit D pt N1 ho pa ca i = true := c1
                unfold c_mis
                rw [if_pos cf]
                by_cases hl9 : n_isLast (c_hear N1 pa i i) (c_q (c_hear N1 pa i) (pa i)) = true
                · rw [if_pos hl9, epn, mis_none]
                · rw [if_neg hl9]
              exact ih none _ _ H locs ls (fun i h => by cases h) hR2 hI2 hM hF hS (lv_sub hl [0, 1] rfl) (by rw [mis_none, ← hres, hcm])
          · obtain ⟨p9, hp9', ep9, ea9⟩ := rl_pa hI hi ey2
            have hp9 : p9 < nn := by omega
            have my2 : M1 y2 = some (nC (N1 p9)) := by rw [ea9]; exact (hN p9 hp9).1
            refine lv_aload_n hx hb dd_L_firstMisfit_22 rfl (lv_at hl 0 rfl) ?_
            refine mg_get (v := .ref y2) hx hb ht ii_N hown hK hM mi rfl 2 (by decide) wd_2_38 (fun _ h => h) (congrArg (fun z => some (va_rf z)) ey2) dd_L_firstMisfit_23 ?_
            refine lv_aload_n hx hb dd_L_firstMisfit_26 rfl (lv_at hl 0 rfl) ?_
            refine mg_get hx hb ht ii_N hown hK hM mi rfl 3 (by decide) wd_2_40 (fun _ h => h) rfl dd_L_firstMisfit_27 ?_
            refine lv_aload_n hx hb dd_L_firstMisfit_30 rfl (lv_at hl 0 rfl) ?_
            refine mg_get hx hb ht ii_N hown hK hM mi rfl 9 (by decide) wd_2_53 (fun _ h => h) rfl dd_L_firstMisfit_31 ?_
            have hFr := hF_fr hF hS hA
            refine mx_V (As := [.int (n_pl (N1 i)), .int (n_vt (N1 i))]) (rest := []) 2 (cc_N_hearOf my2) hx hb hml hown ht hM hK hZ hS hFr hl.1 lk_L_218 (by decide +kernel) (by decide) my2 rfl rfl rfl (Nat.le_of_ble_eq_true rfl) dd_L_firstMisfit_34 ⟨Nat.zero_le _, Nat.zero_le _⟩ (fun v u2 H locs hp hM hd hle hk hS => ?_)
            obtain ⟨rfl, hu⟩ := hp
            have hF := fun z9 h => hFr z9 (hd z9 h)
            have h02 := e_none hF hE
            have hce : c_hear N1 pa i = va_up N1 p9 (n_hear (N1 p9) (n_pl (N1 i)) (n_vt (N1 i))) := by unfold c_hear; rw [ep9]
            have hR2 : rp G u2 x ld ln ed en nd nn aD aN D (c_hear N1 pa i) pn pt kn ft fn mv := by
              rw [hce]
              rcases hu with ⟨e1, e2⟩ | e2
              · rw [e1, up_eq rfl, e2]; exact hR
              · rw [e2, ea9]; exact rp_setN hR h00 hp9 (hear_ho _ _ _).2.2.2
            have hI2 := rl_hear hI i
            obtain ⟨mx, hLd, hLn, hD, hN, -, -, -⟩ := id hR2
            obtain ⟨cl, ml⟩ := ls_obj hLd
            obtain ⟨ck, mk⟩ := ls_obj hLn
            have mi := (hN i hi).1
            have epa : n_pa (c_hear N1 pa i i) = n_pa (N1 i) := (hI2.1 i hi).2.2.1.trans (hI.1 i hi).2.2.1.symm
            refine lv_aload_n hx hb dd_L_firstMisfit_37 rfl (lv_at hl 0 rfl) ?_
            refine mc_V (As := []) (rest := []) 0 (cc_N_isLastPart mi (q := c_q (c_hear N1 pa i) (pa i)) (rl_q hI2 hN hi)) hx hb hml hown ht hM hK hl.1 lk_L_222 (by decide +kernel) (by decide) mi rfl rfl rfl (Nat.le_of_ble_eq_true rfl) dd_L_firstMisfit_38 ⟨Nat.zero_le _, Nat.zero_le _⟩ ?_
            refine lb_if_eq (tgt := 51) hx hb dd_L_firstMisfit_41 (by decide) (fun c4 => ?_) (fun c4 => ?_)
            · refine lv_null hx hb dd_L_firstMisfit_51 ?_
              refine lv_astore_nN (lv' := [(1, .null), (0, .ref (aN j))]) hx hb dd_L_firstMisfit_52 rfl hl (by decide) rfl (fun ls hl => ?_)
              refine lv_goto (tgt := 2) hx hb dd_L_firstMisfit_53 (by decide) ?_
              exact ih none _ _ H locs ls (fun i h => by cases h) hR2 hI2 hM hF hS (lv_sub hl [0, 1] rfl) (by rw [← hres]; cases f <;> simp [c_mis, c_fit, c1, c4])
            · refine lv_aload_n hx hb dd_L_firstMisfit_44 rfl (lv_at hl 0 rfl) ?_
              refine mg_get (v := .ref y2) hx hb ht ii_N hown hK hM mi rfl 2 (by decide) wd_2_38 (fun _ h => h) (congrArg (fun z => some (va_rf z)) (epa.trans ey2)) dd_L_firstMisfit_45 ?_
              refine lv_goto (tgt := 52) hx hb dd_L_firstMisfit_48 (by decide) ?_
              refine lv_astore_n (lv' := [(1, .ref y2), (0, .ref (aN j))]) hx hb dd_L_firstMisfit_52 rfl hl (by decide) rfl (fun ls hl => ?_)
              refine lv_goto (tgt := 2) hx hb dd_L_firstMisfit_53 (by decide) ?_
              exact ih (pa i) _ _ H locs ls (fun q hq => by rw [ep9] at hq; cases hq; omega) hR2 hI2 hM hF hS (by rw [ep9]; show lv_has ls 2 [(1, .ref (aN p9)), _]; rw [← ea9]; exact lv_sub hl [0, 1] rfl) (by rw [← hres]; simp [c_mis, c_fit, c1, c4])
        · refine lv_aload_n hx hb dd_L_firstMisfit_13 rfl (lv_at hl 0 rfl) ?_
          have hcm : c_mis D pt ho pa ca (f + 1) N1 (some i) = (N1, some i) := by simp [c_mis, c_fit, c1]
          rw [hcm] at hres
          exact mw_a (x := (some (aN i))) hx hb hr (by first | exact Or.inl ⟨_, rfl⟩ | exact Or.inr ⟨_, rfl⟩) hlocks hM hF hS (Nat.zero_le _) (Nat.zero_le _) ⟨by rw [← hres]; rfl, by rw [← hres]; exact hR⟩ dd_L_firstMisfit_14
  refine lv_aload_n hx hb dd_L_firstMisfit_0 rfl (lv_at hl 0 rfl) ?_
  refine lv_astore_n (lv' := [(1, .ref (aN j)), (0, .ref (aN j))]) hx hb dd_L_firstMisfit_1 rfl hl (by decide) rfl (fun ls hl => ?_)
  exact loop (nn + 1) (some j) M N s.heap [] ls (fun i h => by cases h; omega) hR hI hM hF hS hl rfl
