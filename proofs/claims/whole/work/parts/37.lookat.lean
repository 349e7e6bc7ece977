set_option maxHeartbeats 4000000 in
set_option maxRecDepth 100000 in
theorem cc_L_lookAt {l : Launch} {G : gC} {M : mC} {sz : Nat} {x ld ln ed en nd nn : Nat} {aD aN : Nat → Nat} {D : Nat → dR} {N : Nat → nR} {pn : Nat → Nat → Int64} {pt : Nat → Nat → Int32} {kn : Bool} {ft fn mv : Int32} (hR : rp G M x ld ln ed en nd nn aD aN D N pn pt kn ft fn mv) {ho : Nat → Nat} {pa ca op : Nat → Option Nat} (hI : rl nd nn aD aN D N ho pa ca op) {j : Nat} (hj : j < nn) : cW l yy_L_lookAt bb_L_lookAt 3 none 5 0 0 G M sz [.ref x, .ref (aN j)] (fun v u => v = none ∧ rp G u x ld ln ed en nd nn aD aN D (c_at nd aD D pn pt ho pa nn (N, ca, ft, fn, mv) j).1 pn pt kn (c_at nd aD D pn pt ho pa nn (N, ca, ft, fn, mv) j).2.2.1 (c_at nd aD D pn pt ho pa nn (N, ca, ft, fn, mv) j).2.2.2.1 (c_at nd aD D pn pt ho pa nn (N, ca, ft, fn, mv) j).2.2.2.2) := by
  refine me_W (by decide) (Nat.le_of_ble_eq_true rfl) ?_
  intro p e s m below meth c ls hx hb hr hlocks hml hown hname ht hsz hM hK hZ hl
  have hown : s.vm.findClass RR_L = some m.cls := hown
  have hl : lv_has ls 3 [(0, .ref x), (1, .ref (aN j))] := hl
  have hS : va_S (fr M sz) s.heap s.heap [] := va_S.rf
  have hF : ∀ q, M q ≠ none → fr M sz q := fr_M
  have hA : ∀ q, s.heap.size ≤ q → fr M sz q := fun q h => fr_A q (by rw [← hsz]; exact h)
  obtain ⟨mx, hLd, hLn, hD, hN, hAp, hnd, hnn⟩ := id hR
  obtain ⟨cl, ml⟩ := ls_obj hLd
  obtain ⟨ck, mk⟩ := ls_obj hLn
  have hE := mz_E hZ
  have h00 := mz_none hZ
  have me := (hN j hj).1
  refine lv_aload_n hx hb dd_L_lookAt_0 rfl (lv_at hl 0 rfl) ?_
  refine lv_aload_n hx hb dd_L_lookAt_1 rfl (lv_at hl 1 rfl) ?_
  have hFr := hF_fr hF hS hA
  refine mx_V (As := [.ref (aN j)]) (rest := []) 1 (cc_L_arriveAt hR hI hj) hx hb hml hown ht hM hK hZ hS hFr hl.1 lk_L_176 (by decide +kernel) (by decide) mx rfl rfl rfl (Nat.le_of_ble_eq_true rfl) dd_L_lookAt_2 ⟨Nat.zero_le _, Nat.zero_le _⟩ (fun v u1 H locs hp hM hd hle hk hS => ?_)
  have hI1 := rl_arr (pn := pn) (pt := pt) hI j
  obtain ⟨ar, ear⟩ : ∃ z, z = c_arrive nd aD D pn pt N ho pa nn j := ⟨_, rfl⟩
  obtain ⟨cn9, ec1⟩ : ∃ z, z = c_ca nd D N ca j := ⟨_, rfl⟩
  obtain ⟨N1, eN1⟩ : ∃ z, z = va_up N j ar.1 := ⟨_, rfl⟩
  rw [← ear] at hp hI1
  rw [← ec1] at hI1
  rw [← eN1] at hp hI1
  obtain ⟨rfl, hR1⟩ := hp
  have hF := fun z9 h => hFr z9 (hd z9 h)
  have h01 := e_none hF hE
  obtain ⟨mx, hLd, hLn, hD, hN, -, -, -⟩ := id hR1
  obtain ⟨cl, ml⟩ := ls_obj hLd
  obtain ⟨ck, mk⟩ := ls_obj hLn
  have mx1 := mx
  have me : u1 (aN j) = some (nC ar.1) := by have := (hN j hj).1; rw [eN1, va_up_self] at this; exact this
  have men := (hN j hj).2
  rw [eN1, va_up_self] at men
  have hax : aN j ≠ x := fun z => by rw [z, mx] at me; cases me
  refine lb_if_ne (tgt := 22) hx hb dd_L_lookAt_5 (by decide) (fun c1 => ?_) (fun c1 => ?_)
  · refine lv_aload_n hx hb dd_L_lookAt_22 rfl (lv_at hl 0 rfl) ?_
    refine lv_aload_n hx hb dd_L_lookAt_23 rfl (lv_at hl 0 rfl) ?_
    refine mg_get hx hb ht ii_L hown hK hM mx rfl 5 (by decide) wd_1_55 (fun _ h => h) rfl dd_L_lookAt_24 ?_
    refine lv_aload_n hx hb dd_L_lookAt_27 rfl (lv_at hl 1 rfl) ?_
    refine mg_get hx hb ht ii_N hown hK hM me rfl 13 (by decide) wd_2_60 (fun _ h => h) rfl dd_L_lookAt_28 ?_
    refine va_mmax (rest := [.ref x]) hx hb (hml.trans hl.1.symm) hown (ht _ wd_2_151) (ht _ wd_1_187) (ht _ wd_1_11) (ht _ wd_1_188) (Nat.le_of_ble_eq_true rfl) (Nat.le_of_ble_eq_true rfl) (Nat.zero_le _) (Nat.zero_le _) dd_L_lookAt_31 ?_
    obtain ⟨mv1, emv⟩ : ∃ z : Int32, z = (if mv < (n_va ar.1) then (n_va ar.1) else mv) := ⟨_, rfl⟩
    rw [← emv]
    refine mg_put (v := .int mv1) hx hb ht ii_L tt_L tt_L_ok nn_L hown hK hM hS (hF _ (by rw [mx]; exact Option.some_ne_none _)) mx rfl 5 (by decide) wd_1_55 (fun _ h => h) (Or.inl rfl) rfl rfl rfl (Nat.le_of_ble_eq_true rfl) dd_L_lookAt_34 (fun H locs hM hz hoq hS => ?_)
    have hM : hm G (mp_up u1 x (.inr (0, [.ref ld, .ref ln, .int (bI kn), .int ft, .int fn, .int mv1]))) H := hM
    have hF : ∀ z9, (mp_up u1 x (.inr (0, [.ref ld, .ref ln, .int (bI kn), .int ft, .int fn, .int mv1]))) z9 ≠ none → fr M sz z9 := hF_put hF (hF _ (by rw [mx]; exact Option.some_ne_none _))
    have mx : (mp_up u1 x (.inr (0, [.ref ld, .ref ln, .int (bI kn), .int ft, .int fn, .int mv1]))) x = some (.inr (0, [.ref ld, .ref ln, .int (bI kn), .int ft, .int fn, .int mv1])) := mp_self _ _ _
    refine lv_aload_n hx hb dd_L_lookAt_37 rfl (lv_at hl 1 rfl) ?_
    have me := mp_at (M := u1) (a := x) (e := (.inr (0, [.ref ld, .ref ln, .int (bI kn), .int ft, .int fn, .int mv1]))) hax me
    refine mg_get hx hb ht ii_N hown hK hM me rfl 7 (by decide) wd_2_49 (fun _ h => h) rfl dd_L_lookAt_38 ?_
    refine lv_if_ne (tgt := 51) hx hb dd_L_lookAt_41 (by decide) (fun c2 => ?_) (fun c2 => ?_)
    · refine lv_null hx hb dd_L_lookAt_51 ?_
      refine lv_astore_nN (lv' := [(2, .null), (0, .ref x), (1, .ref (aN j))]) hx hb dd_L_lookAt_52 rfl hl (by decide) rfl (fun ls hl => ?_)
      refine lv_aload_nN hx hb dd_L_lookAt_53 rfl (lv_at hl 0 rfl) ?_
      refine lv_ifnullN (tgt := 71) hx hb dd_L_lookAt_54 (by decide) ?_
      have hca : (c_at nd aD D pn pt ho pa nn (N, ca, ft, fn, mv) j) = (N1, cn9, ft, fn, mv1) := by
        simp only [c_at]
        rw [← ear, ← ec1, ← eN1, if_pos c1, ← emv, if_neg c2]
      exact mw_v hx hb hr hlocks hM hF hS (Nat.zero_le _) (Nat.zero_le _) ⟨rfl, by rw [hca]; exact rp_setX (kn' := kn) (ft' := ft) (fn' := fn) (mv' := mv1) hR1 h01⟩ dd_L_lookAt_71
    · refine lv_aload_n hx hb dd_L_lookAt_44 rfl (lv_at hl 1 rfl) ?_
      have hR2 := rp_setX (kn' := kn) (ft' := ft) (fn' := fn) (mv' := mv1) hR1 h01
      have hFr := hF_fr hF hS hA
      refine mx_S (As := [.ref (aN j)]) (rest := []) 1 (cc_L_firstMisfit hR2 hI1 hj) hx hb hml hown ht hM hK hZ hS hFr hl.1 lk_L_189 (by decide +kernel) (by decide) rfl rfl (Nat.le_of_ble_eq_true rfl) dd_L_lookAt_45 ⟨Nat.zero_le _, Nat.zero_le _⟩ (fun v u3 H locs hp hM hd hle hk hS => ?_)
      have hil := (rl_mis (pt := pt) (nn + 1) N1 (some j) hI1 (fun i h => by cases h; exact hj)).2
      obtain ⟨q, eq9⟩ : ∃ z, z = c_mis D pt ho pa cn9 (nn + 1) N1 (some j) := ⟨_, rfl⟩
      rw [← eq9] at hp hil
      obtain ⟨rfl, hR3⟩ := hp
      have hF := fun z9 h => hFr z9 (hd z9 h)
      have h03 := e_none hF hE
      obtain ⟨mx, hLd, hLn, hD, hN, -, -, -⟩ := id hR3
      obtain ⟨cl, ml⟩ := ls_obj hLd
      obtain ⟨ck, mk⟩ := ls_obj hLn
      have mx3 := mx
      rcases ey3 : (q.2.map aN) with _ | y3
      · refine lv_goto (tgt := 52) hx hb dd_L_lookAt_48 (by decide) ?_
        refine lv_astore_nN (lv' := [(2, .null), (0, .ref x), (1, .ref (aN j))]) hx hb dd_L_lookAt_52 rfl hl (by decide) rfl (fun ls hl => ?_)
        refine lv_aload_nN hx hb dd_L_lookAt_53 rfl (lv_at hl 0 rfl) ?_
        refine lv_ifnullN (tgt := 71) hx hb dd_L_lookAt_54 (by decide) ?_
        have hca : (c_at nd aD D pn pt ho pa nn (N, ca, ft, fn, mv) j) = (q.1, cn9, ft, fn, mv1) := by
          simp only [c_at]
          rw [← ear, ← ec1, ← eN1, if_pos c1, ← emv, if_pos c2, ← eq9, map_none ey3]
        exact mw_v hx hb hr hlocks hM hF hS (Nat.zero_le _) (Nat.zero_le _) ⟨rfl, by rw [hca]; exact hR3⟩ dd_L_lookAt_71
      · obtain ⟨i9, ei9, ea9⟩ := map_some ey3
        have hi9 := hil i9 ei9
        have my3 : u3 y3 = some (nC (q.1 i9)) := by rw [ea9]; exact (hN i9 hi9).1
        have men9 := (hN i9 hi9).2
        have hyx : y3 ≠ x := fun z => by rw [z, mx3] at my3; cases my3
        refine lv_goto (tgt := 52) hx hb dd_L_lookAt_48 (by decide) ?_
        refine lv_astore_n (lv' := [(2, .ref y3), (0, .ref x), (1, .ref (aN j))]) hx hb dd_L_lookAt_52 rfl hl (by decide) rfl (fun ls hl => ?_)
        refine lv_aload_n hx hb dd_L_lookAt_53 rfl (lv_at hl 0 rfl) ?_
        refine lv_ifnull hx hb dd_L_lookAt_54 ?_
        refine lv_aload_n hx hb dd_L_lookAt_57 rfl (lv_at hl 1 rfl) ?_
        refine lv_bipush (v := 6) hx hb dd_L_lookAt_58 (by decide) ?_
        refine mg_put (v := .int 6) hx hb ht ii_L tt_L tt_L_ok nn_L hown hK hM hS (hF _ (by rw [mx]; exact Option.some_ne_none _)) mx rfl 3 (by decide) wd_1_53 (fun _ h => h) (Or.inl rfl) rfl rfl rfl (Nat.le_of_ble_eq_true rfl) dd_L_lookAt_60 (fun H locs hM hz hoq hS => ?_)
        have hM : hm G (mp_up u3 x (.inr (0, [.ref ld, .ref ln, .int (bI kn), .int 6, .int fn, .int mv1]))) H := hM
        have hF : ∀ z9, (mp_up u3 x (.inr (0, [.ref ld, .ref ln, .int (bI kn), .int 6, .int fn, .int mv1]))) z9 ≠ none → fr M sz z9 := hF_put hF (hF _ (by rw [mx]; exact Option.some_ne_none _))
        have mx : (mp_up u3 x (.inr (0, [.ref ld, .ref ln, .int (bI kn), .int 6, .int fn, .int mv1]))) x = some (.inr (0, [.ref ld, .ref ln, .int (bI kn), .int 6, .int fn, .int mv1])) := mp_self _ _ _
        refine lv_aload_n hx hb dd_L_lookAt_63 rfl (lv_at hl 1 rfl) ?_
        refine lv_aload_n hx hb dd_L_lookAt_64 rfl (lv_at hl 0 rfl) ?_
        have my3 := mp_at (M := u3) (a := x) (e := (.inr (0, [.ref ld, .ref ln, .int (bI kn), .int 6, .int fn, .int mv1]))) hyx my3
        refine mg_get hx hb ht ii_N hown hK hM my3 rfl 0 (by decide) wd_2_33 (fun _ h => h) rfl dd_L_lookAt_65 ?_
        refine mg_put (v := .int (n_num (q.1 i9))) hx hb ht ii_L tt_L tt_L_ok nn_L hown hK hM hS (hF _ (by rw [mx]; exact Option.some_ne_none _)) mx rfl 4 (by decide) wd_1_54 (fun _ h => h) (Or.inl rfl) rfl rfl rfl (Nat.le_of_ble_eq_true rfl) dd_L_lookAt_68 (fun H locs hM hz hoq hS => ?_)
        rw [mp_mp] at hM
        have hM : hm G (mp_up u3 x (.inr (0, [.ref ld, .ref ln, .int (bI kn), .int 6, .int (n_num (q.1 i9)), .int mv1]))) H := hM
        have hF : ∀ z9, (mp_up u3 x (.inr (0, [.ref ld, .ref ln, .int (bI kn), .int 6, .int (n_num (q.1 i9)), .int mv1]))) z9 ≠ none → fr M sz z9 := hF_same hF
        have mx : (mp_up u3 x (.inr (0, [.ref ld, .ref ln, .int (bI kn), .int 6, .int (n_num (q.1 i9)), .int mv1]))) x = some (.inr (0, [.ref ld, .ref ln, .int (bI kn), .int 6, .int (n_num (q.1 i9)), .int mv1])) := mp_self _ _ _
        have hca : (c_at nd aD D pn pt ho pa nn (N, ca, ft, fn, mv) j) = (q.1, cn9, 6, nI i9, mv1) := by
          simp only [c_at]
          rw [← ear, ← ec1, ← eN1, if_pos c1, ← emv, if_pos c2, ← eq9, ei9]
        have hRz := rp_setX (kn' := kn) (ft' := 6) (fn' := n_num (q.1 i9)) (mv' := mv1) hR3 h03
        exact mw_v hx hb hr hlocks hM hF hS (Nat.zero_le _) (Nat.zero_le _) ⟨rfl, by rw [hca]; show rp G _ x ld ln ed en nd nn aD aN D q.1 pn pt kn 6 (nI i9) mv1; rw [← men9]; exact hRz⟩ dd_L_lookAt_71
  · refine lv_aload_n hx hb dd_L_lookAt_8 rfl (lv_at hl 0 rfl) ?_
    refine lv_iconst (v := 5) hx hb dd_L_lookAt_9 (by decide) ?_
    refine mg_put (v := .int 5) hx hb ht ii_L tt_L tt_L_ok nn_L hown hK hM hS (hF _ (by rw [mx]; exact Option.some_ne_none _)) mx rfl 3 (by decide) wd_1_53 (fun _ h => h) (Or.inl rfl) rfl rfl rfl (Nat.le_of_ble_eq_true rfl) dd_L_lookAt_10 (fun H locs hM hz hoq hS => ?_)
    have hM : hm G (mp_up u1 x (.inr (0, [.ref ld, .ref ln, .int (bI kn), .int 5, .int fn, .int mv]))) H := hM
    have hF : ∀ z9, (mp_up u1 x (.inr (0, [.ref ld, .ref ln, .int (bI kn), .int 5, .int fn, .int mv]))) z9 ≠ none → fr M sz z9 := hF_put hF (hF _ (by rw [mx]; exact Option.some_ne_none _))
    have mx : (mp_up u1 x (.inr (0, [.ref ld, .ref ln, .int (bI kn), .int 5, .int fn, .int mv]))) x = some (.inr (0, [.ref ld, .ref ln, .int (bI kn), .int 5, .int fn, .int mv])) := mp_self _ _ _
    refine lv_aload_n hx hb dd_L_lookAt_13 rfl (lv_at hl 0 rfl) ?_
    refine lv_aload_n hx hb dd_L_lookAt_14 rfl (lv_at hl 1 rfl) ?_
    have me := mp_at (M := u1) (a := x) (e := (.inr (0, [.ref ld, .ref ln, .int (bI kn), .int 5, .int fn, .int mv]))) hax me
    refine mg_get hx hb ht ii_N hown hK hM me rfl 0 (by decide) wd_2_33 (fun _ h => h) rfl dd_L_lookAt_15 ?_
    refine mg_put (v := .int (n_num ar.1)) hx hb ht ii_L tt_L tt_L_ok nn_L hown hK hM hS (hF _ (by rw [mx]; exact Option.some_ne_none _)) mx rfl 4 (by decide) wd_1_54 (fun _ h => h) (Or.inl rfl) rfl rfl rfl (Nat.le_of_ble_eq_true rfl) dd_L_lookAt_18 (fun H locs hM hz hoq hS => ?_)
    rw [mp_mp] at hM
    have hM : hm G (mp_up u1 x (.inr (0, [.ref ld, .ref ln, .int (bI kn), .int 5, .int (n_num ar.1), .int mv]))) H := hM
    have hF : ∀ z9, (mp_up u1 x (.inr (0, [.ref ld, .ref ln, .int (bI kn), .int 5, .int (n_num ar.1), .int mv]))) z9 ≠ none → fr M sz z9 := hF_same hF
    have mx : (mp_up u1 x (.inr (0, [.ref ld, .ref ln, .int (bI kn), .int 5, .int (n_num ar.1), .int mv]))) x = some (.inr (0, [.ref ld, .ref ln, .int (bI kn), .int 5, .int (n_num ar.1), .int mv])) := mp_self _ _ _
    have hca : (c_at nd aD D pn pt ho pa nn (N, ca, ft, fn, mv) j) = (N1, cn9, 5, nI j, mv) := by
      simp only [c_at]
      rw [← ear, ← ec1, ← eN1, if_neg (by rw [c1]; decide)]
    have hRz := rp_setX (kn' := kn) (ft' := 5) (fn' := n_num ar.1) (mv' := mv) hR1 h01
    exact mw_v hx hb hr hlocks hM hF hS (Nat.zero_le _) (Nat.zero_le _) ⟨rfl, by rw [hca]; show rp G _ x ld ln ed en nd nn aD aN D N1 pn pt kn 5 (nI j) mv; rw [← men]; exact hRz⟩ dd_L_lookAt_21

set_option maxHeartbeats 4000000 in
set_option maxRecDepth 100000 in
theorem cc_L_lookAtAll {l : Launch} {G : gC} {M : mC} {sz : Nat} {x ld ln ed en nd nn : Nat} {aD aN : Nat → Nat} {D : Nat → dR} {N : Nat → nR} {pn : Nat → Nat → Int64} {pt : Nat → Nat → Int32} {kn : Bool} {ft fn mv : Int32} (hR : rp G M x ld ln ed en nd nn aD aN D N pn pt kn ft fn mv) {ho : Nat → Nat} {pa ca op : Nat → Option Nat} (hI : rl nd nn aD aN D N ho pa ca op) : cW l yy_L_lookAtAll bb_L_lookAtAll 2 none 6 0 0 G M sz [.ref x] (fun v u => v = none ∧ rp G u x ld ln ed en nd nn aD aN D (c_lookAll nd aD D pn pt ho pa nn (N, ca, ft, fn, mv)).1 pn pt kn (c_lookAll nd aD D pn pt ho pa nn (N, ca, ft, fn, mv)).2.2.1 (c_lookAll nd aD D pn pt ho pa nn (N, ca, ft, fn, mv)).2.2.2.1 (c_lookAll nd aD D pn pt ho pa nn (N, ca, ft, fn, mv)).2.2.2.2) := by
  refine me_W (by decide) (Nat.le_of_ble_eq_true rfl) ?_
  intro p e s m below meth c ls hx hb hr hlocks hml hown hname ht hsz hM hK hZ hl
  have hown : s.vm.findClass RR_L = some m.cls := hown
  have hl : lv_has ls 2 [(0, .ref x)] := hl
  have hS : va_S (fr M sz) s.heap s.heap [] := va_S.rf
  have hF : ∀ q, M q ≠ none → fr M sz q := fr_M
  have hA : ∀ q, s.heap.size ≤ q → fr M sz q := fun q h => fr_A q (by rw [← hsz]; exact h)
  have h00 := mz_none hZ
  have loop : c_main nd D pt = true → ∀ (k i : Nat) (M1 : mC) (N1 : Nat → nR) (ca1 : Nat → Option Nat) (ft1 fn1 mv1 : Int32) (H : Heap) (locs : List Loc) (ls : Array Slot), i + k = nn → rp G M1 x ld ln ed en nd nn aD aN D N1 pn pt kn ft1 fn1 mv1 → rl nd nn aD aN D N1 ho pa ca1 op → hm G M1 H → (∀ q, M1 q ≠ none → fr M sz q) → va_S (fr M sz) s.heap H locs → lv_has ls 2 [(1, .int (nI i)), (0, .ref x)] → c_all nd aD D pn pt ho pa nn k i (N1, ca1, ft1, fn1, mv1) = c_all nd aD D pn pt ho pa nn nn 0 (N, ca, ft, fn, mv) → W p l e (rd 6 0 0) s m ([.ref x] : List Value).toArray below meth c H locs 0 0 (MQ below (cQ G M sz (fun v u => v = none ∧ rp G u x ld ln ed en nd nn aD aN D (c_lookAll nd aD D pn pt ho pa nn (N, ca, ft, fn, mv)).1 pn pt kn (c_lookAll nd aD D pn pt ho pa nn (N, ca, ft, fn, mv)).2.2.1 (c_lookAll nd aD D pn pt ho pa nn (N, ca, ft, fn, mv)).2.2.2.1 (c_lookAll nd aD D pn pt ho pa nn (N, ca, ft, fn, mv)).2.2.2.2)) ([.ref x] : List Value).toArray s 0 0 (fr M sz)) (F0 m 15 ls []) := by
    intro hmain k
    have hal : c_lookAll nd aD D pn pt ho pa nn (N, ca, ft, fn, mv) = c_all nd aD D pn pt ho pa nn nn 0 (N, ca, ft, fn, mv) := by unfold c_lookAll; rw [if_pos hmain]
    induction k with
    | zero =>
      intro i M1 N1 ca1 ft1 fn1 mv1 H locs ls hik hR hI hM hF hS hl hres
      obtain ⟨mx, hLd, hLn, hD, hN, hAp, hnd, hnn⟩ := id hR
      obtain ⟨cl, ml⟩ := ls_obj hLd
      obtain ⟨ck, mk⟩ := ls_obj hLn
      refine lv_iload_n hx hb dd_L_lookAtAll_15 rfl (lv_at hl 0 rfl) ?_
      refine lv_aload_n hx hb dd_L_lookAtAll_16 rfl (lv_at hl 1 rfl) ?_
      refine mg_get hx hb ht ii_L hown hK hM mx rfl 1 (by decide) wd_1_51 (fun _ h => h) rfl dd_L_lookAtAll_17 ?_
      refine mc_V (As := []) (rest := [.int (nI i)]) 0 (ls_size hLn) hx hb hml hown ht hM hK hl.1 lk_L_49 (by decide +kernel) (by decide) mk rfl rfl rfl (Nat.le_of_ble_eq_true rfl) dd_L_lookAtAll_20 ⟨Nat.zero_le _, Nat.zero_le _⟩ ?_
      refine lv_icmp_ge (tgt := 54) hx hb dd_L_lookAtAll_23 (by decide) (fun _ => ?_) (fun z => absurd (nI_le (a := nn) (b := i) (by omega) (by omega)) z)
      exact mw_v hx hb hr hlocks hM hF hS (Nat.zero_le _) (Nat.zero_le _) ⟨rfl, by rw [hal, ← hres]; exact hR⟩ dd_L_lookAtAll_54
    | succ k ih =>
      intro i M1 N1 ca1 ft1 fn1 mv1 H locs ls hik hR hI hM hF hS hl hres
      obtain ⟨mx, hLd, hLn, hD, hN, hAp, hnd, hnn⟩ := id hR
      obtain ⟨cl, ml⟩ := ls_obj hLd
      obtain ⟨ck, mk⟩ := ls_obj hLn
      refine lv_iload_n hx hb dd_L_lookAtAll_15 rfl (lv_at hl 0 rfl) ?_
      refine lv_aload_n hx hb dd_L_lookAtAll_16 rfl (lv_at hl 1 rfl) ?_
      refine mg_get hx hb ht ii_L hown hK hM mx rfl 1 (by decide) wd_1_51 (fun _ h => h) rfl dd_L_lookAtAll_17 ?_
      refine mc_V (As := []) (rest := [.int (nI i)]) 0 (ls_size hLn) hx hb hml hown ht hM hK hl.1 lk_L_49 (by decide +kernel) (by decide) mk rfl rfl rfl (Nat.le_of_ble_eq_true rfl) dd_L_lookAtAll_20 ⟨Nat.zero_le _, Nat.zero_le _⟩ ?_
      refine lv_icmp_ge (tgt := 54) hx hb dd_L_lookAtAll_23 (by decide) (fun z => absurd z (nI_ge (a := i) (b := nn) (by omega) (by omega))) (fun _ => ?_)
      refine lv_aload_n hx hb dd_L_lookAtAll_26 rfl (lv_at hl 1 rfl) ?_
      refine mg_get hx hb ht ii_L hown hK hM mx rfl 3 (by decide) wd_1_53 (fun _ h => h) rfl dd_L_lookAtAll_27 ?_
      refine lv_if_ne (tgt := 54) hx hb dd_L_lookAtAll_30 (by decide) (fun c1 => ?_) (fun c1 => ?_)
      · exact mw_v hx hb hr hlocks hM hF hS (Nat.zero_le _) (Nat.zero_le _) ⟨rfl, by rw [hal, ← hres]; simp only [c_all]; rw [if_neg c1]; exact hR⟩ dd_L_lookAtAll_54
      · refine lv_aload_n hx hb dd_L_lookAtAll_33 rfl (lv_at hl 1 rfl) ?_
        refine lv_aload_n hx hb dd_L_lookAtAll_34 rfl (lv_at hl 1 rfl) ?_
        refine mg_get hx hb ht ii_L hown hK hM mx rfl 1 (by decide) wd_1_51 (fun _ h => h) rfl dd_L_lookAtAll_35 ?_
        refine lv_iload_n hx hb dd_L_lookAtAll_38 rfl (lv_at hl 0 rfl) ?_
        refine mc_V (As := [.int (nI i)]) (rest := [.ref x]) 1 (ls_get hLn (i := i) (show i < nn by omega)) hx hb hml hown ht hM hK hl.1 lk_L_152 (by decide +kernel) (by decide) mk rfl rfl rfl (Nat.le_of_ble_eq_true rfl) dd_L_lookAtAll_39 ⟨Nat.zero_le _, Nat.zero_le _⟩ ?_
        have me := (hN i (show i < nn by omega)).1
        refine va_castS hx hb hown (ht _ wd_2_26) (hK.1.1 2 _ rfl).2 (m_recv hK hM me rfl) dd_L_lookAtAll_42 ?_
        have hFr := hF_fr hF hS hA
        refine mx_V (As := [.ref (aN i)]) (rest := []) 1 (cc_L_lookAt hR hI (show i < nn by omega)) hx hb hml hown ht hM hK hZ hS hFr hl.1 lk_L_163 (by decide +kernel) (by decide) mx rfl rfl rfl (Nat.le_of_ble_eq_true rfl) dd_L_lookAtAll_45 ⟨Nat.zero_le _, Nat.zero_le _⟩ (fun v u2 H locs hp hM hd hle hk hS => ?_)
        obtain ⟨rfl, hR2⟩ := hp
        have hF := fun z9 h => hFr z9 (hd z9 h)
        have hI2 := rl_at (pn := pn) (pt := pt) (z := (N1, ca1, ft1, fn1, mv1)) hI (show i < nn by omega)
        obtain ⟨x2, ex2⟩ : ∃ y : Int32, y = (nI i) + 1 := ⟨_, rfl⟩
        refine lv_iinc (v := x2) (lv' := [(1, .int x2), (0, .ref x)]) hx hb dd_L_lookAtAll_48 hl (k := 0) rfl (by rw [ex2]; rfl) (by decide) rfl (fun ls hl => ?_)
        refine lv_goto (tgt := 15) hx hb dd_L_lookAtAll_51 (by decide) ?_
        rw [ex2, nI_1] at hl
        exact ih (i + 1) u2 _ _ _ _ _ H locs ls (by omega) hR2 hI2 hM hF hS hl (by rw [← hres]; simp only [c_all]; rw [if_pos c1])
  obtain ⟨mx, hLd, hLn, hD, hN, hAp, hnd, hnn⟩ := id hR
  obtain ⟨cl, ml⟩ := ls_obj hLd
  obtain ⟨ck, mk⟩ := ls_obj hLn
  refine lv_aload_n hx hb dd_L_lookAtAll_0 rfl (lv_at hl 0 rfl) ?_
  refine mc_V (As := []) (rest := []) 0 (cc_L_endsInMain hR) hx hb hml hown ht hM hK hl.1 lk_L_160 (by decide +kernel) (by decide) mx rfl rfl rfl (Nat.le_of_ble_eq_true rfl) dd_L_lookAtAll_1 ⟨Nat.zero_le _, Nat.zero_le _⟩ ?_
  refine lb_if_ne (tgt := 13) hx hb dd_L_lookAtAll_4 (by decide) (fun c1 => ?_) (fun c1 => ?_)
  · refine lv_iconst (v := 0) hx hb dd_L_lookAtAll_13 (by decide) ?_
    refine lv_istore_n (lv' := [(1, .int 0), (0, .ref x)]) hx hb dd_L_lookAtAll_14 rfl hl (by decide) rfl (fun ls hl => ?_)
    exact loop c1 nn 0 M N ca ft fn mv s.heap [] ls (by omega) hR hI hM hF hS (by rw [nI_0]; exact hl) rfl
  · refine lv_aload_n hx hb dd_L_lookAtAll_7 rfl (lv_at hl 0 rfl) ?_
    refine lv_iconst (v := 4) hx hb dd_L_lookAtAll_8 (by decide) ?_
    refine mg_put (v := .int 4) hx hb ht ii_L tt_L tt_L_ok nn_L hown hK hM hS (hF _ (by rw [mx]; exact Option.some_ne_none _)) mx rfl 3 (by decide) wd_1_53 (fun _ h => h) (Or.inl rfl) rfl rfl rfl (Nat.le_of_ble_eq_true rfl) dd_L_lookAtAll_9 (fun H locs hM hz hoq hS => ?_)
    have hsz := hz.trans hsz
    have hM : hm G (mp_up M x (.inr (0, [.ref ld, .ref ln, .int (bI kn), .int 4, .int fn, .int mv]))) H := hM
    have hF : ∀ z9, (mp_up M x (.inr (0, [.ref ld, .ref ln, .int (bI kn), .int 4, .int fn, .int mv]))) z9 ≠ none → fr M sz z9 := hF_put hF (hF _ (by rw [mx]; exact Option.some_ne_none _))
    have mx : (mp_up M x (.inr (0, [.ref ld, .ref ln, .int (bI kn), .int 4, .int fn, .int mv]))) x = some (.inr (0, [.ref ld, .ref ln, .int (bI kn), .int 4, .int fn, .int mv])) := mp_self _ _ _
    have hal : c_lookAll nd aD D pn pt ho pa nn (N, ca, ft, fn, mv) = (N, ca, 4, fn, mv) := by unfold c_lookAll; rw [if_neg (by rw [c1]; decide)]
    exact mw_v hx hb hr hlocks hM hF hS (Nat.zero_le _) (Nat.zero_le _) ⟨rfl, by rw [hal]; exact rp_setX (kn' := kn) (ft' := 4) (fn' := fn) (mv' := mv) hR h00⟩ dd_L_lookAtAll_12

set_option maxHeartbeats 4000000 in
set_option maxRecDepth 100000 in
theorem cc_L_check {l : Launch} {G : gC} {M : mC} {sz : Nat} {x ld ln ed en nd nn : Nat} {aD aN : Nat → Nat} {D : Nat → dR} {N : Nat → nR} {pn : Nat → Nat → Int64} {pt : Nat → Nat → Int32} {kn : Bool} {ft fn mv : Int32} (hR : rp G M x ld ln ed en nd nn aD aN D N pn pt kn ft fn mv) {ho : Nat → Nat} {pa ca op : Nat → Option Nat} (hI : rl nd nn aD aN D N ho pa ca op) : cW l yy_L_check bb_L_check 1 (some .int) 7 8 4000 G M sz [.ref x] (fun v u => (c_whole nd D = false ∧ v = some (.int (-1)) ∧ u = M) ∨ (c_whole nd D = true ∧ v = some (.int (c_lookAll nd aD D pn pt ho pa nn (N, ca, 0, -1, 0)).2.2.1) ∧ rp G u x ld ln ed en nd nn aD aN D (c_lookAll nd aD D pn pt ho pa nn (N, ca, 0, -1, 0)).1 pn pt (decide ((c_lookAll nd aD D pn pt ho pa nn (N, ca, 0, -1, 0)).2.2.1 = 0)) (c_lookAll nd aD D pn pt ho pa nn (N, ca, 0, -1, 0)).2.2.1 (c_lookAll nd aD D pn pt ho pa nn (N, ca, 0, -1, 0)).2.2.2.1 (c_lookAll nd aD D pn pt ho pa nn (N, ca, 0, -1, 0)).2.2.2.2)) := by
  refine me_W (by decide) (Nat.le_of_ble_eq_true rfl) ?_
  intro p e s m below meth c ls hx hb hr hlocks hml hown hname ht hsz hM hK hZ hl
  have hown : s.vm.findClass RR_L = some m.cls := hown
  have hl : lv_has ls 1 [(0, .ref x)] := hl
  have hS : va_S (fr M sz) s.heap s.heap [] := va_S.rf
  have hF : ∀ q, M q ≠ none → fr M sz q := fr_M
  have hA : ∀ q, s.heap.size ≤ q → fr M sz q := fun q h => fr_A q (by rw [← hsz]; exact h)
  obtain ⟨mx, hLd, hLn, hD, hN, hAp, hnd, hnn⟩ := id hR
  obtain ⟨cl, ml⟩ := ls_obj hLd
  obtain ⟨ck, mk⟩ := ls_obj hLn
  have hE := mz_E hZ
  have h00 := mz_none hZ
  refine lv_aload_n hx hb dd_L_check_0 rfl (lv_at hl 0 rfl) ?_
  refine mc_V (As := []) (rest := []) 0 (cc_L_lastIsWhole hR) hx hb hml hown ht hM hK hl.1 lk_L_45 (by decide +kernel) (by decide) mx rfl rfl rfl (Nat.le_of_ble_eq_true rfl) dd_L_check_1 ⟨Nat.le_of_ble_eq_true rfl, Nat.le_of_ble_eq_true rfl⟩ ?_
  refine lb_if_ne (tgt := 9) hx hb dd_L_check_4 (by decide) (fun c1 => ?_) (fun c1 => ?_)
  · refine lv_aload_n hx hb dd_L_check_9 rfl (lv_at hl 0 rfl) ?_
    refine lv_iconst (v := 0) hx hb dd_L_check_10 (by decide) ?_
    refine mg_put (v := .int 0) hx hb ht ii_L tt_L tt_L_ok nn_L hown hK hM hS (hF _ (by rw [mx]; exact Option.some_ne_none _)) mx rfl 3 (by decide) wd_1_53 (fun _ h => h) (Or.inl rfl) rfl rfl rfl (Nat.le_of_ble_eq_true rfl) dd_L_check_11 (fun H locs hM hz hoq hS => ?_)
    have hsz := hz.trans hsz
    have hM : hm G (mp_up M x (.inr (0, [.ref ld, .ref ln, .int (bI kn), .int 0, .int fn, .int mv]))) H := hM
    have hF : ∀ z9, (mp_up M x (.inr (0, [.ref ld, .ref ln, .int (bI kn), .int 0, .int fn, .int mv]))) z9 ≠ none → fr M sz z9 := hF_put hF (hF _ (by rw [mx]; exact Option.some_ne_none _))
    have mx : (mp_up M x (.inr (0, [.ref ld, .ref ln, .int (bI kn), .int 0, .int fn, .int mv]))) x = some (.inr (0, [.ref ld, .ref ln, .int (bI kn), .int 0, .int fn, .int mv])) := mp_self _ _ _
    refine lv_aload_n hx hb dd_L_check_14 rfl (lv_at hl 0 rfl) ?_
    refine lv_iconst (v := -1) hx hb dd_L_check_15 (by decide) ?_
    refine mg_put (v := .int (-1)) hx hb ht ii_L tt_L tt_L_ok nn_L hown hK hM hS (hF _ (by rw [mx]; exact Option.some_ne_none _)) mx rfl 4 (by decide) wd_1_54 (fun _ h => h) (Or.inl rfl) rfl rfl rfl (Nat.le_of_ble_eq_true rfl) dd_L_check_16 (fun H locs hM hz hoq hS => ?_)
    have hsz := hz.trans hsz
    rw [mp_mp] at hM
    have hM : hm G (mp_up M x (.inr (0, [.ref ld, .ref ln, .int (bI kn), .int 0, .int (-1), .int mv]))) H := hM
    have hF : ∀ z9, (mp_up M x (.inr (0, [.ref ld, .ref ln, .int (bI kn), .int 0, .int (-1), .int mv]))) z9 ≠ none → fr M sz z9 := hF_same hF
    have mx : (mp_up M x (.inr (0, [.ref ld, .ref ln, .int (bI kn), .int 0, .int (-1), .int mv]))) x = some (.inr (0, [.ref ld, .ref ln, .int (bI kn), .int 0, .int (-1), .int mv])) := mp_self _ _ _
    refine lv_aload_n hx hb dd_L_check_19 rfl (lv_at hl 0 rfl) ?_
    refine lv_iconst (v := 0) hx hb dd_L_check_20 (by decide) ?_
    refine mg_put (v := .int 0) hx hb ht ii_L tt_L tt_L_ok nn_L hown hK hM hS (hF _ (by rw [mx]; exact Option.some_ne_none _)) mx rfl 5 (by decide) wd_1_55 (fun _ h => h) (Or.inl rfl) rfl rfl rfl (Nat.le_of_ble_eq_true rfl) dd_L_check_21 (fun H locs hM hz hoq hS => ?_)
    have hsz := hz.trans hsz
    rw [mp_mp] at hM
    have hM : hm G (mp_up M x (.inr (0, [.ref ld, .ref ln, .int (bI kn), .int 0, .int (-1), .int 0]))) H := hM
    have hF : ∀ z9, (mp_up M x (.inr (0, [.ref ld, .ref ln, .int (bI kn), .int 0, .int (-1), .int 0]))) z9 ≠ none → fr M sz z9 := hF_same hF
    have mx : (mp_up M x (.inr (0, [.ref ld, .ref ln, .int (bI kn), .int 0, .int (-1), .int 0]))) x = some (.inr (0, [.ref ld, .ref ln, .int (bI kn), .int 0, .int (-1), .int 0])) := mp_self _ _ _
    refine lv_aload_n hx hb dd_L_check_24 rfl (lv_at hl 0 rfl) ?_
    have hR1 := rp_setX (kn' := kn) (ft' := 0) (fn' := -1) (mv' := 0) hR h00
    have hFr := hF_fr hF hS hA
    refine mx_V (As := []) (rest := []) 0 (cc_L_lookAtAll hR1 hI) hx hb hml hown ht hM hK hZ hS hFr hl.1 lk_L_119 (by decide +kernel) (by decide) mx rfl rfl rfl (Nat.le_of_ble_eq_true rfl) dd_L_check_25 ⟨Nat.le_of_ble_eq_true rfl, Nat.le_of_ble_eq_true rfl⟩ (fun v u2 H locs hp hM hd hle hk hS => ?_)
    obtain ⟨zz, ez9⟩ : ∃ z, z = c_lookAll nd aD D pn pt ho pa nn (N, ca, 0, -1, 0) := ⟨_, rfl⟩
    rw [← ez9] at hp ⊢
    obtain ⟨rfl, hR2⟩ := hp
    have hF := fun z9 h => hFr z9 (hd z9 h)
    have h02 := e_none hF hE
    obtain ⟨mx, hLd, hLn, hD, hN, -, -, -⟩ := id hR2
    obtain ⟨cl, ml⟩ := ls_obj hLd
    obtain ⟨ck, mk⟩ := ls_obj hLn
    refine lv_aload_n hx hb dd_L_check_28 rfl (lv_at hl 0 rfl) ?_
    refine lv_aload_n hx hb dd_L_check_29 rfl (lv_at hl 0 rfl) ?_
    refine mg_get hx hb ht ii_L hown hK hM mx rfl 3 (by decide) wd_1_53 (fun _ h => h) rfl dd_L_check_30 ?_
    refine lv_if_ne (tgt := 40) hx hb dd_L_check_33 (by decide) (fun c2 => ?_) (fun c2 => ?_)
    · refine lv_iconst (v := 0) hx hb dd_L_check_40 (by decide) ?_
      refine mg_put (v := .int 0) hx hb ht ii_L tt_L tt_L_ok nn_L hown hK hM hS (hF _ (by rw [mx]; exact Option.some_ne_none _)) mx rfl 2 (by decide) wd_1_52 (fun _ h => h) (Or.inl rfl) rfl rfl rfl (Nat.le_of_ble_eq_true rfl) dd_L_check_41 (fun H locs hM hz hoq hS => ?_)
      have hM : hm G (mp_up u2 x (.inr (0, [.ref ld, .ref ln, .int 0, .int zz.2.2.1, .int zz.2.2.2.1, .int zz.2.2.2.2]))) H := hM
      have hF : ∀ z9, (mp_up u2 x (.inr (0, [.ref ld, .ref ln, .int 0, .int zz.2.2.1, .int zz.2.2.2.1, .int zz.2.2.2.2]))) z9 ≠ none → fr M sz z9 := hF_put hF (hF _ (by rw [mx]; exact Option.some_ne_none _))
      have mx : (mp_up u2 x (.inr (0, [.ref ld, .ref ln, .int 0, .int zz.2.2.1, .int zz.2.2.2.1, .int zz.2.2.2.2]))) x = some (.inr (0, [.ref ld, .ref ln, .int 0, .int zz.2.2.1, .int zz.2.2.2.1, .int zz.2.2.2.2])) := mp_self _ _ _
      refine lv_aload_n hx hb dd_L_check_44 rfl (lv_at hl 0 rfl) ?_
      refine mg_get hx hb ht ii_L hown hK hM mx rfl 3 (by decide) wd_1_53 (fun _ h => h) rfl dd_L_check_45 ?_
      have hRz := rp_setX (kn' := false) (ft' := zz.2.2.1) (fn' := zz.2.2.2.1) (mv' := zz.2.2.2.2) hR2 h02
      have hdz : decide (zz.2.2.1 = 0) = false := decide_eq_false c2
      exact mw_i hx hb hr hlocks rfl hM hF hS (Nat.le_of_ble_eq_true rfl) (Nat.le_of_ble_eq_true rfl) (Or.inr ⟨c1, rfl, by rw [hdz]; exact hRz⟩) dd_L_check_48
    · refine lv_iconst (v := 1) hx hb dd_L_check_36 (by decide) ?_
      refine lv_goto (tgt := 41) hx hb dd_L_check_37 (by decide) ?_
      refine mg_put (v := .int 1) hx hb ht ii_L tt_L tt_L_ok nn_L hown hK hM hS (hF _ (by rw [mx]; exact Option.some_ne_none _)) mx rfl 2 (by decide) wd_1_52 (fun _ h => h) (Or.inl rfl) rfl rfl rfl (Nat.le_of_ble_eq_true rfl) dd_L_check_41 (fun H locs hM hz hoq hS => ?_)
      have hM : hm G (mp_up u2 x (.inr (0, [.ref ld, .ref ln, .int 1, .int zz.2.2.1, .int zz.2.2.2.1, .int zz.2.2.2.2]))) H := hM
      have hF : ∀ z9, (mp_up u2 x (.inr (0, [.ref ld, .ref ln, .int 1, .int zz.2.2.1, .int zz.2.2.2.1, .int zz.2.2.2.2]))) z9 ≠ none → fr M sz z9 := hF_put hF (hF _ (by rw [mx]; exact Option.some_ne_none _))
      have mx : (mp_up u2 x (.inr (0, [.ref ld, .ref ln, .int 1, .int zz.2.2.1, .int zz.2.2.2.1, .int zz.2.2.2.2]))) x = some (.inr (0, [.ref ld, .ref ln, .int 1, .int zz.2.2.1, .int zz.2.2.2.1, .int zz.2.2.2.2])) := mp_self _ _ _
      refine lv_aload_n hx hb dd_L_check_44 rfl (lv_at hl 0 rfl) ?_
      refine mg_get hx hb ht ii_L hown hK hM mx rfl 3 (by decide) wd_1_53 (fun _ h => h) rfl dd_L_check_45 ?_
      have hRz := rp_setX (kn' := true) (ft' := zz.2.2.1) (fn' := zz.2.2.2.1) (mv' := zz.2.2.2.2) hR2 h02
      have hdz : decide (zz.2.2.1 = 0) = true := decide_eq_true c2
      exact mw_i hx hb hr hlocks rfl hM hF hS (Nat.le_of_ble_eq_true rfl) (Nat.le_of_ble_eq_true rfl) (Or.inr ⟨c1, rfl, by rw [hdz]; exact hRz⟩) dd_L_check_48
  · refine lv_iconst (v := -1) hx hb dd_L_check_7 (by decide) ?_
    exact mw_i hx hb hr hlocks rfl hM hF hS (Nat.le_of_ble_eq_true rfl) (Nat.le_of_ble_eq_true rfl) (Or.inl ⟨c1, rfl, rfl⟩) dd_L_check_8
