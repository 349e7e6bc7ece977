set_option maxHeartbeats 4000000 in
set_option maxRecDepth 100000 in
theorem law_loop {p : Program} {l : Launch} {e : Env} {s : State} {m : MethodId} {below : List Frame} {meth : Method} {c : Code} {b L : Nat} {xs : Nat → Int32} {G : gC} (C : lwC p s m meth c b L xs G) (hL : L ≤ 3584) {x y : Nat} : ∀ (f n : Nat), L < 7 * n + 7 * f → 7 * n ≤ L → ∀ (X Y : mC) (H : Heap) (locs : List Loc) (ls : Array Slot), lwV G s b (7 * n) n x y X Y H locs ls → W p l e room_1 s m #[Value.ref b] below meth c H locs (lcN n) (lsN n) (lw_Z below #[Value.ref b] s) (F0 m 18 ls []) := by
  obtain ⟨⟨hx, hb, hr, hml, hown, hts, hX, hbl, hlocks, hgv⟩, hK, hZ⟩ := id C
  have hbA : ¬ (fun q : Nat => s.heap.size ≤ q) b := Nat.not_le.mpr hbl
  intro f
  induction f with
  | zero => intro n h1 h2; omega
  | succ f ih =>
    intro n h1 h2 X Y H locs ls V
    obtain ⟨hW, hS9, hS, hl⟩ := id V
    refine lv_iload_n hx hb dd_W_law_18 rfl (lv_at hl 3 rfl) ?_
    refine lv_aload_n hx hb dd_W_law_19 rfl (lv_at hl 0 rfl) ?_
    refine va_slen hx hb hX hbl hbA hS dd_W_law_20 ?_
    refine lv_bipush (v := 7) hx hb dd_W_law_21 (by decide) ?_
    refine lv_isub hx hb dd_W_law_23 ?_
    refine lv_icmp_gt (tgt := 510) hx hb dd_W_law_24 (by decide) (fun c1 => ?_) (fun c1 => ?_)
    · refine lv_iconst (v := 1) hx hb dd_W_law_510 (by decide) ?_
      refine va_forget (fun q hq => hS.2.2 q hq) ?_
      refine W.widen (k := 600000) (n := 7302250) (by show 40 + 16 * n ≤ 600000; omega) (by show 60000 + 8000 * n ≤ 7302250; omega) ?_
      exact lw_ret hx hb hr hlocks dd_W_law_511
    · have hi : 7 * n + 7 ≤ L := by
        rcases Nat.lt_or_ge L (7 * n + 7) with z | z
        · exact absurd ((len_7 (by omega) (by omega)).mpr z) c1
        · exact z
      have hn : n < 512 := by omega
      have hend : ∀ (X' Y' : mC) (H' : Heap) (locs' : List Loc), lwV G s b (7 * n) (n + 1) x y X' Y' H' locs' ls → W p l e room_1 s m #[Value.ref b] below meth c H' locs' (lcN (n + 1)) (lsN (n + 1)) (lw_Z below #[Value.ref b] s) (F0 m 504 ls []) := by
        intro X' Y' H' locs' V'
        obtain ⟨hW', hS9', hS', hl'⟩ := V'
        refine lv_iinc (v := nI (7 * (n + 1))) (lv' := [(3, .int (nI (7 * (n + 1)))), (0, .ref b), (1, .ref x), (2, .ref y)]) hx hb dd_W_law_504 hl' (k := 3) rfl (nI_add (7 * n) 7) (by decide) rfl (fun ls' hl2 => ?_)
        refine lv_goto (tgt := 18) hx hb dd_W_law_507 (by decide) ?_
        exact ih (n + 1) (by omega) (by omega) X' Y' H' locs' ls' ⟨hW', hS9', hS', lv_sub hl2 [1, 2, 3, 0] rfl⟩
      refine lv_aload_n hx hb dd_W_law_27 rfl (lv_at hl 0 rfl) ?_
      refine lv_iload_n hx hb dd_W_law_28 rfl (lv_at hl 3 rfl) ?_
      refine va_sld hx hb hX hbl hbA hS (vp_in_nI (by omega) (by omega)) dd_W_law_29 ?_
      refine lv_bipush (v := 15) hx hb dd_W_law_30 (by decide) ?_
      refine lv_iand hx hb dd_W_law_32 ?_
      refine lv_topi (fun v _ => ?_)
      rcases sw_9 v with rfl | rfl | rfl | rfl | rfl | rfl | rfl | rfl | rfl | rfl | hv
      · refine lv_tableIn (tgt := 88) hx hb dd_W_law_33 (by decide) (by decide) rfl (by decide) ?_
        exact law_c0 C hL hi hn V hend
      · refine lv_tableIn (tgt := 99) hx hb dd_W_law_33 (by decide) (by decide) rfl (by decide) ?_
        exact law_c1 C hL hi hn V hend
      · refine lv_tableIn (tgt := 188) hx hb dd_W_law_33 (by decide) (by decide) rfl (by decide) ?_
        exact law_c2 C hL hi hn V hend
      · refine lv_tableIn (tgt := 251) hx hb dd_W_law_33 (by decide) (by decide) rfl (by decide) ?_
        exact law_c3 C hL hi hn V hend
      · refine lv_tableIn (tgt := 366) hx hb dd_W_law_33 (by decide) (by decide) rfl (by decide) ?_
        exact law_c4 C hL hi hn V hend
      · refine lv_tableIn (tgt := 379) hx hb dd_W_law_33 (by decide) (by decide) rfl (by decide) ?_
        exact law_c5 C hL hi hn V hend
      · refine lv_tableIn (tgt := 402) hx hb dd_W_law_33 (by decide) (by decide) rfl (by decide) ?_
        exact law_c6 C hL hi hn V hend
      · refine lv_tableIn (tgt := 425) hx hb dd_W_law_33 (by decide) (by decide) rfl (by decide) ?_
        exact law_c7 C hL hi hn V hend
      · refine lv_tableIn (tgt := 448) hx hb dd_W_law_33 (by decide) (by decide) rfl (by decide) ?_
        exact law_c8 C hL hi hn V hend
      · refine lv_tableIn (tgt := 481) hx hb dd_W_law_33 (by decide) (by decide) rfl (by decide) ?_
        exact law_c9 C hL hi hn V hend
      · refine lv_tableOut (tgt := 504) hx hb dd_W_law_33 hv (by decide) ?_
        refine W.widen (k := lcN (n + 1)) (n := lsN (n + 1)) (by show 40 + 16 * n ≤ 40 + 16 * (n + 1); omega) (by show 60000 + 8000 * n ≤ 60000 + 8000 * (n + 1); omega) ?_
        exact hend X Y H locs ⟨hW, lwS_n hS9 (Nat.le_succ n), hS, hl⟩
set_option maxHeartbeats 4000000 in
set_option maxRecDepth 100000 in
/-- THE LAW, from its entry -/
theorem whole_start {p : Program} {e : Env} {s : State} {m : MethodId} {below : List Frame} {meth : Method} {c : Code} (l : Launch) {b L : Nat} {xs : Nat → Int32} (hL : L ≤ 3584) (C0 : lw_At p s m meth c b L xs) : W p l e room_1 s m #[Value.ref b] below meth c s.heap [] 0 0 (lw_Z below #[Value.ref b] s) (entryFrame m ([Value.ref b] : List Value).toArray 4) := by
  obtain ⟨hx, hb, hr, hml, hown, hts, hX, hbl, hlocks, hgv⟩ := id C0
  have ht : ∀ w ∈ tb, w.before #[Value.ref b] s = true := fun w hw => hts w (tb_lw hw)
  obtain ⟨G, hK, hZ⟩ := law_G hts hgv
  have C : lwC p s m meth c b L xs G := ⟨C0, hK, hZ⟩
  have hS : va_S (fun q : Nat => s.heap.size ≤ q) s.heap s.heap [] := va_S.rf
  have hM0 : hm G (fun _ => none) s.heap := fun a e h => by cases h
  have hl := lv_entry ([.ref b]) (n := 4) (Nat.le_of_ble_eq_true rfl)
  rw [lg_entry_eq]
  generalize (lg_sl ([.ref b]) ++ List.replicate (4 - (lg_sl ([.ref b])).length) Slot.unset).toArray = ls at hl ⊢
  have hl : lv_has ls 4 [(0, .ref b)] := hl
  refine mg_new (ci := 0) hx hb ht ii_L tt_L tt_L_ok hown wd_1_16 wd_1_17 wd_1_1 hK hM0 hS rfl [.null, .null, .int 0, .int 0, .int 0, .int 0] (fun j hj => by rcases (show j = 0 ∨ j = 1 ∨ j = 2 ∨ j = 3 ∨ j = 4 ∨ j = 5 by omega) with rfl | rfl | rfl | rfl | rfl | rfl <;> rfl) (Nat.le_of_ble_eq_true rfl) (Nat.le_of_ble_eq_true rfl) dd_W_law_0 (fun H hM hz hS => ?_)
  have hMx : mp_up (fun _ => none) s.heap.size (.inr (0, [.null, .null, .int 0, .int 0, .int 0, .int 0])) s.heap.size = some (.inr (0, [.null, .null, .int 0, .int 0, .int 0, .int 0])) := mp_self _ _ _
  have hF : ∀ q, mp_up (fun _ => none) s.heap.size (.inr (0, [.null, .null, .int 0, .int 0, .int 0, .int 0])) q ≠ none → s.heap.size ≤ q := fun q hq => by
    by_cases h : q = s.heap.size
    · omega
    · rw [mp_ne h] at hq; exact absurd rfl hq
  refine lv_dup hx hb dd_W_law_3 rfl ?_
  refine mx_I (As := []) (rest := [.ref s.heap.size]) 0 (cc_L_init (sz := H.size) hMx (aD := fun _ => 0) (aN := fun _ => 0) (D := fun _ => (0, false, 0, 0, 0, 0, 0, false, none)) (N := fun _ => (0, 0, none, 0, 0, 0, 0, 0, 0, 0, 0, 0, none, 0)) (pn := fun _ _ => 0) (pt := fun _ _ => 0)) hx hb hml hown ht hM hK hZ hS (fun q hq => hq.elim (hF q) (fun z => Nat.le_trans hS.1 z)) hl.1 wd_1_20 wd_1_1 wd_1_18 wd_1_19 rfl (by decide +kernel) ⟨Nat.le_of_ble_eq_true rfl, Nat.le_of_ble_eq_true rfl⟩ rfl rfl (Nat.le_of_ble_eq_true rfl) dd_W_law_4 ⟨Nat.le_of_ble_eq_true rfl, Nat.le_of_ble_eq_true rfl⟩ (fun v u H1 locs1 hp hM1 hd hle hk hS1 => ?_)
  obtain ⟨rfl, ld, ln, hR⟩ := hp
  have hF1 : ∀ q, u q ≠ none → s.heap.size ≤ q := fun q hq => (hd q hq).elim (hF q) (fun z => Nat.le_trans hS.1 z)
  refine lv_astore_n (lv' := [(1, .ref s.heap.size), (0, .ref b)]) hx hb dd_W_law_7 rfl hl (by decide) rfl (fun ls hl => ?_)
  have hu0 : u H1.size = none := hm_new hM1 (Nat.le_refl _)
  refine mg_new (ci := 4) hx hb ht ii_M tt_M tt_M_ok hown wd_2_207 wd_2_208 wd_1_5 hK hM1 hS1 rfl [.int 0, .int 0, .null, .null, .null, .null, .null, .null, .null, .int 0, .null, .null, .null, .null, .null, .null, .null, .null, .null, .null, .null, .int 0, .int 0, .int 0, .int 0] (fun j hj => by rcases (show j = 0 ∨ j = 1 ∨ j = 2 ∨ j = 3 ∨ j = 4 ∨ j = 5 ∨ j = 6 ∨ j = 7 ∨ j = 8 ∨ j = 9 ∨ j = 10 ∨ j = 11 ∨ j = 12 ∨ j = 13 ∨ j = 14 ∨ j = 15 ∨ j = 16 ∨ j = 17 ∨ j = 18 ∨ j = 19 ∨ j = 20 ∨ j = 21 ∨ j = 22 ∨ j = 23 ∨ j = 24 by omega) with rfl | rfl | rfl | rfl | rfl | rfl | rfl | rfl | rfl | rfl | rfl | rfl | rfl | rfl | rfl | rfl | rfl | rfl | rfl | rfl | rfl | rfl | rfl | rfl | rfl <;> rfl) (Nat.le_of_ble_eq_true rfl) (Nat.le_of_ble_eq_true rfl) dd_W_law_8 (fun H2 hM2 hz2 hS2 => ?_)
  obtain ⟨yo, eyo⟩ : ∃ z : va_E, z = .inr (4, [.int 0, .int 0, .null, .null, .null, .null, .null, .null, .null, .int 0, .null, .null, .null, .null, .null, .null, .null, .null, .null, .null, .null, .int 0, .int 0, .int 0, .int 0]) := ⟨_, rfl⟩
  rw [← eyo] at hM2
  have hXu : hm G u H2 := fun q e he => hM2 q e (mp_old he hu0)
  have hY1 : hm G (mp_up (fun _ => none) H1.size yo) H2 := fun q e he => by
    by_cases hq : q = H1.size
    · subst hq; rw [mp_self] at he; cases he; exact hM2 _ _ (mp_self _ _ _)
    · rw [mp_ne hq] at he; cases he
  have hFY : ∀ q, mp_up (fun _ => none) H1.size yo q ≠ none → q = H1.size := fun q hq => by
    by_cases h : q = H1.size
    · exact h
    · rw [mp_ne h] at hq; exact absurd rfl hq
  have hP : pW G u (mp_up (fun _ => none) H1.size yo) s H2 := ⟨hXu, hY1, fun q hq => by
      by_cases h : q = H1.size
      · rw [h] at hq; exact absurd hu0 hq
      · rw [mp_ne h], hF1, fun q hq => by rw [hFY q hq]; exact hS1.1⟩
  refine lv_dup hx hb dd_W_law_11 rfl ?_
  refine mx_I (As := []) (rest := [.ref H1.size]) 0 (cc_M_init (sz := H2.size) (y := H1.size) (show mp_up (fun _ => none) H1.size yo H1.size = _ by rw [mp_self, eyo])) hx hb hml hown ht hY1 hK hZ hS2 (pW_fY hP hS2.1) hl.1 wd_2_211 wd_1_5 wd_2_209 wd_2_210 rfl (by decide +kernel) ⟨Nat.le_of_ble_eq_true rfl, Nat.le_of_ble_eq_true rfl⟩ rfl rfl (Nat.le_of_ble_eq_true rfl) dd_W_law_12 ⟨by show 0 + 1 + 2 + 1 + 18 ≤ 600000; omega, by show 0 + 6 + 6 + 25 + 46401 ≤ 7302250; omega⟩ (fun v t H3 locs3 hp3 hM3 hd3 hle3 hk3 hS3 => ?_)
  obtain ⟨rfl, hRm⟩ := hp3
  have hW3 := pW_Y hP hS2.1 hM3 hd3 hk3
  refine lv_astore_n (lv' := [(2, .ref H1.size), (1, .ref s.heap.size), (0, .ref b)]) hx hb dd_W_law_15 rfl hl (by decide) rfl (fun ls hl => ?_)
  refine lv_iconst (v := 0) hx hb dd_W_law_16 (by decide) ?_
  refine lt_i (nI (7 * 0)) nI_0.symm ?_
  refine lv_istore_n (lv' := [(3, .int (nI (7 * 0))), (2, .ref H1.size), (1, .ref s.heap.size), (0, .ref b)]) hx hb dd_W_law_17 rfl hl (by decide) rfl (fun ls hl => ?_)
  refine W.widen (k := lcN 0) (n := lsN 0) (by show 0 + 1 + 2 + 1 + 18 ≤ 40 + 16 * 0; omega) (by show 0 + 6 + 6 + 25 + 46401 ≤ 60000 + 8000 * 0; omega) ?_
  exact law_loop C hL (L / 7 + 1) 0 (by omega) (by omega) u t H3 locs3 ls ⟨hW3, st_init hR hRm, hS3, lv_sub hl [3, 2, 1, 0] rfl⟩
