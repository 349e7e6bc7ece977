/-- the types' array of a definition with one more -/
abbrev d_s2 (d : dR) : dR := d_s_np d (d_np d + 1)
def n_fitsV (r q : nR) (hd d : dR) (pt : Nat → Int32) : Bool := match n_pa r with
  | none => decide (n_vt r = d_vt hd)
  | some _ => n_admits q d pt (n_pl r) (n_vt r)
/-- the chain of parents: records from a reference on -/
def chn (M : mC) : Option Nat → List nR → Prop
  | none, [] => True
  | some a, r :: L => M a = some (nC r) ∧ chn M (n_pa r) L
  | _, _ => False
/-- where 'open' comes to rest: the first of the chain that lacks parts -/
def d_rest : Option Nat → List nR → Option Nat
  | some a, r :: L => if n_fl r < n_pt r then some a else d_rest (n_pa r) L
  | _, _ => none
/-- the binder of a name: the first parent that binds it in its last part, below which the name stands -/
def n_bnd (x : Int64) (r : nR) : List nR → Option nR
  | [] => none
  | q :: L => if (n_isLast r q && n_binds q x) = true then some q else n_bnd x q L
set_option maxHeartbeats 4000000 in
set_option maxRecDepth 100000 in
theorem cc_N_fits {l : Launch} {G : gC} {M : mC} {h0 : Nat} {r : nR} (m0 : M h0 = some (nC r)) {hd : dR} (md : M (n_ho r) = some (dC hd)) {q : nR} (mp : ∀ y, n_pa r = some y → M y = some (nC q)) {d : dR} {pt : Nat → Int32} (mq : ∀ y, n_ca q = some y → M y = some (dC d)) (mt : n_ca q ≠ none → M (d_apt d) = some (iA G 8 pt)) : cR l yy_N_fits bb_N_fits 1 (some .boolean) 2 G M [.ref h0] (.int (bI (n_fitsV r q hd d pt))) := by
  refine me_R (by decide) (Nat.le_of_ble_eq_true rfl) ?_
  intro p e s m below meth c ls hx hb hr hlocks hml hown ht hM hK hl
  have hown : s.vm.findClass RR_N = some m.cls := hown
  have hl : lv_has ls 1 [(0, .ref h0)] := hl
  refine lv_aload_n hx hb dd_N_fits_0 rfl (lv_at hl 0 rfl) ?_
  refine mg_get hx hb ht ii_N hown hK hM m0 rfl 2 (by decide) wd_2_36 (fun _ h => h) rfl dd_N_fits_1 ?_
  refine lr_ifnonnull (tgt := 29) hx hb dd_N_fits_4 (by decide) (fun y1 ey1 => ?_) (fun ey1 => ?_)
  · have my1 := mp y1 ey1
    refine lv_aload_n hx hb dd_N_fits_29 rfl (lv_at hl 0 rfl) ?_
    refine mg_get (v := .ref y1) hx hb ht ii_N hown hK hM m0 rfl 2 (by decide) wd_2_36 (fun _ h => h) (congrArg (fun z => some (va_rf z)) ey1) dd_N_fits_30 ?_
    refine lv_aload_n hx hb dd_N_fits_33 rfl (lv_at hl 0 rfl) ?_
    refine mg_get hx hb ht ii_N hown hK hM m0 rfl 3 (by decide) wd_2_39 (fun _ h => h) rfl dd_N_fits_34 ?_
    refine lv_aload_n hx hb dd_N_fits_37 rfl (lv_at hl 0 rfl) ?_
    refine mg_get hx hb ht ii_N hown hK hM m0 rfl 9 (by decide) wd_2_52 (fun _ h => h) rfl dd_N_fits_38 ?_
    refine mc_V (As := [.int (n_pl r), .int (n_vt r)]) (rest := []) 2 (cc_N_admits my1 mq mt (k := (n_pl r)) (t := (n_vt r))) hx hb hml hown ht hM hK hl.1 lk_N_101 (by decide +kernel) (by decide) my1 rfl rfl rfl (Nat.le_of_ble_eq_true rfl) dd_N_fits_41 ⟨Nat.zero_le _, Nat.zero_le _⟩ ?_
    exact mr_i hx hb hr hlocks bI_z (by simp [bI, n_fitsV, ey1]) dd_N_fits_44
  · refine lv_aload_n hx hb dd_N_fits_7 rfl (lv_at hl 0 rfl) ?_
    refine mg_get hx hb ht ii_N hown hK hM m0 rfl 9 (by decide) wd_2_52 (fun _ h => h) rfl dd_N_fits_8 ?_
    refine lv_aload_n hx hb dd_N_fits_11 rfl (lv_at hl 0 rfl) ?_
    refine mg_get hx hb ht ii_N hown hK hM m0 rfl 1 (by decide) wd_2_34 (fun _ h => h) rfl dd_N_fits_12 ?_
    refine mg_get hx hb ht ii_D hown hK hM md rfl 3 (by decide) wd_1_135 (fun _ h => h) rfl dd_N_fits_15 ?_
    refine lv_icmp_ne (tgt := 25) hx hb dd_N_fits_18 (by decide) (fun c2 => ?_) (fun c2 => ?_)
    · refine lv_iconst (v := 0) hx hb dd_N_fits_25 (by decide) ?_
      refine lv_goto (tgt := 44) hx hb dd_N_fits_26 (by decide) ?_
      exact mr_i hx hb hr hlocks rfl (by simp [bI, n_fitsV, ey1, c2]) dd_N_fits_44
    · refine lv_iconst (v := 1) hx hb dd_N_fits_21 (by decide) ?_
      refine lv_goto (tgt := 44) hx hb dd_N_fits_22 (by decide) ?_
      exact mr_i hx hb hr hlocks rfl (by simp [bI, n_fitsV, ey1, eq_true c2]) dd_N_fits_44
