/-- the types' array of a definition with one more -/
abbrev d_s2 (d : dR) : dR := d_s_np d (d_np d + 1)
def n_fitsV (r q : nR) (hd d : dR) (pt : Nat → Int32) : Bool := match n_pa r with
  | none => decide (n_vt r = d_vt hd)
  | some _ => n_admits q d pt (n_pl r) (n_vt r)
/-- the chain of parents: records from a reference on -/
def chn (M : mC) : Option Nat → List nR → Prop
  | none, [] => True
  | some a, r :: L => M a = some (nC r) ∧ chn M (n_pa r) L
  | _, _ => False
/-- where 'open' comes to rest: the first of the chain that lacks parts -/
def d_rest : Option Nat → List nR → Option Nat
  | some a, r :: L => if n_fl r < n_pt r then some a else d_rest (n_pa r) L
  | _, _ => none
/-- the binder of a name: the first parent that binds it in its last part, below which the name stands -/
def n_bnd (x : Int64) (r : nR) : List nR → Option nR
  | [] => none
  | q :: L => if (n_isLast r q && n_binds q x) = true then some q else n_bnd x q L
set_option maxHeartbeats 4000000 in
set_option maxRecDepth 100000 in
theorem cc_N_fits {l : Launch} {G : gC} {M : mC} {h0 : Nat} {r : nR} (m0 : M h0 = some (nC r)) {hd : dR} (md : M (n_ho r) = some (dC hd)) {q : nR} (mp : ∀ y, n_pa r = some y → M y = some (nC q)) {d : dR} {pt : Nat → Int32} (mq : ∀ y, n_ca q = some y → M y = some (dC d)) (mt : n_ca q ≠ none → M (d_apt d) = some (iA G 8 pt)) : cR l yy_N_fits bb_N_fits 1 (some .boolean) 2 G M [.ref h0] (.int (bI (n_fitsV r q hd d pt))) := by
  refine me_R (by decide) (Nat.le_of_ble_eq_true rfl) ?_
  intro p e s m below meth c ls hx hb hr hlocks hml hown ht hM hK hl
  have hown : s.vm.findClass RR_N = some m.cls := hown
  have hl : lv_has ls 1 [(0, .ref h0)] := hl
  refine lv_aload_n hx hb dd_N_fits_0 rfl (lv_at hl 0 rfl) ?_
  refine mg_get hx hb ht ii_N hown hK hM m0 rfl 2 (by decide) wd_2_36 (fun _ h => h) rfl dd_N_fits_1 ?_
  refine lr_ifnonnull (tgt := 29) hx hb dd_N_fits_4 (by decide) (fun y1 ey1 => ?_) (fun ey1 => ?_)
  · have my1 := mp y1 ey1
    refine lv_aload_n hx hb dd_N_fits_29 rfl (lv_at hl 0 rfl) ?_
    refine mg_get (v := .ref y1) hx hb ht ii_N hown hK hM m0 rfl 2 (by decide) wd_2_36 (fun _ h => h) (congrArg (fun z => some (va_rf z)) ey1) dd_N_fits_30 ?_
    refine lv_aload_n hx hb dd_N_fits_33 rfl (lv_at hl 0 rfl) ?_
    refine mg_get hx hb ht ii_N hown hK hM m0 rfl 3 (by decide) wd_2_39 (fun _ h => h) rfl dd_N_fits_34 ?_
    refine lv_aload_n hx hb dd_N_fits_37 rfl (lv_at hl 0 rfl) ?_
    refine mg_get hx hb ht ii_N hown hK hM m0 rfl 9 (by decide) wd_2_52 (fun _ h => h) rfl dd_N_fits_38 ?_
    refine mc_V (As := [.int (n_pl r), .int (n_vt r)]) (rest := []) 2 (cc_N_admits my1 mq mt (k := (n_pl r)) (t := (n_vt r))) hx hb hml hown ht hM hK hl.1 lk_N_101 (by decide +kernel) (by decide) my1 rfl rfl rfl (Nat.le_of_ble_eq_true rfl) dd_N_fits_41 ⟨Nat.zero_le _, Nat.zero_le _⟩ ?_
    exact mr_i hx hb hr hlocks bI_z (by simp [bI, n_fitsV, ey1]) dd_N_fits_44
  · refine lv_aload_n hx hb dd_N_fits_7 rfl (lv_at hl 0 rfl) ?_
    refine mg_get hx hb ht ii_N hown hK hM m0 rfl 9 (by decide) wd_2_52 (fun _ h => h) rfl dd_N_fits_8 ?_
    refine lv_aload_n hx hb dd_N_fits_11 rfl (lv_at hl 0 rfl) ?_
    refine mg_get hx hb ht ii_N hown hK hM m0 rfl 1 (by decide) wd_2_34 (fun _ h => h) rfl dd_N_fits_12 ?_
    refine mg_get hx hb ht ii_D hown hK hM md rfl 3 (by decide) wd_1_135 (fun _ h => h) rfl dd_N_fits_15 ?_
    refine lv_icmp_ne (tgt := 25) hx hb dd_N_fits_18 (by decide) (fun c2 => ?_) (fun c2 => ?_)
    · refine lv_iconst (v := 0) hx hb dd_N_fits_25 (by decide) ?_
      refine lv_goto (tgt := 44) hx hb dd_N_fits_26 (by decide) ?_
      exact mr_i hx hb hr hlocks rfl (by simp [bI, n_fitsV, ey1, c2]) dd_N_fits_44
    · refine lv_iconst (v := 1) hx hb dd_N_fits_21 (by decide) ?_
      refine lv_goto (tgt := 44) hx hb dd_N_fits_22 (by decide) ?_
      exact mr_i hx hb hr hlocks rfl (by simp [bI, n_fitsV, ey1, eq_true c2]) dd_N_fits_44

set_option maxHeartbeats 4000000 in
set_option maxRecDepth 100000 in
theorem cc_D_init {l : Launch} {G : gC} {M : mC} {sz : Nat} {h0 : Nat} (m0 : M h0 = some (.inr (1, [.int 0, .int 0, .long 0, .int 0, .null, .null, .int 0, .int 0, .null]))) {k0 k3 : Int32} {k1 : Bool} {k2 : Int64} : cW l yy_D_init bb_D_init 6 none 1 2 16 G M sz [.ref h0, .int k0, .int (bI k1), .long k2, .int k3] (fun v u => v = none ∧ u = mp_up (mp_up (mp_up (mp_up M sz (lA G 8 (fun _ => 0))) h0 (.inr (1, [.int 0, .int 0, .long 0, .int 0, .ref sz, .null, .int 0, .int 0, .null]))) (sz + 1) (iA G 8 (fun _ => 0))) h0 (dC (k0, k1, k2, k3, sz, sz + 1, 0, false, none))) := by
  refine me_W (by decide) (Nat.le_of_ble_eq_true rfl) ?_
  intro p e s m below meth c ls hx hb hr hlocks hml hown hname ht hsz hM hK hZ hl
  have hown : s.vm.findClass RR_D = some m.cls := hown
  have hl : lv_has ls 6 [(0, .ref h0), (1, .int k0), (2, .int (bI k1)), (3, .long k2), (5, .int k3)] := hl
  have hS : va_S (fr M sz) s.heap s.heap [] := va_S.rf
  have hF : ∀ q, M q ≠ none → fr M sz q := fr_M
  have hA : ∀ q, s.heap.size ≤ q → fr M sz q := fun q h => fr_A q (by rw [← hsz]; exact h)
  refine lv_aload_n hx hb dd_D_init_0 rfl (lv_at hl 0 rfl) ?_
  refine W.objInit hx hb hown (ht _ wd_1_126) (ht _ wd_1_22) (ht _ wd_1_23) rfl (by rw [hml]; exact hl.1) rfl dd_D_init_1 (Nat.le_of_ble_eq_true rfl) (Nat.le_of_ble_eq_true rfl) ?_
  refine W.eq (g2 := F0 m 4 ls []) rfl ?_
  refine lv_aload_n hx hb dd_D_init_4 rfl (lv_at hl 0 rfl) ?_
  refine lv_bipush (v := 8) hx hb dd_D_init_5 (by decide) ?_
  have hn1 : M sz = none := hm_new hM (by rw [hsz]; exact Nat.le_refl _)
  refine mg_newl (n := 8) (N := 8) hx hb ht wd_1_165 hK hM hS (by decide) (by decide) (by decide) (Nat.le_of_ble_eq_true rfl) (Nat.le_of_ble_eq_true rfl) dd_D_init_7 (fun H hM hz hS => ?_)
  rw [hsz] at hM hz ⊢
  have hsz := hz
  have hM : hm G (mp_up M sz (lA G 8 (fun _ => 0))) H := hM
  have hF : ∀ z9, (mp_up M sz (lA G 8 (fun _ => 0))) z9 ≠ none → fr M sz z9 := hF_put hF (hA _ (by have := hS.1; omega))
  have mn : (mp_up M sz (lA G 8 (fun _ => 0))) sz = some (lA G 8 (fun _ => 0)) := mp_self _ _ _
  have m0 := mp_old (M := M) (a := sz) (e := (lA G 8 (fun _ => 0))) m0 hn1
  refine mg_put (v := .ref sz) hx hb ht ii_D tt_D tt_D_ok nn_D hown hK hM hS (hF _ (by rw [m0]; exact Option.some_ne_none _)) m0 rfl 4 (by decide) wd_1_137 (fun _ h => h) (Or.inr ⟨rfl, hname, rfl⟩) rfl rfl rfl (Nat.le_of_ble_eq_true rfl) dd_D_init_9 (fun H locs hM hz hoq hS => ?_)
  have hsz := hz.trans hsz
  have hM : hm G (mp_up (mp_up M sz (lA G 8 (fun _ => 0))) h0 (.inr (1, [.int 0, .int 0, .long 0, .int 0, .ref sz, .null, .int 0, .int 0, .null]))) H := hM
  have hF : ∀ z9, (mp_up (mp_up M sz (lA G 8 (fun _ => 0))) h0 (.inr (1, [.int 0, .int 0, .long 0, .int 0, .ref sz, .null, .int 0, .int 0, .null]))) z9 ≠ none → fr M sz z9 := hF_put hF (hF _ (by rw [m0]; exact Option.some_ne_none _))
  have m0 : (mp_up (mp_up M sz (lA G 8 (fun _ => 0))) h0 (.inr (1, [.int 0, .int 0, .long 0, .int 0, .ref sz, .null, .int 0, .int 0, .null]))) h0 = some (.inr (1, [.int 0, .int 0, .long 0, .int 0, .ref sz, .null, .int 0, .int 0, .null])) := mp_self _ _ _
  refine lv_aload_n hx hb dd_D_init_12 rfl (lv_at hl 0 rfl) ?_
  refine lv_bipush (v := 8) hx hb dd_D_init_13 (by decide) ?_
  have hn2 : (mp_up (mp_up M sz (lA G 8 (fun _ => 0))) h0 (.inr (1, [.int 0, .int 0, .long 0, .int 0, .ref sz, .null, .int 0, .int 0, .null]))) (sz + 1) = none := hm_new hM (by rw [hsz]; exact Nat.le_refl _)
  refine mg_newi (n := 8) (N := 8) hx hb ht wd_1_166 hK hM hS (by decide) (by decide) (by decide) (Nat.le_of_ble_eq_true rfl) (Nat.le_of_ble_eq_true rfl) dd_D_init_15 (fun H hM hz hS => ?_)
  rw [hsz] at hM hz ⊢
  have hsz := hz
  have hM : hm G (mp_up (mp_up (mp_up M sz (lA G 8 (fun _ => 0))) h0 (.inr (1, [.int 0, .int 0, .long 0, .int 0, .ref sz, .null, .int 0, .int 0, .null]))) (sz + 1) (iA G 8 (fun _ => 0))) H := hM
  have hF : ∀ z9, (mp_up (mp_up (mp_up M sz (lA G 8 (fun _ => 0))) h0 (.inr (1, [.int 0, .int 0, .long 0, .int 0, .ref sz, .null, .int 0, .int 0, .null]))) (sz + 1) (iA G 8 (fun _ => 0))) z9 ≠ none → fr M sz z9 := hF_put hF (hA _ (by have := hS.1; omega))
  have mt : (mp_up (mp_up (mp_up M sz (lA G 8 (fun _ => 0))) h0 (.inr (1, [.int 0, .int 0, .long 0, .int 0, .ref sz, .null, .int 0, .int 0, .null]))) (sz + 1) (iA G 8 (fun _ => 0))) (sz + 1) = some (iA G 8 (fun _ => 0)) := mp_self _ _ _
  have m0 := mp_old (M := (mp_up (mp_up M sz (lA G 8 (fun _ => 0))) h0 (.inr (1, [.int 0, .int 0, .long 0, .int 0, .ref sz, .null, .int 0, .int 0, .null])))) (a := (sz + 1)) (e := (iA G 8 (fun _ => 0))) m0 hn2
  refine mg_put (v := .ref (sz + 1)) hx hb ht ii_D tt_D tt_D_ok nn_D hown hK hM hS (hF _ (by rw [m0]; exact Option.some_ne_none _)) m0 rfl 5 (by decide) wd_1_138 (fun _ h => h) (Or.inr ⟨rfl, hname, rfl⟩) rfl rfl rfl (Nat.le_of_ble_eq_true rfl) dd_D_init_17 (fun H locs hM hz hoq hS => ?_)
  have hsz := hz.trans hsz
  have hM : hm G (mp_up (mp_up (mp_up (mp_up M sz (lA G 8 (fun _ => 0))) h0 (.inr (1, [.int 0, .int 0, .long 0, .int 0, .ref sz, .null, .int 0, .int 0, .null]))) (sz + 1) (iA G 8 (fun _ => 0))) h0 (.inr (1, [.int 0, .int 0, .long 0, .int 0, .ref sz, .ref (sz + 1), .int 0, .int 0, .null]))) H := hM
  have hF : ∀ z9, (mp_up (mp_up (mp_up (mp_up M sz (lA G 8 (fun _ => 0))) h0 (.inr (1, [.int 0, .int 0, .long 0, .int 0, .ref sz, .null, .int 0, .int 0, .null]))) (sz + 1) (iA G 8 (fun _ => 0))) h0 (.inr (1, [.int 0, .int 0, .long 0, .int 0, .ref sz, .ref (sz + 1), .int 0, .int 0, .null]))) z9 ≠ none → fr M sz z9 := hF_put hF (hF _ (by rw [m0]; exact Option.some_ne_none _))
  have m0 : (mp_up (mp_up (mp_up (mp_up M sz (lA G 8 (fun _ => 0))) h0 (.inr (1, [.int 0, .int 0, .long 0, .int 0, .ref sz, .null, .int 0, .int 0, .null]))) (sz + 1) (iA G 8 (fun _ => 0))) h0 (.inr (1, [.int 0, .int 0, .long 0, .int 0, .ref sz, .ref (sz + 1), .int 0, .int 0, .null]))) h0 = some (.inr (1, [.int 0, .int 0, .long 0, .int 0, .ref sz, .ref (sz + 1), .int 0, .int 0, .null])) := mp_self _ _ _
  refine lv_aload_n hx hb dd_D_init_20 rfl (lv_at hl 0 rfl) ?_
  refine lv_iconst (v := 0) hx hb dd_D_init_21 (by decide) ?_
  refine mg_put (v := .int 0) hx hb ht ii_D tt_D tt_D_ok nn_D hown hK hM hS (hF _ (by rw [m0]; exact Option.some_ne_none _)) m0 rfl 6 (by decide) wd_1_139 (fun _ h => h) (Or.inl rfl) rfl rfl rfl (Nat.le_of_ble_eq_true rfl) dd_D_init_22 (fun H locs hM hz hoq hS => ?_)
  have hsz := hz.trans hsz
  rw [mp_mp] at hM
  have hM : hm G (mp_up (mp_up (mp_up (mp_up M sz (lA G 8 (fun _ => 0))) h0 (.inr (1, [.int 0, .int 0, .long 0, .int 0, .ref sz, .null, .int 0, .int 0, .null]))) (sz + 1) (iA G 8 (fun _ => 0))) h0 (.inr (1, [.int 0, .int 0, .long 0, .int 0, .ref sz, .ref (sz + 1), .int 0, .int 0, .null]))) H := hM
  have hF : ∀ z9, (mp_up (mp_up (mp_up (mp_up M sz (lA G 8 (fun _ => 0))) h0 (.inr (1, [.int 0, .int 0, .long 0, .int 0, .ref sz, .null, .int 0, .int 0, .null]))) (sz + 1) (iA G 8 (fun _ => 0))) h0 (.inr (1, [.int 0, .int 0, .long 0, .int 0, .ref sz, .ref (sz + 1), .int 0, .int 0, .null]))) z9 ≠ none → fr M sz z9 := hF_same hF
  have m0 : (mp_up (mp_up (mp_up (mp_up M sz (lA G 8 (fun _ => 0))) h0 (.inr (1, [.int 0, .int 0, .long 0, .int 0, .ref sz, .null, .int 0, .int 0, .null]))) (sz + 1) (iA G 8 (fun _ => 0))) h0 (.inr (1, [.int 0, .int 0, .long 0, .int 0, .ref sz, .ref (sz + 1), .int 0, .int 0, .null]))) h0 = some (.inr (1, [.int 0, .int 0, .long 0, .int 0, .ref sz, .ref (sz + 1), .int 0, .int 0, .null])) := mp_self _ _ _
  refine lv_aload_n hx hb dd_D_init_25 rfl (lv_at hl 0 rfl) ?_
  refine lv_iconst (v := 0) hx hb dd_D_init_26 (by decide) ?_
  refine mg_put (v := .int 0) hx hb ht ii_D tt_D tt_D_ok nn_D hown hK hM hS (hF _ (by rw [m0]; exact Option.some_ne_none _)) m0 rfl 7 (by decide) wd_1_142 (fun _ h => h) (Or.inl rfl) rfl rfl rfl (Nat.le_of_ble_eq_true rfl) dd_D_init_27 (fun H locs hM hz hoq hS => ?_)
  have hsz := hz.trans hsz
  rw [mp_mp] at hM
  have hM : hm G (mp_up (mp_up (mp_up (mp_up M sz (lA G 8 (fun _ => 0))) h0 (.inr (1, [.int 0, .int 0, .long 0, .int 0, .ref sz, .null, .int 0, .int 0, .null]))) (sz + 1) (iA G 8 (fun _ => 0))) h0 (.inr (1, [.int 0, .int 0, .long 0, .int 0, .ref sz, .ref (sz + 1), .int 0, .int 0, .null]))) H := hM
  have hF : ∀ z9, (mp_up (mp_up (mp_up (mp_up M sz (lA G 8 (fun _ => 0))) h0 (.inr (1, [.int 0, .int 0, .long 0, .int 0, .ref sz, .null, .int 0, .int 0, .null]))) (sz + 1) (iA G 8 (fun _ => 0))) h0 (.inr (1, [.int 0, .int 0, .long 0, .int 0, .ref sz, .ref (sz + 1), .int 0, .int 0, .null]))) z9 ≠ none → fr M sz z9 := hF_same hF
  have m0 : (mp_up (mp_up (mp_up (mp_up M sz (lA G 8 (fun _ => 0))) h0 (.inr (1, [.int 0, .int 0, .long 0, .int 0, .ref sz, .null, .int 0, .int 0, .null]))) (sz + 1) (iA G 8 (fun _ => 0))) h0 (.inr (1, [.int 0, .int 0, .long 0, .int 0, .ref sz, .ref (sz + 1), .int 0, .int 0, .null]))) h0 = some (.inr (1, [.int 0, .int 0, .long 0, .int 0, .ref sz, .ref (sz + 1), .int 0, .int 0, .null])) := mp_self _ _ _
  refine lv_aload_n hx hb dd_D_init_30 rfl (lv_at hl 0 rfl) ?_
  refine lv_null hx hb dd_D_init_31 ?_
  refine mg_put (v := .null) hx hb ht ii_D tt_D tt_D_ok nn_D hown hK hM hS (hF _ (by rw [m0]; exact Option.some_ne_none _)) m0 rfl 8 (by decide) wd_1_144 (fun _ h => h) (Or.inl rfl) rfl rfl rfl (Nat.le_of_ble_eq_true rfl) dd_D_init_32 (fun H locs hM hz hoq hS => ?_)
  have hsz := hz.trans hsz
  rw [mp_mp] at hM
  have hM : hm G (mp_up (mp_up (mp_up (mp_up M sz (lA G 8 (fun _ => 0))) h0 (.inr (1, [.int 0, .int 0, .long 0, .int 0, .ref sz, .null, .int 0, .int 0, .null]))) (sz + 1) (iA G 8 (fun _ => 0))) h0 (.inr (1, [.int 0, .int 0, .long 0, .int 0, .ref sz, .ref (sz + 1), .int 0, .int 0, .null]))) H := hM
  have hF : ∀ z9, (mp_up (mp_up (mp_up (mp_up M sz (lA G 8 (fun _ => 0))) h0 (.inr (1, [.int 0, .int 0, .long 0, .int 0, .ref sz, .null, .int 0, .int 0, .null]))) (sz + 1) (iA G 8 (fun _ => 0))) h0 (.inr (1, [.int 0, .int 0, .long 0, .int 0, .ref sz, .ref (sz + 1), .int 0, .int 0, .null]))) z9 ≠ none → fr M sz z9 := hF_same hF
  have m0 : (mp_up (mp_up (mp_up (mp_up M sz (lA G 8 (fun _ => 0))) h0 (.inr (1, [.int 0, .int 0, .long 0, .int 0, .ref sz, .null, .int 0, .int 0, .null]))) (sz + 1) (iA G 8 (fun _ => 0))) h0 (.inr (1, [.int 0, .int 0, .long 0, .int 0, .ref sz, .ref (sz + 1), .int 0, .int 0, .null]))) h0 = some (.inr (1, [.int 0, .int 0, .long 0, .int 0, .ref sz, .ref (sz + 1), .int 0, .int 0, .null])) := mp_self _ _ _
  refine lv_aload_n hx hb dd_D_init_35 rfl (lv_at hl 0 rfl) ?_
  refine lv_iload_n hx hb dd_D_init_36 rfl (lv_at hl 1 rfl) ?_
  refine mg_put (v := .int k0) hx hb ht ii_D tt_D tt_D_ok nn_D hown hK hM hS (hF _ (by rw [m0]; exact Option.some_ne_none _)) m0 rfl 0 (by decide) wd_1_127 (fun _ h => h) (Or.inr ⟨rfl, hname, rfl⟩) rfl rfl rfl (Nat.le_of_ble_eq_true rfl) dd_D_init_37 (fun H locs hM hz hoq hS => ?_)
  have hsz := hz.trans hsz
  rw [mp_mp] at hM
  have hM : hm G (mp_up (mp_up (mp_up (mp_up M sz (lA G 8 (fun _ => 0))) h0 (.inr (1, [.int 0, .int 0, .long 0, .int 0, .ref sz, .null, .int 0, .int 0, .null]))) (sz + 1) (iA G 8 (fun _ => 0))) h0 (.inr (1, [.int k0, .int 0, .long 0, .int 0, .ref sz, .ref (sz + 1), .int 0, .int 0, .null]))) H := hM
  have hF : ∀ z9, (mp_up (mp_up (mp_up (mp_up M sz (lA G 8 (fun _ => 0))) h0 (.inr (1, [.int 0, .int 0, .long 0, .int 0, .ref sz, .null, .int 0, .int 0, .null]))) (sz + 1) (iA G 8 (fun _ => 0))) h0 (.inr (1, [.int k0, .int 0, .long 0, .int 0, .ref sz, .ref (sz + 1), .int 0, .int 0, .null]))) z9 ≠ none → fr M sz z9 := hF_same hF
  have m0 : (mp_up (mp_up (mp_up (mp_up M sz (lA G 8 (fun _ => 0))) h0 (.inr (1, [.int 0, .int 0, .long 0, .int 0, .ref sz, .null, .int 0, .int 0, .null]))) (sz + 1) (iA G 8 (fun _ => 0))) h0 (.inr (1, [.int k0, .int 0, .long 0, .int 0, .ref sz, .ref (sz + 1), .int 0, .int 0, .null]))) h0 = some (.inr (1, [.int k0, .int 0, .long 0, .int 0, .ref sz, .ref (sz + 1), .int 0, .int 0, .null])) := mp_self _ _ _
  refine lv_aload_n hx hb dd_D_init_40 rfl (lv_at hl 0 rfl) ?_
  refine lv_iload_n hx hb dd_D_init_41 rfl (lv_at hl 2 rfl) ?_
  refine mg_put (v := .int (bI k1)) hx hb ht ii_D tt_D tt_D_ok nn_D hown hK hM hS (hF _ (by rw [m0]; exact Option.some_ne_none _)) m0 rfl 1 (by decide) wd_1_129 (fun _ h => h) (Or.inr ⟨rfl, hname, rfl⟩) rfl bI_z bI_f (Nat.le_of_ble_eq_true rfl) dd_D_init_42 (fun H locs hM hz hoq hS => ?_)
  have hsz := hz.trans hsz
  rw [mp_mp] at hM
  have hM : hm G (mp_up (mp_up (mp_up (mp_up M sz (lA G 8 (fun _ => 0))) h0 (.inr (1, [.int 0, .int 0, .long 0, .int 0, .ref sz, .null, .int 0, .int 0, .null]))) (sz + 1) (iA G 8 (fun _ => 0))) h0 (.inr (1, [.int k0, .int (bI k1), .long 0, .int 0, .ref sz, .ref (sz + 1), .int 0, .int 0, .null]))) H := hM
  have hF : ∀ z9, (mp_up (mp_up (mp_up (mp_up M sz (lA G 8 (fun _ => 0))) h0 (.inr (1, [.int 0, .int 0, .long 0, .int 0, .ref sz, .null, .int 0, .int 0, .null]))) (sz + 1) (iA G 8 (fun _ => 0))) h0 (.inr (1, [.int k0, .int (bI k1), .long 0, .int 0, .ref sz, .ref (sz + 1), .int 0, .int 0, .null]))) z9 ≠ none → fr M sz z9 := hF_same hF
  have m0 : (mp_up (mp_up (mp_up (mp_up M sz (lA G 8 (fun _ => 0))) h0 (.inr (1, [.int 0, .int 0, .long 0, .int 0, .ref sz, .null, .int 0, .int 0, .null]))) (sz + 1) (iA G 8 (fun _ => 0))) h0 (.inr (1, [.int k0, .int (bI k1), .long 0, .int 0, .ref sz, .ref (sz + 1), .int 0, .int 0, .null]))) h0 = some (.inr (1, [.int k0, .int (bI k1), .long 0, .int 0, .ref sz, .ref (sz + 1), .int 0, .int 0, .null])) := mp_self _ _ _
  refine lv_aload_n hx hb dd_D_init_45 rfl (lv_at hl 0 rfl) ?_
  refine lv_lload_n hx hb dd_D_init_46 rfl (lv_at hl 3 rfl) ?_
  refine mg_put (v := .long k2) hx hb ht ii_D tt_D tt_D_ok nn_D hown hK hM hS (hF _ (by rw [m0]; exact Option.some_ne_none _)) m0 rfl 2 (by decide) wd_1_132 (fun _ h => h) (Or.inr ⟨rfl, hname, rfl⟩) rfl rfl rfl (Nat.le_of_ble_eq_true rfl) dd_D_init_47 (fun H locs hM hz hoq hS => ?_)
  have hsz := hz.trans hsz
  rw [mp_mp] at hM
  have hM : hm G (mp_up (mp_up (mp_up (mp_up M sz (lA G 8 (fun _ => 0))) h0 (.inr (1, [.int 0, .int 0, .long 0, .int 0, .ref sz, .null, .int 0, .int 0, .null]))) (sz + 1) (iA G 8 (fun _ => 0))) h0 (.inr (1, [.int k0, .int (bI k1), .long k2, .int 0, .ref sz, .ref (sz + 1), .int 0, .int 0, .null]))) H := hM
  have hF : ∀ z9, (mp_up (mp_up (mp_up (mp_up M sz (lA G 8 (fun _ => 0))) h0 (.inr (1, [.int 0, .int 0, .long 0, .int 0, .ref sz, .null, .int 0, .int 0, .null]))) (sz + 1) (iA G 8 (fun _ => 0))) h0 (.inr (1, [.int k0, .int (bI k1), .long k2, .int 0, .ref sz, .ref (sz + 1), .int 0, .int 0, .null]))) z9 ≠ none → fr M sz z9 := hF_same hF
  have m0 : (mp_up (mp_up (mp_up (mp_up M sz (lA G 8 (fun _ => 0))) h0 (.inr (1, [.int 0, .int 0, .long 0, .int 0, .ref sz, .null, .int 0, .int 0, .null]))) (sz + 1) (iA G 8 (fun _ => 0))) h0 (.inr (1, [.int k0, .int (bI k1), .long k2, .int 0, .ref sz, .ref (sz + 1), .int 0, .int 0, .null]))) h0 = some (.inr (1, [.int k0, .int (bI k1), .long k2, .int 0, .ref sz, .ref (sz + 1), .int 0, .int 0, .null])) := mp_self _ _ _
  refine lv_aload_n hx hb dd_D_init_50 rfl (lv_at hl 0 rfl) ?_
  refine lv_iload hx hb dd_D_init_51 (lv_at hl 4 rfl) ?_
  refine mg_put (v := .int k3) hx hb ht ii_D tt_D tt_D_ok nn_D hown hK hM hS (hF _ (by rw [m0]; exact Option.some_ne_none _)) m0 rfl 3 (by decide) wd_1_134 (fun _ h => h) (Or.inr ⟨rfl, hname, rfl⟩) rfl rfl rfl (Nat.le_of_ble_eq_true rfl) dd_D_init_53 (fun H locs hM hz hoq hS => ?_)
  have hsz := hz.trans hsz
  rw [mp_mp] at hM
  have hM : hm G (mp_up (mp_up (mp_up (mp_up M sz (lA G 8 (fun _ => 0))) h0 (.inr (1, [.int 0, .int 0, .long 0, .int 0, .ref sz, .null, .int 0, .int 0, .null]))) (sz + 1) (iA G 8 (fun _ => 0))) h0 (.inr (1, [.int k0, .int (bI k1), .long k2, .int k3, .ref sz, .ref (sz + 1), .int 0, .int 0, .null]))) H := hM
  have hF : ∀ z9, (mp_up (mp_up (mp_up (mp_up M sz (lA G 8 (fun _ => 0))) h0 (.inr (1, [.int 0, .int 0, .long 0, .int 0, .ref sz, .null, .int 0, .int 0, .null]))) (sz + 1) (iA G 8 (fun _ => 0))) h0 (.inr (1, [.int k0, .int (bI k1), .long k2, .int k3, .ref sz, .ref (sz + 1), .int 0, .int 0, .null]))) z9 ≠ none → fr M sz z9 := hF_same hF
  have m0 : (mp_up (mp_up (mp_up (mp_up M sz (lA G 8 (fun _ => 0))) h0 (.inr (1, [.int 0, .int 0, .long 0, .int 0, .ref sz, .null, .int 0, .int 0, .null]))) (sz + 1) (iA G 8 (fun _ => 0))) h0 (.inr (1, [.int k0, .int (bI k1), .long k2, .int k3, .ref sz, .ref (sz + 1), .int 0, .int 0, .null]))) h0 = some (.inr (1, [.int k0, .int (bI k1), .long k2, .int k3, .ref sz, .ref (sz + 1), .int 0, .int 0, .null])) := mp_self _ _ _
  exact mw_v hx hb hr hlocks hM hF hS (Nat.le_of_ble_eq_true rfl) (Nat.le_of_ble_eq_true rfl) ⟨rfl, rfl⟩ dd_D_init_56

set_option maxHeartbeats 4000000 in
set_option maxRecDepth 100000 in
theorem cc_D_addParameter {l : Launch} {G : gC} {M : mC} {sz : Nat} {h0 : Nat} {r : dR} (m0 : M h0 = some (dC r)) {pn : Nat → Int64} (mn : M (d_apn r) = some (lA G 8 pn)) {pt : Nat → Int32} (mt : M (d_apt r) = some (iA G 8 pt)) {k : Nat} (hnp : d_np r = nI k) (hk : k < 8) {x : Int64} {t : Int32} : cW l yy_D_addParameter bb_D_addParameter 4 none 0 0 0 G M sz [.ref h0, .long x, .int t] (fun v u => v = none ∧ u = mp_up (mp_up (mp_up M (d_apn r) (lA G 8 (vp_updL pn k x))) (d_apt r) (iA G 8 (upd pt k t))) h0 (dC (d_s_np r (nI (k + 1))))) := by
  refine me_W (by decide) (Nat.le_of_ble_eq_true rfl) ?_
  intro p e s m below meth c ls hx hb hr hlocks hml hown hname ht hsz hM hK hZ hl
  have hown : s.vm.findClass RR_D = some m.cls := hown
  have hl : lv_has ls 4 [(0, .ref h0), (1, .long x), (3, .int t)] := hl
  have hS : va_S (fr M sz) s.heap s.heap [] := va_S.rf
  have hF : ∀ q, M q ≠ none → fr M sz q := fr_M
  have hA : ∀ q, s.heap.size ≤ q → fr M sz q := fun q h => fr_A q (by rw [← hsz]; exact h)
  have m0' := m0
  have mn' := mn
  have mt' := mt
  refine lv_aload_n hx hb dd_D_addParameter_0 rfl (lv_at hl 0 rfl) ?_
  refine mg_get (v := .int (nI k)) hx hb ht ii_D hown hK hM m0 rfl 6 (by decide) wd_1_139 (fun _ h => h) (congrArg (fun z => some (Value.int z)) hnp) dd_D_addParameter_1 ?_
  refine lv_bipush (v := 8) hx hb dd_D_addParameter_4 (by decide) ?_
  refine lv_icmp_ge (tgt := 39) hx hb dd_D_addParameter_6 (by decide) (fun z => absurd z (i8_ge hk)) (fun _ => ?_)
  refine lv_aload_n hx hb dd_D_addParameter_9 rfl (lv_at hl 0 rfl) ?_
  refine mg_get hx hb ht ii_D hown hK hM m0 rfl 4 (by decide) wd_1_137 (fun _ h => h) rfl dd_D_addParameter_10 ?_
  refine lv_aload_n hx hb dd_D_addParameter_13 rfl (lv_at hl 0 rfl) ?_
  refine mg_get (v := .int (nI k)) hx hb ht ii_D hown hK hM m0 rfl 6 (by decide) wd_1_139 (fun _ h => h) (congrArg (fun z => some (Value.int z)) hnp) dd_D_addParameter_14 ?_
  refine lv_lload_n hx hb dd_D_addParameter_17 rfl (lv_at hl 1 rfl) ?_
  refine mg_last hx hb hK hM hS (hF _ (by rw [mn]; exact Option.some_ne_none _)) mn (vp_in_nI hk (by decide)) dd_D_addParameter_18 (fun H locs hM hz hS => ?_)
  have hsz := hz.trans hsz
  rw [nI_clamp (show k < 2 ^ 31 by omega)] at hM
  have hM : hm G (mp_up M (d_apn r) (lA G 8 (vp_updL pn k x))) H := hM
  have hF : ∀ z9, (mp_up M (d_apn r) (lA G 8 (vp_updL pn k x))) z9 ≠ none → fr M sz z9 := hF_put hF (hF _ (by rw [mn]; exact Option.some_ne_none _))
  have mn : (mp_up M (d_apn r) (lA G 8 (vp_updL pn k x))) (d_apn r) = some (lA G 8 (vp_updL pn k x)) := mp_self _ _ _
  refine lv_aload_n hx hb dd_D_addParameter_19 rfl (lv_at hl 0 rfl) ?_
  have m0 := mp_at (M := M) (a := (d_apn r)) (e := (lA G 8 (vp_updL pn k x))) (fun z => by rw [z, mn'] at m0'; cases m0') m0
  refine mg_get hx hb ht ii_D hown hK hM m0 rfl 5 (by decide) wd_1_138 (fun _ h => h) rfl dd_D_addParameter_20 ?_
  refine lv_aload_n hx hb dd_D_addParameter_23 rfl (lv_at hl 0 rfl) ?_
  refine mg_get (v := .int (nI k)) hx hb ht ii_D hown hK hM m0 rfl 6 (by decide) wd_1_139 (fun _ h => h) (congrArg (fun z => some (Value.int z)) hnp) dd_D_addParameter_24 ?_
  refine lv_iload_n hx hb dd_D_addParameter_27 rfl (lv_at hl 2 rfl) ?_
  have mt := mp_at (M := M) (a := (d_apn r)) (e := (lA G 8 (vp_updL pn k x))) (fun z => by rw [z, mn'] at mt'; simp at mt') mt
  refine mg_iast hx hb hK hM hS (hF _ (by rw [mt]; exact Option.some_ne_none _)) mt (vp_in_nI hk (by decide)) dd_D_addParameter_28 (fun H locs hM hz hS => ?_)
  have hsz := hz.trans hsz
  rw [nI_clamp (show k < 2 ^ 31 by omega)] at hM
  have hM : hm G (mp_up (mp_up M (d_apn r) (lA G 8 (vp_updL pn k x))) (d_apt r) (iA G 8 (upd pt k t))) H := hM
  have hF : ∀ z9, (mp_up (mp_up M (d_apn r) (lA G 8 (vp_updL pn k x))) (d_apt r) (iA G 8 (upd pt k t))) z9 ≠ none → fr M sz z9 := hF_put hF (hF _ (by rw [mt]; exact Option.some_ne_none _))
  have mt : (mp_up (mp_up M (d_apn r) (lA G 8 (vp_updL pn k x))) (d_apt r) (iA G 8 (upd pt k t))) (d_apt r) = some (iA G 8 (upd pt k t)) := mp_self _ _ _
  refine lv_aload_n hx hb dd_D_addParameter_29 rfl (lv_at hl 0 rfl) ?_
  refine lv_dup hx hb dd_D_addParameter_30 rfl ?_
  have m0 := mp_at (M := (mp_up M (d_apn r) (lA G 8 (vp_updL pn k x)))) (a := (d_apt r)) (e := (iA G 8 (upd pt k t))) (fun z => by rw [z, mt'] at m0'; cases m0') m0
  refine mg_get (v := .int (nI k)) hx hb ht ii_D hown hK hM m0 rfl 6 (by decide) wd_1_139 (fun _ h => h) (congrArg (fun z => some (Value.int z)) hnp) dd_D_addParameter_31 ?_
  refine lv_iconst (v := 1) hx hb dd_D_addParameter_34 (by decide) ?_
  refine lv_iadd hx hb dd_D_addParameter_35 ?_
  rw [nI_1]
  refine mg_put (v := .int (nI (k + 1))) hx hb ht ii_D tt_D tt_D_ok nn_D hown hK hM hS (hF _ (by rw [m0]; exact Option.some_ne_none _)) m0 rfl 6 (by decide) wd_1_139 (fun _ h => h) (Or.inl rfl) rfl rfl rfl (Nat.le_of_ble_eq_true rfl) dd_D_addParameter_36 (fun H locs hM hz hoq hS => ?_)
  have hsz := hz.trans hsz
  have hM : hm G (mp_up (mp_up (mp_up M (d_apn r) (lA G 8 (vp_updL pn k x))) (d_apt r) (iA G 8 (upd pt k t))) h0 (dC (d_s_np r (nI (k + 1))))) H := hM
  have hF : ∀ z9, (mp_up (mp_up (mp_up M (d_apn r) (lA G 8 (vp_updL pn k x))) (d_apt r) (iA G 8 (upd pt k t))) h0 (dC (d_s_np r (nI (k + 1))))) z9 ≠ none → fr M sz z9 := hF_put hF (hF _ (by rw [m0]; exact Option.some_ne_none _))
  have m0 : (mp_up (mp_up (mp_up M (d_apn r) (lA G 8 (vp_updL pn k x))) (d_apt r) (iA G 8 (upd pt k t))) h0 (dC (d_s_np r (nI (k + 1))))) h0 = some (dC (d_s_np r (nI (k + 1)))) := mp_self _ _ _
  exact mw_v hx hb hr hlocks hM hF hS (Nat.zero_le _) (Nat.zero_le _) ⟨rfl, rfl⟩ dd_D_addParameter_39
