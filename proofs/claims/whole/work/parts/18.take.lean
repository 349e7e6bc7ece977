theorem mp_comm {M : mC} {a b : Nat} {e f : va_E} (h : a ≠ b) : mp_up (mp_up M a e) b f = mp_up (mp_up M b f) a e := by
  funext q
  by_cases h1 : q = a
  · subst h1
    rw [mp_ne h, mp_self, mp_self]
  · by_cases h2 : q = b
    · subst h2
      rw [mp_self, mp_ne h1, mp_self]
    · rw [mp_ne h2, mp_ne h1, mp_ne h1, mp_ne h2]
theorem chn_up {M : mC} {a : Nat} {e : va_E} (ha : ∀ r : nR, M a ≠ some (nC r)) : ∀ (L : List nR) (o : Option Nat), chn M o L → chn (mp_up M a e) o L
  | [], none, _ => trivial
  | [], some _, h => h.elim
  | _ :: _, none, h => h.elim
  | r :: L, some b, h => ⟨mp_at (fun z => ha r (z ▸ h.1)) h.1, chn_up ha L _ h.2⟩
theorem d_rest_nil (o : Option Nat) : d_rest o [] = none := by cases o <;> rfl
def n_bv (o : Option nR) (i : Int32) : Int32 := match o with
  | some q => n_num q
  | none => if i = -1 then -1 else -2 - i
def n_bt (o : Option nR) (x : Int64) (d : dR) (pt : Nat → Int32) (i : Int32) : Int32 := match o with
  | some q => if n_se q = x then 3 else n_tx q
  | none => d_ptype d pt i
def n_bok (o : Option nR) (i : Int32) : Bool := match o with
  | some _ => true
  | none => !decide (i = -1)
set_option maxHeartbeats 4000000 in
set_option maxRecDepth 100000 in
theorem cc_D_take {l : Launch} {G : gC} {M : mC} {sz : Nat} {h0 an : Nat} {r : dR} (m0 : M h0 = some (dC r)) {q : nR} (mp : ∀ y, d_op r = some y → M y = some (nC q)) {N : mC} (hNn : d_op r = none → N = M) (hNs : ∀ y, d_op r = some y → N = mp_up M y (nC (n_s_fl q (n_fl q + 1)))) {L : List nR} (hch : chn N (some an) L) : cW l yy_D_take bb_D_take 2 none 0 0 0 G M sz [.ref h0, .ref an] (fun v u => v = none ∧ u = mp_up N h0 (dC (d_s_op (d_s_beg r true) (d_rest (some an) L)))) := by
  refine me_W (by decide) (Nat.le_of_ble_eq_true rfl) ?_
  intro p e s m below meth c ls hx hb hr hlocks hml hown hname ht hsz hM hK hZ hl
  have hown : s.vm.findClass RR_D = some m.cls := hown
  have hl : lv_has ls 2 [(0, .ref h0), (1, .ref an)] := hl
  have hS : va_S (fr M sz) s.heap s.heap [] := va_S.rf
  have hF : ∀ q, M q ≠ none → fr M sz q := fr_M
  have hA : ∀ q, s.heap.size ≤ q → fr M sz q := fun q h => fr_A q (by rw [← hsz]; exact h)
  have m0' := m0
  have hN0 : ∀ z : nR, N h0 ≠ some (nC z) := by
    intro z hz
    cases ho : d_op r with
    | none => rw [hNn ho, m0] at hz; cases hz
    | some y =>
      have my := mp y ho
      have hny : h0 ≠ y := fun e => by rw [e, my] at m0; cases m0
      rw [hNs y ho, mp_ne hny, m0] at hz
      cases hz
  have loop : ∀ (L1 : List nR) (o : Option Nat) (ls : Array Slot) (H : Heap) (locs : List Loc), chn N o L1 → lv_has ls 2 [(0, .ref h0), (1, .ref an)] → hm G (mp_up N h0 (dC (d_s_op (d_s_beg r true) o))) H → (∀ q, mp_up N h0 (dC (d_s_op (d_s_beg r true) o)) q ≠ none → fr M sz q) → va_S (fr M sz) s.heap H locs → d_rest o L1 = d_rest (some an) L → W p l e (rd 0 0 0) s m ([.ref h0, .ref an] : List Value).toArray below meth c H locs 0 0 (MQ below (cQ G M sz (fun v u => v = none ∧ u = mp_up N h0 (dC (d_s_op (d_s_beg r true) (d_rest (some an) L))))) ([.ref h0, .ref an] : List Value).toArray s 0 0 (fr M sz)) (F0 m 30 ls []) := by
    intro L1
    induction L1 with
    | nil =>
      intro o ls H locs hch hl hM hF hS hres
      cases o with
      | some a => exact hch.elim
      | none =>
        have m0 : (mp_up N h0 (dC (d_s_op (d_s_beg r true) none))) h0 = some (dC (d_s_op (d_s_beg r true) none)) := mp_self _ _ _
        refine lv_aload_n hx hb dd_D_take_30 rfl (lv_at hl 0 rfl) ?_
        refine mg_get (v := .null) hx hb ht ii_D hown hK hM m0 rfl 8 (by decide) wd_1_144 (fun _ h => h) (congrArg (fun z => some (va_rf z)) (rfl : d_op (d_s_op (d_s_beg r true) none) = none)) dd_D_take_31 ?_
        refine lv_ifnullN (tgt := 68) hx hb dd_D_take_34 (by decide) ?_
        exact mw_v hx hb hr hlocks hM hF hS (Nat.zero_le _) (Nat.zero_le _) ⟨rfl, by rw [← hres]; rfl⟩ dd_D_take_68
    | cons q L2 ih =>
      intro o ls H locs hch hl hM hF hS hres
      cases o with
      | none => exact hch.elim
      | some a =>
        have m0 : (mp_up N h0 (dC (d_s_op (d_s_beg r true) (some a)))) h0 = some (dC (d_s_op (d_s_beg r true) (some a))) := mp_self _ _ _
        have hnn : a ≠ h0 := fun z => hN0 q (z ▸ hch.1)
        have ma := mp_at (a := h0) (e := dC (d_s_op (d_s_beg r true) (some a))) hnn hch.1
        refine lv_aload_n hx hb dd_D_take_30 rfl (lv_at hl 0 rfl) ?_
        refine mg_get (v := .ref a) hx hb ht ii_D hown hK hM m0 rfl 8 (by decide) wd_1_144 (fun _ h => h) (congrArg (fun z => some (va_rf z)) (rfl : d_op (d_s_op (d_s_beg r true) (some a)) = some a)) dd_D_take_31 ?_
        refine lv_ifnull hx hb dd_D_take_34 ?_
        refine lv_aload_n hx hb dd_D_take_37 rfl (lv_at hl 0 rfl) ?_
        refine mg_get (v := .ref a) hx hb ht ii_D hown hK hM m0 rfl 8 (by decide) wd_1_144 (fun _ h => h) (congrArg (fun z => some (va_rf z)) (rfl : d_op (d_s_op (d_s_beg r true) (some a)) = some a)) dd_D_take_38 ?_
        refine mg_get hx hb ht ii_N hown hK hM ma rfl 8 (by decide) wd_2_51 (fun _ h => h) rfl dd_D_take_41 ?_
        refine lv_aload_n hx hb dd_D_take_44 rfl (lv_at hl 0 rfl) ?_
        refine mg_get (v := .ref a) hx hb ht ii_D hown hK hM m0 rfl 8 (by decide) wd_1_144 (fun _ h => h) (congrArg (fun z => some (va_rf z)) (rfl : d_op (d_s_op (d_s_beg r true) (some a)) = some a)) dd_D_take_45 ?_
        refine mg_get hx hb ht ii_N hown hK hM ma rfl 7 (by decide) wd_2_48 (fun _ h => h) rfl dd_D_take_48 ?_
        refine lv_icmp_lt (tgt := 68) hx hb dd_D_take_51 (by decide) (fun c1 => ?_) (fun c1 => ?_)
        · exact mw_v hx hb hr hlocks hM hF hS (Nat.zero_le _) (Nat.zero_le _) ⟨rfl, by rw [← hres]; simp [d_rest, c1]⟩ dd_D_take_68
        · refine lv_aload_n hx hb dd_D_take_54 rfl (lv_at hl 0 rfl) ?_
          refine lv_aload_n hx hb dd_D_take_55 rfl (lv_at hl 0 rfl) ?_
          refine mg_get (v := .ref a) hx hb ht ii_D hown hK hM m0 rfl 8 (by decide) wd_1_144 (fun _ h => h) (congrArg (fun z => some (va_rf z)) (rfl : d_op (d_s_op (d_s_beg r true) (some a)) = some a)) dd_D_take_56 ?_
          refine mg_get hx hb ht ii_N hown hK hM ma rfl 2 (by decide) wd_2_37 (fun _ h => h) rfl dd_D_take_59 ?_
          refine mg_put (v := va_rf (n_pa q)) hx hb ht ii_D tt_D tt_D_ok nn_D hown hK hM hS (hF _ (by rw [m0]; exact Option.some_ne_none _)) m0 rfl 8 (by decide) wd_1_144 (fun _ h => h) (Or.inl rfl) rfl rf_nar rf_fit (Nat.le_of_ble_eq_true rfl) dd_D_take_62 (fun H locs hM hz hoq hS => ?_)
          rw [mp_mp] at hM
          have hM : hm G (mp_up N h0 (dC (d_s_op (d_s_op (d_s_beg r true) (some a)) (n_pa q)))) H := hM
          have hF : ∀ z9, (mp_up N h0 (dC (d_s_op (d_s_op (d_s_beg r true) (some a)) (n_pa q)))) z9 ≠ none → fr M sz z9 := hF_same hF
          have m0 : (mp_up N h0 (dC (d_s_op (d_s_op (d_s_beg r true) (some a)) (n_pa q)))) h0 = some (dC (d_s_op (d_s_op (d_s_beg r true) (some a)) (n_pa q))) := mp_self _ _ _
          refine lv_goto (tgt := 30) hx hb dd_D_take_65 (by decide) ?_
          exact ih (n_pa q) ls H locs hch.2 hl hM hF hS (by rw [← hres]; simp [d_rest, c1])
  refine lv_aload_n hx hb dd_D_take_0 rfl (lv_at hl 0 rfl) ?_
  refine lv_iconst (v := 1) hx hb dd_D_take_1 (by decide) ?_
  refine mg_put (v := .int 1) hx hb ht ii_D tt_D tt_D_ok nn_D hown hK hM hS (hF _ (by rw [m0]; exact Option.some_ne_none _)) m0 rfl 7 (by decide) wd_1_142 (fun _ h => h) (Or.inl rfl) rfl rfl rfl (Nat.le_of_ble_eq_true rfl) dd_D_take_2 (fun H locs hM hz hoq hS => ?_)
  have hsz := hz.trans hsz
  have hM : hm G (mp_up M h0 (dC (d_s_beg r true))) H := hM
  have hF : ∀ z9, (mp_up M h0 (dC (d_s_beg r true))) z9 ≠ none → fr M sz z9 := hF_put hF (hF _ (by rw [m0]; exact Option.some_ne_none _))
  have m0 : (mp_up M h0 (dC (d_s_beg r true))) h0 = some (dC (d_s_beg r true)) := mp_self _ _ _
  refine lv_aload_n hx hb dd_D_take_5 rfl (lv_at hl 0 rfl) ?_
  refine mg_get hx hb ht ii_D hown hK hM m0 rfl 8 (by decide) wd_1_144 (fun _ h => h) rfl dd_D_take_6 ?_
  refine lr_ifnull (tgt := 25) hx hb dd_D_take_9 (by decide) (fun ey1 => ?_) (fun y1 ey1 => ?_)
  · refine lv_aload_n hx hb dd_D_take_25 rfl (lv_at hl 0 rfl) ?_
    refine lv_aload_n hx hb dd_D_take_26 rfl (lv_at hl 1 rfl) ?_
    refine mg_put (v := .ref an) hx hb ht ii_D tt_D tt_D_ok nn_D hown hK hM hS (hF _ (by rw [m0]; exact Option.some_ne_none _)) m0 rfl 8 (by decide) wd_1_144 (fun _ h => h) (Or.inl rfl) rfl rfl rfl (Nat.le_of_ble_eq_true rfl) dd_D_take_27 (fun H locs hM hz hoq hS => ?_)
    have hsz := hz.trans hsz
    rw [mp_mp] at hM
    have hM : hm G (mp_up M h0 (dC (d_s_op (d_s_beg r true) (some an)))) H := hM
    have hF : ∀ z9, (mp_up M h0 (dC (d_s_op (d_s_beg r true) (some an)))) z9 ≠ none → fr M sz z9 := hF_same hF
    have m0 : (mp_up M h0 (dC (d_s_op (d_s_beg r true) (some an)))) h0 = some (dC (d_s_op (d_s_beg r true) (some an))) := mp_self _ _ _
    exact loop L (some an) ls H locs hch hl (by rw [hNn ey1]; exact hM) (by rw [hNn ey1]; exact hF) hS rfl
  · have my1 := mp y1 ey1
    have hny : y1 ≠ h0 := fun z => by rw [z, m0'] at my1; cases my1
    refine lv_aload_n hx hb dd_D_take_12 rfl (lv_at hl 0 rfl) ?_
    refine mg_get (v := .ref y1) hx hb ht ii_D hown hK hM m0 rfl 8 (by decide) wd_1_144 (fun _ h => h) (congrArg (fun z => some (va_rf z)) ey1) dd_D_take_13 ?_
    refine lv_dup hx hb dd_D_take_16 rfl ?_
    have my1 := mp_at (M := M) (a := h0) (e := (dC (d_s_beg r true))) hny my1
    refine mg_get hx hb ht ii_N hown hK hM my1 rfl 8 (by decide) wd_2_51 (fun _ h => h) rfl dd_D_take_17 ?_
    refine lv_iconst (v := 1) hx hb dd_D_take_20 (by decide) ?_
    refine lv_iadd hx hb dd_D_take_21 ?_
    refine mg_put (v := .int ((n_fl q) + 1)) hx hb ht ii_N tt_N tt_N_ok nn_N hown hK hM hS (hF _ (by rw [my1]; exact Option.some_ne_none _)) my1 rfl 8 (by decide) wd_2_51 (fun _ h => h) (Or.inl rfl) rfl rfl rfl (Nat.le_of_ble_eq_true rfl) dd_D_take_22 (fun H locs hM hz hoq hS => ?_)
    have hsz := hz.trans hsz
    have hM : hm G (mp_up (mp_up M h0 (dC (d_s_beg r true))) y1 (nC (n_s_fl q ((n_fl q) + 1)))) H := hM
    have hF : ∀ z9, (mp_up (mp_up M h0 (dC (d_s_beg r true))) y1 (nC (n_s_fl q ((n_fl q) + 1)))) z9 ≠ none → fr M sz z9 := hF_put hF (hF _ (by rw [my1]; exact Option.some_ne_none _))
    have my1 : (mp_up (mp_up M h0 (dC (d_s_beg r true))) y1 (nC (n_s_fl q ((n_fl q) + 1)))) y1 = some (nC (n_s_fl q ((n_fl q) + 1))) := mp_self _ _ _
    refine lv_aload_n hx hb dd_D_take_25 rfl (lv_at hl 0 rfl) ?_
    refine lv_aload_n hx hb dd_D_take_26 rfl (lv_at hl 1 rfl) ?_
    have m0 := mp_at (M := (mp_up M h0 (dC (d_s_beg r true)))) (a := y1) (e := (nC (n_s_fl q ((n_fl q) + 1)))) (Ne.symm hny) m0
    refine mg_put (v := .ref an) hx hb ht ii_D tt_D tt_D_ok nn_D hown hK hM hS (hF _ (by rw [m0]; exact Option.some_ne_none _)) m0 rfl 8 (by decide) wd_1_144 (fun _ h => h) (Or.inl rfl) rfl rfl rfl (Nat.le_of_ble_eq_true rfl) dd_D_take_27 (fun H locs hM hz hoq hS => ?_)
    have hsz := hz.trans hsz
    have hM : hm G (mp_up (mp_up (mp_up M h0 (dC (d_s_beg r true))) y1 (nC (n_s_fl q ((n_fl q) + 1)))) h0 (dC (d_s_op (d_s_beg r true) (some an)))) H := hM
    have hF : ∀ z9, (mp_up (mp_up (mp_up M h0 (dC (d_s_beg r true))) y1 (nC (n_s_fl q ((n_fl q) + 1)))) h0 (dC (d_s_op (d_s_beg r true) (some an)))) z9 ≠ none → fr M sz z9 := hF_put hF (hF _ (by rw [m0]; exact Option.some_ne_none _))
    have m0 : (mp_up (mp_up (mp_up M h0 (dC (d_s_beg r true))) y1 (nC (n_s_fl q ((n_fl q) + 1)))) h0 (dC (d_s_op (d_s_beg r true) (some an)))) h0 = some (dC (d_s_op (d_s_beg r true) (some an))) := mp_self _ _ _
    rw [mp_comm (Ne.symm hny), mp_mp] at hM
    exact loop L (some an) ls H locs hch hl (by rw [hNs _ ey1]; exact hM) (by rw [hNs _ ey1]; rw [mp_comm (Ne.symm hny), mp_mp] at hF; exact hF) hS rfl
