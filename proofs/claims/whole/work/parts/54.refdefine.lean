set_option maxHeartbeats 4000000 in
set_option maxRecDepth 100000 in
theorem cc_M_define {l : Launch} {G : gC} {M : mC} {sz : Nat} {y b nd nn : Nat} {I : Nat → Nat → Int32} {J : Nat → Nat → Int64} {Z : Nat → Int32} {kn : Bool} {ft fn mo th : Int32} (hR : rm G M y b nd nn I J Z kn ft fn mo th) {D : Nat → dR} {N : Nat → nR} {pn : Nat → Nat → Int64} {pt : Nat → Nat → Int32} {np bg ho : Nat → Nat} {pa : Nat → Option Nat} (hD : tD nd D pn pt np bg I J Z) (hN : tN nd nn N ho pa I J) {chg : Bool} {nm : Int64} {ty : Int32} {d9 : dR} {f9 : Nat → Int64} {g9 : Nat → Int32} (e1 : d_chg d9 = chg) (e2 : d_nm d9 = nm) (e3 : d_vt d9 = ty) (e4 : d_np d9 = 0) : cW l yy_M_define bb_M_define 7 (some .int) 3 8 4000 G M sz [.ref y, .int (bI chg), .long nm, .int ty] (fun v u => ((m_defOk chg nm ty nd D (m_whole nd nn bg N pa)) = false ∧ v = some (.int (-1)) ∧ rm G u y b nd nn I J Z kn ft fn mo 0) ∨ ((m_defOk chg nm ty nd D (m_whole nd nn bg N pa)) = true ∧ v = some (.int (nI nd)) ∧ ∃ I' J' Z', rm G u y b (nd + 1) nn I' J' Z' false ft fn mo 0 ∧ tD (nd + 1) (va_up D nd d9) (va_up pn nd f9) (va_up pt nd g9) (va_up np nd 0) (va_up bg nd nn) I' J' Z' ∧ tN (nd + 1) nn N ho pa I' J')) := by
  refine me_W (by decide) (Nat.le_of_ble_eq_true rfl) ?_
  intro p e s m below meth c ls hx hb hr hlocks hml hown hname ht hsz hM hK hZ hl
  have hown : s.vm.findClass RR_M = some m.cls := hown
  have hl : lv_has ls 7 [(0, .ref y), (1, .int (bI chg)), (2, .long nm), (4, .int ty)] := hl
  have hS : va_S (fr M sz) s.heap s.heap [] := va_S.rf
  have hF : ∀ q, M q ≠ none → fr M sz q := fr_M
  have hA : ∀ q, s.heap.size ≤ q → fr M sz q := fun q h => fr_A q (by rw [← hsz]; exact h)
  have loop : ∀ (f i : Nat) (g : Bool) (u1 : mC) (H : Heap) (locs : List Loc) (ls : Array Slot), i + f = nd → rm G u1 y b nd nn I J Z kn ft fn mo 0 → hm G u1 H → (∀ q, u1 q ≠ none → fr M sz q) → va_S (fr M sz) s.heap H locs → lv_has ls 7 [(6, .int (nI i)), (5, .int (bI g)), (0, .ref y), (1, .int (bI chg)), (2, .long nm), (4, .int ty)] → m_new D nm f i g = (m_defOk chg nm ty nd D (m_whole nd nn bg N pa)) → W p l e (rd 3 8 4000) s m ([.ref y, .int (bI chg), .long nm, .int ty] : List Value).toArray below meth c H locs 0 0 (MQ below (cQ G M sz (fun v u => ((m_defOk chg nm ty nd D (m_whole nd nn bg N pa)) = false ∧ v = some (.int (-1)) ∧ rm G u y b nd nn I J Z kn ft fn mo 0) ∨ ((m_defOk chg nm ty nd D (m_whole nd nn bg N pa)) = true ∧ v = some (.int (nI nd)) ∧ ∃ I' J' Z', rm G u y b (nd + 1) nn I' J' Z' false ft fn mo 0 ∧ tD (nd + 1) (va_up D nd d9) (va_up pn nd f9) (va_up pt nd g9) (va_up np nd 0) (va_up bg nd nn) I' J' Z' ∧ tN (nd + 1) nn N ho pa I' J'))) ([.ref y, .int (bI chg), .long nm, .int ty] : List Value).toArray s 8 4000 (fr M sz)) (F0 m 56 ls []) := by
    intro f
    induction f with
    | zero =>
      intro i g u1 H locs ls hif hR hM hF hS hl hres
      obtain ⟨hyb, my, hA9, hnd, hnn⟩ := id hR
      obtain ⟨a0, a1, a2, a3, a4, a5, a6, a7, a8, a9, a10, a11, a12, a13, a14, a15, a16, a17⟩ := id hA9
      refine lv_iload hx hb dd_M_define_56 (lv_at hl 0 rfl) ?_
      refine lv_aload_n hx hb dd_M_define_58 rfl (lv_at hl 2 rfl) ?_
      refine mg_get hx hb ht ii_M hown hK hM my rfl 1 (by decide) wd_2_214 (fun _ h => h) rfl dd_M_define_59 ?_
      refine lv_icmp_ge (tgt := 95) hx hb dd_M_define_62 (by decide) (fun _ => ?_) (fun z => absurd (nI_le (a := nd) (b := i) (by omega) (by omega)) z)
      refine lv_iload hx hb dd_M_define_95 (lv_at hl 1 rfl) ?_
      refine lb_if_ne (tgt := 102) hx hb dd_M_define_97 (by decide) (fun c1 => ?_) (fun c1 => ?_)
      · have hg : g = true := c1
        have hres9 : g = (m_defOk chg nm ty nd D (m_whole nd nn bg N pa)) := hres
        have hlt : nd < 64 := defOk_lt (by rw [← hres9]; exact hg) hnd
        refine lv_aload_n hx hb dd_M_define_102 rfl (lv_at hl 2 rfl) ?_
        refine mg_get hx hb ht ii_M hown hK hM my rfl 2 (by decide) wd_2_215 (fun _ h => h) rfl dd_M_define_103 ?_
        refine lv_aload_n hx hb dd_M_define_106 rfl (lv_at hl 2 rfl) ?_
        refine mg_get hx hb ht ii_M hown hK hM my rfl 1 (by decide) wd_2_214 (fun _ h => h) rfl dd_M_define_107 ?_
        refine lv_iload_n hx hb dd_M_define_110 rfl (lv_at hl 3 rfl) ?_
        refine mg_zast hx hb hK hM hS (hF _ (by rw [a0]; exact Option.some_ne_none _)) a0 (vp_in_nI (show nd < 64 by omega) (by decide)) dd_M_define_111 (fun H locs hM hz hS => ?_)
        rw [nI_clamp (show nd < 2 ^ 31 by omega)] at hM
        have hM : hm G (mp_up u1 b (zA G 64 (upd Z nd (bI chg)))) H := hM
        have hF : ∀ z9, (mp_up u1 b (zA G 64 (upd Z nd (bI chg)))) z9 ≠ none → fr M sz z9 := hF_put hF (hF _ (by rw [a0]; exact Option.some_ne_none _))
        obtain ⟨Z2, eZ2⟩ : ∃ z, z = (upd Z nd (bI chg)) := ⟨_, rfl⟩
        have hR : rm G (mp_up u1 b (zA G 64 (upd Z nd (bI chg)))) y b nd nn I J Z2 kn ft fn mo 0 := ⟨hR.1, mp_at (by omega) hR.2.1, by rw [eZ2]; exact rmA_s0 hR.2.2.1 (upd Z nd (bI chg)), hR.2.2.2⟩
        obtain ⟨u3, eu3⟩ : ∃ z, z = (mp_up u1 b (zA G 64 (upd Z nd (bI chg)))) := ⟨_, rfl⟩
        rw [← eu3] at hM hF hR
        clear eu3
        obtain ⟨hyb, my, hA9, hnd, hnn⟩ := id hR
        obtain ⟨a0, a1, a2, a3, a4, a5, a6, a7, a8, a9, a10, a11, a12, a13, a14, a15, a16, a17⟩ := id hA9
        refine lv_aload_n hx hb dd_M_define_112 rfl (lv_at hl 2 rfl) ?_
        refine mg_get hx hb ht ii_M hown hK hM my rfl 3 (by decide) wd_2_216 (fun _ h => h) rfl dd_M_define_113 ?_
        refine lv_aload_n hx hb dd_M_define_116 rfl (lv_at hl 2 rfl) ?_
        refine mg_get hx hb ht ii_M hown hK hM my rfl 1 (by decide) wd_2_214 (fun _ h => h) rfl dd_M_define_117 ?_
        refine lv_lload_n hx hb dd_M_define_120 rfl (lv_at hl 4 rfl) ?_
        refine mg_last hx hb hK hM hS (hF _ (by rw [a1]; exact Option.some_ne_none _)) a1 (vp_in_nI (show nd < 64 by omega) (by decide)) dd_M_define_121 (fun H locs hM hz hS => ?_)
        rw [nI_clamp (show nd < 2 ^ 31 by omega)] at hM
        have hM : hm G (mp_up u3 (b + 1) (lA G 64 (vp_updL (J 1) nd nm))) H := hM
        have hF : ∀ z9, (mp_up u3 (b + 1) (lA G 64 (vp_updL (J 1) nd nm))) z9 ≠ none → fr M sz z9 := hF_put hF (hF _ (by rw [a1]; exact Option.some_ne_none _))
        obtain ⟨J4, eJ4⟩ : ∃ z, z = va_up J 1 (vp_updL (J 1) nd nm) := ⟨_, rfl⟩
        have hR : rm G (mp_up u3 (b + 1) (lA G 64 (vp_updL (J 1) nd nm))) y b nd nn I J4 Z2 kn ft fn mo 0 := ⟨hR.1, mp_at (by omega) hR.2.1, by rw [eJ4]; exact rmA_s1 hR.2.2.1 (vp_updL (J 1) nd nm), hR.2.2.2⟩
        obtain ⟨u5, eu5⟩ : ∃ z, z = (mp_up u3 (b + 1) (lA G 64 (vp_updL (J 1) nd nm))) := ⟨_, rfl⟩
        rw [← eu5] at hM hF hR
        clear eu5
        obtain ⟨hyb, my, hA9, hnd, hnn⟩ := id hR
        obtain ⟨a0, a1, a2, a3, a4, a5, a6, a7, a8, a9, a10, a11, a12, a13, a14, a15, a16, a17⟩ := id hA9
        refine lv_aload_n hx hb dd_M_define_122 rfl (lv_at hl 2 rfl) ?_
        refine mg_get hx hb ht ii_M hown hK hM my rfl 4 (by decide) wd_2_217 (fun _ h => h) rfl dd_M_define_123 ?_
        refine lv_aload_n hx hb dd_M_define_126 rfl (lv_at hl 2 rfl) ?_
        refine mg_get hx hb ht ii_M hown hK hM my rfl 1 (by decide) wd_2_214 (fun _ h => h) rfl dd_M_define_127 ?_
        refine lv_iload hx hb dd_M_define_130 (lv_at hl 5 rfl) ?_
        refine mg_iast hx hb hK hM hS (hF _ (by rw [a2]; exact Option.some_ne_none _)) a2 (vp_in_nI (show nd < 64 by omega) (by decide)) dd_M_define_132 (fun H locs hM hz hS => ?_)
        rw [nI_clamp (show nd < 2 ^ 31 by omega)] at hM
        have hM : hm G (mp_up u5 (b + 2) (iA G 64 (upd (I 2) nd ty))) H := hM
        have hF : ∀ z9, (mp_up u5 (b + 2) (iA G 64 (upd (I 2) nd ty))) z9 ≠ none → fr M sz z9 := hF_put hF (hF _ (by rw [a2]; exact Option.some_ne_none _))
        obtain ⟨I6, eI6⟩ : ∃ z, z = va_up I 2 (upd (I 2) nd ty) := ⟨_, rfl⟩
        have hR : rm G (mp_up u5 (b + 2) (iA G 64 (upd (I 2) nd ty))) y b nd nn I6 J4 Z2 kn ft fn mo 0 := ⟨hR.1, mp_at (by omega) hR.2.1, by rw [eI6]; exact rmA_s2 hR.2.2.1 (upd (I 2) nd ty), hR.2.2.2⟩
        obtain ⟨u7, eu7⟩ : ∃ z, z = (mp_up u5 (b + 2) (iA G 64 (upd (I 2) nd ty))) := ⟨_, rfl⟩
        rw [← eu7] at hM hF hR
        clear eu7
        obtain ⟨hyb, my, hA9, hnd, hnn⟩ := id hR
        obtain ⟨a0, a1, a2, a3, a4, a5, a6, a7, a8, a9, a10, a11, a12, a13, a14, a15, a16, a17⟩ := id hA9
        refine lv_aload_n hx hb dd_M_define_133 rfl (lv_at hl 2 rfl) ?_
        refine mg_get hx hb ht ii_M hown hK hM my rfl 5 (by decide) wd_2_218 (fun _ h => h) rfl dd_M_define_134 ?_
        refine lv_aload_n hx hb dd_M_define_137 rfl (lv_at hl 2 rfl) ?_
        refine mg_get hx hb ht ii_M hown hK hM my rfl 1 (by decide) wd_2_214 (fun _ h => h) rfl dd_M_define_138 ?_
        refine lv_iconst (v := 0) hx hb dd_M_define_141 (by decide) ?_
        refine mg_iast hx hb hK hM hS (hF _ (by rw [a3]; exact Option.some_ne_none _)) a3 (vp_in_nI (show nd < 64 by omega) (by decide)) dd_M_define_142 (fun H locs hM hz hS => ?_)
        rw [nI_clamp (show nd < 2 ^ 31 by omega)] at hM
        have hM : hm G (mp_up u7 (b + 3) (iA G 64 (upd (I6 3) nd 0))) H := hM
        have hF : ∀ z9, (mp_up u7 (b + 3) (iA G 64 (upd (I6 3) nd 0))) z9 ≠ none → fr M sz z9 := hF_put hF (hF _ (by rw [a3]; exact Option.some_ne_none _))
        obtain ⟨I8, eI8⟩ : ∃ z, z = va_up I6 3 (upd (I6 3) nd 0) := ⟨_, rfl⟩
        have hR : rm G (mp_up u7 (b + 3) (iA G 64 (upd (I6 3) nd 0))) y b nd nn I8 J4 Z2 kn ft fn mo 0 := ⟨hR.1, mp_at (by omega) hR.2.1, by rw [eI8]; exact rmA_s3 hR.2.2.1 (upd (I6 3) nd 0), hR.2.2.2⟩
        obtain ⟨u9, eu9⟩ : ∃ z, z = (mp_up u7 (b + 3) (iA G 64 (upd (I6 3) nd 0))) := ⟨_, rfl⟩
        rw [← eu9] at hM hF hR
        clear eu9
        obtain ⟨hyb, my, hA9, hnd, hnn⟩ := id hR
        obtain ⟨a0, a1, a2, a3, a4, a5, a6, a7, a8, a9, a10, a11, a12, a13, a14, a15, a16, a17⟩ := id hA9
        refine lv_aload_n hx hb dd_M_define_143 rfl (lv_at hl 2 rfl) ?_
        refine mg_get hx hb ht ii_M hown hK hM my rfl 8 (by decide) wd_2_221 (fun _ h => h) rfl dd_M_define_144 ?_
        refine lv_aload_n hx hb dd_M_define_147 rfl (lv_at hl 2 rfl) ?_
        refine mg_get hx hb ht ii_M hown hK hM my rfl 1 (by decide) wd_2_214 (fun _ h => h) rfl dd_M_define_148 ?_
        refine lv_aload_n hx hb dd_M_define_151 rfl (lv_at hl 2 rfl) ?_
        refine mg_get hx hb ht ii_M hown hK hM my rfl 9 (by decide) wd_2_222 (fun _ h => h) rfl dd_M_define_152 ?_
        refine mg_iast hx hb hK hM hS (hF _ (by rw [a6]; exact Option.some_ne_none _)) a6 (vp_in_nI (show nd < 65 by omega) (by decide)) dd_M_define_155 (fun H locs hM hz hS => ?_)
        rw [nI_clamp (show nd < 2 ^ 31 by omega)] at hM
        have hM : hm G (mp_up u9 (b + 6) (iA G 65 (upd (I8 6) nd (nI nn)))) H := hM
        have hF : ∀ z9, (mp_up u9 (b + 6) (iA G 65 (upd (I8 6) nd (nI nn)))) z9 ≠ none → fr M sz z9 := hF_put hF (hF _ (by rw [a6]; exact Option.some_ne_none _))
        obtain ⟨I10, eI10⟩ : ∃ z, z = va_up I8 6 (upd (I8 6) nd (nI nn)) := ⟨_, rfl⟩
        have hR : rm G (mp_up u9 (b + 6) (iA G 65 (upd (I8 6) nd (nI nn)))) y b nd nn I10 J4 Z2 kn ft fn mo 0 := ⟨hR.1, mp_at (by omega) hR.2.1, by rw [eI10]; exact rmA_s6 hR.2.2.1 (upd (I8 6) nd (nI nn)), hR.2.2.2⟩
        obtain ⟨u11, eu11⟩ : ∃ z, z = (mp_up u9 (b + 6) (iA G 65 (upd (I8 6) nd (nI nn)))) := ⟨_, rfl⟩
        rw [← eu11] at hM hF hR
        clear eu11
        obtain ⟨hyb, my, hA9, hnd, hnn⟩ := id hR
        obtain ⟨a0, a1, a2, a3, a4, a5, a6, a7, a8, a9, a10, a11, a12, a13, a14, a15, a16, a17⟩ := id hA9
        refine lv_aload_n hx hb dd_M_define_156 rfl (lv_at hl 2 rfl) ?_
        refine lv_dup hx hb dd_M_define_157 rfl ?_
        refine mg_get hx hb ht ii_M hown hK hM my rfl 1 (by decide) wd_2_214 (fun _ h => h) rfl dd_M_define_158 ?_
        refine lv_iconst (v := 1) hx hb dd_M_define_161 (by decide) ?_
        refine lv_iadd hx hb dd_M_define_162 ?_
        rw [nI_1]
        refine mg_put (v := .int (nI (nd + 1))) hx hb ht ii_M tt_M tt_M_ok nn_M hown hK hM hS (hF _ (by rw [my]; exact Option.some_ne_none _)) my rfl 1 (by decide) wd_2_214 (fun _ h => h) (Or.inl rfl) rfl rfl rfl (Nat.le_of_ble_eq_true rfl) dd_M_define_163 (fun H locs hM hz hoq hS => ?_)
        have hM : hm G (mp_up u11 y (yC b (nd + 1) nn kn ft fn mo 0)) H := hM
        have hF : ∀ z9, (mp_up u11 y (yC b (nd + 1) nn kn ft fn mo 0)) z9 ≠ none → fr M sz z9 := hF_put hF (hF _ (by rw [my]; exact Option.some_ne_none _))
        have hR : rm G (mp_up u11 y (yC b (nd + 1) nn kn ft fn mo 0)) y b (nd + 1) nn I10 J4 Z2 kn ft fn mo 0 := rm_setX hR (by omega) (by omega)
        obtain ⟨u12, eu12⟩ : ∃ z, z = (mp_up u11 y (yC b (nd + 1) nn kn ft fn mo 0)) := ⟨_, rfl⟩
        rw [← eu12] at hM hF hR
        clear eu12
        obtain ⟨hyb, my, hA9, hnd, hnn⟩ := id hR
        obtain ⟨a0, a1, a2, a3, a4, a5, a6, a7, a8, a9, a10, a11, a12, a13, a14, a15, a16, a17⟩ := id hA9
        refine lv_aload_n hx hb dd_M_define_166 rfl (lv_at hl 2 rfl) ?_
        refine lv_iconst (v := 0) hx hb dd_M_define_167 (by decide) ?_
        refine mg_put (v := .int 0) hx hb ht ii_M tt_M tt_M_ok nn_M hown hK hM hS (hF _ (by rw [my]; exact Option.some_ne_none _)) my rfl 21 (by decide) wd_2_234 (fun _ h => h) (Or.inl rfl) rfl rfl rfl (Nat.le_of_ble_eq_true rfl) dd_M_define_168 (fun H locs hM hz hoq hS => ?_)
        have hM : hm G (mp_up u12 y (yC b (nd + 1) nn false ft fn mo 0)) H := hM
        have hF : ∀ z9, (mp_up u12 y (yC b (nd + 1) nn false ft fn mo 0)) z9 ≠ none → fr M sz z9 := hF_put hF (hF _ (by rw [my]; exact Option.some_ne_none _))
        have hR : rm G (mp_up u12 y (yC b (nd + 1) nn false ft fn mo 0)) y b (nd + 1) nn I10 J4 Z2 false ft fn mo 0 := rm_setX hR (by omega) (by omega)
        obtain ⟨u13, eu13⟩ : ∃ z, z = (mp_up u12 y (yC b (nd + 1) nn false ft fn mo 0)) := ⟨_, rfl⟩
        rw [← eu13] at hM hF hR
        clear eu13
        obtain ⟨hyb, my, hA9, hnd, hnn⟩ := id hR
        obtain ⟨a0, a1, a2, a3, a4, a5, a6, a7, a8, a9, a10, a11, a12, a13, a14, a15, a16, a17⟩ := id hA9
        refine lv_aload_n hx hb dd_M_define_171 rfl (lv_at hl 2 rfl) ?_
        refine mg_get hx hb ht ii_M hown hK hM my rfl 1 (by decide) wd_2_214 (fun _ h => h) rfl dd_M_define_172 ?_
        refine lv_iconst (v := 1) hx hb dd_M_define_175 (by decide) ?_
        refine lv_isub hx hb dd_M_define_176 ?_
        rw [nI_pred]
        exact mw_i hx hb hr hlocks rfl hM hF hS (Nat.le_of_ble_eq_true rfl) (Nat.le_of_ble_eq_true rfl) (Or.inr ⟨by rw [← hres, hg]; rfl, rfl, I10, J4, Z2, hR, tD_def hD (by intro i; simp [eZ2, eJ4, eI6, eI8, eI10, va_up, upd, e1]) (by intro i; simp [eZ2, eJ4, eI6, eI8, eI10, va_up, vp_updL, e2]) (by simp [eZ2, eJ4, eI6, eI8, eI10, va_up]) (by intro i; simp [eZ2, eJ4, eI6, eI8, eI10, va_up, upd, e3]) (by intro i; simp [eZ2, eJ4, eI6, eI8, eI10, va_up, upd]) (by intro i; simp [eZ2, eJ4, eI6, eI8, eI10, va_up, upd]) (by simp [eZ2, eJ4, eI6, eI8, eI10, va_up]) e4, tN_cg hN (Nat.le_succ _) (by simp [eZ2, eJ4, eI6, eI8, eI10, va_up]) (by simp [eZ2, eJ4, eI6, eI8, eI10, va_up]) (by simp [eZ2, eJ4, eI6, eI8, eI10, va_up]) (by simp [eZ2, eJ4, eI6, eI8, eI10, va_up]) (by simp [eZ2, eJ4, eI6, eI8, eI10, va_up]) (by simp [eZ2, eJ4, eI6, eI8, eI10, va_up]) (by simp [eZ2, eJ4, eI6, eI8, eI10, va_up]) (by simp [eZ2, eJ4, eI6, eI8, eI10, va_up])⟩) dd_M_define_177
      · refine lv_iconst (v := -1) hx hb dd_M_define_100 (by decide) ?_
        exact mw_i hx hb hr hlocks rfl hM hF hS (Nat.le_of_ble_eq_true rfl) (Nat.le_of_ble_eq_true rfl) (Or.inl ⟨by rw [← hres, c1]; rfl, rfl, hR⟩) dd_M_define_101
    | succ f ih =>
      intro i g u1 H locs ls hif hR hM hF hS hl hres
      obtain ⟨hyb, my, hA9, hnd, hnn⟩ := id hR
      obtain ⟨a0, a1, a2, a3, a4, a5, a6, a7, a8, a9, a10, a11, a12, a13, a14, a15, a16, a17⟩ := id hA9
      refine lv_iload hx hb dd_M_define_56 (lv_at hl 0 rfl) ?_
      refine lv_aload_n hx hb dd_M_define_58 rfl (lv_at hl 2 rfl) ?_
      refine mg_get hx hb ht ii_M hown hK hM my rfl 1 (by decide) wd_2_214 (fun _ h => h) rfl dd_M_define_59 ?_
      refine lv_icmp_ge (tgt := 95) hx hb dd_M_define_62 (by decide) (fun z => absurd z (nI_ge (a := i) (b := nd) (by omega) (by omega))) (fun _ => ?_)
      refine lv_iload hx hb dd_M_define_65 (lv_at hl 1 rfl) ?_
      refine lb_if_eq (tgt := 86) hx hb dd_M_define_67 (by decide) (fun c1 => ?_) (fun c1 => ?_)
      · refine lv_iconst (v := 0) hx hb dd_M_define_86 (by decide) ?_
        refine lv_istore (lv' := [(5, .int 0), (6, .int (nI i)), (0, .ref y), (1, .int (bI chg)), (2, .long nm), (4, .int ty)]) hx hb dd_M_define_87 hl (by decide) rfl (fun ls hl => ?_)
        obtain ⟨x2, ex2⟩ : ∃ y : Int32, y = (nI i) + 1 := ⟨_, rfl⟩
        refine lv_iinc (v := x2) (lv' := [(6, .int x2), (5, .int 0), (0, .ref y), (1, .int (bI chg)), (2, .long nm), (4, .int ty)]) hx hb dd_M_define_89 hl (k := 1) rfl (by rw [ex2]; rfl) (by decide) rfl (fun ls hl => ?_)
        refine lv_goto (tgt := 56) hx hb dd_M_define_92 (by decide) ?_
        rw [ex2, nI_1] at hl
        exact ih (i + 1) false u1 H locs ls (by omega) hR hM hF hS hl (by rw [← hres]; simp [m_new, c1])
      · refine lv_aload_n hx hb dd_M_define_70 rfl (lv_at hl 2 rfl) ?_
        refine mg_get hx hb ht ii_M hown hK hM my rfl 3 (by decide) wd_2_216 (fun _ h => h) rfl dd_M_define_71 ?_
        refine lv_iload hx hb dd_M_define_74 (lv_at hl 0 rfl) ?_
        refine mg_lald hx hb hK hM a1 (vp_in_nI (show i < 64 by omega) (by decide)) dd_M_define_76 ?_
        rw [nI_clamp (show i < 2 ^ 31 by omega)]
        rw [(hD i (show i < nd by omega)).2.1]
        refine lv_lload_n hx hb dd_M_define_77 rfl (lv_at hl 4 rfl) ?_
        refine W.lcmp hx hb dd_M_define_78 ?_
        refine lc_if_eq (tgt := 86) hx hb dd_M_define_79 (by decide) (fun c3 => ?_) (fun c3 => ?_)
        · refine lv_iconst (v := 0) hx hb dd_M_define_86 (by decide) ?_
          refine lv_istore (lv' := [(5, .int 0), (6, .int (nI i)), (0, .ref y), (1, .int (bI chg)), (2, .long nm), (4, .int ty)]) hx hb dd_M_define_87 hl (by decide) rfl (fun ls hl => ?_)
          obtain ⟨x4, ex4⟩ : ∃ y : Int32, y = (nI i) + 1 := ⟨_, rfl⟩
          refine lv_iinc (v := x4) (lv' := [(6, .int x4), (5, .int 0), (0, .ref y), (1, .int (bI chg)), (2, .long nm), (4, .int ty)]) hx hb dd_M_define_89 hl (k := 1) rfl (by rw [ex4]; rfl) (by decide) rfl (fun ls hl => ?_)
          refine lv_goto (tgt := 56) hx hb dd_M_define_92 (by decide) ?_
          rw [ex4, nI_1] at hl
          exact ih (i + 1) false u1 H locs ls (by omega) hR hM hF hS hl (by rw [← hres]; simp [m_new, c1, eq_true c3])
        · refine lv_iconst (v := 1) hx hb dd_M_define_82 (by decide) ?_
          refine lv_goto (tgt := 87) hx hb dd_M_define_83 (by decide) ?_
          refine lv_istore (lv' := [(5, .int 1), (6, .int (nI i)), (0, .ref y), (1, .int (bI chg)), (2, .long nm), (4, .int ty)]) hx hb dd_M_define_87 hl (by decide) rfl (fun ls hl => ?_)
          obtain ⟨x5, ex5⟩ : ∃ y : Int32, y = (nI i) + 1 := ⟨_, rfl⟩
          refine lv_iinc (v := x5) (lv' := [(6, .int x5), (5, .int 1), (0, .ref y), (1, .int (bI chg)), (2, .long nm), (4, .int ty)]) hx hb dd_M_define_89 hl (k := 1) rfl (by rw [ex5]; rfl) (by decide) rfl (fun ls hl => ?_)
          refine lv_goto (tgt := 56) hx hb dd_M_define_92 (by decide) ?_
          rw [ex5, nI_1] at hl
          exact ih (i + 1) true u1 H locs ls (by omega) hR hM hF hS hl (by rw [← hres]; simp [m_new, c1, c3])
  obtain ⟨hyb, my, hA9, hnd, hnn⟩ := id hR
  obtain ⟨a0, a1, a2, a3, a4, a5, a6, a7, a8, a9, a10, a11, a12, a13, a14, a15, a16, a17⟩ := id hA9
  refine lv_aload_n hx hb dd_M_define_0 rfl (lv_at hl 0 rfl) ?_
  refine lv_iconst (v := 0) hx hb dd_M_define_1 (by decide) ?_
  refine mg_put (v := .int 0) hx hb ht ii_M tt_M tt_M_ok nn_M hown hK hM hS (hF _ (by rw [my]; exact Option.some_ne_none _)) my rfl 0 (by decide) wd_2_213 (fun _ h => h) (Or.inl rfl) rfl rfl rfl (Nat.le_of_ble_eq_true rfl) dd_M_define_2 (fun H locs hM hz hoq hS => ?_)
  have hM : hm G (mp_up M y (yC b nd nn kn ft fn mo 0)) H := hM
  have hF : ∀ z9, (mp_up M y (yC b nd nn kn ft fn mo 0)) z9 ≠ none → fr M sz z9 := hF_put hF (hF _ (by rw [my]; exact Option.some_ne_none _))
  have hR : rm G (mp_up M y (yC b nd nn kn ft fn mo 0)) y b nd nn I J Z kn ft fn mo 0 := rm_setX hR (by omega) (by omega)
  obtain ⟨u1, eu1⟩ : ∃ z, z = (mp_up M y (yC b nd nn kn ft fn mo 0)) := ⟨_, rfl⟩
  rw [← eu1] at hM hF hR
  clear eu1
  obtain ⟨hyb, my, hA9, hnd, hnn⟩ := id hR
  obtain ⟨a0, a1, a2, a3, a4, a5, a6, a7, a8, a9, a10, a11, a12, a13, a14, a15, a16, a17⟩ := id hA9
  refine lv_aload_n hx hb dd_M_define_5 rfl (lv_at hl 0 rfl) ?_
  refine mc_V (As := []) (rest := []) 0 (cc_M_isWhole hR hD hN) hx hb hml hown ht hM hK hl.1 lk_M_90 (by decide +kernel) (by decide) my rfl rfl rfl (Nat.le_of_ble_eq_true rfl) dd_M_define_6 ⟨Nat.le_of_ble_eq_true rfl, Nat.le_of_ble_eq_true rfl⟩ ?_
  refine lb_if_eq (tgt := 50) hx hb dd_M_define_9 (by decide) (fun c2 => ?_) (fun c2 => ?_)
  · refine lv_iconst (v := 0) hx hb dd_M_define_50 (by decide) ?_
    refine lv_istore (lv' := [(5, .int 0), (0, .ref y), (1, .int (bI chg)), (2, .long nm), (4, .int ty)]) hx hb dd_M_define_51 hl (by decide) rfl (fun ls hl => ?_)
    refine lv_iconst (v := 0) hx hb dd_M_define_53 (by decide) ?_
    refine lv_istore (lv' := [(6, .int 0), (5, .int 0), (0, .ref y), (1, .int (bI chg)), (2, .long nm), (4, .int ty)]) hx hb dd_M_define_54 hl (by decide) rfl (fun ls hl => ?_)
    exact loop nd 0 false _ H locs ls (by omega) hR hM hF hS (by rw [nI_0]; exact hl) (by unfold m_defOk; simp [c2])
  · refine lv_aload_n hx hb dd_M_define_12 rfl (lv_at hl 0 rfl) ?_
    refine mg_get hx hb ht ii_M hown hK hM my rfl 1 (by decide) wd_2_214 (fun _ h => h) rfl dd_M_define_13 ?_
    refine lv_bipush (v := 64) hx hb dd_M_define_16 (by decide) ?_
    refine lv_icmp_ge (tgt := 50) hx hb dd_M_define_18 (by decide) (fun c3 => ?_) (fun c3 => ?_)
    · refine lv_iconst (v := 0) hx hb dd_M_define_50 (by decide) ?_
      refine lv_istore (lv' := [(5, .int 0), (0, .ref y), (1, .int (bI chg)), (2, .long nm), (4, .int ty)]) hx hb dd_M_define_51 hl (by decide) rfl (fun ls hl => ?_)
      refine lv_iconst (v := 0) hx hb dd_M_define_53 (by decide) ?_
      refine lv_istore (lv' := [(6, .int 0), (5, .int 0), (0, .ref y), (1, .int (bI chg)), (2, .long nm), (4, .int ty)]) hx hb dd_M_define_54 hl (by decide) rfl (fun ls hl => ?_)
      exact loop nd 0 false _ H locs ls (by omega) hR hM hF hS (by rw [nI_0]; exact hl) (by unfold m_defOk; simp [c2, c3])
    · refine lv_lload_n hx hb dd_M_define_21 rfl (lv_at hl 2 rfl) ?_
      refine lv_lconst (v := 0) hx hb dd_M_define_22 (by decide) ?_
      refine W.lcmp hx hb dd_M_define_23 ?_
      refine lc_if_le (tgt := 50) hx hb dd_M_define_24 (by decide) (fun c4 => ?_) (fun c4 => ?_)
      · refine lv_iconst (v := 0) hx hb dd_M_define_50 (by decide) ?_
        refine lv_istore (lv' := [(5, .int 0), (0, .ref y), (1, .int (bI chg)), (2, .long nm), (4, .int ty)]) hx hb dd_M_define_51 hl (by decide) rfl (fun ls hl => ?_)
        refine lv_iconst (v := 0) hx hb dd_M_define_53 (by decide) ?_
        refine lv_istore (lv' := [(6, .int 0), (5, .int 0), (0, .ref y), (1, .int (bI chg)), (2, .long nm), (4, .int ty)]) hx hb dd_M_define_54 hl (by decide) rfl (fun ls hl => ?_)
        exact loop nd 0 false _ H locs ls (by omega) hR hM hF hS (by rw [nI_0]; exact hl) (by unfold m_defOk; simp [c2, c3, c4])
      · refine lv_iload hx hb dd_M_define_27 (lv_at hl 3 rfl) ?_
        refine lv_if_lt (tgt := 50) hx hb dd_M_define_29 (by decide) (fun c5 => ?_) (fun c5 => ?_)
        · refine lv_iconst (v := 0) hx hb dd_M_define_50 (by decide) ?_
          refine lv_istore (lv' := [(5, .int 0), (0, .ref y), (1, .int (bI chg)), (2, .long nm), (4, .int ty)]) hx hb dd_M_define_51 hl (by decide) rfl (fun ls hl => ?_)
          refine lv_iconst (v := 0) hx hb dd_M_define_53 (by decide) ?_
          refine lv_istore (lv' := [(6, .int 0), (5, .int 0), (0, .ref y), (1, .int (bI chg)), (2, .long nm), (4, .int ty)]) hx hb dd_M_define_54 hl (by decide) rfl (fun ls hl => ?_)
          exact loop nd 0 false _ H locs ls (by omega) hR hM hF hS (by rw [nI_0]; exact hl) (by unfold m_defOk; simp [c2, c3, c4, c5])
        · refine lv_iload hx hb dd_M_define_32 (lv_at hl 3 rfl) ?_
          refine lv_iload_n hx hb dd_M_define_34 rfl (lv_at hl 1 rfl) ?_
          refine lb_if_eq (tgt := 42) hx hb dd_M_define_35 (by decide) (fun c6 => ?_) (fun c6 => ?_)
          · refine lv_iconst (v := 4) hx hb dd_M_define_42 (by decide) ?_
            refine lv_icmp_ge (tgt := 50) hx hb dd_M_define_43 (by decide) (fun c7 => ?_) (fun c7 => ?_)
            · refine lv_iconst (v := 0) hx hb dd_M_define_50 (by decide) ?_
              refine lv_istore (lv' := [(5, .int 0), (0, .ref y), (1, .int (bI chg)), (2, .long nm), (4, .int ty)]) hx hb dd_M_define_51 hl (by decide) rfl (fun ls hl => ?_)
              refine lv_iconst (v := 0) hx hb dd_M_define_53 (by decide) ?_
              refine lv_istore (lv' := [(6, .int 0), (5, .int 0), (0, .ref y), (1, .int (bI chg)), (2, .long nm), (4, .int ty)]) hx hb dd_M_define_54 hl (by decide) rfl (fun ls hl => ?_)
              exact loop nd 0 false _ H locs ls (by omega) hR hM hF hS (by rw [nI_0]; exact hl) (by unfold m_defOk; simp [c2, c3, c4, c5, c6, c7])
            · refine lv_iconst (v := 1) hx hb dd_M_define_46 (by decide) ?_
              refine lv_goto (tgt := 51) hx hb dd_M_define_47 (by decide) ?_
              refine lv_istore (lv' := [(5, .int 1), (0, .ref y), (1, .int (bI chg)), (2, .long nm), (4, .int ty)]) hx hb dd_M_define_51 hl (by decide) rfl (fun ls hl => ?_)
              refine lv_iconst (v := 0) hx hb dd_M_define_53 (by decide) ?_
              refine lv_istore (lv' := [(6, .int 0), (5, .int 1), (0, .ref y), (1, .int (bI chg)), (2, .long nm), (4, .int ty)]) hx hb dd_M_define_54 hl (by decide) rfl (fun ls hl => ?_)
              exact loop nd 0 true _ H locs ls (by omega) hR hM hF hS (by rw [nI_0]; exact hl) (by unfold m_defOk; simp [c2, c3, c4, c5, c6, c7])
          · refine lv_iconst (v := 2) hx hb dd_M_define_38 (by decide) ?_
            refine lv_goto (tgt := 43) hx hb dd_M_define_39 (by decide) ?_
            refine lv_icmp_ge (tgt := 50) hx hb dd_M_define_43 (by decide) (fun c8 => ?_) (fun c8 => ?_)
            · refine lv_iconst (v := 0) hx hb dd_M_define_50 (by decide) ?_
              refine lv_istore (lv' := [(5, .int 0), (0, .ref y), (1, .int (bI chg)), (2, .long nm), (4, .int ty)]) hx hb dd_M_define_51 hl (by decide) rfl (fun ls hl => ?_)
              refine lv_iconst (v := 0) hx hb dd_M_define_53 (by decide) ?_
              refine lv_istore (lv' := [(6, .int 0), (5, .int 0), (0, .ref y), (1, .int (bI chg)), (2, .long nm), (4, .int ty)]) hx hb dd_M_define_54 hl (by decide) rfl (fun ls hl => ?_)
              exact loop nd 0 false _ H locs ls (by omega) hR hM hF hS (by rw [nI_0]; exact hl) (by unfold m_defOk; simp [c2, c3, c4, c5, c6, c8])
            · refine lv_iconst (v := 1) hx hb dd_M_define_46 (by decide) ?_
              refine lv_goto (tgt := 51) hx hb dd_M_define_47 (by decide) ?_
              refine lv_istore (lv' := [(5, .int 1), (0, .ref y), (1, .int (bI chg)), (2, .long nm), (4, .int ty)]) hx hb dd_M_define_51 hl (by decide) rfl (fun ls hl => ?_)
              refine lv_iconst (v := 0) hx hb dd_M_define_53 (by decide) ?_
              refine lv_istore (lv' := [(6, .int 0), (5, .int 1), (0, .ref y), (1, .int (bI chg)), (2, .long nm), (4, .int ty)]) hx hb dd_M_define_54 hl (by decide) rfl (fun ls hl => ?_)
              exact loop nd 0 true _ H locs ls (by omega) hR hM hF hS (by rw [nI_0]; exact hl) (by unfold m_defOk; simp [c2, c3, c4, c5, c6, c8])

set_option maxHeartbeats 4000000 in
set_option maxRecDepth 100000 in
theorem cc_M_parameter_n {l : Launch} {G : gC} {M : mC} {sz : Nat} {y b nn : Nat} {I : Nat → Nat → Int32} {J : Nat → Nat → Int64} {Z : Nat → Int32} {kn : Bool} {ft fn mo th : Int32} (hR : rm G M y b 0 nn I J Z kn ft fn mo th) {D : Nat → dR} {N : Nat → nR} {pn : Nat → Nat → Int64} {pt : Nat → Nat → Int32} {np bg ho : Nat → Nat} {pa : Nat → Option Nat} (hD : tD 0 D pn pt np bg I J Z) (hN : tN 0 nn N ho pa I J) {nm : Int64} {ty : Int32} : cW l yy_M_parameter bb_M_parameter 6 (some .int) 3 8 4000 G M sz [.ref y, .long nm, .int ty] (fun v u => v = some (.int (-1)) ∧ rm G u y b 0 nn I J Z kn ft fn mo 0) := by
  refine me_W (by decide) (Nat.le_of_ble_eq_true rfl) ?_
  intro p e s m below meth c ls hx hb hr hlocks hml hown hname ht hsz hM hK hZ hl
  have hown : s.vm.findClass RR_M = some m.cls := hown
  have hl : lv_has ls 6 [(0, .ref y), (1, .long nm), (3, .int ty)] := hl
  have hS : va_S (fr M sz) s.heap s.heap [] := va_S.rf
  have hF : ∀ q, M q ≠ none → fr M sz q := fr_M
  have hA : ∀ q, s.heap.size ≤ q → fr M sz q := fun q h => fr_A q (by rw [← hsz]; exact h)
  obtain ⟨hyb, my, hA9, hnd, hnn⟩ := id hR
  obtain ⟨a0, a1, a2, a3, a4, a5, a6, a7, a8, a9, a10, a11, a12, a13, a14, a15, a16, a17⟩ := id hA9
  refine lv_aload_n hx hb dd_M_parameter_0 rfl (lv_at hl 0 rfl) ?_
  refine lv_iconst (v := 0) hx hb dd_M_parameter_1 (by decide) ?_
  refine mg_put (v := .int 0) hx hb ht ii_M tt_M tt_M_ok nn_M hown hK hM hS (hF _ (by rw [my]; exact Option.some_ne_none _)) my rfl 0 (by decide) wd_2_213 (fun _ h => h) (Or.inl rfl) rfl rfl rfl (Nat.le_of_ble_eq_true rfl) dd_M_parameter_2 (fun H locs hM hz hoq hS => ?_)
  have hM : hm G (mp_up M y (yC b 0 nn kn ft fn mo 0)) H := hM
  have hF : ∀ z9, (mp_up M y (yC b 0 nn kn ft fn mo 0)) z9 ≠ none → fr M sz z9 := hF_put hF (hF _ (by rw [my]; exact Option.some_ne_none _))
  have hR : rm G (mp_up M y (yC b 0 nn kn ft fn mo 0)) y b 0 nn I J Z kn ft fn mo 0 := rm_setX hR (by omega) (by omega)
  obtain ⟨u1, eu1⟩ : ∃ z, z = (mp_up M y (yC b 0 nn kn ft fn mo 0)) := ⟨_, rfl⟩
  rw [← eu1] at hM hF hR
  clear eu1
  obtain ⟨hyb, my, hA9, hnd, hnn⟩ := id hR
  obtain ⟨a0, a1, a2, a3, a4, a5, a6, a7, a8, a9, a10, a11, a12, a13, a14, a15, a16, a17⟩ := id hA9
  refine lv_aload_n hx hb dd_M_parameter_5 rfl (lv_at hl 0 rfl) ?_
  refine mg_get hx hb ht ii_M hown hK hM my rfl 1 (by decide) wd_2_214 (fun _ h => h) rfl dd_M_parameter_6 ?_
  refine lv_iconst (v := 1) hx hb dd_M_parameter_9 (by decide) ?_
  refine lv_isub hx hb dd_M_parameter_10 ?_
  obtain ⟨q9, eq9⟩ : ∃ z : Int32, z = nI 0 - 1 := ⟨_, rfl⟩
  rw [← eq9]
  refine lv_istore (lv' := [(4, .int q9), (0, .ref y), (1, .long nm), (3, .int ty)]) hx hb dd_M_parameter_11 hl (by decide) rfl (fun ls hl => ?_)
  refine lv_aload_n hx hb dd_M_parameter_13 rfl (lv_at hl 1 rfl) ?_
  refine mg_get hx hb ht ii_M hown hK hM my rfl 1 (by decide) wd_2_214 (fun _ h => h) rfl dd_M_parameter_14 ?_
  refine lv_if_eq (tgt := 61) hx hb dd_M_parameter_17 (by decide) (fun _ => ?_) (fun z => absurd nI_0 z)
  refine lv_iconst (v := -1) hx hb dd_M_parameter_61 (by decide) ?_
  exact mw_i hx hb hr hlocks rfl hM hF hS (Nat.le_of_ble_eq_true rfl) (Nat.le_of_ble_eq_true rfl) ⟨rfl, hR⟩ dd_M_parameter_62

set_option maxHeartbeats 4000000 in
set_option maxRecDepth 100000 in
theorem cc_M_parameter_s {l : Launch} {G : gC} {M : mC} {sz : Nat} {y b k nn : Nat} {I : Nat → Nat → Int32} {J : Nat → Nat → Int64} {Z : Nat → Int32} {kn : Bool} {ft fn mo th : Int32} (hR : rm G M y b (k + 1) nn I J Z kn ft fn mo th) {D : Nat → dR} {N : Nat → nR} {pn : Nat → Nat → Int64} {pt : Nat → Nat → Int32} {np bg ho : Nat → Nat} {pa : Nat → Option Nat} (hD : tD (k + 1) D pn pt np bg I J Z) (hN : tN (k + 1) nn N ho pa I J) {nm : Int64} {ty : Int32} : cW l yy_M_parameter bb_M_parameter 6 (some .int) 3 8 4000 G M sz [.ref y, .long nm, .int ty] (fun v u => ((m_parOk k nn np bg pn nm ty) = false ∧ v = some (.int (-1)) ∧ rm G u y b (k + 1) nn I J Z kn ft fn mo 0) ∨ ((m_parOk k nn np bg pn nm ty) = true ∧ v = some (.int (nI (np k + 1))) ∧ ∃ I' J', rm G u y b (k + 1) nn I' J' Z false ft fn mo 0 ∧ tD (k + 1) (va_up D k (d_s_np (D k) (nI (np k + 1)))) (va_up pn k (vp_updL (pn k) (np k) nm)) (va_up pt k (upd (pt k) (np k) ty)) (va_up np k (np k + 1)) bg I' J' Z ∧ tN (k + 1) nn N ho pa I' J')) := by
  refine me_W (by decide) (Nat.le_of_ble_eq_true rfl) ?_
  intro p e s m below meth c ls hx hb hr hlocks hml hown hname ht hsz hM hK hZ hl
  have hown : s.vm.findClass RR_M = some m.cls := hown
  have hl : lv_has ls 6 [(0, .ref y), (1, .long nm), (3, .int ty)] := hl
  have hS : va_S (fr M sz) s.heap s.heap [] := va_S.rf
  have hF : ∀ q, M q ≠ none → fr M sz q := fr_M
  have hA : ∀ q, s.heap.size ≤ q → fr M sz q := fun q h => fr_A q (by rw [← hsz]; exact h)
  have hk8 := (hD k (Nat.lt_succ_self k)).2.2.2.2.2.1
  have loop : np k < 8 → (!decide (nI (np k) = 8) && !decide (nI (bg k) < nI nn) && !decide (nm ≤ 0) && !decide (ty < 0) && decide (ty ≤ 3)) = true → ∀ (f i : Nat) (u1 : mC) (H : Heap) (locs : List Loc) (ls : Array Slot), i + f = np k → rm G u1 y b (k + 1) nn I J Z kn ft fn mo 0 → hm G u1 H → (∀ q, u1 q ≠ none → fr M sz q) → va_S (fr M sz) s.heap H locs → lv_has ls 6 [(5, .int (nI i)), (4, .int (nI k)), (0, .ref y), (1, .long nm), (3, .int ty)] → m_pi (pn k) nm f i = m_pi (pn k) nm (np k) 0 → W p l e (rd 3 8 4000) s m ([.ref y, .long nm, .int ty] : List Value).toArray below meth c H locs 0 0 (MQ below (cQ G M sz (fun v u => ((m_parOk k nn np bg pn nm ty) = false ∧ v = some (.int (-1)) ∧ rm G u y b (k + 1) nn I J Z kn ft fn mo 0) ∨ ((m_parOk k nn np bg pn nm ty) = true ∧ v = some (.int (nI (np k + 1))) ∧ ∃ I' J', rm G u y b (k + 1) nn I' J' Z false ft fn mo 0 ∧ tD (k + 1) (va_up D k (d_s_np (D k) (nI (np k + 1)))) (va_up pn k (vp_updL (pn k) (np k) nm)) (va_up pt k (upd (pt k) (np k) ty)) (va_up np k (np k + 1)) bg I' J' Z ∧ tN (k + 1) nn N ho pa I' J'))) ([.ref y, .long nm, .int ty] : List Value).toArray s 8 4000 (fr M sz)) (F0 m 66 ls []) := by
    intro hn8 hok f
    induction f with
    | zero =>
      intro i u1 H locs ls hif hR hM hF hS hl hres
      obtain ⟨hyb, my, hA9, hnd, hnn⟩ := id hR
      obtain ⟨a0, a1, a2, a3, a4, a5, a6, a7, a8, a9, a10, a11, a12, a13, a14, a15, a16, a17⟩ := id hA9
      refine lv_iload hx hb dd_M_parameter_66 (lv_at hl 0 rfl) ?_
      refine lv_aload_n hx hb dd_M_parameter_68 rfl (lv_at hl 2 rfl) ?_
      refine mg_get hx hb ht ii_M hown hK hM my rfl 5 (by decide) wd_2_218 (fun _ h => h) rfl dd_M_parameter_69 ?_
      refine lv_iload hx hb dd_M_parameter_72 (lv_at hl 1 rfl) ?_
      refine mg_iald hx hb hK hM a3 (vp_in_nI (show k < 64 by omega) (by decide)) dd_M_parameter_74 ?_
      rw [nI_clamp (show k < 2 ^ 31 by omega)]
      rw [(hD k (Nat.lt_succ_self k)).2.2.2.1]
      refine lv_icmp_ge (tgt := 104) hx hb dd_M_parameter_75 (by decide) (fun _ => ?_) (fun z => absurd (nI_le (a := np k) (b := i) (by omega) (by omega)) z)
      refine lv_aload_n hx hb dd_M_parameter_104 rfl (lv_at hl 2 rfl) ?_
      refine mg_get hx hb ht ii_M hown hK hM my rfl 6 (by decide) wd_2_219 (fun _ h => h) rfl dd_M_parameter_105 ?_
      refine lv_bipush (v := 8) hx hb dd_M_parameter_108 (by decide) ?_
      refine lv_iload hx hb dd_M_parameter_110 (lv_at hl 1 rfl) ?_
      refine lv_imul hx hb dd_M_parameter_112 ?_
      rw [nI_8]
      refine lv_aload_n hx hb dd_M_parameter_113 rfl (lv_at hl 2 rfl) ?_
      refine mg_get hx hb ht ii_M hown hK hM my rfl 5 (by decide) wd_2_218 (fun _ h => h) rfl dd_M_parameter_114 ?_
      refine lv_iload hx hb dd_M_parameter_117 (lv_at hl 1 rfl) ?_
      refine mg_iald hx hb hK hM a3 (vp_in_nI (show k < 64 by omega) (by decide)) dd_M_parameter_119 ?_
      rw [nI_clamp (show k < 2 ^ 31 by omega)]
      rw [(hD k (Nat.lt_succ_self k)).2.2.2.1]
      refine lv_iadd hx hb dd_M_parameter_120 ?_
      rw [nI_add]
      refine lv_lload_n hx hb dd_M_parameter_121 rfl (lv_at hl 3 rfl) ?_
      refine mg_last hx hb hK hM hS (hF _ (by rw [a4]; exact Option.some_ne_none _)) a4 (vp_in_nI (show (8 * k + (np k)) < 512 by omega) (by decide)) dd_M_parameter_122 (fun H locs hM hz hS => ?_)
      rw [nI_clamp (show (8 * k + (np k)) < 2 ^ 31 by omega)] at hM
      have hM : hm G (mp_up u1 (b + 4) (lA G 512 (vp_updL (J 4) (8 * k + (np k)) nm))) H := hM
      have hF : ∀ z9, (mp_up u1 (b + 4) (lA G 512 (vp_updL (J 4) (8 * k + (np k)) nm))) z9 ≠ none → fr M sz z9 := hF_put hF (hF _ (by rw [a4]; exact Option.some_ne_none _))
      obtain ⟨J1, eJ1⟩ : ∃ z, z = va_up J 4 (vp_updL (J 4) (8 * k + (np k)) nm) := ⟨_, rfl⟩
      have hR : rm G (mp_up u1 (b + 4) (lA G 512 (vp_updL (J 4) (8 * k + (np k)) nm))) y b (k + 1) nn I J1 Z kn ft fn mo 0 := ⟨hR.1, mp_at (by omega) hR.2.1, by rw [eJ1]; exact rmA_s4 hR.2.2.1 (vp_updL (J 4) (8 * k + (np k)) nm), hR.2.2.2⟩
      obtain ⟨u2, eu2⟩ : ∃ z, z = (mp_up u1 (b + 4) (lA G 512 (vp_updL (J 4) (8 * k + (np k)) nm))) := ⟨_, rfl⟩
      rw [← eu2] at hM hF hR
      clear eu2
      obtain ⟨hyb, my, hA9, hnd, hnn⟩ := id hR
      obtain ⟨a0, a1, a2, a3, a4, a5, a6, a7, a8, a9, a10, a11, a12, a13, a14, a15, a16, a17⟩ := id hA9
      refine lv_aload_n hx hb dd_M_parameter_123 rfl (lv_at hl 2 rfl) ?_
      refine mg_get hx hb ht ii_M hown hK hM my rfl 7 (by decide) wd_2_220 (fun _ h => h) rfl dd_M_parameter_124 ?_
      refine lv_bipush (v := 8) hx hb dd_M_parameter_127 (by decide) ?_
      refine lv_iload hx hb dd_M_parameter_129 (lv_at hl 1 rfl) ?_
      refine lv_imul hx hb dd_M_parameter_131 ?_
      rw [nI_8]
      refine lv_aload_n hx hb dd_M_parameter_132 rfl (lv_at hl 2 rfl) ?_
      refine mg_get hx hb ht ii_M hown hK hM my rfl 5 (by decide) wd_2_218 (fun _ h => h) rfl dd_M_parameter_133 ?_
      refine lv_iload hx hb dd_M_parameter_136 (lv_at hl 1 rfl) ?_
      refine mg_iald hx hb hK hM a3 (vp_in_nI (show k < 64 by omega) (by decide)) dd_M_parameter_138 ?_
      rw [nI_clamp (show k < 2 ^ 31 by omega)]
      rw [show I 3 k = nI (np k) from by first | exact (hD k (Nat.lt_succ_self k)).2.2.2.1 | (simp [eJ1, va_up]; exact (hD k (Nat.lt_succ_self k)).2.2.2.1)]
      refine lv_iadd hx hb dd_M_parameter_139 ?_
      rw [nI_add]
      refine lv_iload_n hx hb dd_M_parameter_140 rfl (lv_at hl 4 rfl) ?_
      refine mg_iast hx hb hK hM hS (hF _ (by rw [a5]; exact Option.some_ne_none _)) a5 (vp_in_nI (show (8 * k + (np k)) < 512 by omega) (by decide)) dd_M_parameter_141 (fun H locs hM hz hS => ?_)
      rw [nI_clamp (show (8 * k + (np k)) < 2 ^ 31 by omega)] at hM
      have hM : hm G (mp_up u2 (b + 5) (iA G 512 (upd (I 5) (8 * k + (np k)) ty))) H := hM
      have hF : ∀ z9, (mp_up u2 (b + 5) (iA G 512 (upd (I 5) (8 * k + (np k)) ty))) z9 ≠ none → fr M sz z9 := hF_put hF (hF _ (by rw [a5]; exact Option.some_ne_none _))
      obtain ⟨I3, eI3⟩ : ∃ z, z = va_up I 5 (upd (I 5) (8 * k + (np k)) ty) := ⟨_, rfl⟩
      have hR : rm G (mp_up u2 (b + 5) (iA G 512 (upd (I 5) (8 * k + (np k)) ty))) y b (k + 1) nn I3 J1 Z kn ft fn mo 0 := ⟨hR.1, mp_at (by omega) hR.2.1, by rw [eI3]; exact rmA_s5 hR.2.2.1 (upd (I 5) (8 * k + (np k)) ty), hR.2.2.2⟩
      obtain ⟨u4, eu4⟩ : ∃ z, z = (mp_up u2 (b + 5) (iA G 512 (upd (I 5) (8 * k + (np k)) ty))) := ⟨_, rfl⟩
      rw [← eu4] at hM hF hR
      clear eu4
      obtain ⟨hyb, my, hA9, hnd, hnn⟩ := id hR
      obtain ⟨a0, a1, a2, a3, a4, a5, a6, a7, a8, a9, a10, a11, a12, a13, a14, a15, a16, a17⟩ := id hA9
      refine lv_aload_n hx hb dd_M_parameter_142 rfl (lv_at hl 2 rfl) ?_
      refine mg_get hx hb ht ii_M hown hK hM my rfl 5 (by decide) wd_2_218 (fun _ h => h) rfl dd_M_parameter_143 ?_
      refine lv_iload hx hb dd_M_parameter_146 (lv_at hl 1 rfl) ?_
      refine lv_dup2_11 hx hb dd_M_parameter_148 rfl rfl ?_
      refine mg_iald hx hb hK hM a3 (vp_in_nI (show k < 64 by omega) (by decide)) dd_M_parameter_149 ?_
      rw [nI_clamp (show k < 2 ^ 31 by omega)]
      rw [show I3 3 k = nI (np k) from by first | exact (hD k (Nat.lt_succ_self k)).2.2.2.1 | (simp [eJ1, eI3, va_up]; exact (hD k (Nat.lt_succ_self k)).2.2.2.1)]
      refine lv_iconst (v := 1) hx hb dd_M_parameter_150 (by decide) ?_
      refine lv_iadd hx hb dd_M_parameter_151 ?_
      rw [nI_1]
      refine mg_iast hx hb hK hM hS (hF _ (by rw [a3]; exact Option.some_ne_none _)) a3 (vp_in_nI (show k < 64 by omega) (by decide)) dd_M_parameter_152 (fun H locs hM hz hS => ?_)
      rw [nI_clamp (show k < 2 ^ 31 by omega)] at hM
      have hM : hm G (mp_up u4 (b + 3) (iA G 64 (upd (I3 3) k (nI (np k + 1))))) H := hM
      have hF : ∀ z9, (mp_up u4 (b + 3) (iA G 64 (upd (I3 3) k (nI (np k + 1))))) z9 ≠ none → fr M sz z9 := hF_put hF (hF _ (by rw [a3]; exact Option.some_ne_none _))
      obtain ⟨I5, eI5⟩ : ∃ z, z = va_up I3 3 (upd (I3 3) k (nI (np k + 1))) := ⟨_, rfl⟩
      have hR : rm G (mp_up u4 (b + 3) (iA G 64 (upd (I3 3) k (nI (np k + 1))))) y b (k + 1) nn I5 J1 Z kn ft fn mo 0 := ⟨hR.1, mp_at (by omega) hR.2.1, by rw [eI5]; exact rmA_s3 hR.2.2.1 (upd (I3 3) k (nI (np k + 1))), hR.2.2.2⟩
      obtain ⟨u6, eu6⟩ : ∃ z, z = (mp_up u4 (b + 3) (iA G 64 (upd (I3 3) k (nI (np k + 1))))) := ⟨_, rfl⟩
      rw [← eu6] at hM hF hR
      clear eu6
      obtain ⟨hyb, my, hA9, hnd, hnn⟩ := id hR
      obtain ⟨a0, a1, a2, a3, a4, a5, a6, a7, a8, a9, a10, a11, a12, a13, a14, a15, a16, a17⟩ := id hA9
      refine lv_aload_n hx hb dd_M_parameter_153 rfl (lv_at hl 2 rfl) ?_
      refine lv_iconst (v := 0) hx hb dd_M_parameter_154 (by decide) ?_
      refine mg_put (v := .int 0) hx hb ht ii_M tt_M tt_M_ok nn_M hown hK hM hS (hF _ (by rw [my]; exact Option.some_ne_none _)) my rfl 21 (by decide) wd_2_234 (fun _ h => h) (Or.inl rfl) rfl rfl rfl (Nat.le_of_ble_eq_true rfl) dd_M_parameter_155 (fun H locs hM hz hoq hS => ?_)
      have hM : hm G (mp_up u6 y (yC b (k + 1) nn false ft fn mo 0)) H := hM
      have hF : ∀ z9, (mp_up u6 y (yC b (k + 1) nn false ft fn mo 0)) z9 ≠ none → fr M sz z9 := hF_put hF (hF _ (by rw [my]; exact Option.some_ne_none _))
      have hR : rm G (mp_up u6 y (yC b (k + 1) nn false ft fn mo 0)) y b (k + 1) nn I5 J1 Z false ft fn mo 0 := rm_setX hR (by omega) (by omega)
      obtain ⟨u7, eu7⟩ : ∃ z, z = (mp_up u6 y (yC b (k + 1) nn false ft fn mo 0)) := ⟨_, rfl⟩
      rw [← eu7] at hM hF hR
      clear eu7
      obtain ⟨hyb, my, hA9, hnd, hnn⟩ := id hR
      obtain ⟨a0, a1, a2, a3, a4, a5, a6, a7, a8, a9, a10, a11, a12, a13, a14, a15, a16, a17⟩ := id hA9
      refine lv_aload_n hx hb dd_M_parameter_158 rfl (lv_at hl 2 rfl) ?_
      refine mg_get hx hb ht ii_M hown hK hM my rfl 5 (by decide) wd_2_218 (fun _ h => h) rfl dd_M_parameter_159 ?_
      refine lv_iload hx hb dd_M_parameter_162 (lv_at hl 1 rfl) ?_
      refine mg_iald hx hb hK hM a3 (vp_in_nI (show k < 64 by omega) (by decide)) dd_M_parameter_164 ?_
      rw [nI_clamp (show k < 2 ^ 31 by omega)]
      rw [show I5 3 k = nI (np k + 1) from by simp [eJ1, eI3, eI5, va_up, upd]]
      exact mw_i hx hb hr hlocks rfl hM hF hS (Nat.le_of_ble_eq_true rfl) (Nat.le_of_ble_eq_true rfl) (Or.inr ⟨by simp only [m_parOk]; rw [← hres]; simp [m_pi, hok], rfl, I5, J1, hR, tD_par hD (by omega) (by simp [eJ1, eI3, eI5, va_up]) (by intro i; simp [eJ1, eI3, eI5, va_up, vp_updL]) (by simp [eJ1, eI3, eI5, va_up]) (by intro i; simp [eJ1, eI3, eI5, va_up, upd]) (by simp [eJ1, eI3, eI5, va_up]) (by intro i; simp [eJ1, eI3, eI5, va_up, upd]), tN_cg hN (Nat.le_refl _) (by simp [eJ1, eI3, eI5, va_up]) (by simp [eJ1, eI3, eI5, va_up]) (by simp [eJ1, eI3, eI5, va_up]) (by simp [eJ1, eI3, eI5, va_up]) (by simp [eJ1, eI3, eI5, va_up]) (by simp [eJ1, eI3, eI5, va_up]) (by simp [eJ1, eI3, eI5, va_up]) (by simp [eJ1, eI3, eI5, va_up])⟩) dd_M_parameter_165
    | succ f ih =>
      intro i u1 H locs ls hif hR hM hF hS hl hres
      obtain ⟨hyb, my, hA9, hnd, hnn⟩ := id hR
      obtain ⟨a0, a1, a2, a3, a4, a5, a6, a7, a8, a9, a10, a11, a12, a13, a14, a15, a16, a17⟩ := id hA9
      refine lv_iload hx hb dd_M_parameter_66 (lv_at hl 0 rfl) ?_
      refine lv_aload_n hx hb dd_M_parameter_68 rfl (lv_at hl 2 rfl) ?_
      refine mg_get hx hb ht ii_M hown hK hM my rfl 5 (by decide) wd_2_218 (fun _ h => h) rfl dd_M_parameter_69 ?_
      refine lv_iload hx hb dd_M_parameter_72 (lv_at hl 1 rfl) ?_
      refine mg_iald hx hb hK hM a3 (vp_in_nI (show k < 64 by omega) (by decide)) dd_M_parameter_74 ?_
      rw [nI_clamp (show k < 2 ^ 31 by omega)]
      rw [(hD k (Nat.lt_succ_self k)).2.2.2.1]
      refine lv_icmp_ge (tgt := 104) hx hb dd_M_parameter_75 (by decide) (fun z => absurd z (nI_ge (a := i) (b := np k) (by omega) (by omega))) (fun _ => ?_)
      refine lv_aload_n hx hb dd_M_parameter_78 rfl (lv_at hl 2 rfl) ?_
      refine mg_get hx hb ht ii_M hown hK hM my rfl 6 (by decide) wd_2_219 (fun _ h => h) rfl dd_M_parameter_79 ?_
      refine lv_bipush (v := 8) hx hb dd_M_parameter_82 (by decide) ?_
      refine lv_iload hx hb dd_M_parameter_84 (lv_at hl 1 rfl) ?_
      refine lv_imul hx hb dd_M_parameter_86 ?_
      rw [nI_8]
      refine lv_iload hx hb dd_M_parameter_87 (lv_at hl 0 rfl) ?_
      refine lv_iadd hx hb dd_M_parameter_89 ?_
      rw [nI_add]
      refine mg_lald hx hb hK hM a4 (vp_in_nI (show (8 * k + i) < 512 by omega) (by decide)) dd_M_parameter_90 ?_
      rw [nI_clamp (show (8 * k + i) < 2 ^ 31 by omega)]
      rw [(hD k (show k < k + 1 by omega)).2.2.2.2.2.2.2.1 i (show i < np k by omega)]
      refine lv_lload_n hx hb dd_M_parameter_91 rfl (lv_at hl 3 rfl) ?_
      refine W.lcmp hx hb dd_M_parameter_92 ?_
      refine lc_if_ne (tgt := 98) hx hb dd_M_parameter_93 (by decide) (fun c1 => ?_) (fun c1 => ?_)
      · obtain ⟨x2, ex2⟩ : ∃ y : Int32, y = (nI i) + 1 := ⟨_, rfl⟩
        refine lv_iinc (v := x2) (lv' := [(5, .int x2), (4, .int (nI k)), (0, .ref y), (1, .long nm), (3, .int ty)]) hx hb dd_M_parameter_98 hl (k := 0) rfl (by rw [ex2]; rfl) (by decide) rfl (fun ls hl => ?_)
        refine lv_goto (tgt := 66) hx hb dd_M_parameter_101 (by decide) ?_
        rw [ex2, nI_1] at hl
        exact ih (i + 1) u1 H locs ls (by omega) hR hM hF hS hl (by rw [← hres]; simp [m_pi, c1])
      · refine lv_iconst (v := -1) hx hb dd_M_parameter_96 (by decide) ?_
        exact mw_i hx hb hr hlocks rfl hM hF hS (Nat.le_of_ble_eq_true rfl) (Nat.le_of_ble_eq_true rfl) (Or.inl ⟨by simp only [m_parOk]; rw [← hres]; simp [m_pi, eq_true c1], rfl, hR⟩) dd_M_parameter_97
  obtain ⟨hyb, my, hA9, hnd, hnn⟩ := id hR
  obtain ⟨a0, a1, a2, a3, a4, a5, a6, a7, a8, a9, a10, a11, a12, a13, a14, a15, a16, a17⟩ := id hA9
  refine lv_aload_n hx hb dd_M_parameter_0 rfl (lv_at hl 0 rfl) ?_
  refine lv_iconst (v := 0) hx hb dd_M_parameter_1 (by decide) ?_
  refine mg_put (v := .int 0) hx hb ht ii_M tt_M tt_M_ok nn_M hown hK hM hS (hF _ (by rw [my]; exact Option.some_ne_none _)) my rfl 0 (by decide) wd_2_213 (fun _ h => h) (Or.inl rfl) rfl rfl rfl (Nat.le_of_ble_eq_true rfl) dd_M_parameter_2 (fun H locs hM hz hoq hS => ?_)
  have hM : hm G (mp_up M y (yC b (k + 1) nn kn ft fn mo 0)) H := hM
  have hF : ∀ z9, (mp_up M y (yC b (k + 1) nn kn ft fn mo 0)) z9 ≠ none → fr M sz z9 := hF_put hF (hF _ (by rw [my]; exact Option.some_ne_none _))
  have hR : rm G (mp_up M y (yC b (k + 1) nn kn ft fn mo 0)) y b (k + 1) nn I J Z kn ft fn mo 0 := rm_setX hR (by omega) (by omega)
  obtain ⟨u1, eu1⟩ : ∃ z, z = (mp_up M y (yC b (k + 1) nn kn ft fn mo 0)) := ⟨_, rfl⟩
  rw [← eu1] at hM hF hR
  clear eu1
  obtain ⟨hyb, my, hA9, hnd, hnn⟩ := id hR
  obtain ⟨a0, a1, a2, a3, a4, a5, a6, a7, a8, a9, a10, a11, a12, a13, a14, a15, a16, a17⟩ := id hA9
  refine lv_aload_n hx hb dd_M_parameter_5 rfl (lv_at hl 0 rfl) ?_
  refine mg_get hx hb ht ii_M hown hK hM my rfl 1 (by decide) wd_2_214 (fun _ h => h) rfl dd_M_parameter_6 ?_
  refine lv_iconst (v := 1) hx hb dd_M_parameter_9 (by decide) ?_
  refine lv_isub hx hb dd_M_parameter_10 ?_
  rw [nI_pred]
  refine lv_istore (lv' := [(4, .int (nI k)), (0, .ref y), (1, .long nm), (3, .int ty)]) hx hb dd_M_parameter_11 hl (by decide) rfl (fun ls hl => ?_)
  refine lv_aload_n hx hb dd_M_parameter_13 rfl (lv_at hl 1 rfl) ?_
  refine mg_get hx hb ht ii_M hown hK hM my rfl 1 (by decide) wd_2_214 (fun _ h => h) rfl dd_M_parameter_14 ?_
  refine lv_if_eq (tgt := 61) hx hb dd_M_parameter_17 (by decide) (fun z => absurd z (nI_ne0 (by omega) (by omega))) (fun _ => ?_)
  refine lv_aload_n hx hb dd_M_parameter_20 rfl (lv_at hl 1 rfl) ?_
  refine mg_get hx hb ht ii_M hown hK hM my rfl 5 (by decide) wd_2_218 (fun _ h => h) rfl dd_M_parameter_21 ?_
  refine lv_iload hx hb dd_M_parameter_24 (lv_at hl 0 rfl) ?_
  refine mg_iald hx hb hK hM a3 (vp_in_nI (show k < 64 by omega) (by decide)) dd_M_parameter_26 ?_
  rw [nI_clamp (show k < 2 ^ 31 by omega)]
  rw [(hD k (Nat.lt_succ_self k)).2.2.2.1]
  refine lv_bipush (v := 8) hx hb dd_M_parameter_27 (by decide) ?_
  refine lv_icmp_eq (tgt := 61) hx hb dd_M_parameter_29 (by decide) (fun c2 => ?_) (fun c2 => ?_)
  · refine lv_iconst (v := -1) hx hb dd_M_parameter_61 (by decide) ?_
    exact mw_i hx hb hr hlocks rfl hM hF hS (Nat.le_of_ble_eq_true rfl) (Nat.le_of_ble_eq_true rfl) (Or.inl ⟨by simp [m_parOk, eq_true c2], rfl, hR⟩) dd_M_parameter_62
  · refine lv_aload_n hx hb dd_M_parameter_32 rfl (lv_at hl 1 rfl) ?_
    refine mg_get hx hb ht ii_M hown hK hM my rfl 9 (by decide) wd_2_222 (fun _ h => h) rfl dd_M_parameter_33 ?_
    refine lv_aload_n hx hb dd_M_parameter_36 rfl (lv_at hl 1 rfl) ?_
    refine mg_get hx hb ht ii_M hown hK hM my rfl 8 (by decide) wd_2_221 (fun _ h => h) rfl dd_M_parameter_37 ?_
    refine lv_iload hx hb dd_M_parameter_40 (lv_at hl 0 rfl) ?_
    refine mg_iald hx hb hK hM a6 (vp_in_nI (show k < 65 by omega) (by decide)) dd_M_parameter_42 ?_
    rw [nI_clamp (show k < 2 ^ 31 by omega)]
    rw [(hD k (show k < k + 1 by omega)).2.2.2.2.1]
    refine lv_icmp_gt (tgt := 61) hx hb dd_M_parameter_43 (by decide) (fun c3 => ?_) (fun c3 => ?_)
    · refine lv_iconst (v := -1) hx hb dd_M_parameter_61 (by decide) ?_
      exact mw_i hx hb hr hlocks rfl hM hF hS (Nat.le_of_ble_eq_true rfl) (Nat.le_of_ble_eq_true rfl) (Or.inl ⟨by simp [m_parOk, c2, c3], rfl, hR⟩) dd_M_parameter_62
    · refine lv_lload_n hx hb dd_M_parameter_46 rfl (lv_at hl 2 rfl) ?_
      refine lv_lconst (v := 0) hx hb dd_M_parameter_47 (by decide) ?_
      refine W.lcmp hx hb dd_M_parameter_48 ?_
      refine lc_if_le (tgt := 61) hx hb dd_M_parameter_49 (by decide) (fun c4 => ?_) (fun c4 => ?_)
      · refine lv_iconst (v := -1) hx hb dd_M_parameter_61 (by decide) ?_
        exact mw_i hx hb hr hlocks rfl hM hF hS (Nat.le_of_ble_eq_true rfl) (Nat.le_of_ble_eq_true rfl) (Or.inl ⟨by simp [m_parOk, c2, c3, c4], rfl, hR⟩) dd_M_parameter_62
      · refine lv_iload_n hx hb dd_M_parameter_52 rfl (lv_at hl 3 rfl) ?_
        refine lv_if_lt (tgt := 61) hx hb dd_M_parameter_53 (by decide) (fun c5 => ?_) (fun c5 => ?_)
        · refine lv_iconst (v := -1) hx hb dd_M_parameter_61 (by decide) ?_
          exact mw_i hx hb hr hlocks rfl hM hF hS (Nat.le_of_ble_eq_true rfl) (Nat.le_of_ble_eq_true rfl) (Or.inl ⟨by simp [m_parOk, c2, c3, c4, c5], rfl, hR⟩) dd_M_parameter_62
        · refine lv_iload_n hx hb dd_M_parameter_56 rfl (lv_at hl 3 rfl) ?_
          refine lv_iconst (v := 3) hx hb dd_M_parameter_57 (by decide) ?_
          refine lv_icmp_le (tgt := 63) hx hb dd_M_parameter_58 (by decide) (fun c6 => ?_) (fun c6 => ?_)
          · refine lv_iconst (v := 0) hx hb dd_M_parameter_63 (by decide) ?_
            refine lv_istore (lv' := [(5, .int 0), (4, .int (nI k)), (0, .ref y), (1, .long nm), (3, .int ty)]) hx hb dd_M_parameter_64 hl (by decide) rfl (fun ls hl => ?_)
            have hn8 : np k < 8 := by have h9 : np k ≠ 8 := fun z => c2 (by rw [z]; rfl); omega
            exact loop hn8 (by simp [c2, c3, c4, c5, c6]) (np k) 0 _ H locs ls (by omega) hR hM hF hS (by rw [nI_0]; exact hl) rfl
          · refine lv_iconst (v := -1) hx hb dd_M_parameter_61 (by decide) ?_
            exact mw_i hx hb hr hlocks rfl hM hF hS (Nat.le_of_ble_eq_true rfl) (Nat.le_of_ble_eq_true rfl) (Or.inl ⟨by simp [m_parOk, c2, c3, c4, c5, c6], rfl, hR⟩) dd_M_parameter_62
