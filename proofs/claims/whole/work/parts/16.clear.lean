set_option maxHeartbeats 4000000 in
set_option maxRecDepth 100000 in
theorem cc_A_clear_f {l : Launch} {G : gC} {M : mC} {sz : Nat} {h0 ed n cap : Nat} {c0 : Int32} {f : Nat → Option Nat} {g : Nat → Nat} (m0 : M h0 = some (aC (c0, ed, nI n))) (me : M ed = some (oA G cap f)) (hc : n ≤ cap) (h2 : 2 ≤ cap) (h1000 : cap ≤ 1000) : cW l yy_A_clear bb_A_clear 4 none 0 0 0 G M sz [.ref h0] (fun v u => v = none ∧ ls_ok G u h0 ed 0 g ∧ ∀ q, q ≠ h0 → q ≠ ed → u q = M q) := by
  refine me_W (by decide) (Nat.le_of_ble_eq_true rfl) ?_
  intro p e s m below meth c ls hx hb hr hlocks hml hown hname ht hsz hM hK hZ hl
  have hown : s.vm.findClass RR_A = some m.cls := hown
  have hl : lv_has ls 4 [(0, .ref h0)] := hl
  have hS : va_S (fr M sz) s.heap s.heap [] := va_S.rf
  have hF : ∀ q, M q ≠ none → fr M sz q := fr_M
  have hA : ∀ q, s.heap.size ≤ q → fr M sz q := fun q h => fr_A q (by rw [← hsz]; exact h)
  have hne : h0 ≠ ed := oa_ne m0 me
  have loop : ∀ (k i : Nat) (ls : Array Slot) (H : Heap) (locs : List Loc) (N : mC) (f : Nat → Option Nat), i + k = n → lv_has ls 4 [(3, .int (nI i)), (2, .int (nI n)), (1, .ref ed), (0, .ref h0)] → hm G N H → (∀ q, N q ≠ none → fr M sz q) → va_S (fr M sz) s.heap H locs → N h0 = some (aC (c0 + 1, ed, 0)) → N ed = some (oA G cap f) → (∀ q, q ≠ h0 → q ≠ ed → N q = M q) → W p l e (rd 0 0 0) s m ([.ref h0] : List Value).toArray below meth c H locs 0 0 (MQ below (cQ G M sz (fun v u => v = none ∧ ls_ok G u h0 ed 0 g ∧ ∀ q, q ≠ h0 → q ≠ ed → u q = M q)) ([.ref h0] : List Value).toArray s 0 0 (fr M sz)) (F0 m 27 ls []) := by
    intro k
    induction k with
    | zero =>
      intro i ls H locs N f hik hl hM hF hS m0 me hq
      refine lv_iload_n hx hb dd_A_clear_27 rfl (lv_at hl 0 rfl) ?_
      refine lv_iload_n hx hb dd_A_clear_28 rfl (lv_at hl 1 rfl) ?_
      refine lv_icmp_ge (tgt := 42) hx hb dd_A_clear_29 (by decide) (fun _ => ?_) (fun z => absurd (nI_le (a := n) (b := i) (by omega) (by omega)) z)
      exact mw_v hx hb hr hlocks hM hF hS (Nat.zero_le _) (Nat.zero_le _) ⟨rfl, ⟨_, m0, Or.inr ⟨cap, f, me, Nat.zero_le _, h2, h1000, fun i hi => absurd hi (Nat.not_lt_zero _)⟩⟩, hq⟩ dd_A_clear_42
    | succ k ih =>
      intro i ls H locs N f hik hl hM hF hS m0 me hq
      refine lv_iload_n hx hb dd_A_clear_27 rfl (lv_at hl 0 rfl) ?_
      refine lv_iload_n hx hb dd_A_clear_28 rfl (lv_at hl 1 rfl) ?_
      refine lv_icmp_ge (tgt := 42) hx hb dd_A_clear_29 (by decide) (fun z => absurd z (nI_ge (a := i) (b := n) (by omega) (by omega))) (fun _ => ?_)
      refine lv_aload_n hx hb dd_A_clear_32 rfl (lv_at hl 2 rfl) ?_
      refine lv_iload_n hx hb dd_A_clear_33 rfl (lv_at hl 0 rfl) ?_
      refine lv_null hx hb dd_A_clear_34 ?_
      refine mg_aastN hx hb hK hM hS (hF _ (by rw [me]; exact Option.some_ne_none _)) me (vp_in_nI (show i < cap by omega) (by omega)) dd_A_clear_35 (fun H locs hM hz hS => ?_)
      obtain ⟨x1, ex1⟩ : ∃ y : Int32, y = (nI i) + 1 := ⟨_, rfl⟩
      refine lv_iinc (v := x1) (lv' := [(3, .int x1), (2, .int (nI n)), (1, .ref ed), (0, .ref h0)]) hx hb dd_A_clear_36 hl (k := 0) rfl (by rw [ex1]; rfl) (by decide) rfl (fun ls hl => ?_)
      refine lv_goto (tgt := 27) hx hb dd_A_clear_39 (by decide) ?_
      rw [ex1, nI_1] at hl
      exact ih (i + 1) ls H locs _ _ (by omega) hl hM (hF_put hF (hF _ (by rw [me]; exact Option.some_ne_none _))) hS (mp_at (oa_ne m0 me) m0) (mp_self _ _ _) (fun q q1 q2 => (mp_ne q2).trans (hq q q1 q2))
  refine lv_aload_n hx hb dd_A_clear_0 rfl (lv_at hl 0 rfl) ?_
  refine lv_dup hx hb dd_A_clear_1 rfl ?_
  refine mg_get hx hb ht ii_A hown hK hM m0 rfl 0 (by decide) wd_1_41 (u_same (ht _ wd_1_42)) rfl dd_A_clear_2 ?_
  refine lv_iconst (v := 1) hx hb dd_A_clear_5 (by decide) ?_
  refine lv_iadd hx hb dd_A_clear_6 ?_
  refine mg_put (v := .int ((a_mc (c0, ed, nI n)) + 1)) hx hb ht ii_A tt_A tt_A_ok nn_A hown hK hM hS (hF _ (by rw [m0]; exact Option.some_ne_none _)) m0 rfl 0 (by decide) wd_1_41 (u_same (ht _ wd_1_42)) (Or.inl rfl) rfl rfl rfl (Nat.le_of_ble_eq_true rfl) dd_A_clear_7 (fun H locs hM hz hoq hS => ?_)
  have hsz := hz.trans hsz
  have hM : hm G (mp_up M h0 (aC (a_s_mc (c0, ed, nI n) ((a_mc (c0, ed, nI n)) + 1)))) H := hM
  have hF : ∀ z9, (mp_up M h0 (aC (a_s_mc (c0, ed, nI n) ((a_mc (c0, ed, nI n)) + 1)))) z9 ≠ none → fr M sz z9 := hF_put hF (hF _ (by rw [m0]; exact Option.some_ne_none _))
  have m0 : (mp_up M h0 (aC (a_s_mc (c0, ed, nI n) ((a_mc (c0, ed, nI n)) + 1)))) h0 = some (aC (a_s_mc (c0, ed, nI n) ((a_mc (c0, ed, nI n)) + 1))) := mp_self _ _ _
  refine lv_aload_n hx hb dd_A_clear_10 rfl (lv_at hl 0 rfl) ?_
  refine mg_get hx hb ht ii_A hown hK hM m0 rfl 1 (by decide) wd_1_38 (fun _ h => h) rfl dd_A_clear_11 ?_
  refine lv_astore_n (lv' := [(1, .ref (a_ed (a_s_mc (c0, ed, nI n) ((a_mc (c0, ed, nI n)) + 1)))), (0, .ref h0)]) hx hb dd_A_clear_14 rfl hl (by decide) rfl (fun ls hl => ?_)
  refine lv_aload_n hx hb dd_A_clear_15 rfl (lv_at hl 1 rfl) ?_
  refine mg_get hx hb ht ii_A hown hK hM m0 rfl 2 (by decide) wd_1_39 (fun _ h => h) rfl dd_A_clear_16 ?_
  refine lv_istore_n (lv' := [(2, .int (a_sz (a_s_mc (c0, ed, nI n) ((a_mc (c0, ed, nI n)) + 1)))), (1, .ref (a_ed (a_s_mc (c0, ed, nI n) ((a_mc (c0, ed, nI n)) + 1)))), (0, .ref h0)]) hx hb dd_A_clear_19 rfl hl (by decide) rfl (fun ls hl => ?_)
  refine lv_aload_n hx hb dd_A_clear_20 rfl (lv_at hl 2 rfl) ?_
  refine lv_iconst (v := 0) hx hb dd_A_clear_21 (by decide) ?_
  refine lv_dup_x1 hx hb dd_A_clear_22 rfl rfl ?_
  refine mg_put (v := .int 0) hx hb ht ii_A tt_A tt_A_ok nn_A hown hK hM hS (hF _ (by rw [m0]; exact Option.some_ne_none _)) m0 rfl 2 (by decide) wd_1_39 (fun _ h => h) (Or.inl rfl) rfl rfl rfl (Nat.le_of_ble_eq_true rfl) dd_A_clear_23 (fun H locs hM hz hoq hS => ?_)
  have hsz := hz.trans hsz
  rw [mp_mp] at hM
  have hM : hm G (mp_up M h0 (aC (a_s_sz (a_s_mc (c0, ed, nI n) ((a_mc (c0, ed, nI n)) + 1)) 0))) H := hM
  have hF : ∀ z9, (mp_up M h0 (aC (a_s_sz (a_s_mc (c0, ed, nI n) ((a_mc (c0, ed, nI n)) + 1)) 0))) z9 ≠ none → fr M sz z9 := hF_same hF
  have m0 : (mp_up M h0 (aC (a_s_sz (a_s_mc (c0, ed, nI n) ((a_mc (c0, ed, nI n)) + 1)) 0))) h0 = some (aC (a_s_sz (a_s_mc (c0, ed, nI n) ((a_mc (c0, ed, nI n)) + 1)) 0)) := mp_self _ _ _
  refine lv_istore_n (lv' := [(3, .int 0), (2, .int (a_sz (a_s_mc (c0, ed, nI n) ((a_mc (c0, ed, nI n)) + 1)))), (1, .ref (a_ed (a_s_mc (c0, ed, nI n) ((a_mc (c0, ed, nI n)) + 1)))), (0, .ref h0)]) hx hb dd_A_clear_26 rfl hl (by decide) rfl (fun ls hl => ?_)
  exact loop n 0 ls H locs _ f (by omega) hl hM hF hS m0 (mp_at (Ne.symm hne) me) (fun q q1 q2 => mp_ne q1)

set_option maxHeartbeats 4000000 in
set_option maxRecDepth 100000 in
theorem cc_A_clear_e {l : Launch} {G : gC} {M : mC} {sz : Nat} {h0 ed : Nat} {c0 : Int32} {g : Nat → Nat} (m0 : M h0 = some (aC (c0, ed, nI 0))) (he : ed = G.2.2.2.1) : cW l yy_A_clear bb_A_clear 4 none 0 0 0 G M sz [.ref h0] (fun v u => v = none ∧ ls_ok G u h0 ed 0 g ∧ ∀ q, q ≠ h0 → q ≠ ed → u q = M q) := by
  refine me_W (by decide) (Nat.le_of_ble_eq_true rfl) ?_
  intro p e s m below meth c ls hx hb hr hlocks hml hown hname ht hsz hM hK hZ hl
  have hown : s.vm.findClass RR_A = some m.cls := hown
  have hl : lv_has ls 4 [(0, .ref h0)] := hl
  have hS : va_S (fr M sz) s.heap s.heap [] := va_S.rf
  have hF : ∀ q, M q ≠ none → fr M sz q := fr_M
  have hA : ∀ q, s.heap.size ≤ q → fr M sz q := fun q h => fr_A q (by rw [← hsz]; exact h)
  refine lv_aload_n hx hb dd_A_clear_0 rfl (lv_at hl 0 rfl) ?_
  refine lv_dup hx hb dd_A_clear_1 rfl ?_
  refine mg_get hx hb ht ii_A hown hK hM m0 rfl 0 (by decide) wd_1_41 (u_same (ht _ wd_1_42)) rfl dd_A_clear_2 ?_
  refine lv_iconst (v := 1) hx hb dd_A_clear_5 (by decide) ?_
  refine lv_iadd hx hb dd_A_clear_6 ?_
  refine mg_put (v := .int ((a_mc (c0, ed, nI 0)) + 1)) hx hb ht ii_A tt_A tt_A_ok nn_A hown hK hM hS (hF _ (by rw [m0]; exact Option.some_ne_none _)) m0 rfl 0 (by decide) wd_1_41 (u_same (ht _ wd_1_42)) (Or.inl rfl) rfl rfl rfl (Nat.le_of_ble_eq_true rfl) dd_A_clear_7 (fun H locs hM hz hoq hS => ?_)
  have hsz := hz.trans hsz
  have hM : hm G (mp_up M h0 (aC (a_s_mc (c0, ed, nI 0) ((a_mc (c0, ed, nI 0)) + 1)))) H := hM
  have hF : ∀ z9, (mp_up M h0 (aC (a_s_mc (c0, ed, nI 0) ((a_mc (c0, ed, nI 0)) + 1)))) z9 ≠ none → fr M sz z9 := hF_put hF (hF _ (by rw [m0]; exact Option.some_ne_none _))
  have m0 : (mp_up M h0 (aC (a_s_mc (c0, ed, nI 0) ((a_mc (c0, ed, nI 0)) + 1)))) h0 = some (aC (a_s_mc (c0, ed, nI 0) ((a_mc (c0, ed, nI 0)) + 1))) := mp_self _ _ _
  refine lv_aload_n hx hb dd_A_clear_10 rfl (lv_at hl 0 rfl) ?_
  refine mg_get hx hb ht ii_A hown hK hM m0 rfl 1 (by decide) wd_1_38 (fun _ h => h) rfl dd_A_clear_11 ?_
  refine lv_astore_n (lv' := [(1, .ref (a_ed (a_s_mc (c0, ed, nI 0) ((a_mc (c0, ed, nI 0)) + 1)))), (0, .ref h0)]) hx hb dd_A_clear_14 rfl hl (by decide) rfl (fun ls hl => ?_)
  refine lv_aload_n hx hb dd_A_clear_15 rfl (lv_at hl 1 rfl) ?_
  refine mg_get hx hb ht ii_A hown hK hM m0 rfl 2 (by decide) wd_1_39 (fun _ h => h) rfl dd_A_clear_16 ?_
  refine lv_istore_n (lv' := [(2, .int (a_sz (a_s_mc (c0, ed, nI 0) ((a_mc (c0, ed, nI 0)) + 1)))), (1, .ref (a_ed (a_s_mc (c0, ed, nI 0) ((a_mc (c0, ed, nI 0)) + 1)))), (0, .ref h0)]) hx hb dd_A_clear_19 rfl hl (by decide) rfl (fun ls hl => ?_)
  refine lv_aload_n hx hb dd_A_clear_20 rfl (lv_at hl 2 rfl) ?_
  refine lv_iconst (v := 0) hx hb dd_A_clear_21 (by decide) ?_
  refine lv_dup_x1 hx hb dd_A_clear_22 rfl rfl ?_
  refine mg_put (v := .int 0) hx hb ht ii_A tt_A tt_A_ok nn_A hown hK hM hS (hF _ (by rw [m0]; exact Option.some_ne_none _)) m0 rfl 2 (by decide) wd_1_39 (fun _ h => h) (Or.inl rfl) rfl rfl rfl (Nat.le_of_ble_eq_true rfl) dd_A_clear_23 (fun H locs hM hz hoq hS => ?_)
  have hsz := hz.trans hsz
  rw [mp_mp] at hM
  have hM : hm G (mp_up M h0 (aC (a_s_sz (a_s_mc (c0, ed, nI 0) ((a_mc (c0, ed, nI 0)) + 1)) 0))) H := hM
  have hF : ∀ z9, (mp_up M h0 (aC (a_s_sz (a_s_mc (c0, ed, nI 0) ((a_mc (c0, ed, nI 0)) + 1)) 0))) z9 ≠ none → fr M sz z9 := hF_same hF
  have m0 : (mp_up M h0 (aC (a_s_sz (a_s_mc (c0, ed, nI 0) ((a_mc (c0, ed, nI 0)) + 1)) 0))) h0 = some (aC (a_s_sz (a_s_mc (c0, ed, nI 0) ((a_mc (c0, ed, nI 0)) + 1)) 0)) := mp_self _ _ _
  refine lv_istore_n (lv' := [(3, .int 0), (2, .int (a_sz (a_s_mc (c0, ed, nI 0) ((a_mc (c0, ed, nI 0)) + 1)))), (1, .ref (a_ed (a_s_mc (c0, ed, nI 0) ((a_mc (c0, ed, nI 0)) + 1)))), (0, .ref h0)]) hx hb dd_A_clear_26 rfl hl (by decide) rfl (fun ls hl => ?_)
  refine lv_iload_n hx hb dd_A_clear_27 rfl (lv_at hl 0 rfl) ?_
  refine lv_iload_n hx hb dd_A_clear_28 rfl (lv_at hl 1 rfl) ?_
  refine lv_icmp_ge (tgt := 42) hx hb dd_A_clear_29 (by decide) (fun _ => ?_) (fun z => absurd (show nI 0 ≤ 0 by decide) z)
  exact mw_v hx hb hr hlocks hM hF hS (Nat.zero_le _) (Nat.zero_le _) ⟨rfl, ⟨_, mp_self _ _ _, Or.inl ⟨rfl, he⟩⟩, fun q q1 q2 => mp_ne q1⟩ dd_A_clear_42

theorem cc_A_clear {l : Launch} {G : gC} {M : mC} {sz a ed n : Nat} {g g' : Nat → Nat} (hL : ls_ok G M a ed n g) : cW l yy_A_clear bb_A_clear 4 none 0 0 0 G M sz [.ref a] (fun v u => v = none ∧ ls_ok G u a ed 0 g' ∧ ∀ q, q ≠ a → q ≠ ed → u q = M q) := by
  obtain ⟨c, m0, ⟨rfl, he⟩ | ⟨cap, f, me, hcap, h2, h1000, hf⟩⟩ := hL
  · exact cc_A_clear_e m0 he
  · exact cc_A_clear_f m0 me hcap h2 h1000
theorem ls_size {l : Launch} {G : gC} {M : mC} {a ed n : Nat} {g : Nat → Nat} (hL : ls_ok G M a ed n g) : cR l yy_A_size bb_A_size 1 (some .int) 0 G M [.ref a] (.int (nI n)) := by
  obtain ⟨c, m0, -⟩ := hL
  exact cc_A_size m0
theorem ls_get {l : Launch} {G : gC} {M : mC} {a ed n i : Nat} {g : Nat → Nat} (hL : ls_ok G M a ed n g) (hi : i < n) : cR l yy_A_get bb_A_get 2 (some (.object "java/lang/Object")) 2 G M [.ref a, .int (nI i)] (.ref (g i)) := by
  obtain ⟨c, m0, ⟨rfl, -⟩ | ⟨cap, f, me, hcap, h2, h1000, hf⟩⟩ := hL
  · omega
  · have h := cc_A_get (l := l) (i := nI i) m0 me (vp_in_nI (by omega) (by omega)) (nI_pos (by omega)) (nI_lt hi (by omega))
    rw [nI_clamp (by omega), hf i hi] at h
    exact h
