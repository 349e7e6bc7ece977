/-! BOTH SIDES: the class's map X and the reference's map Y hold the same text, behind n calls -/
def kA (kn : Bool) (nn : Nat) (N : Nat → nR) (ca : Nat → Option Nat) (I : Nat → Nat → Int32) (mv mo : Int32) : Prop := kn = true → (∀ j, j < nn → I 15 j = n_vt (N j) ∧ I 16 j = n_bb (N j) ∧ I 17 j = c_num (ca j)) ∧ mv = mo
def lwS (G : gC) (X Y : mC) (x y n : Nat) : Prop := ∃ (ld ln ed en nd nn b : Nat) (aD aN : Nat → Nat) (D : Nat → dR) (N : Nat → nR) (pn : Nat → Nat → Int64) (pt : Nat → Nat → Int32) (np bg ho : Nat → Nat) (pa ca op : Nat → Option Nat) (P Q F : Nat → Nat) (kn : Bool) (ft fn mv mo th : Int32) (I : Nat → Nat → Int32) (J : Nat → Nat → Int64) (Z : Nat → Int32),
  rp G X x ld ln ed en nd nn aD aN D N pn pt kn ft fn mv ∧ rm G Y y b nd nn I J Z kn ft fn mo th ∧ tD nd D pn pt np bg I J Z ∧ tN nd nn N ho pa I J ∧ vS nd nn aD aN D N pt np bg ho pa ca op P Q F ∧ kA kn nn N ca I mv mo ∧ nn ≤ n
theorem tD_D {nd : Nat} {D D' : Nat → dR} {pn : Nat → Nat → Int64} {pt : Nat → Nat → Int32} {np bg : Nat → Nat} {I : Nat → Nat → Int32} {J : Nat → Nat → Int64} {Z : Nat → Int32} (h : tD nd D pn pt np bg I J Z) (e : ∀ i, i < nd → d_chg (D' i) = d_chg (D i) ∧ d_nm (D' i) = d_nm (D i) ∧ d_vt (D' i) = d_vt (D i) ∧ d_np (D' i) = d_np (D i)) : tD nd D' pn pt np bg I J Z := by
  intro i hi
  obtain ⟨e1, e2, e3, e4⟩ := e i hi
  rw [e1, e2, e3, e4]
  exact h i hi
theorem tN_N {nd nn : Nat} {N N' : Nat → nR} {ho : Nat → Nat} {pa : Nat → Option Nat} {I : Nat → Nat → Int32} {J : Nat → Nat → Int64} (h : tN nd nn N ho pa I J) (hs : sN N N') : tN nd nn N' ho pa I J := by
  intro j hj
  obtain ⟨s1, s2, s3, s4, s5, s6, s7, s8, s9⟩ := hs j
  rw [s4, s5, s6, s7, s8, s9]
  exact h j hj
theorem kn_ix {kn : Bool} {k : Int32} {nn j : Nat} (h : c_kn kn k nn = some j) (hn : nn ≤ 600) : kn = true ∧ j < nn := by
  unfold c_kn at h
  split at h
  · exact ⟨by assumption, c_idx_lt h hn⟩
  · cases h
theorem val_cg {o : Option Nat} {f g : Nat → Int32} (h : ∀ j, o = some j → f j = g j) : c_val o f = c_val o g := by
  cases o with
  | none => rfl
  | some j => exact h j rfl
theorem look_cg {w : Int32} {nd nn : Nat} {ft fn : Int32} {wh kn : Bool} {mv mo : Int32} (h : kn = true → mv = mo) : c_look w nd nn ft fn wh kn mo = c_look w nd nn ft fn wh kn mv := by
  cases kn with
  | false => rfl
  | true => rw [h rfl]
theorem kA_no {nn : Nat} {N : Nat → nR} {ca : Nat → Option Nat} {I : Nat → Nat → Int32} {mv mo : Int32} : kA false nn N ca I mv mo := fun z => by cases z
section STEP
variable {G : gC} {X Y : mC} {x y n : Nat}
theorem lwS_n {m : Nat} (h : lwS G X Y x y n) (hm : n ≤ m) : lwS G X Y x y m := by
  obtain ⟨ld, ln, ed, en, nd, nn, b, aD, aN, D, N, pn, pt, np, bg, ho, pa, ca, op, P, Q, F, kn, ft, fn, mv, mo, th, I, J, Z, hR, hM, hD, hN, hV, hA, hn⟩ := h
  exact ⟨ld, ln, ed, en, nd, nn, b, aD, aN, D, N, pn, pt, np, bg, ho, pa, ca, op, P, Q, F, kn, ft, fn, mv, mo, th, I, J, Z, hR, hM, hD, hN, hV, hA, by omega⟩
theorem st_init {ld ln b : Nat} {aD aN : Nat → Nat} {D : Nat → dR} {N : Nat → nR} {pn : Nat → Nat → Int64} {pt : Nat → Nat → Int32} (h1 : rp G X x ld ln G.2.2.2.1 G.2.2.2.1 0 0 aD aN D N pn pt false 0 (-1) 0) (h2 : rm G Y y b 0 0 (fun _ _ => 0) (fun _ _ => 0) (fun _ => 0) false 0 (-1) 0 0) : lwS G X Y x y 0 :=
  ⟨ld, ln, _, _, 0, 0, b, aD, aN, D, N, pn, pt, fun _ => 0, fun _ => 0, fun _ => 0, fun _ => none, fun _ => none, fun _ => none, fun _ => 0, fun _ => 0, fun _ => 0, false, 0, -1, 0, 0, 0, _, _, _, h1, h2, fun i hi => absurd hi (Nat.not_lt_zero _), fun j hj => absurd hj (Nat.not_lt_zero _), vS_0, kA_no, Nat.le_refl _⟩
theorem st_clear (h : lwS G X Y x y n) : ∃ p1 p2 : Option Value → mC → Prop, (∀ l sz, cW l yy_L_clear bb_L_clear 1 none 1 0 0 G X sz [.ref x] p1) ∧ (∀ l sz, cW l yy_M_clear bb_M_clear 1 none 1 8 4000 G Y sz [.ref y] p2) ∧ ∀ v u, p1 v u → v = none ∧ ∀ w t, p2 w t → w = none ∧ lwS G u t x y (n + 1) := by
  obtain ⟨ld, ln, ed, en, nd, nn, b, aD, aN, D, N, pn, pt, np, bg, ho, pa, ca, op, P, Q, F, kn, ft, fn, mv, mo, th, I, J, Z, hR, hM, hD, hN, hV, hA, hn⟩ := h
  refine ⟨_, _, fun l sz => cc_L_clear hR (bD := aD) (bN := aN) (D' := D) (N' := N) (pn' := pn) (pt' := pt), fun l sz => cc_M_clear hM, fun v u h1 => ⟨h1.1, fun w t h2 => ⟨h2.1, ?_⟩⟩⟩
  exact ⟨ld, ln, ed, en, 0, 0, b, aD, aN, D, N, pn, pt, np, bg, ho, pa, ca, op, P, Q, F, false, 0, -1, 0, mo, 0, I, J, Z, h1.2, h2.2, fun i hi => absurd hi (Nat.not_lt_zero _), fun j hj => absurd hj (Nat.not_lt_zero _), vS_0, kA_no, Nat.zero_le _⟩
theorem st_define (h : lwS G X Y x y n) (chg : Bool) (nm : Int64) (ty : Int32) : ∃ p1 p2 : Option Value → mC → Prop, (∀ l sz, cW l yy_L_define bb_L_define 7 (some .int) 7 8 4000 G X sz [.ref x, .int (bI chg), .long nm, .int ty] p1) ∧ (∀ l sz, cW l yy_M_define bb_M_define 7 (some .int) 3 8 4000 G Y sz [.ref y, .int (bI chg), .long nm, .int ty] p2) ∧ ∀ v u, p1 v u → ∃ a, v = some (.int a) ∧ ∀ w t, p2 w t → w = some (.int a) ∧ lwS G u t x y (n + 1) := by
  obtain ⟨ld, ln, ed, en, nd, nn, b, aD, aN, D, N, pn, pt, np, bg, ho, pa, ca, op, P, Q, F, kn, ft, fn, mv, mo, th, I, J, Z, hR, hM, hD, hN, hV, hA, hn⟩ := h
  refine ⟨_, _, fun l sz => cc_L_define hR (chg := chg) (nm := nm) (ty := ty), fun l sz => cc_M_define hM hD hN (d9 := (nI nd, chg, nm, ty, 0, 0, 0, false, none)) (f9 := fun _ => 0) (g9 := fun _ => 0) rfl rfl rfl rfl, fun v u h1 => ?_⟩
  rcases h1 with ⟨c1, c2, c3⟩ | ⟨c1, c2, a9, b9, c9, ed', c3⟩
  · refine ⟨-1, c2, fun w t h2 => ?_⟩
    rw [defOk_eq hV] at h2
    rcases h2 with ⟨-, r2, r3⟩ | ⟨r1, -⟩
    · rw [c3]
      exact ⟨r2, ld, ln, ed, en, nd, nn, b, aD, aN, D, N, pn, pt, np, bg, ho, pa, ca, op, P, Q, F, kn, ft, fn, mv, mo, 0, I, J, Z, hR, r3, hD, hN, hV, hA, by omega⟩
    · rw [c1] at r1; cases r1
  · refine ⟨nI nd, c2, fun w t h2 => ?_⟩
    rw [defOk_eq hV] at h2
    rcases h2 with ⟨r1, -⟩ | ⟨-, r2, I', J', Z', r3, r4, r5⟩
    · rw [c1] at r1; cases r1
    · refine ⟨r2, ld, ln, ed', en, nd + 1, nn, b, _, aN, _, N, _, _, _, _, ho, pa, ca, va_up op nd none, P, Q, F, false, ft, fn, mv, mo, 0, I', J', Z', c3, r3, tD_D r4 (fun i hi => ?_), r5, vS_def hV c1, kA_no, by omega⟩
      by_cases e : i = nd
      · subst e; rw [va_up_self, va_up_self]; exact ⟨rfl, rfl, rfl, rfl⟩
      · rw [va_up_ne _ _ e, va_up_ne _ _ e]; exact ⟨rfl, rfl, rfl, rfl⟩
theorem st_parameter (h : lwS G X Y x y n) (nm : Int64) (ty : Int32) : ∃ p1 p2 : Option Value → mC → Prop, (∀ l sz, cW l yy_L_parameter bb_L_parameter 5 (some .int) 4 8 4000 G X sz [.ref x, .long nm, .int ty] p1) ∧ (∀ l sz, cW l yy_M_parameter bb_M_parameter 6 (some .int) 3 8 4000 G Y sz [.ref y, .long nm, .int ty] p2) ∧ ∀ v u, p1 v u → ∃ a, v = some (.int a) ∧ ∀ w t, p2 w t → w = some (.int a) ∧ lwS G u t x y (n + 1) := by
  obtain ⟨ld, ln, ed, en, nd, nn, b, aD, aN, D, N, pn, pt, np, bg, ho, pa, ca, op, P, Q, F, kn, ft, fn, mv, mo, th, I, J, Z, hR, hM, hD, hN, hV, hA, hn⟩ := h
  cases nd with
  | zero =>
    refine ⟨_, _, fun l sz => cc_L_parameter_n hR (nm := nm) (ty := ty), fun l sz => cc_M_parameter_n hM hD hN (nm := nm) (ty := ty), fun v u h1 => ?_⟩
    rw [h1.2]
    exact ⟨-1, h1.1, fun w t h2 => ⟨h2.1, ld, ln, ed, en, 0, nn, b, aD, aN, D, N, pn, pt, np, bg, ho, pa, ca, op, P, Q, F, kn, ft, fn, mv, mo, 0, I, J, Z, hR, h2.2, hD, hN, hV, hA, by omega⟩⟩
  | succ k =>
    obtain ⟨d1, d2, -, -⟩ := hV.2.2.2.1 k (Nat.lt_succ_self k)
    refine ⟨_, _, fun l sz => cc_L_parameter_s hR (nm := nm) (ty := ty) d1 d2, fun l sz => cc_M_parameter_s hM hD hN (nm := nm) (ty := ty), fun v u h1 => ?_⟩
    rcases h1 with ⟨c1, c2, c3⟩ | ⟨c1, c2, c3⟩
    · refine ⟨-1, c2, fun w t h2 => ?_⟩
      rw [parOk_eq hV] at h2
      rcases h2 with ⟨-, r2, r3⟩ | ⟨r1, -⟩
      · rw [c3]
        exact ⟨r2, ld, ln, ed, en, k + 1, nn, b, aD, aN, D, N, pn, pt, np, bg, ho, pa, ca, op, P, Q, F, kn, ft, fn, mv, mo, 0, I, J, Z, hR, r3, hD, hN, hV, hA, by omega⟩
      · rw [c1] at r1; cases r1
    · refine ⟨_, c2, fun w t h2 => ?_⟩
      rw [parOk_eq hV] at h2
      rcases h2 with ⟨r1, -⟩ | ⟨-, r2, I', J', r3, r4, r5⟩
      · rw [c1] at r1; cases r1
      · exact ⟨r2, ld, ln, ed, en, k + 1, nn, b, aD, aN, _, N, _, _, _, bg, ho, pa, ca, op, P, Q, F, false, ft, fn, mv, mo, 0, I', J', Z, c3, r3, r4, r5, vS_par hV c1, kA_no, by omega⟩
theorem st_node (h : lwS G X Y x y n) (hn6 : n < 600) (kd : Int32) (fi se : Int64) (pts : Int32) : ∃ p1 p2 : Option Value → mC → Prop, (∀ l sz, cW l yy_L_node bb_L_node 9 (some .int) 7 8 4000 G X sz [.ref x, .int kd, .long fi, .long se, .int pts] p1) ∧ (∀ l sz, cW l yy_M_node bb_M_node 12 (some .int) 3 8 4000 G Y sz [.ref y, .int kd, .long fi, .long se, .int pts] p2) ∧ ∀ v u, p1 v u → ∃ a, v = some (.int a) ∧ ∀ w t, p2 w t → w = some (.int a) ∧ lwS G u t x y (n + 1) := by
  obtain ⟨ld, ln, ed, en, nd, nn, b, aD, aN, D, N, pn, pt, np, bg, ho, pa, ca, op, P, Q, F, kn, ft, fn, mv, mo, th, I, J, Z, hR, hM, hD, hN, hV, hA, hn⟩ := h
  cases nd with
  | zero =>
    refine ⟨_, _, fun l sz => cc_L_node_n hR (kd := kd) (fi := fi) (se := se) (pts := pts), fun l sz => cc_M_node_n hM hD hN (kd := kd) (fi := fi) (se := se) (pts := pts), fun v u h1 => ?_⟩
    rw [h1.2]
    exact ⟨-1, h1.1, fun w t h2 => ⟨h2.1, ld, ln, ed, en, 0, nn, b, aD, aN, D, N, pn, pt, np, bg, ho, pa, ca, op, P, Q, F, kn, ft, fn, mv, mo, 0, I, J, Z, hR, h2.2, hD, hN, hV, hA, by omega⟩⟩
  | succ k =>
    have hnn : nn < 600 := by omega
    have hl := vS_lack hV
    have hsl := slot_eq hV
    refine ⟨_, _, fun l sz => cc_L_node_s hR hV.1 hnn (kd := kd) (fi := fi) (se := se) (pts := pts), fun l sz => cc_M_node_s hM hD hN (kd := kd) (fi := fi) (se := se) (pts := pts) (r9 := c_new nn (aD k) (d_op (D k)) (d_slot (D k) (N ((op k).getD 0))) kd fi se pts) hnn rfl rfl rfl rfl (by rw [hl, hsl]) rfl, fun v u h1 => ?_⟩
    rcases h1 with ⟨c1, c2, c3⟩ | ⟨c1, c2, a9, en', c3⟩
    · refine ⟨-1, c2, fun w t h2 => ?_⟩
      rw [nodeOk_eq hV, hl] at h2
      rcases h2 with ⟨-, r2, r3⟩ | ⟨r1, -⟩
      · rw [c3]
        exact ⟨r2, ld, ln, ed, en, k + 1, nn, b, aD, aN, D, N, pn, pt, np, bg, ho, pa, ca, op, P, Q, F, kn, ft, fn, mv, mo, 0, I, J, Z, hR, r3, hD, hN, hV, hA, by omega⟩
      · rw [c1] at r1; cases r1
    · refine ⟨_, c2, fun w t h2 => ?_⟩
      rw [nodeOk_eq hV, hl] at h2
      rcases h2 with ⟨r1, -⟩ | ⟨-, r2, I', J', r3, r4, r5⟩
      · rw [c1] at r1; cases r1
      · obtain ⟨p9, hV'⟩ := vS_node hV hnn c1 (a := a9) rfl rfl rfl
        refine ⟨r2, ld, ln, ed, en', k + 1, nn + 1, b, aD, _, _, _, pn, pt, np, bg, _, _, _, _, _, _, _, false, ft, fn, mv, mo, 0, I', J', Z, c3, r3, tD_D r4 (fun i hi => ?_), r5, hV', kA_no, by omega⟩
        by_cases e : i = k
        · subst e; rw [va_up_self]; exact ⟨rfl, rfl, rfl, rfl⟩
        · rw [va_up_ne _ _ e]; exact ⟨rfl, rfl, rfl, rfl⟩
theorem st_check (h : lwS G X Y x y n) : ∃ p1 p2 : Option Value → mC → Prop, (∀ l sz, cW l yy_L_check bb_L_check 1 (some .int) 7 8 4000 G X sz [.ref x] p1) ∧ (∀ l sz, cW l yy_M_check bb_M_check 3 (some .int) 4 8 4000 G Y sz [.ref y] p2) ∧ ∀ v u, p1 v u → ∃ a, v = some (.int a) ∧ ∀ w t, p2 w t → w = some (.int a) ∧ lwS G u t x y (n + 1) := by
  obtain ⟨ld, ln, ed, en, nd, nn, b, aD, aN, D, N, pn, pt, np, bg, ho, pa, ca, op, P, Q, F, kn, ft, fn, mv, mo, th, I, J, Z, hR, hM, hD, hN, hV, hA, hn⟩ := h
  have hM' : rm G Y y b nd nn (mI I (I 15) (I 16) (I 17)) J Z kn ft fn mo th := by rw [mI_id]; exact hM
  have hw := vS_whole hV
  refine ⟨_, _, fun l sz => cc_L_check hR hV.1, fun l sz => cc_M_check hM' hD hN (fun z => vW_SS (vS_vW hV (hw.trans z))), fun v u h1 => ?_⟩
  rcases h1 with ⟨c1, c2, c3⟩ | ⟨c1, c2, c3⟩
  · refine ⟨-1, c2, fun w t h2 => ?_⟩
    rw [← hw] at h2
    rcases h2 with ⟨-, r2, r3⟩ | ⟨r1, -⟩
    · rw [mI_id] at r3
      rw [c3]
      exact ⟨r2, ld, ln, ed, en, nd, nn, b, aD, aN, D, N, pn, pt, np, bg, ho, pa, ca, op, P, Q, F, kn, ft, fn, mv, mo, 0, I, J, Z, hR, r3, hD, hN, hV, hA, by omega⟩
    · rw [c1] at r1; cases r1
  · have hI' := rl_lookAll (nd := nd) (nn := nn) (aD := aD) (aN := aN) (D := D) (pn := pn) (pt := pt) (ho := ho) (pa := pa) (op := op) (z := (N, ca, 0, -1, 0)) hV.1
    have hE := chk_eq (aD := aD) (pn := pn) (op := op) (vS_vW hV c1) hV.1 hV.2.2.2.2.2.1 (T := I 15) (B := I 16) (C := I 17) rfl rfl
    refine ⟨_, c2, fun w t h2 => ?_⟩
    rw [← hw] at h2
    rcases h2 with ⟨r1, -⟩ | ⟨-, r2, r3⟩
    · rw [c1] at r1; cases r1
    · obtain ⟨zc, hzc⟩ : ∃ z, z = c_lookAll nd aD D pn pt ho pa nn (N, ca, 0, -1, 0) := ⟨_, rfl⟩
      obtain ⟨zr, hzr⟩ : ∃ z, z = m_check nd D N pa pn pt np ho nn (I 15) (I 16) (I 17) := ⟨_, rfl⟩
      rw [← hzc] at c3 hI' hE ⊢
      rw [← hzr] at r2 r3 hE
      obtain ⟨e1, e2, e3, e4, e5⟩ := hE
      rw [← e1] at r2
      rw [← e1, ← e2] at r3
      refine ⟨r2, ld, ln, ed, en, nd, nn, b, aD, aN, D, zc.1, pn, pt, np, bg, ho, pa, zc.2.1, op, P, Q, F, _, _, _, _, _, 0, _, J, Z, c3, r3, tD_cg hD rfl rfl rfl rfl rfl rfl, tN_cg (tN_N hN e4) (Nat.le_refl _) rfl rfl rfl rfl rfl rfl rfl rfl, vS_chk hV hI' e3 e4, fun z => ?_, by omega⟩
      obtain ⟨g1, g2⟩ := e5 (of_decide_eq_true z)
      exact ⟨fun j hj => g1 j hj, g2⟩
theorem st_type (h : lwS G X Y x y n) (k : Int32) : ∃ (a : Int32) (p2 : Option Value → mC → Prop), (∀ l, cR l yy_L_type bb_L_type 3 (some .int) 5 G X [.ref x, .int k] (.int a)) ∧ (∀ l sz, cW l yy_M_type bb_M_type 2 (some .int) 1 8 4000 G Y sz [.ref y, .int k] p2) ∧ ∀ w t, p2 w t → w = some (.int a) ∧ lwS G X t x y (n + 1) := by
  obtain ⟨ld, ln, ed, en, nd, nn, b, aD, aN, D, N, pn, pt, np, bg, ho, pa, ca, op, P, Q, F, kn, ft, fn, mv, mo, th, I, J, Z, hR, hM, hD, hN, hV, hA, hn⟩ := h
  refine ⟨_, _, fun l => cc_L_type hR, fun l sz => cc_M_type hM, fun w t h2 => ⟨?_, ld, ln, ed, en, nd, nn, b, aD, aN, D, N, pn, pt, np, bg, ho, pa, ca, op, P, Q, F, kn, ft, fn, mv, mo, 0, I, J, Z, hR, h2.2, hD, hN, hV, hA, by omega⟩⟩
  rw [h2.1]
  congr 2
  exact val_cg (fun j hj => by
    obtain ⟨g1, g2⟩ := kn_ix hj hV.2.2.2.2.2.2.2.1
    exact ((hA g1).1 j g2).1)
theorem st_binder (h : lwS G X Y x y n) (k : Int32) : ∃ (a : Int32) (p2 : Option Value → mC → Prop), (∀ l, cR l yy_L_binder bb_L_binder 3 (some .int) 5 G X [.ref x, .int k] (.int a)) ∧ (∀ l sz, cW l yy_M_binder bb_M_binder 2 (some .int) 1 8 4000 G Y sz [.ref y, .int k] p2) ∧ ∀ w t, p2 w t → w = some (.int a) ∧ lwS G X t x y (n + 1) := by
  obtain ⟨ld, ln, ed, en, nd, nn, b, aD, aN, D, N, pn, pt, np, bg, ho, pa, ca, op, P, Q, F, kn, ft, fn, mv, mo, th, I, J, Z, hR, hM, hD, hN, hV, hA, hn⟩ := h
  refine ⟨_, _, fun l => cc_L_binder hR, fun l sz => cc_M_binder hM, fun w t h2 => ⟨?_, ld, ln, ed, en, nd, nn, b, aD, aN, D, N, pn, pt, np, bg, ho, pa, ca, op, P, Q, F, kn, ft, fn, mv, mo, 0, I, J, Z, hR, h2.2, hD, hN, hV, hA, by omega⟩⟩
  rw [h2.1]
  congr 2
  exact val_cg (fun j hj => by
    obtain ⟨g1, g2⟩ := kn_ix hj hV.2.2.2.2.2.2.2.1
    exact ((hA g1).1 j g2).2.1)
theorem st_target (h : lwS G X Y x y n) (k : Int32) : ∃ (a : Int32) (p2 : Option Value → mC → Prop), (∀ l, cR l yy_L_target bb_L_target 3 (some .int) 5 G X [.ref x, .int k] (.int a)) ∧ (∀ l sz, cW l yy_M_target bb_M_target 2 (some .int) 1 8 4000 G Y sz [.ref y, .int k] p2) ∧ ∀ w t, p2 w t → w = some (.int a) ∧ lwS G X t x y (n + 1) := by
  obtain ⟨ld, ln, ed, en, nd, nn, b, aD, aN, D, N, pn, pt, np, bg, ho, pa, ca, op, P, Q, F, kn, ft, fn, mv, mo, th, I, J, Z, hR, hM, hD, hN, hV, hA, hn⟩ := h
  refine ⟨_, _, fun l => cc_L_target hR hV.1, fun l sz => cc_M_target hM, fun w t h2 => ⟨?_, ld, ln, ed, en, nd, nn, b, aD, aN, D, N, pn, pt, np, bg, ho, pa, ca, op, P, Q, F, kn, ft, fn, mv, mo, 0, I, J, Z, hR, h2.2, hD, hN, hV, hA, by omega⟩⟩
  rw [h2.1]
  congr 2
  exact val_cg (fun j hj => by
    obtain ⟨g1, g2⟩ := kn_ix hj hV.2.2.2.2.2.2.2.1
    exact ((hA g1).1 j g2).2.2)
theorem st_of (h : lwS G X Y x y n) (k w9 : Int32) : ∃ (a : Int32) (p2 : Option Value → mC → Prop), (∀ l, cR l yy_L_of bb_L_of 4 (some .int) 4 G X [.ref x, .int k, .int w9] (.int a)) ∧ (∀ l sz, cW l yy_M_of bb_M_of 3 (some .int) 1 8 4000 G Y sz [.ref y, .int k, .int w9] p2) ∧ ∀ w t, p2 w t → w = some (.int a) ∧ lwS G X t x y (n + 1) := by
  obtain ⟨ld, ln, ed, en, nd, nn, b, aD, aN, D, N, pn, pt, np, bg, ho, pa, ca, op, P, Q, F, kn, ft, fn, mv, mo, th, I, J, Z, hR, hM, hD, hN, hV, hA, hn⟩ := h
  exact ⟨_, _, fun l => cc_L_of hR hV.1, fun l sz => cc_M_of hM hD hN, fun w t h2 => ⟨h2.1, ld, ln, ed, en, nd, nn, b, aD, aN, D, N, pn, pt, np, bg, ho, pa, ca, op, P, Q, F, kn, ft, fn, mv, mo, 0, I, J, Z, hR, h2.2, hD, hN, hV, hA, by omega⟩⟩
theorem st_look (h : lwS G X Y x y n) (w9 : Int32) : ∃ (a : Int32) (p2 : Option Value → mC → Prop), (∀ l, cR l yy_L_look bb_L_look 2 (some .int) 5 G X [.ref x, .int w9] (.int a)) ∧ (∀ l sz, cW l yy_M_look bb_M_look 2 (some .int) 2 8 4000 G Y sz [.ref y, .int w9] p2) ∧ ∀ w t, p2 w t → w = some (.int a) ∧ lwS G X t x y (n + 1) := by
  obtain ⟨ld, ln, ed, en, nd, nn, b, aD, aN, D, N, pn, pt, np, bg, ho, pa, ca, op, P, Q, F, kn, ft, fn, mv, mo, th, I, J, Z, hR, hM, hD, hN, hV, hA, hn⟩ := h
  refine ⟨_, _, fun l => cc_L_look hR, fun l sz => cc_M_look hM hD hN, fun w t h2 => ⟨?_, ld, ln, ed, en, nd, nn, b, aD, aN, D, N, pn, pt, np, bg, ho, pa, ca, op, P, Q, F, kn, ft, fn, mv, mo, 0, I, J, Z, hR, h2.2, hD, hN, hV, hA, by omega⟩⟩
  rw [h2.1, ← vS_whole hV, look_cg (fun z => (hA z).2)]
theorem lwS_x (h : lwS G X Y x y n) : ∃ fs, X x = some (.inr (0, fs)) := by
  obtain ⟨ld, ln, ed, en, nd, nn, b, aD, aN, D, N, pn, pt, np, bg, ho, pa, ca, op, P, Q, F, kn, ft, fn, mv, mo, th, I, J, Z, hR, hM, -⟩ := h
  exact ⟨_, hR.1⟩
theorem lwS_y (h : lwS G X Y x y n) : ∃ fs, Y y = some (.inr (4, fs)) := by
  obtain ⟨ld, ln, ed, en, nd, nn, b, aD, aN, D, N, pn, pt, np, bg, ho, pa, ca, op, P, Q, F, kn, ft, fn, mv, mo, th, I, J, Z, hR, hM, -⟩ := h
  exact ⟨_, hM.2.1⟩
end STEP
