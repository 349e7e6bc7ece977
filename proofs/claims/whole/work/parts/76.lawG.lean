/-! what the Statement gives of the start: the classes' tables, the array classes, the statics that are read -/
theorem law_arr {args : Array Value} {s : State} {ty : FieldType} (h : (Cond.arrayClass ty).before args s = true) (hr : ∀ cA, s.vm.findClass ("[" ++ ty.toString) = some cA → va_RA s cA ty) : ∃ cA, ArrOfT s cA ty ∧ va_RA s cA ty := by
  obtain ⟨cA, kA, comp, h1, h2, h3⟩ := Cond.arrayClass_spec h
  exact ⟨cA, fun n z => ⟨fun k h => (by cases h), kA, h2, comp, h3⟩, hr cA h1⟩
theorem law_parts {args : Array Value} {s : State} (hgv : (Jvm.Cond.and given_1 narrow_1).before args s = true) : ∀ j : Nat, j < 24 → (Term.elem (.static "LevelTypes$Kind" "PARTS" "[I") (.int (Int32.ofNat j))).eval args s none [] s = some (z_parts j) := by
  have hs := flat_of_before _ hgv
  intro j hj
  rcases (show j = 0 ∨ j = 1 ∨ j = 2 ∨ j = 3 ∨ j = 4 ∨ j = 5 ∨ j = 6 ∨ j = 7 ∨ j = 8 ∨ j = 9 ∨ j = 10 ∨ j = 11 ∨ j = 12 ∨ j = 13 ∨ j = 14 ∨ j = 15 ∨ j = 16 ∨ j = 17 ∨ j = 18 ∨ j = 19 ∨ j = 20 ∨ j = 21 ∨ j = 22 ∨ j = 23 by omega) with rfl | rfl | rfl | rfl | rfl | rfl | rfl | rfl | rfl | rfl | rfl | rfl | rfl | rfl | rfl | rfl | rfl | rfl | rfl | rfl | rfl | rfl | rfl | rfl
  · exact va_eqt (hs (Cond.eq (Term.elem (.static "LevelTypes$Kind" "PARTS" "[I") (.int 0)) (.int 0)) (by decide +kernel))
  · exact va_eqt (hs (Cond.eq (Term.elem (.static "LevelTypes$Kind" "PARTS" "[I") (.int 1)) (.int 0)) (by decide +kernel))
  · exact va_eqt (hs (Cond.eq (Term.elem (.static "LevelTypes$Kind" "PARTS" "[I") (.int 2)) (.int 0)) (by decide +kernel))
  · exact va_eqt (hs (Cond.eq (Term.elem (.static "LevelTypes$Kind" "PARTS" "[I") (.int 3)) (.int 2)) (by decide +kernel))
  · exact va_eqt (hs (Cond.eq (Term.elem (.static "LevelTypes$Kind" "PARTS" "[I") (.int 4)) (.int 2)) (by decide +kernel))
  · exact va_eqt (hs (Cond.eq (Term.elem (.static "LevelTypes$Kind" "PARTS" "[I") (.int 5)) (.int 2)) (by decide +kernel))
  · exact va_eqt (hs (Cond.eq (Term.elem (.static "LevelTypes$Kind" "PARTS" "[I") (.int 6)) (.int 2)) (by decide +kernel))
  · exact va_eqt (hs (Cond.eq (Term.elem (.static "LevelTypes$Kind" "PARTS" "[I") (.int 7)) (.int 2)) (by decide +kernel))
  · exact va_eqt (hs (Cond.eq (Term.elem (.static "LevelTypes$Kind" "PARTS" "[I") (.int 8)) (.int 2)) (by decide +kernel))
  · exact va_eqt (hs (Cond.eq (Term.elem (.static "LevelTypes$Kind" "PARTS" "[I") (.int 9)) (.int 2)) (by decide +kernel))
  · exact va_eqt (hs (Cond.eq (Term.elem (.static "LevelTypes$Kind" "PARTS" "[I") (.int 10)) (.int 3)) (by decide +kernel))
  · exact va_eqt (hs (Cond.eq (Term.elem (.static "LevelTypes$Kind" "PARTS" "[I") (.int 11)) (.int 2)) (by decide +kernel))
  · exact va_eqt (hs (Cond.eq (Term.elem (.static "LevelTypes$Kind" "PARTS" "[I") (.int 12)) (.int 3)) (by decide +kernel))
  · exact va_eqt (hs (Cond.eq (Term.elem (.static "LevelTypes$Kind" "PARTS" "[I") (.int 13)) (.int 2)) (by decide +kernel))
  · exact va_eqt (hs (Cond.eq (Term.elem (.static "LevelTypes$Kind" "PARTS" "[I") (.int 14)) (.int (-1))) (by decide +kernel))
  · exact va_eqt (hs (Cond.eq (Term.elem (.static "LevelTypes$Kind" "PARTS" "[I") (.int 15)) (.int (-1))) (by decide +kernel))
  · exact va_eqt (hs (Cond.eq (Term.elem (.static "LevelTypes$Kind" "PARTS" "[I") (.int 16)) (.int 1)) (by decide +kernel))
  · exact va_eqt (hs (Cond.eq (Term.elem (.static "LevelTypes$Kind" "PARTS" "[I") (.int 17)) (.int 1)) (by decide +kernel))
  · exact va_eqt (hs (Cond.eq (Term.elem (.static "LevelTypes$Kind" "PARTS" "[I") (.int 18)) (.int 2)) (by decide +kernel))
  · exact va_eqt (hs (Cond.eq (Term.elem (.static "LevelTypes$Kind" "PARTS" "[I") (.int 19)) (.int 1)) (by decide +kernel))
  · exact va_eqt (hs (Cond.eq (Term.elem (.static "LevelTypes$Kind" "PARTS" "[I") (.int 20)) (.int 3)) (by decide +kernel))
  · exact va_eqt (hs (Cond.eq (Term.elem (.static "LevelTypes$Kind" "PARTS" "[I") (.int 21)) (.int 2)) (by decide +kernel))
  · exact va_eqt (hs (Cond.eq (Term.elem (.static "LevelTypes$Kind" "PARTS" "[I") (.int 22)) (.int 3)) (by decide +kernel))
  · exact va_eqt (hs (Cond.eq (Term.elem (.static "LevelTypes$Kind" "PARTS" "[I") (.int 23)) (.int (-1))) (by decide +kernel))
theorem law_G {b : Nat} {s : State} (hts : ∀ w ∈ lw_tbl, w.before #[Value.ref b] s = true) (hgv : (Jvm.Cond.and given_1 narrow_1).before #[Value.ref b] s = true) : ∃ G : gC, mK G s ∧ mZ G (fun q => s.heap.size ≤ q) s s.heap := by
  have ht : ∀ w ∈ tb, w.before #[Value.ref b] s = true := fun w hw => hts w (tb_lw hw)
  have hs := flat_of_before _ hgv
  have hA : ∀ a : Nat, a < s.heap.size → ¬ (fun q : Nat => s.heap.size ≤ q) a := fun a h => Nat.not_le.mpr h
  obtain ⟨c0, i0, k0⟩ := u_known (C := RR_L) (T := FF_L) (N := 6) (n := 6) ht ii_L (ht _ wd_1_17)
  obtain ⟨c1, i1, k1⟩ := u_known (C := RR_D) (T := FF_D) (N := 9) (n := 9) ht ii_D (ht _ wd_1_122)
  obtain ⟨c2, i2, k2⟩ := u_known (C := RR_N) (T := FF_N) (N := 14) (n := 14) ht ii_N (ht _ wd_2_27)
  obtain ⟨c3, i3, k3⟩ := u_known (C := RR_A) (T := FF_A) (N := 3) (n := 3) ht ii_A (ht _ wd_1_25)
  obtain ⟨c4, i4, k4⟩ := u_known (C := RR_M) (T := FF_M) (N := 25) (n := 25) ht ii_M (ht _ wd_2_208)
  obtain ⟨dC, dI, hKc⟩ : ∃ (dC : Nat → ClassId) (dI : Nat → Nat → Nat), ∀ (k : Nat) (q : vw_C), classes[k]? = some q → u_Kn s q.1 q.2.1 q.2.2 (dC k) (dI k) := by
    refine ⟨fun k => match k with | 0 => c0 | 1 => c1 | 2 => c2 | 3 => c3 | _ => c4, fun k => match k with | 0 => i0 | 1 => i1 | 2 => i2 | 3 => i3 | _ => i4, ?_⟩
    intro k q hq
    match k, hq with
    | 0, hq => cases hq; exact k0
    | 1, hq => cases hq; exact k1
    | 2, hq => cases hq; exact k2
    | 3, hq => cases hq; exact k3
    | 4, hq => cases hq; exact k4
    | k + 5, hq => simp [classes] at hq
  obtain ⟨cI, aI, rI⟩ := law_arr (ty := .int) (ht _ wd_1_166) (fun _ h => h)
  obtain ⟨cJ, aJ, rJ⟩ := law_arr (ty := .long) (ht _ wd_1_165) (fun _ h => h)
  obtain ⟨cZ, aZ, rZ⟩ := law_arr (ty := .boolean) (ht _ wd_3_49) (fun _ h => h)
  have hov := hts (Cond.arrayOver (.object "java/lang/Object")) (lw_t1 (List.mem_of_getElem? (i := 209) (by decide +kernel)))
  obtain ⟨comp, cO, kO, o1, -, o3, o4, o5⟩ := Cond.arrayOver_spec hov
  obtain ⟨tP, eP, hTP⟩ := va_Tof (tm := (.static "LevelTypes$Kind" "PARTS" "[I")) (ty := .int) (N := 24) (f := z_parts) (A := fun q : Nat => s.heap.size ≤ q) (by decide) (hs (Cond.arrayOf (.static "LevelTypes$Kind" "PARTS" "[I") .int) (by decide +kernel)) (va_eqt (hs (Cond.eq (.length (.static "LevelTypes$Kind" "PARTS" "[I")) (.int 24)) (by decide +kernel))) (law_parts hgv) hA
  obtain ⟨tE, eE, hTE⟩ := va_Tof (tm := (.static "java/util/ArrayList" "DEFAULTCAPACITY_EMPTY_ELEMENTDATA" "[Ljava/lang/Object;")) (ty := .object "java/lang/Object") (N := 0) (f := fun _ => .null) (A := fun q : Nat => s.heap.size ≤ q) (by decide) (hs (Cond.arrayOf (.static "java/util/ArrayList" "DEFAULTCAPACITY_EMPTY_ELEMENTDATA" "[Ljava/lang/Object;") (.object "java/lang/Object")) (by decide +kernel)) (va_eqt (hs (Cond.eq (.length (.static "java/util/ArrayList" "DEFAULTCAPACITY_EMPTY_ELEMENTDATA" "[Ljava/lang/Object;")) (.int 0)) (by decide +kernel))) (fun j hj => absurd hj (Nat.not_lt_zero _)) hA
  obtain ⟨mi, hMi⟩ := va_Mi.of (hs (Cond.isRef (.mirror "[Ljava/lang/Object;")) (by decide +kernel))
  have hdc := hts (Cond.declares ⟨"java/lang/Object", "getClass", "()Ljava/lang/Class;"⟩) (lw_t3 (List.mem_of_getElem? (i := 175) (by decide +kernel)))
  have hc1 := hts (Cond.castable "LevelTypes$Definition" "java/lang/Object") (lw_t3 (List.mem_of_getElem? (i := 178) (by decide +kernel)))
  have hc2 := hts (Cond.castable "LevelTypes$Node" "java/lang/Object") (lw_t3 (List.mem_of_getElem? (i := 179) (by decide +kernel)))
  have hz1 := hts (Cond.laysStatic "LevelTypes$Kind" "PARTS" "[I") (lw_t2 (List.mem_of_getElem? (i := 13) (by decide +kernel)))
  have hz2 := hts (Cond.laysStatic "java/util/ArrayList" "DEFAULTCAPACITY_EMPTY_ELEMENTDATA" "[Ljava/lang/Object;") (lw_t1 (List.mem_of_getElem? (i := 37) (by decide +kernel)))
  refine ⟨((dC, dI), (cI, cJ, cO, cZ), (tP, tE, mi)), ⟨⟨hKc, fun k q h => ?_⟩, va_AO.of hov, hMi, va_Dc.of hdc, va_Nw.of rfl hc1, va_Nw.of rfl hc2⟩, va_Zof hz1 (ht _ wd_1_14) eP hA, hTP, va_Zof hz2 (ht _ wd_1_4) eE hA, hTE⟩
  match k, h with
  | 0, h => cases h; exact ⟨aI, rI⟩
  | 1, h => cases h; exact ⟨aJ, rJ⟩
  | 2, h => cases h; exact ⟨fun n z => ⟨fun k h => (by cases h), kO, o3, comp, o4⟩, kO, comp, o3, o4, o1, o5⟩
  | 3, h => cases h; exact ⟨aZ, rZ⟩
  | k + 4, h => simp [m_tys] at h
