/-! THE INVARIANT: what class and reference hold together -/
def vS (nd nn : Nat) (aD aN : Nat → Nat) (D : Nat → dR) (N : Nat → nR) (pt : Nat → Nat → Int32) (np bg ho : Nat → Nat) (pa ca op : Nat → Option Nat) (P Q F : Nat → Nat) : Prop :=
  rl nd nn aD aN D N ho pa ca op ∧ vT nn N pa P Q F ∧ uq nd D
  ∧ (∀ i, i < nd → d_np (D i) = nI (np i) ∧ np i ≤ 8 ∧ k_isType (d_vt (D i)) = true ∧ ∀ t, t < np i → k_isType (pt i t) = true)
  ∧ (∀ j, j < nn → n_num (N j) = nI j) ∧ gbc N N ca nn ∧ nd ≤ 64 ∧ nn ≤ 600
  ∧ (∀ k, nd = k + 1 → op k = vO nn pa P Q ∧ d_beg (D k) = decide (bg k < nn) ∧ bg k ≤ nn ∧ (bg k = nn → vO nn pa P Q = none))
  ∧ (nd = 0 → nn = 0)
theorem map_isNone {o : Option Nat} {f : Nat → Nat} : (o.map f).isNone = o.isNone := by cases o <;> rfl
section INV
variable {nd nn k : Nat} {aD aN : Nat → Nat} {D : Nat → dR} {N : Nat → nR} {pn : Nat → Nat → Int64} {pt : Nat → Nat → Int32} {np bg ho : Nat → Nat} {pa ca op : Nat → Option Nat} {P Q F : Nat → Nat}
theorem vS_lack (h : vS (k + 1) nn aD aN D N pt np bg ho pa ca op P Q F) : m_lack (k + 1) nn bg N pa = op k := by
  obtain ⟨-, hT, -, -, -, -, -, hn, hk, -⟩ := h
  obtain ⟨h1, h2, h3, h4⟩ := hk k rfl
  show (if nI nn = nI (bg k) then none else m_rest N pa (nn + 1) (c_pred nn)) = op k
  rw [h1]
  by_cases e : bg k = nn
  · rw [if_pos (by rw [e]), h4 e]
  · rw [if_neg (fun z => e ((nI_eq (by omega) (by omega)).mp z).symm)]
    exact lack_vO hT hn
theorem beg_eq (h3 : bg k ≤ nn) (hn : nn ≤ 600) : (!decide (nI nn ≤ nI (bg k))) = decide (bg k < nn) := by
  by_cases e : bg k < nn
  · rw [decide_eq_true e, decide_eq_false (nI_ge e (by omega))]; rfl
  · rw [decide_eq_false e, decide_eq_true (nI_le (by omega) (by omega))]; rfl
theorem vS_whole (h : vS nd nn aD aN D N pt np bg ho pa ca op P Q F) : c_whole nd D = m_whole nd nn bg N pa := by
  cases nd with
  | zero => rfl
  | succ k =>
    have hl := vS_lack h
    obtain ⟨hI, hT, -, -, -, -, -, hn, hk, -⟩ := h
    obtain ⟨h1, h2, h3, h4⟩ := hk k rfl
    show (d_beg (D k) && (d_op (D k)).isNone) = (!decide (nI nn ≤ nI (bg k)) && (m_lack (k + 1) nn bg N pa).isNone)
    rw [hl, h2, (hI.2 k (Nat.lt_succ_self k)).1, map_isNone, beg_eq h3 hn]
theorem vS_none (h : vS nd nn aD aN D N pt np bg ho pa ca op P Q F) (hw : c_whole nd D = true) : vO nn pa P Q = none := by
  obtain ⟨hI, hT, -, -, -, -, -, hn, hk, h0⟩ := h
  cases nd with
  | zero => rw [h0 rfl]; rfl
  | succ k =>
    have hw : (d_beg (D k) && (d_op (D k)).isNone) = true := hw
    rw [Bool.and_eq_true, (hI.2 k (Nat.lt_succ_self k)).1, map_isNone] at hw
    rw [← (hk k rfl).1]
    exact Option.isNone_iff_eq_none.mp hw.2
theorem vS_vW (h : vS nd nn aD aN D N pt np bg ho pa ca op P Q F) (hw : c_whole nd D = true) : vW nd nn aN D N pt np ho pa P Q F := by
  have h9 := vS_none h hw
  obtain ⟨hI, hT, hu, hD, hN, -, hd, hn, -, -⟩ := h
  refine ⟨hT, h9, hn, hd, hu, hD, fun j hj => ?_⟩
  obtain ⟨-, g2, g3, g4, -⟩ := hI.1 j hj
  exact ⟨hN j hj, g3, g2, fun p hp => (g4 p hp).2⟩
theorem new_named {x : Int64} : ∀ (f i : Nat) (g : Bool), m_new D x f i g = (g && (c_named D x f i).isNone)
  | 0, i, g => by show g = (g && true); rw [Bool.and_true]
  | f + 1, i, g => by
    show m_new D x f (i + 1) (g && !decide (d_nm (D i) = x)) = (g && (if d_nm (D i) = x then some i else c_named D x f (i + 1)).isNone)
    rw [new_named f (i + 1)]
    by_cases e : d_nm (D i) = x
    · rw [if_pos e, decide_eq_true e]; cases g <;> rfl
    · rw [if_neg e, decide_eq_false e]; cases g <;> rfl
theorem ty_4 (ty : Int32) : k_isType ty = (!decide (ty < 0) && !decide (4 ≤ ty)) := by
  unfold k_isType
  have e : (3 < ty) ↔ (4 ≤ ty) := by
    rw [Int32.lt_iff_toInt_lt, Int32.le_iff_toInt_le]
    have e3 : (3 : Int32).toInt = 3 := by decide
    have e4 : (4 : Int32).toInt = 4 := by decide
    omega
  by_cases h0 : ty < 0
  · rw [if_pos h0, decide_eq_true h0]; rfl
  · rw [if_neg h0, decide_eq_false h0]
    by_cases h3 : 3 < ty
    · rw [if_pos h3, decide_eq_true (e.mp h3)]; rfl
    · rw [if_neg h3, decide_eq_false (fun z => h3 (e.mpr z))]; rfl
theorem ty_3 (ty : Int32) : k_isType ty = (!decide (ty < 0) && decide (ty ≤ 3)) := by
  rw [ty_4]
  have e : (!decide (4 ≤ ty)) = decide (ty ≤ 3) := by
    have e : (ty ≤ 3) ↔ ¬ (4 ≤ ty) := by
      rw [Int32.le_iff_toInt_le, Int32.le_iff_toInt_le]
      have e3 : (3 : Int32).toInt = 3 := by decide
      have e4 : (4 : Int32).toInt = 4 := by decide
      omega
    by_cases h3 : 4 ≤ ty
    · rw [decide_eq_true h3, decide_eq_false (fun z => e.mp z h3)]; rfl
    · rw [decide_eq_false h3, decide_eq_true (e.mpr h3)]; rfl
  rw [e]
theorem ty_2 (ty : Int32) : k_isWritten ty = (!decide (ty < 0) && !decide (2 ≤ ty)) := by
  unfold k_isWritten
  by_cases a0 : ty = 0
  · subst a0; decide
  · by_cases a1 : ty = 1
    · subst a1; decide
    · rw [if_neg a0, if_neg a1]
      by_cases h0 : ty < 0
      · rw [decide_eq_true h0]; rfl
      · rw [decide_eq_true (show (2 : Int32) ≤ ty by
          rw [Int32.le_iff_toInt_le]
          rw [Int32.lt_iff_toInt_lt] at h0
          have z0 : ty.toInt ≠ 0 := fun z => a0 (Int32.toInt_inj.mp (z.trans (by decide)))
          have z1 : ty.toInt ≠ 1 := fun z => a1 (Int32.toInt_inj.mp (z.trans (by decide)))
          have e0 : (0 : Int32).toInt = 0 := by decide
          have e2 : (2 : Int32).toInt = 2 := by decide
          omega)]
        rw [Bool.not_true, Bool.and_false]
theorem nd_64 {nd : Nat} (h : nd ≤ 64) : decide (nI nd < 64) = !decide (64 ≤ nI nd) := by
  by_cases e : nd < 64
  · have h1 : nI nd < 64 := nI_lt (b := 64) e (by omega)
    have h2 : ¬ 64 ≤ nI nd := nI_ge (b := 64) e (by omega)
    rw [decide_eq_true h1, decide_eq_false h2]; rfl
  · have : nd = 64 := by omega
    subst this; decide
theorem defOk_eq (h : vS nd nn aD aN D N pt np bg ho pa ca op P Q F) {chg : Bool} {nm : Int64} {ty : Int32} : m_defOk chg nm ty nd D (m_whole nd nn bg N pa) = c_defOk chg nm ty nd D := by
  have hw := vS_whole h
  have hd := h.2.2.2.2.2.2.1
  unfold m_defOk c_defOk
  rw [new_named, ← hw, nd_64 hd]
  congr 1
  cases chg with
  | true =>
    rw [if_pos rfl, if_pos rfl, ty_2, ← Bool.and_assoc]
  | false =>
    rw [if_neg (by decide), if_neg (by decide), ty_4, ← Bool.and_assoc]
theorem pi_lt9 {f : Nat → Int64} {x : Int64} {n : Nat} (hn : n ≤ 8) : ∀ t, m_pi f x n 0 = some t → t < 2 ^ 31 := fun t ht => by
  have := m_pi_lt _ _ _ ht
  omega
theorem parOk_eq (h : vS (k + 1) nn aD aN D N pt np bg ho pa ca op P Q F) {nm : Int64} {ty : Int32} : m_parOk k nn np bg pn nm ty = c_parOk (D k) (pn k) nm ty := by
  obtain ⟨hI, hT, -, hDf, -, -, -, hn, hk, -⟩ := h
  obtain ⟨h1, h2, h3, h4⟩ := hk k rfl
  obtain ⟨d1, d2, -, -⟩ := hDf k (Nat.lt_succ_self k)
  unfold m_parOk c_parOk
  rw [ty_3, index_pi d1 d2, h2, d1]
  have e1 : decide (nI (bg k) < nI nn) = decide (bg k < nn) := decide_eq_decide.mpr (nI_ltI (by omega) (by omega))
  have e2 : (!decide (nI (np k) = 8)) = decide (nI (np k) < 8) := by
    by_cases e : np k = 8
    · rw [e]; decide
    · have g1 : ¬ nI (np k) = 8 := fun z => e ((nI_eq (b := 8) (by omega) (by omega)).mp z)
      have g2 : nI (np k) < 8 := nI_lt (b := 8) (by omega) (by omega)
      rw [decide_eq_false g1, decide_eq_true g2]; rfl
  have e3 : (m_pi (pn k) nm (np k) 0).isNone = decide (m_ix (m_pi (pn k) nm (np k) 0) = -1) := by
    have := ix_none (o := m_pi (pn k) nm (np k) 0) (pi_lt9 d2)
    by_cases e : m_pi (pn k) nm (np k) 0 = none
    · rw [decide_eq_true (this.mpr e), e]; rfl
    · rw [decide_eq_false (fun z => e (this.mp z))]
      cases h9 : m_pi (pn k) nm (np k) 0 with
      | none => exact absurd h9 e
      | some t => rfl
  rw [e1, e2, e3]
  cases decide (nI (np k) < 8) <;> cases decide (bg k < nn) <;> cases decide (nm ≤ 0) <;> cases decide (ty < 0) <;> cases decide (ty ≤ 3) <;> rfl
theorem kd_facts {kd : Int32} (hk : k_isKind kd = true) : m_has1 kd = k_hasFirst kd ∧ (!decide (kd ≤ 17)) = k_isChange kd ∧ m_due kd = k_parts kd ∧ decide (0 ≤ m_due kd) = !decide (k_parts kd = -1) ∧ m_chg kd 0 = k_wants kd 0 ∧ m_chg kd 1 = k_wants kd 1 := kd_all (P := fun kd => m_has1 kd = k_hasFirst kd ∧ (!decide (kd ≤ 17)) = k_isChange kd ∧ m_due kd = k_parts kd ∧ decide (0 ≤ m_due kd) = !decide (k_parts kd = -1) ∧ m_chg kd 0 = k_wants kd 0 ∧ m_chg kd 1 = k_wants kd 1) (by refine ⟨?_, ?_, ?_, ?_, ?_, ?_, ?_, ?_, ?_, ?_, ?_, ?_, ?_, ?_, ?_, ?_, ?_, ?_, ?_, ?_, ?_, ?_, ?_, ?_⟩ <;> decide) hk
theorem chg_01 (kd p : Int32) : m_chg kd p = if p ≤ 0 then m_chg kd 0 else m_chg kd 1 := by
  have h0 : (0 : Int32) ≤ 0 := by decide
  have h1 : ¬ (1 : Int32) ≤ 0 := by decide
  by_cases hp : p ≤ 0
  · rw [if_pos hp]; unfold m_chg; rw [if_pos hp, if_pos h0]
  · rw [if_neg hp]; unfold m_chg; rw [if_neg hp, if_neg h1]
theorem wants_01 (kd p : Int32) : k_wants kd p = if p ≤ 0 then k_wants kd 0 else k_wants kd 1 := by
  have h0 : decide ((0 : Int32) ≤ 0) = true := by decide
  have h1 : decide ((1 : Int32) ≤ 0) = false := by decide
  by_cases hp : p ≤ 0
  · rw [if_pos hp]; unfold k_wants; rw [decide_eq_true hp, h0]
  · rw [if_neg hp]; unfold k_wants; rw [decide_eq_false hp, h1]
theorem chg_wants {kd p : Int32} (hk : k_isKind kd = true) : m_chg kd p = k_wants kd p := by
  obtain ⟨-, -, -, -, h1, h2⟩ := kd_facts hk
  rw [chg_01, wants_01, h1, h2]
theorem wants_eq (h : vS (k + 1) nn aD aN D N pt np bg ho pa ca op P Q F) : m_wants D N k (op k) = d_wants (D k) (N ((op k).getD 0)) := by
  obtain ⟨hI, hT, -⟩ := h
  obtain ⟨h1, h2⟩ := hI.2 k (Nat.lt_succ_self k)
  unfold m_wants d_wants
  rw [h1]
  cases ho9 : op k with
  | none => rfl
  | some j => exact chg_wants (hT.1 j (h2 j ho9).1).1
theorem slot_eq (h : vS (k + 1) nn aD aN D N pt np bg ho pa ca op P Q F) : m_slot N (op k) = d_slot (D k) (N ((op k).getD 0)) := by
  obtain ⟨hI, hT, -⟩ := h
  obtain ⟨h1, h2⟩ := hI.2 k (Nat.lt_succ_self k)
  unfold m_slot d_slot
  rw [h1]
  cases ho9 : op k with
  | none => rfl
  | some j => rfl
theorem isNode_eq {kd : Int32} {fi se : Int64} {pts : Int32} : m_isNode kd fi se pts = (k_isKind kd && k_partsFit kd pts && k_namesFit kd fi se) := by
  unfold m_isNode k_partsFit k_namesFit
  by_cases hk : k_isKind kd = true
  · obtain ⟨f1, f2, f3, f4, -, -⟩ := kd_facts hk
    rw [if_pos hk, f1]
    have e : (if 0 ≤ m_due kd then decide (pts = m_due kd) else !decide (pts < 0)) = (if k_parts kd = -1 then !decide (pts < 0) else decide (pts = k_parts kd)) := by
      by_cases hp : k_parts kd = -1
      · rw [decide_eq_true hp] at f4
        rw [if_pos hp, if_neg (of_decide_eq_false f4)]
      · rw [decide_eq_false hp] at f4
        rw [if_neg hp, if_pos (of_decide_eq_true f4), f3]
    rw [e]
    generalize (if k_hasFirst kd = true then !decide (fi ≤ 0) else decide (fi = 0)) = a
    generalize (if k_isCase kd = true then !decide (se ≤ 0) && !decide (se = fi) else decide (se = 0)) = b
    generalize (if k_parts kd = -1 then !decide (pts < 0) else decide (pts = k_parts kd)) = c
    rw [hk]
    cases a <;> cases b <;> cases c <;> rfl
  · rw [Bool.eq_false_iff.mpr hk]; rfl
theorem nodeOk_eq (h : vS (k + 1) nn aD aN D N pt np bg ho pa ca op P Q F) {kd : Int32} {fi se : Int64} {pts : Int32} : m_nodeOk k nn bg D N pa kd fi se pts = c_nodeOk kd fi se pts (D k) (N ((op k).getD 0)) nn := by
  have hl := vS_lack h
  have hw := vS_whole h
  have hs := wants_eq h
  have hn := h.2.2.2.2.2.2.2.1
  unfold m_nodeOk c_nodeOk
  have hw : (d_whole (D k)) = (!decide (nI nn ≤ nI (bg k)) && (m_lack (k + 1) nn bg N pa).isNone) := hw
  rw [← hw, hl, hs, isNode_eq]
  have e1 : (!decide (nI nn = 4096)) = true := by
    have g1 : ¬ nI nn = 4096 := fun z => by
      have := (nI_eq (b := 4096) (by omega) (by omega)).mp z
      omega
    rw [decide_eq_false g1]; rfl
  have e2 : decide (nI nn < 4096) = true := decide_eq_true (nI_lt (b := 4096) (by omega) (by omega))
  rw [e1, e2]
  by_cases hk : k_isKind kd = true
  · rw [(kd_facts hk).2.1, hk]
    generalize d_wants (D k) (N ((op k).getD 0)) = a
    generalize k_isChange kd = b
    generalize k_partsFit kd pts = c
    generalize k_namesFit kd fi se = d
    generalize d_whole (D k) = e
    cases a <;> cases b <;> cases c <;> cases d <;> cases e <;> rfl
  · rw [Bool.eq_false_iff.mpr hk]
    cases d_whole (D k) <;> rfl
end INV
