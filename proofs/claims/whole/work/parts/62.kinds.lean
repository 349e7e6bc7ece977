/-! kinds, names, parameters: the class's functions and the reference's -/
theorem last_iff {q p : Nat} (hp : q < p) (hb : p < 2 ^ 31) : nI q = nI p - 1 ↔ q + 1 = p := by
  cases p with
  | zero => omega
  | succ k =>
    rw [nI_pred, nI_eq (by omega) (by omega)]
    omega
theorem fit_n {k : Int32} {n m : Nat} (hf : k_partsFit k (nI n) = true) (hk : k_isKind k = true) (hp : k_parts k = nI m) (hm : m < 1000) (hn : n < 2 ^ 31) : n = m := by
  unfold k_partsFit at hf
  rw [if_pos hk, hp] at hf
  have hne : ¬ nI m = -1 := by
    intro z
    have h1 := congrArg Int32.toInt z
    rw [nI_toInt (by omega)] at h1
    have h2 : (-1 : Int32).toInt = -1 := by decide
    omega
  rw [if_neg hne] at hf
  exact (nI_eq hn (by omega)).mp (of_decide_eq_true hf)
theorem bIn_last {kd : Int32} {q p : Nat} (hf : k_partsFit kd (nI p) = true) (hq : q < p) (hp : p < 2 ^ 31) : m_bIn kd (nI q) = (decide (nI q = nI p - 1) && k_isBinder kd) := by
  have e1 : ∀ m : Nat, m < 10 → (nI q = nI m ↔ q = m) := fun m hm => nI_eq (by omega) (by omega)
  have hl := last_iff hq hp
  have h2 : ∀ k, k_isKind k = true → k_parts k = nI 2 → k_partsFit k (nI p) = true → p = 2 := fun k h1 h2 h3 => fit_n h3 h1 h2 (by omega) hp
  have h3 : ∀ k, k_isKind k = true → k_parts k = nI 3 → k_partsFit k (nI p) = true → p = 3 := fun k h1 h2 h3 => fit_n h3 h1 h2 (by omega) hp
  have e11 : (nI q = 1 ↔ q = 1) := e1 1 (by omega)
  have e12 : (nI q = 2 ↔ q = 2) := e1 2 (by omega)
  by_cases a1 : kd = 11
  · subst a1
    have := h2 11 (by decide) (by decide) hf
    subst this
    by_cases hq1 : q = 1
    · subst hq1; decide
    · have : q = 0 := by omega
      subst this; decide
  · by_cases a2 : kd = 18
    · subst a2
      have := h2 18 (by decide) (by decide) hf
      subst this
      by_cases hq1 : q = 1
      · subst hq1; decide
      · have : q = 0 := by omega
        subst this; decide
    · by_cases a3 : kd = 21
      · subst a3
        have := h2 21 (by decide) (by decide) hf
        subst this
        by_cases hq1 : q = 1
        · subst hq1; decide
        · have : q = 0 := by omega
          subst this; decide
      · by_cases a4 : kd = 12
        · subst a4
          have := h3 12 (by decide) (by decide) hf
          subst this
          rcases (show q = 0 ∨ q = 1 ∨ q = 2 by omega) with h | h | h <;> subst h <;> decide
        · by_cases a5 : kd = 22
          · subst a5
            have := h3 22 (by decide) (by decide) hf
            subst this
            rcases (show q = 0 ∨ q = 1 ∨ q = 2 by omega) with h | h | h <;> subst h <;> decide
          · have hb : k_isBinder kd = false := by simp [k_isBinder, a1, a2, a3, a4, a5]
            have hc : k_isCase kd = false := by simp [k_isCase, a4, a5]
            rw [hb, Bool.and_false]
            simp [m_bIn, a1, a2, a3, hc]
/-- a parameter's place -/
def m_ix (o : Option Nat) : Int32 := match o with
  | some t => nI t
  | none => -1
theorem idx_pi {pn : Nat → Int64} {x : Int64} {c : Nat} (hc : c ≤ 8) : ∀ (k i : Nat), i + k = 8 → i ≤ c → d_idx (nI c) pn x k i = m_ix (m_pi pn x (c - i) i)
  | 0, i, hik, hic => by
    have : c - i = 0 := by omega
    rw [this]; rfl
  | k + 1, i, hik, hic => by
    unfold d_idx
    by_cases h : c ≤ i
    · rw [if_pos (nI_le h (by omega))]
      have : c - i = 0 := by omega
      rw [this]; rfl
    · rw [if_neg (nI_ge (by omega) (by omega))]
      obtain ⟨m, hm⟩ : ∃ m, c - i = m + 1 := ⟨c - i - 1, by omega⟩
      rw [hm]
      show _ = m_ix (if pn i = x then some i else m_pi pn x m (i + 1))
      by_cases hx : pn i = x
      · rw [if_pos hx, if_pos hx]; rfl
      · rw [if_neg hx, if_neg hx, idx_pi hc k (i + 1) (by omega) (by omega)]
        have : c - (i + 1) = m := by omega
        rw [this]
theorem index_pi {d : dR} {pn : Nat → Int64} {x : Int64} {c : Nat} (hd : d_np d = nI c) (hc : c ≤ 8) : d_index d pn x = m_ix (m_pi pn x c 0) := by
  unfold d_index
  rw [hd]
  exact idx_pi hc 8 0 rfl (Nat.zero_le _)
theorem ix_none {o : Option Nat} (h : ∀ t, o = some t → t < 2 ^ 31) : m_ix o = -1 ↔ o = none := by
  cases o with
  | none => exact ⟨fun _ => rfl, fun _ => rfl⟩
  | some t =>
    refine ⟨fun z => ?_, fun z => by cases z⟩
    have h1 := congrArg Int32.toInt (show nI t = -1 from z)
    rw [nI_toInt (h t rfl)] at h1
    have h2 : (-1 : Int32).toInt = -1 := by decide
    omega
/-- the definition with a name -/
def uq (nd : Nat) (D : Nat → dR) : Prop := ∀ i j, i < nd → j < nd → d_nm (D i) = d_nm (D j) → i = j
theorem named_spec {D : Nat → dR} {x : Int64} : ∀ (k i : Nat), (∃ t, c_named D x k i = some t ∧ i ≤ t ∧ t < i + k ∧ d_nm (D t) = x) ∨ (c_named D x k i = none ∧ ∀ t, i ≤ t → t < i + k → d_nm (D t) ≠ x)
  | 0, i => Or.inr ⟨rfl, fun t h1 h2 => by omega⟩
  | k + 1, i => by
    unfold c_named
    by_cases h : d_nm (D i) = x
    · rw [if_pos h]; exact Or.inl ⟨i, rfl, Nat.le_refl _, by omega, h⟩
    · rw [if_neg h]
      rcases named_spec k (i + 1) with ⟨t, h1, h2, h3, h4⟩ | ⟨h1, h2⟩
      · exact Or.inl ⟨t, h1, by omega, by omega, h4⟩
      · refine Or.inr ⟨h1, fun t h3 h4 => ?_⟩
        by_cases e : t = i
        · subst e; exact h
        · exact h2 t (by omega) (by omega)
theorem tg_none {D : Nat → dR} {x : Int64} : ∀ (k i : Nat) (o : Option Nat), (∀ t, i ≤ t → t < i + k → d_nm (D t) ≠ x) → m_tg D x k i o = o
  | 0, _, _, _ => rfl
  | k + 1, i, o, h => by
    unfold m_tg
    rw [if_neg (h i (Nat.le_refl _) (by omega))]
    exact tg_none k (i + 1) o (fun t h1 h2 => h t (by omega) (by omega))
theorem tg_some {D : Nat → dR} {x : Int64} {t : Nat} (ht : d_nm (D t) = x) : ∀ (k i : Nat) (o : Option Nat), (∀ s, i ≤ s → s < i + k → d_nm (D s) = x → s = t) → i ≤ t → t < i + k → m_tg D x k i o = some t
  | 0, i, o, _, h1, h2 => by omega
  | k + 1, i, o, hu, h1, h2 => by
    unfold m_tg
    by_cases e : i = t
    · subst e
      rw [if_pos ht]
      refine tg_none k (i + 1) _ (fun s h3 h4 h5 => ?_)
      have := hu s (by omega) (by omega) h5
      omega
    · exact tg_some ht k (i + 1) _ (fun s h3 h4 h5 => hu s (by omega) (by omega) h5) (by omega) (by omega)
theorem tg_named {nd : Nat} {D : Nat → dR} (hu : uq nd D) (x : Int64) : m_tg D x nd 0 none = c_named D x nd 0 := by
  rcases named_spec (D := D) (x := x) nd 0 with ⟨t, h1, h2, h3, h4⟩ | ⟨h1, h2⟩
  · rw [h1]
    exact tg_some h4 nd 0 none (fun s h5 h6 h7 => hu s t (by omega) (by omega) (h7.trans h4.symm)) (Nat.zero_le _) (by omega)
  · rw [h1]
    exact tg_none nd 0 none h2
/-- parts, by parent and place -/
theorem part_one {nn p i : Nat} {N : Nat → nR} {pa : Nat → Option Nat} {P Q F : Nat → Nat} (h : vT nn N pa P Q F) (hn : nn ≤ 600) (hi : i < nn) (hp : pa i = some p) {q : Int32} (hq : q = nI (Q i)) : m_pt N pa nn p q = some i := by
  have hd := vT_dec h
  have hpi := hd i hi p hp
  have key : ∀ (f j : Nat), j + f = nn → j ≤ i → m_part N pa p q f j = some i := by
    intro f
    induction f with
    | zero => intro j h1 h2; omega
    | succ f ih =>
      intro j h1 h2
      have hj : j < nn := by omega
      show (if c_num (pa j) = nI p then (if n_pl (N j) = q then some j else m_part N pa p q f (j + 1)) else m_part N pa p q f (j + 1)) = some i
      by_cases e : j = i
      · subst e
        rw [hp]
        rw [if_pos (show c_num (some p) = nI p from rfl), if_pos ((h.1 j hj).2.2.2.2.2.1.trans hq.symm)]
      · by_cases c1 : c_num (pa j) = nI p
        · rw [if_pos c1]
          have hpj : pa j = some p := by
            cases hz : pa j with
            | none =>
              rw [hz] at c1
              have h3 := congrArg Int32.toInt (show (-1 : Int32) = nI p from c1)
              rw [nI_toInt (by omega)] at h3
              have h4 : (-1 : Int32).toInt = -1 := by decide
              omega
            | some p' =>
              rw [hz] at c1
              have h5 := hd j hj p' hz
              rw [(nI_eq (a := p') (b := p) (by omega) (by omega)).mp c1]
          have c2 : ¬ n_pl (N j) = q := by
            intro z
            obtain ⟨-, -, -, -, -, e1, -, -, -, e2⟩ := h.1 j hj
            obtain ⟨-, -, -, -, -, -, -, -, -, e3⟩ := h.1 i hi
            rw [e1, hq] at z
            exact e (h.2.2.1 j i p hj hi hpj hp ((nI_eq (by omega) (by omega)).mp z))
          rw [if_neg c2]
          exact ih (j + 1) (by omega) (by omega)
        · rw [if_neg c1]
          exact ih (j + 1) (by omega) (by omega)
  exact key (nn - (p + 1)) (p + 1) (by omega) (by omega)
/-- the first part is the next node -/
theorem part_0 {nn p i : Nat} {N : Nat → nR} {pa : Nat → Option Nat} {P Q F : Nat → Nat} (h : vT nn N pa P Q F) (hi : i < nn) (hp : pa i = some p) (hq : Q i = 0) : i = p + 1 := by
  have hd := vT_dec h
  have hpi := hd i hi p hp
  have hF := (h.2.1 i p hi hp).2
  have hFP := (h.1 p (by omega)).2.2.2.2.2.2.2.1
  have hx : nx pa P Q p = some (p, 0) := by unfold nx; rw [if_neg (by omega)]
  have h5 := h.2.2.2.2.1 p (by omega)
  rw [hx] at h5
  exact h.2.2.1 i (p + 1) p hi (by omega) hp h5.1 (by rw [hq]; exact h5.2.symm)
