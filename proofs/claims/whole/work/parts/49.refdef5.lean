theorem got_c {nd : Nat} {D : Nat → dR} {N : Nat → nR} {pa : Nat → Option Nat} {pn : Nat → Nat → Int64} {np ho : Nat → Nat} {B C : Nat → Int32} {k : Nat} (hg : m_got nd D N pa pn np ho B C k) : k_isCall (n_kd (N k)) = true → C k = nI ((m_tgt nd D np (N k)).getD 0) ∧ (m_tgt nd D np (N k)).getD 0 < nd := by
  intro h
  obtain ⟨h1, h2⟩ := hg.2 h
  obtain ⟨t, ht⟩ := Option.isSome_iff_exists.mp h2
  rw [ht] at h1 ⊢
  exact ⟨h1, m_tgt_lt ht⟩
theorem getD_some {o : Option Nat} (h : o.isSome = true) : o = some (o.getD 0) := by
  cases o with
  | none => cases h
  | some i => rfl
theorem st_c {nd nn : Nat} {D : Nat → dR} {N : Nat → nR} {pa : Nat → Option Nat} {pn : Nat → Nat → Int64} {np ho : Nat → Nat} {B C : Nat → Int32} {k : Nat} (hn : ∀ t, t < nd → np t ≤ 8) (hS : m_SS nd nn D N pa np k) (hgo : ∀ o, pa k = some o → m_got nd D N pa pn np ho B C o) : ∀ o, pa k = some o → ¬ 0 ≤ m_due (n_kd (N o)) → C o = nI ((m_tgt nd D np (c_q N (pa k))).getD 0) ∧ (m_tgt nd D np (c_q N (pa k))).getD 0 < nd ∧ n_pl (N k) = nI (n_pl (N k)).toNatClampNeg ∧ (n_pl (N k)).toNatClampNeg < np ((m_tgt nd D np (c_q N (pa k))).getD 0) := by
  intro o ho h
  rw [due_call] at h
  obtain ⟨h1, h2⟩ := got_c (hgo o ho) h
  rw [ho]
  obtain ⟨-, h4⟩ := (hgo o ho).2 h
  obtain ⟨t, ht⟩ := Option.isSome_iff_exists.mp h4
  obtain ⟨q, hq, hqn⟩ := (hS.2.2 o ho).1 h t ht
  have h8 := hn t (m_tgt_lt ht)
  show C o = nI ((m_tgt nd D np (N o)).getD 0) ∧ _
  refine ⟨h1, h2, ?_, ?_⟩
  · rw [hq, nI_clamp (by omega)]
  · show _ < np ((m_tgt nd D np (N o)).getD 0)
    rw [hq, nI_clamp (by omega), ht]
    exact hqn
theorem st_l {nd nn : Nat} {D : Nat → dR} {N : Nat → nR} {pa : Nat → Option Nat} {np : Nat → Nat} {k : Nat} (hS : m_SS nd nn D N pa np k) : ∀ o, pa k = some o → 0 ≤ m_due (n_kd (N o)) → 9 < n_kd (N o) → n_kd (N o) ≠ 13 → n_kd (N o) ≠ 18 → n_pl (N k) ≠ 0 → n_pl (N k) ≠ 1 → n_kd (N o) ≠ 11 → n_kd (N o) ≠ 16 → n_kd (N o) ≠ 17 → n_kd (N o) ≠ 19 → n_kd (N o) ≠ 21 → m_pt N pa nn o 1 = some ((m_pt N pa nn ((pa k).getD 0) 1).getD 0) := by
  intro o ho h1 h2 h3 h4 h5 h6 h7 h8 h9 h10 h11
  rw [ho]
  exact getD_some ((hS.2.2 o ho).2.1 (kd_st (hS.2.2 o ho).2.2 h1 h2 h3 h4 h7 h8 h9 h10 h11) h5 h6)
theorem lv_BC {nd nn : Nat} {D : Nat → dR} {N : Nat → nR} {pa : Nat → Option Nat} {pn : Nat → Nat → Int64} {pt : Nat → Nat → Int32} {np ho : Nat → Nat} {z : mS} {k : Nat} : (m_leave nd D N pa pn pt np ho nn z k).2.1 = z.2.1 ∧ (m_leave nd D N pa pn pt np ho nn z k).2.2.1 = z.2.2.1 := by
  simp only [m_leave]
  split <;> exact ⟨rfl, rfl⟩
theorem upd_off {f : Nat → Int32} {k i : Nat} {v : Int32} (h : i ≠ k) : upd f k v i = f i := by simp [upd, h]
theorem come_got {nd : Nat} {D : Nat → dR} {N : Nat → nR} {pa : Nat → Option Nat} {pn : Nat → Nat → Int64} {np ho : Nat → Nat} {z : mS} {k : Nat} (h : ∀ i, i < k → m_got nd D N pa pn np ho z.2.1 z.2.2.1 i) (h0 : (m_come nd D N pa pn np ho z k).2.2.2.1 = 0) : ∀ i, i ≤ k → m_got nd D N pa pn np ho (m_come nd D N pa pn np ho z k).2.1 (m_come nd D N pa pn np ho z k).2.2.1 i := by
  have hB : ∀ i, i ≠ k → (m_come nd D N pa pn np ho z k).2.1 i = z.2.1 i ∧ (m_come nd D N pa pn np ho z k).2.2.1 i = z.2.2.1 i := by
    intro i hi
    simp only [m_come]
    split
    · exact ⟨(upd_off hi).trans (upd_off hi), upd_off hi⟩
    · split
      · exact ⟨upd_off hi, upd_off hi⟩
      · exact ⟨upd_off hi, (upd_off hi).trans (upd_off hi)⟩
  intro i hi
  by_cases hik : i = k
  · subst hik
    refine ⟨fun h1 => ?_, fun h1 => ?_⟩
    · simp only [m_come, if_pos h1] at h0 ⊢
      refine ⟨upd_at _ _ _, fun e => ?_⟩
      rw [if_pos e] at h0
      exact absurd h0 (by decide)
    · have hk1 : ¬ n_kd (N i) = 1 := fun e => by rw [e] at h1; exact absurd h1 (by decide)
      have hd := due_call.mpr h1
      simp only [m_come, if_neg hk1, if_neg hd] at h0 ⊢
      refine ⟨upd_at _ _ _, ?_⟩
      cases ht : m_tgt nd D np (N i) with
      | some t => rfl
      | none =>
        have h1 : (if (m_tgt nd D np (N i)).isNone = true then (5 : Int32) else z.2.2.2.1) = 0 := h0
        rw [ht] at h1
        exact absurd (show (5 : Int32) = 0 from h1) (by decide)
  · obtain ⟨g1, g2⟩ := hB i hik
    have := h i (by omega)
    unfold m_got at this ⊢
    rw [g1, g2]
    exact this
def m_check (nd : Nat) (D : Nat → dR) (N : Nat → nR) (pa : Nat → Option Nat) (pn : Nat → Nat → Int64) (pt : Nat → Nat → Int32) (np ho : Nat → Nat) (nn : Nat) (T B C : Nat → Int32) : mS := m_alls nd D N pa pn pt np ho nn nn 0 (T, B, C, if m_main nd D np pt = true then 0 else 4, -1, 0)
