theorem got_c {nd : Nat} {D : Nat → dR} {N : Nat → nR} {pa : Nat → Option Nat} {pn : Nat → Nat → Int64} {np ho : Nat → Nat} {B C : Nat → Int32} {k : Nat} (hg : m_got nd D N pa pn np ho B C k) : k_isCall (n_kd (N k)) = true → C k = nI ((m_tgt nd D np (N k)).getD 0) ∧ (m_tgt nd D np (N k)).getD 0 < nd := by
  intro h
  obtain ⟨h1, h2⟩ := hg.2 h
  obtain ⟨t, ht⟩ := Option.isSome_iff_exists.mp h2
  rw [ht] at h1 ⊢
  exact ⟨h1, m_tgt_lt ht⟩
theorem getD_some {o : Option Nat} (h : o.isSome = true) : o = some (o.getD 0) := by
  cases o with
  | none => cases h
  | some i => rfl
theorem st_c {nd nn : Nat} {D : Nat → dR} {N : Nat → nR} {pa : Nat → Option Nat} {pn : Nat → Nat → Int64} {np ho : Nat → Nat} {B C : Nat → Int32} {k : Nat} (hn : ∀ t, t < nd → np t ≤ 8) (hS : m_SS nd nn D N pa np k) (hgo : ∀ o, pa k = some o → m_got nd D N pa pn np ho B C o) : ∀ o, pa k = some o → ¬ 0 ≤ m_due (n_kd (N o)) → C o = nI ((m_tgt nd D np (c_q N (pa k))).getD 0) ∧ (m_tgt nd D np (c_q N (pa k))).getD 0 < nd ∧ n_pl (N k) = nI (n_pl (N k)).toNatClampNeg ∧ (n_pl (N k)).toNatClampNeg < np ((m_tgt nd D np (c_q N (pa k))).getD 0) := by
  intro o ho h
  rw [due_call] at h
  obtain ⟨h1, h2⟩ := got_c (hgo o ho) h
  rw [ho]
  obtain ⟨-, h4⟩ := (hgo o ho).2 h
  obtain ⟨t, ht⟩ := Option.isSome_iff_exists.mp h4
  obtain ⟨q, hq, hqn⟩ := (hS.2.2 o ho).1 h t ht
  have h8 := hn t (m_tgt_lt ht)
  show C o = nI ((m_tgt nd D np (N o)).getD 0) ∧ _
  refine ⟨h1, h2, ?_, ?_⟩
  · rw [hq, nI_clamp (by omega)]
  · show _ < np ((m_tgt nd D np (N o)).getD 0)
    rw [hq, nI_clamp (by omega), ht]
    exact hqn
theorem st_l {nd nn : Nat} {D : Nat → dR} {N : Nat → nR} {pa : Nat → Option Nat} {np : Nat → Nat} {k : Nat} (hS : m_SS nd nn D N pa np k) : ∀ o, pa k = some o → 0 ≤ m_due (n_kd (N o)) → 9 < n_kd (N o) → n_kd (N o) ≠ 13 → n_kd (N o) ≠ 18 → n_pl (N k) ≠ 0 → n_pl (N k) ≠ 1 → n_kd (N o) ≠ 11 → n_kd (N o) ≠ 16 → n_kd (N o) ≠ 17 → n_kd (N o) ≠ 19 → n_kd (N o) ≠ 21 → m_pt N pa nn o 1 = some ((m_pt N pa nn ((pa k).getD 0) 1).getD 0) := by
  intro o ho h1 h2 h3 h4 h5 h6 h7 h8 h9 h10 h11
  rw [ho]
  exact getD_some ((hS.2.2 o ho).2.1 (kd_st (hS.2.2 o ho).2.2 h1 h2 h3 h4 h7 h8 h9 h10 h11) h5 h6)
