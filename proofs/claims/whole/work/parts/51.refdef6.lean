theorem c_idx_no {k : Int32} {nn : Nat} (h : k < 0 ∨ ¬ k < nI nn) : c_idx k nn = none := by
  unfold c_idx
  split
  · rfl
  · rename_i h0
    rcases h with h | h
    · exact absurd h h0
    · rw [if_neg h]
theorem c_idx_yes {j nn : Nat} (hj : j < nn) (hn : nn ≤ 600) : c_idx (nI j) nn = some j := by
  unfold c_idx
  rw [if_neg (nI_pos (by omega)), if_pos (nI_lt hj (by omega)), nI_clamp (by omega)]
/-- define: no title from the i-th on, k to go, is the name -/
def m_new (D : Nat → dR) (x : Int64) : Nat → Nat → Bool → Bool
  | 0, _, g => g
  | k + 1, i, g => m_new D x k (i + 1) (g && !decide (d_nm (D i) = x))
def m_defOk (chg : Bool) (nm : Int64) (ty : Int32) (nd : Nat) (D : Nat → dR) (wh : Bool) : Bool := m_new D nm nd 0 (wh && !decide (64 ≤ nI nd) && !decide (nm ≤ 0) && !decide (ty < 0) && !decide ((if chg = true then 2 else 4) ≤ ty))
