theorem m_new_true {D : Nat → dR} {x : Int64} : ∀ (k i : Nat) (g : Bool), m_new D x k i g = true → g = true
  | 0, i, g, h => h
  | k + 1, i, g, h => by
    have := m_new_true k (i + 1) _ h
    simp at this
    exact this.1
theorem defOk_lt {chg : Bool} {nm : Int64} {ty : Int32} {nd : Nat} {D : Nat → dR} {wh : Bool} (h : m_defOk chg nm ty nd D wh = true) (hn : nd ≤ 64) : nd < 64 := by
  have := m_new_true _ _ _ h
  simp at this
  rcases Nat.lt_or_ge nd 64 with h9 | h9
  · exact h9
  · have h8 : nd = 64 := by omega
    subst h8
    exact absurd this.1.1.1.2 (by decide)
theorem tD_def {nd nn : Nat} {D : Nat → dR} {pn : Nat → Nat → Int64} {pt : Nat → Nat → Int32} {np bg : Nat → Nat} {I I' : Nat → Nat → Int32} {J J' : Nat → Nat → Int64} {Z Z' : Nat → Int32} {d9 : dR} {f9 : Nat → Int64} {g9 : Nat → Int32} (hD : tD nd D pn pt np bg I J Z) (h0 : ∀ i, Z' i = if i = nd then bI (d_chg d9) else Z i) (h1 : ∀ i, J' 1 i = if i = nd then d_nm d9 else J 1 i) (h4 : J' 4 = J 4) (h2 : ∀ i, I' 2 i = if i = nd then d_vt d9 else I 2 i) (h3 : ∀ i, I' 3 i = if i = nd then 0 else I 3 i) (h6 : ∀ i, I' 6 i = if i = nd then nI nn else I 6 i) (h5 : I' 5 = I 5) (hnp : d_np d9 = 0) : tD (nd + 1) (va_up D nd d9) (va_up pn nd f9) (va_up pt nd g9) (va_up np nd 0) (va_up bg nd nn) I' J' Z' := by
  intro i hi
  rw [h0, h1, h2, h3, h6, h4, h5]
  by_cases e : i = nd
  · subst e
    simp only [if_true, va_up_self]
    exact ⟨trivial, trivial, trivial, nI_0.symm, trivial, by omega, by rw [hnp, nI_0], fun t ht => absurd ht (Nat.not_lt_zero _), fun t ht => absurd ht (Nat.not_lt_zero _)⟩
  · rw [if_neg e, if_neg e, if_neg e, if_neg e, if_neg e, va_up_ne _ _ e, va_up_ne _ _ e, va_up_ne _ _ e, va_up_ne _ _ e, va_up_ne _ _ e]
    exact hD i (by omega)
theorem tN_cg {nd nd' nn : Nat} {N : Nat → nR} {ho : Nat → Nat} {pa : Nat → Option Nat} {I I' : Nat → Nat → Int32} {J J' : Nat → Nat → Int64} (h : tN nd nn N ho pa I J) (hn : nd ≤ nd') (e7 : I' 7 = I 7) (e8 : J' 8 = J 8) (e9 : J' 9 = J 9) (e10 : I' 10 = I 10) (e11 : I' 11 = I 11) (e12 : I' 12 = I 12) (e13 : I' 13 = I 13) (e14 : I' 14 = I 14) : tN nd' nn N ho pa I' J' := by
  intro j hj
  rw [e7, e8, e9, e10, e11, e12, e13, e14]
  obtain ⟨g1, g2, g3, g4, g5, g6, g7, g8, g9, g10⟩ := h j hj
  exact ⟨g1, g2, g3, g4, g5, g6, g7, g8, by omega, g10⟩
def m_parOk (k nn : Nat) (np bg : Nat → Nat) (pn : Nat → Nat → Int64) (nm : Int64) (ty : Int32) : Bool := !decide (nI (np k) = 8) && !decide (nI (bg k) < nI nn) && !decide (nm ≤ 0) && !decide (ty < 0) && decide (ty ≤ 3) && (m_pi (pn k) nm (np k) 0).isNone
theorem tD_par {k : Nat} {D : Nat → dR} {pn : Nat → Nat → Int64} {pt : Nat → Nat → Int32} {np bg : Nat → Nat} {I I' : Nat → Nat → Int32} {J J' : Nat → Nat → Int64} {Z : Nat → Int32} {nm : Int64} {ty : Int32} (hD : tD (k + 1) D pn pt np bg I J Z) (h8 : np k < 8) (h1 : J' 1 = J 1) (h4 : ∀ i, J' 4 i = if i = 8 * k + np k then nm else J 4 i) (h2 : I' 2 = I 2) (h3 : ∀ i, I' 3 i = if i = k then nI (np k + 1) else I 3 i) (h6 : I' 6 = I 6) (h5 : ∀ i, I' 5 i = if i = 8 * k + np k then ty else I 5 i) : tD (k + 1) (va_up D k (d_s_np (D k) (nI (np k + 1)))) (va_up pn k (vp_updL (pn k) (np k) nm)) (va_up pt k (upd (pt k) (np k) ty)) (va_up np k (np k + 1)) bg I' J' Z := by
  intro i hi
  obtain ⟨g0, g1, g2, g3, g4, g5, g6, g7, g8⟩ := hD i hi
  rw [h1, h2, h3, h6]
  by_cases e : i = k
  · subst e
    simp only [if_true, va_up_self]
    refine ⟨g0, g1, g2, trivial, g4, by omega, trivial, fun t ht => ?_, fun t ht => ?_⟩
    · rw [h4]
      by_cases et : t = np i
      · subst et; simp [vp_updL]
      · rw [if_neg (by omega)]; simp [vp_updL, et]; exact g7 t (by omega)
    · rw [h5]
      by_cases et : t = np i
      · subst et; simp [upd]
      · rw [if_neg (by omega)]; simp [upd, et]; exact g8 t (by omega)
  · rw [if_neg e, va_up_ne _ _ e, va_up_ne _ _ e, va_up_ne _ _ e, va_up_ne _ _ e]
    refine ⟨g0, g1, g2, g3, g4, g5, g6, fun t ht => ?_, fun t ht => ?_⟩
    · rw [h4, if_neg (by omega)]; exact g7 t ht
    · rw [h5, if_neg (by omega)]; exact g8 t ht
