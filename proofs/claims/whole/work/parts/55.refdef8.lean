theorem ne_ad {y s : Nat} (h : y < s) (q : Nat) : s + q ≠ y := by omega
theorem i_64 : (64 : Int32).toNatClampNeg = 64 := by decide +kernel
theorem i_65 : (65 : Int32).toNatClampNeg = 65 := by decide +kernel
theorem i_512 : (512 : Int32).toNatClampNeg = 512 := by decide +kernel
theorem i_4096 : (4096 : Int32).toNatClampNeg = 4096 := by decide +kernel
def m_slot (N : Nat → nR) (o : Option Nat) : Int32 := match o with
  | none => 0
  | some j => n_fl (N j)
def m_wants (D : Nat → dR) (N : Nat → nR) (k : Nat) (o : Option Nat) : Bool := match o with
  | none => d_chg (D k)
  | some j => m_chg (n_kd (N j)) (n_fl (N j))
def m_nodeOk (k nn : Nat) (bg : Nat → Nat) (D : Nat → dR) (N : Nat → nR) (pa : Nat → Option Nat) (kd : Int32) (fi se : Int64) (pts : Int32) : Bool := !decide (nI nn = 4096) && m_isNode kd fi se pts && !(!decide (nI nn ≤ nI (bg k)) && (m_lack (k + 1) nn bg N pa).isNone) && (m_wants D N k (m_lack (k + 1) nn bg N pa) == !decide (kd ≤ 17))
theorem bump_at (N : Nat → nR) (o : Option Nat) (j : Nat) : n_kd (c_bump N o j) = n_kd (N j) ∧ n_fi (c_bump N o j) = n_fi (N j) ∧ n_se (c_bump N o j) = n_se (N j) ∧ n_pt (c_bump N o j) = n_pt (N j) ∧ n_pl (c_bump N o j) = n_pl (N j) ∧ n_fl (c_bump N o j) = (if o = some j then n_fl (N j) + 1 else n_fl (N j)) := by
  cases o with
  | none => exact ⟨rfl, rfl, rfl, rfl, rfl, by simp [c_bump]⟩
  | some i =>
    by_cases h : j = i
    · subst h
      simp only [c_bump, va_up_self]
      exact ⟨trivial, trivial, trivial, trivial, trivial, by simp⟩
    · have : c_bump N (some i) j = N j := va_up_ne _ _ h
      rw [this, if_neg (fun z => h (by cases z; rfl))]
      exact ⟨rfl, rfl, rfl, rfl, rfl, rfl⟩
theorem tN_node {k nn : Nat} {N : Nat → nR} {ho : Nat → Nat} {pa : Nat → Option Nat} {I I' : Nat → Nat → Int32} {J J' : Nat → Nat → Int64} {o : Option Nat} {r9 : nR} (h : tN (k + 1) nn N ho pa I J) (ho9 : ∀ j, o = some j → j < nn) (hfl : n_fl r9 = 0)
    (e7 : ∀ i, I' 7 i = if i = nn then n_kd r9 else I 7 i) (e8 : ∀ i, J' 8 i = if i = nn then n_fi r9 else J 8 i) (e9 : ∀ i, J' 9 i = if i = nn then n_se r9 else J 9 i) (e10 : ∀ i, I' 10 i = if i = nn then n_pt r9 else I 10 i) (e11 : ∀ i, I' 11 i = if i = nn then c_num o else I 11 i) (e12 : ∀ i, I' 12 i = if i = nn then n_pl r9 else I 12 i) (e13 : ∀ i, I' 13 i = if i = nn then nI k else I 13 i) (e14 : ∀ i, I' 14 i = if o = some i then I 14 i + 1 else if i = nn then 0 else I 14 i) : tN (k + 1) (nn + 1) (c_bump (va_up N nn r9) o) (va_up ho nn k) (va_up pa nn o) I' J' := by
  intro j hj
  obtain ⟨b1, b2, b3, b4, b5, b6⟩ := bump_at (va_up N nn r9) o j
  rw [b1, b2, b3, b4, b5, b6, e7, e8, e9, e10, e11, e12, e13, e14]
  by_cases e : j = nn
  · subst e
    have hn : o ≠ some j := fun z => absurd (ho9 j z) (by omega)
    simp only [if_true, va_up_self, if_neg hn, hfl]
    exact ⟨trivial, trivial, trivial, trivial, trivial, trivial, trivial, trivial, by omega, fun p hp => ho9 p hp⟩
  · simp only [if_neg e, va_up_ne _ _ e]
    obtain ⟨g1, g2, g3, g4, g5, g6, g7, g8, g9, g10⟩ := h j (by omega)
    rw [g8]
    exact ⟨g1, g2, g3, g4, g5, g6, g7, rfl, g9, g10⟩
theorem tD_cg {nd : Nat} {D : Nat → dR} {pn : Nat → Nat → Int64} {pt : Nat → Nat → Int32} {np bg : Nat → Nat} {I I' : Nat → Nat → Int32} {J J' : Nat → Nat → Int64} {Z : Nat → Int32} (h : tD nd D pn pt np bg I J Z) (e1 : J' 1 = J 1) (e2 : I' 2 = I 2) (e3 : I' 3 = I 3) (e6 : I' 6 = I 6) (e4 : J' 4 = J 4) (e5 : I' 5 = I 5) : tD nd D pn pt np bg I' J' Z := by
  intro i hi
  rw [e1, e2, e3, e6, e4, e5]
  exact h i hi
