theorem neg_p {t : Nat} (h : t < 8) : ¬ 0 ≤ -2 - nI t := by
  rcases (show t = 0 ∨ t = 1 ∨ t = 2 ∨ t = 3 ∨ t = 4 ∨ t = 5 ∨ t = 6 ∨ t = 7 by omega) with h | h | h | h | h | h | h | h <;> subst h <;> decide
theorem ix_p (d t : Nat) : nI (8 * d) - 2 - (-2 - nI t) = nI (8 * d + t) := by
  rw [← nI_add]
  simp only [Int32.sub_eq_add_neg, Int32.neg_add, Int32.neg_neg]
  have h : ∀ a c : Int32, a + -2 + (2 + c) = a + c := fun a c => by
    rw [Int32.add_assoc, ← Int32.add_assoc (-2) 2 c]
    have : (-2 : Int32) + 2 = 0 := by decide
    rw [this, Int32.zero_add]
  exact h _ _
abbrev m_pt (N : Nat → nR) (pa : Nat → Option Nat) (nn p : Nat) (q : Int32) : Option Nat := m_part N pa p q (nn - (p + 1)) (p + 1)
def m_tyB (T : Nat → Int32) (N : Nat → nR) (k b i : Nat) : Int32 := if k_isCase (n_kd (N b)) = true then (if n_fi (N b) = n_fi (N k) then 0 else 3) else if n_kd (N b) = 18 then (if T i = 2 then 0 else 1) else T i
def m_tyV (T : Nat → Int32) (N : Nat → nR) (pa : Nat → Option Nat) (pn : Nat → Nat → Int64) (pt : Nat → Nat → Int32) (np ho : Nat → Nat) (nn k : Nat) : Int32 := match m_bo N pa (n_fi (N k)) (k + 1) k with
  | some b => m_tyB T N k b ((m_pt N pa nn b 0).getD 0)
  | none => match m_pi (pn (ho k)) (n_fi (N k)) (np (ho k)) 0 with
    | some t => pt (ho k) t
    | none => 0
def m_useLast (k : Int32) : Bool := if k = 1 then false else if k = 0 then false else if (if k < 3 then true else decide (9 < k)) = true then (if k = 2 then false else if k = 13 then false else if k = 14 then false else if k = 15 then false else if k = 23 then false else if k = 16 then false else if k = 17 then false else true) else false
def m_tyK (k tv tc tl : Int32) : Int32 := if k = 1 then tv else if k = 0 then 0 else if (if k < 3 then true else decide (9 < k)) = true then (if k = 2 then 1 else if k = 13 then 1 else if k = 14 then tc else if k = 15 then tc else if k = 23 then tc else if k = 16 then 2 else if k = 17 then 3 else tl) else 0
def m_in (kd pl ty pc t1 : Int32) : Bool := if 0 ≤ m_due kd then (if 9 < kd then (if kd = 11 then true else if kd = 13 then (if pl = 0 then decide (ty = 0) else decide (ty = 3)) else if kd = 16 then decide (ty = 0) else if kd = 17 then decide (ty = 1) else if kd = 18 then (if 0 < pl then true else !decide (ty ≤ 1)) else if kd = 19 then !decide (2 ≤ ty) else if kd = 21 then true else (if pl = 0 then (if k_isCase kd = true then decide (ty = 1) else decide (ty = 0)) else if pl = 1 then true else decide (ty = t1))) else decide (ty = 0)) else decide (ty = pc)
def m_std (D : Nat → dR) (N : Nat → nR) (ho : Nat → Nat) (pa : Nat → Option Nat) (k : Nat) (ty pc t1 : Int32) : Bool := match pa k with
  | none => decide (ty = d_vt (D (ho k)))
  | some o => m_in (n_kd (N o)) (n_pl (N k)) ty pc t1
theorem m_bo_lt {N : Nat → nR} {pa : Nat → Option Nat} {x : Int64} {nn : Nat} (hp : ∀ j, j < nn → ∀ p, pa j = some p → p < j) : ∀ (f j b : Nat), j < nn → m_bo N pa x f j = some b → b < j
  | 0, j, b, hj, h => by cases h
  | f + 1, j, b, hj, h => by
    unfold m_bo at h
    split at h
    · cases h
    · rename_i p hpj
      have h1 := hp j hj p hpj
      split at h
      · cases h; exact h1
      · have := m_bo_lt hp f p b (by omega) h; omega
theorem m_pi_lt {pn : Nat → Int64} {x : Int64} : ∀ (k i t : Nat), m_pi pn x k i = some t → t < i + k
  | 0, i, t, h => by cases h
  | k + 1, i, t, h => by
    unfold m_pi at h
    split at h
    · cases h; omega
    · have := m_pi_lt k (i + 1) t h; omega
