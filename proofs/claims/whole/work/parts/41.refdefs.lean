/-! WHAT THE REFERENCE COMPUTES -/
def m_due (k : Int32) : Int32 := if k = 14 then -1 else if k = 15 then -1 else if k = 23 then -1 else if k < 3 then 0 else if k = 10 then 3 else if k = 12 then 3 else if k = 20 then 3 else if k = 22 then 3 else if k = 16 then 1 else if k = 17 then 1 else if k = 19 then 1 else 2
def m_chg (k p : Int32) : Bool := if k = 16 then true else if k = 17 then true else if p ≤ 0 then false else if k = 18 then true else if k < 20 then false else if 22 < k then false else true
def m_has1 (k : Int32) : Bool := if k = 1 then true else if k = 11 then true else if k = 12 then true else if k = 14 then true else if k = 15 then true else if k = 18 then true else if k < 21 then false else true
def m_isNode (k : Int32) (f s : Int64) (n : Int32) : Bool := k_isKind k && (if m_has1 k = true then !decide (f ≤ 0) else decide (f = 0)) && (if k_isCase k = true then !decide (s ≤ 0) && !decide (s = f) else decide (s = 0)) && (if 0 ≤ m_due k then decide (n = m_due k) else !decide (n < 0))
def m_known (kn : Bool) (k : Int32) (nn : Nat) : Bool := kn && !decide (k < 0) && !decide (nI nn ≤ k)
def m_bIn (k p : Int32) : Bool := if (if k = 11 then true else if k = 21 then true else decide (k = 18)) = true then (if p = 1 then true else k_isCase k && decide (p = 2)) else k_isCase k && decide (p = 2)
def m_isEnd (nn : Nat) (pa : Nat → Option Nat) (j k : Nat) : Bool := if nI (k + 1) = nI nn then true else match pa (k + 1) with
  | none => true
  | some p => !decide (nI j ≤ nI p)
def m_rest (N : Nat → nR) (pa : Nat → Option Nat) : Nat → Option Nat → Option Nat
  | 0, _ => none
  | _ + 1, none => none
  | f + 1, some j => if n_fl (N j) = n_pt (N j) then m_rest N pa f (pa j) else some j
def c_pred (n : Nat) : Option Nat := match n with
  | 0 => none
  | k + 1 => some k
theorem c_pred_num (n : Nat) : nI n - 1 = c_num (c_pred n) := by
  cases n with
  | zero => decide
  | succ k => exact nI_pred k
def m_lack (nd nn : Nat) (bg : Nat → Nat) (N : Nat → nR) (pa : Nat → Option Nat) : Option Nat := match nd with
  | 0 => none
  | k + 1 => if nI nn = nI (bg k) then none else m_rest N pa (nn + 1) (c_pred nn)
theorem m_rest_lt {N : Nat → nR} {pa : Nat → Option Nat} {nn : Nat} (hp : ∀ j, j < nn → ∀ p, pa j = some p → p < j) : ∀ (f : Nat) (o : Option Nat), (∀ i, o = some i → i < nn) → ∀ i, m_rest N pa f o = some i → i < nn
  | 0, _, _, i, h => by cases h
  | _ + 1, none, _, i, h => by cases h
  | f + 1, some j, ho, i, h => by
    unfold m_rest at h
    split at h
    · exact m_rest_lt hp f (pa j) (fun p hpj => Nat.lt_trans (hp j (ho j rfl) p hpj) (ho j rfl)) i h
    · cases h; exact ho j rfl
theorem m_lack_lt {nd nn : Nat} {bg : Nat → Nat} {N : Nat → nR} {pa : Nat → Option Nat} (hp : ∀ j, j < nn → ∀ p, pa j = some p → p < j) {i : Nat} (h : m_lack nd nn bg N pa = some i) : i < nn := by
  unfold m_lack at h
  split at h
  · cases h
  · split at h
    · cases h
    · refine m_rest_lt hp _ _ (fun i hi => ?_) i h
      cases nn with
      | zero => cases hi
      | succ n => cases hi; omega
def m_whole (nd nn : Nat) (bg : Nat → Nat) (N : Nat → nR) (pa : Nat → Option Nat) : Bool := match nd with
  | 0 => true
  | k + 1 => !decide (nI nn ≤ nI (bg k)) && (m_lack (k + 1) nn bg N pa).isNone
theorem m_known_ix {kn : Bool} {k : Int32} {nn : Nat} (h : m_known kn k nn = true) (hn : nn ≤ 600) : ∃ j, j < nn ∧ k = nI j ∧ c_kn kn k nn = some j := by
  unfold m_known at h
  simp only [Bool.and_eq_true, Bool.not_eq_true', decide_eq_false_iff_not] at h
  obtain ⟨⟨h1, h2⟩, h3⟩ := h
  have h4 : k < nI nn := by
    rw [Int32.not_le] at h3
    exact h3
  obtain ⟨j, hj, rfl⟩ := ix_of h2 h4 hn
  refine ⟨j, hj, rfl, ?_⟩
  unfold c_kn c_idx
  rw [if_pos h1, if_neg h2, if_pos h4, nI_clamp (by omega)]
theorem m_known_no {kn : Bool} {k : Int32} {nn : Nat} (h : m_known kn k nn = false) : c_kn kn k nn = none := by
  unfold m_known at h
  unfold c_kn
  cases kn with
  | false => rfl
  | true =>
    rw [if_pos rfl]
    unfold c_idx
    by_cases h2 : k < 0
    · rw [if_pos h2]
    · rw [if_neg h2]
      by_cases h3 : nI nn ≤ k
      · rw [if_neg (Int32.not_lt.mpr h3)]
      · simp [h2, h3] at h
