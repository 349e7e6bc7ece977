/-- the first node from j on, k to go, that is the q-th part of the p-th -/
def m_part (N : Nat → nR) (pa : Nat → Option Nat) (p : Nat) (q : Int32) : Nat → Nat → Option Nat
  | 0, _ => none
  | f + 1, j => if c_num (pa j) = nI p then (if n_pl (N j) = q then some j else m_part N pa p q f (j + 1)) else m_part N pa p q f (j + 1)
theorem m_part_lt {N : Nat → nR} {pa : Nat → Option Nat} {p : Nat} {q : Int32} : ∀ (f j i : Nat), m_part N pa p q f j = some i → j ≤ i ∧ i < j + f
  | 0, j, i, h => by cases h
  | f + 1, j, i, h => by
    unfold m_part at h
    split at h
    · split at h
      · cases h; omega
      · have := m_part_lt f (j + 1) i h; omega
    · have := m_part_lt f (j + 1) i h; omega
def m_vb (q : nR) (pl : Int32) : Int32 := if m_bIn (n_kd q) pl = true then (if k_isCase (n_kd q) = true then 2 else 1) else 0
/-- the variables that are there at j, added to a -/
def m_thr (N : Nat → nR) (pa : Nat → Option Nat) : Nat → Int32 → Nat → Int32
  | 0, a, _ => a
  | f + 1, a, j => match pa j with
    | none => a
    | some p => m_thr N pa f (a + m_vb (N p) (n_pl (N j))) p
/-- what binds a name at j -/
def m_bo (N : Nat → nR) (pa : Nat → Option Nat) (x : Int64) : Nat → Nat → Option Nat
  | 0, _ => none
  | f + 1, j => match pa j with
    | none => none
    | some p => if (m_bIn (n_kd (N p)) (n_pl (N j)) && (decide (n_fi (N p) = x) || decide (n_se (N p) = x))) = true then some p else m_bo N pa x f p
/-- a parameter's place, from the i-th on, k to go -/
def m_pi (pn : Nat → Int64) (x : Int64) : Nat → Nat → Option Nat
  | 0, _ => none
  | k + 1, i => if pn i = x then some i else m_pi pn x k (i + 1)
def m_pv (o : Option Nat) : Int32 := match o with
  | some i => -2 - nI i
  | none => -1
def m_bval (N : Nat → nR) (pa : Nat → Option Nat) (pn : Nat → Nat → Int64) (np ho : Nat → Nat) (x : Int64) (j : Nat) : Int32 := match m_bo N pa x (j + 1) j with
  | some p => nI p
  | none => m_pv (m_pi (pn (ho j)) x (np (ho j)) 0)
/-- the last definition with the name, from the i-th on, k to go; or o -/
def m_tg (D : Nat → dR) (x : Int64) : Nat → Nat → Option Nat → Option Nat
  | 0, _, o => o
  | k + 1, i, o => m_tg D x k (i + 1) (if d_nm (D i) = x then some i else o)
def m_tgt (nd : Nat) (D : Nat → dR) (np : Nat → Nat) (r : nR) : Option Nat := match m_tg D (n_fi r) nd 0 none with
  | none => none
  | some t => if (d_chg (D t) == decide (n_kd r = 23)) = true then (if nI (np t) = n_pt r then some t else none) else none
theorem m_tg_lt {D : Nat → dR} {x : Int64} {nd : Nat} : ∀ (k i : Nat) (o : Option Nat), i + k = nd → (∀ t, o = some t → t < nd) → ∀ t, m_tg D x k i o = some t → t < nd
  | 0, i, o, _, ho, t, h => ho t h
  | k + 1, i, o, hik, ho, t, h => by
    unfold m_tg at h
    refine m_tg_lt k (i + 1) _ (by omega) (fun z hz => ?_) t h
    split at hz
    · cases hz; omega
    · exact ho z hz
theorem m_tgt_lt {nd : Nat} {D : Nat → dR} {np : Nat → Nat} {r : nR} {t : Nat} (h : m_tgt nd D np r = some t) : t < nd := by
  unfold m_tgt at h
  split at h
  · cases h
  · rename_i t9 h9
    have := m_tg_lt (nd := nd) nd 0 none (by omega) (fun z hz => by cases hz) t9 h9
    split at h
    · split at h
      · cases h; exact this
      · cases h
    · cases h
def m_main (nd : Nat) (D : Nat → dR) (np : Nat → Nat) (pt : Nat → Nat → Int32) : Bool := match nd with
  | 0 => false
  | k + 1 => !d_chg (D k) && decide (d_nm (D k) = 427310) && decide (nI (np k) = 1) && decide (pt k 0 = 3) && decide (d_vt (D k) = 3)
theorem m_thr_acc {N : Nat → nR} {pa : Nat → Option Nat} : ∀ (f : Nat) (a : Int32) (j : Nat), m_thr N pa f a j = a + m_thr N pa f 0 j
  | 0, a, j => by simp [m_thr]
  | f + 1, a, j => by
    unfold m_thr
    split
    · simp
    · rw [m_thr_acc f (a + _), m_thr_acc f (0 + _), Int32.zero_add, Int32.add_assoc]
