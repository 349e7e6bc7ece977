/-! THE CLASS IN A MAP: the root at x, its lists at ld and ln (their arrays at ed, en), definitions D at aD (their arrays hold pn, pt), nodes N at aN -/
abbrev xC (ld ln : Nat) (kn : Bool) (ft fn mv : Int32) : va_E := .inr (0, [.ref ld, .ref ln, .int (bI kn), .int ft, .int fn, .int mv])
def rp_D (G : gC) (M : mC) (nd : Nat) (aD : Nat → Nat) (D : Nat → dR) (pn : Nat → Nat → Int64) (pt : Nat → Nat → Int32) : Prop := ∀ i, i < nd → M (aD i) = some (dC (D i)) ∧ M (d_apn (D i)) = some (lA G 8 (pn i)) ∧ M (d_apt (D i)) = some (iA G 8 (pt i)) ∧ d_num (D i) = nI i
def rp_N (M : mC) (nn : Nat) (aN : Nat → Nat) (N : Nat → nR) : Prop := ∀ j, j < nn → M (aN j) = some (nC (N j)) ∧ n_num (N j) = nI j
/-- the parameters' arrays of two definitions are apart; so are the lists, and their arrays -/
def rp_A (G : gC) (ld ln ed en nd : Nat) (D : Nat → dR) : Prop := ld ≠ ln ∧ (ed = en → ed = G.2.2.2.1) ∧ ∀ i j, i < nd → j < nd → (d_apn (D i) = d_apn (D j) ∨ d_apt (D i) = d_apt (D j)) → i = j
def rp (G : gC) (M : mC) (x ld ln ed en nd nn : Nat) (aD aN : Nat → Nat) (D : Nat → dR) (N : Nat → nR) (pn : Nat → Nat → Int64) (pt : Nat → Nat → Int32) (kn : Bool) (ft fn mv : Int32) : Prop :=
  M x = some (xC ld ln kn ft fn mv) ∧ ls_ok G M ld ed nd aD ∧ ls_ok G M ln en nn aN ∧ rp_D G M nd aD D pn pt ∧ rp_N M nn aN N ∧ rp_A G ld ln ed en nd D ∧ nd ≤ 64 ∧ nn ≤ 600
/-- the last definition's address -/
def c_last (nd : Nat) (aD : Nat → Nat) : Option Nat := match nd with
  | 0 => none
  | k + 1 => some (aD k)
def c_whole (nd : Nat) (D : Nat → dR) : Bool := match nd with
  | 0 => true
  | k + 1 => d_whole (D k)
/-- the first definition with the name, from the i-th on, k to go -/
def c_named (D : Nat → dR) (x : Int64) : Nat → Nat → Option Nat
  | 0, _ => none
  | k + 1, i => if d_nm (D i) = x then some i else c_named D x k (i + 1)
def c_idx (k : Int32) (nn : Nat) : Option Nat := if k < 0 then none else if k < nI nn then some k.toNatClampNeg else none
theorem c_idx_lt {k : Int32} {nn j : Nat} (h : c_idx k nn = some j) (hn : nn ≤ 600) : j < nn := by
  unfold c_idx at h
  split at h
  · cases h
  · split at h
    · rename_i h0 h1
      cases h
      obtain ⟨i, hi, rfl⟩ := nI_of h0
      rw [nI_clamp hi]
      exact (nI_ltI hi (by omega)).mp h1
    · cases h
theorem c_at_some {k : Int32} {nn y : Nat} {aN : Nat → Nat} (h : (c_idx k nn).map aN = some y) (hn : nn ≤ 600) : ∃ j, j < nn ∧ c_idx k nn = some j ∧ y = aN j := by
  cases hj : c_idx k nn with
  | none => rw [hj] at h; cases h
  | some j =>
    rw [hj] at h
    cases h
    exact ⟨j, c_idx_lt hj hn, rfl, rfl⟩
def c_kn (kn : Bool) (k : Int32) (nn : Nat) : Option Nat := if kn = true then c_idx k nn else none
theorem c_kn_some {kn : Bool} {k : Int32} {nn y : Nat} {aN : Nat → Nat} (h : (c_kn kn k nn).map aN = some y) (hn : nn ≤ 600) : ∃ j, j < nn ∧ c_kn kn k nn = some j ∧ y = aN j := by
  cases hj : c_kn kn k nn with
  | none => rw [hj] at h; cases h
  | some j =>
    rw [hj] at h
    cases h
    unfold c_kn at hj
    split at hj
    · exact ⟨j, c_idx_lt hj hn, rfl, rfl⟩
    · cases hj
def c_val (o : Option Nat) (f : Nat → Int32) : Int32 := match o with
  | none => -1
  | some j => f j
theorem map_none {o : Option Nat} {f : Nat → Nat} (h : o.map f = none) : o = none := by
  cases o with
  | none => rfl
  | some j => cases h
/-- the links by number: home, parent and callee of a node, the open node of a definition -/
def rl (nd nn : Nat) (aD aN : Nat → Nat) (D : Nat → dR) (N : Nat → nR) (ho : Nat → Nat) (pa ca op : Nat → Option Nat) : Prop :=
  (∀ j, j < nn → n_ho (N j) = aD (ho j) ∧ ho j < nd ∧ n_pa (N j) = (pa j).map aN ∧ (∀ p, pa j = some p → p < j ∧ ho p = ho j) ∧ n_ca (N j) = (ca j).map aD ∧ ∀ t, ca j = some t → t < nd) ∧ ∀ i, i < nd → d_op (D i) = (op i).map aN ∧ ∀ o, op i = some o → o < nn ∧ ho o = i
def c_num (o : Option Nat) : Int32 := match o with
  | none => -1
  | some j => nI j
def c_of (w : Int32) (N : nR) (pa : Option Nat) (ho : Nat) : Int32 := if w = 0 then n_kd N else if w = 1 then n_pt N else if w = 2 then c_num pa else if w = 3 then nI ho else -1
def c_look (w : Int32) (nd nn : Nat) (ft fn : Int32) (wh kn : Bool) (mv : Int32) : Int32 := if w = 0 then nI nd else if w = 1 then nI nn else if w = 2 then ft else if w = 3 then fn else if w = 4 then bI wh else if w = 5 then (if kn = true then mv else -1) else -1
def c_main1 (d : dR) (pt : Nat → Int32) : Bool := !d_chg d && decide (d_nm d = 427310) && decide (d_vt d = 3) && decide (d_np d = 1) && decide (d_ptype d pt 0 = 3)
def c_main (nd : Nat) (D : Nat → dR) (pt : Nat → Nat → Int32) : Bool := match nd with
  | 0 => false
  | k + 1 => c_main1 (D k) (pt k)
theorem ix_of {k : Int32} {nn : Nat} (h0 : ¬ k < 0) (h1 : k < nI nn) (hn : nn ≤ 600) : ∃ j, j < nn ∧ k = nI j := by
  obtain ⟨i, hi, rfl⟩ := nI_of h0
  exact ⟨i, (nI_ltI hi (by omega)).mp h1, rfl⟩
theorem rl_ca {nd nn : Nat} {aD aN : Nat → Nat} {D : Nat → dR} {N : Nat → nR} {ho : Nat → Nat} {pa ca op : Nat → Option Nat} (h : rl nd nn aD aN D N ho pa ca op) {j y : Nat} (hj : j < nn) (hy : n_ca (N j) = some y) : ∃ t, t < nd ∧ ca j = some t ∧ y = aD t := by
  obtain ⟨-, -, -, -, h5, h6⟩ := h.1 j hj
  rw [h5] at hy
  cases hc : ca j with
  | none => rw [hc] at hy; cases hy
  | some t =>
    rw [hc] at hy
    cases hy
    exact ⟨t, h6 t hc, rfl, rfl⟩
theorem rl_ca0 {nd nn : Nat} {aD aN : Nat → Nat} {D : Nat → dR} {N : Nat → nR} {ho : Nat → Nat} {pa ca op : Nat → Option Nat} (h : rl nd nn aD aN D N ho pa ca op) {j : Nat} (hj : j < nn) (hy : n_ca (N j) = none) : ca j = none := by
  obtain ⟨-, -, -, -, h5, h6⟩ := h.1 j hj
  rw [h5] at hy
  exact map_none hy
theorem rl_pa {nd nn : Nat} {aD aN : Nat → Nat} {D : Nat → dR} {N : Nat → nR} {ho : Nat → Nat} {pa ca op : Nat → Option Nat} (h : rl nd nn aD aN D N ho pa ca op) {j y : Nat} (hj : j < nn) (hy : n_pa (N j) = some y) : ∃ t, t < j ∧ pa j = some t ∧ y = aN t := by
  obtain ⟨-, -, h5, h6, -⟩ := h.1 j hj
  rw [h5] at hy
  cases hc : pa j with
  | none => rw [hc] at hy; cases hy
  | some t =>
    rw [hc] at hy
    cases hy
    exact ⟨t, (h6 t hc).1, rfl, rfl⟩
theorem rl_pa0 {nd nn : Nat} {aD aN : Nat → Nat} {D : Nat → dR} {N : Nat → nR} {ho : Nat → Nat} {pa ca op : Nat → Option Nat} (h : rl nd nn aD aN D N ho pa ca op) {j : Nat} (hj : j < nn) (hy : n_pa (N j) = none) : pa j = none := by
  obtain ⟨-, -, h5, h6, -⟩ := h.1 j hj
  rw [h5] at hy
  exact map_none hy
theorem rl_op {nd nn : Nat} {aD aN : Nat → Nat} {D : Nat → dR} {N : Nat → nR} {ho : Nat → Nat} {pa ca op : Nat → Option Nat} (h : rl nd nn aD aN D N ho pa ca op) {i y : Nat} (hi : i < nd) (hy : d_op (D i) = some y) : ∃ t, t < nn ∧ op i = some t ∧ y = aN t := by
  obtain ⟨h5, h6⟩ := h.2 i hi
  rw [h5] at hy
  cases hc : op i with
  | none => rw [hc] at hy; cases hy
  | some t =>
    rw [hc] at hy
    cases hy
    exact ⟨t, (h6 t hc).1, rfl, rfl⟩
