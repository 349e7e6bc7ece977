/-! coming to a node: what its record is behind it, and whether its X or F is there -/
theorem chd_L {M : mC} {nn j : Nat} {aN : Nat → Nat} {N : Nat → nR} {pa : Nat → Option Nat} (hN : rp_N M nn aN N) (hn : nn ≤ 600) (hj : j < nn) (hp : ∀ j, j < nn → n_pa (N j) = (pa j).map aN ∧ ∀ p, pa j = some p → p < j) : ∀ (f : Nat) (o : Option Nat), (∀ i, o = some i → i < j ∧ i < f) → chd (aN j) (o.map aN) (c_chL N pa f o)
  | 0, none, _ => trivial
  | 0, some i, h => absurd (h i rfl).2 (Nat.not_lt_zero _)
  | _ + 1, none, _ => trivial
  | f + 1, some i, h => by
    obtain ⟨h1, h2⟩ := h i rfl
    refine ⟨fun z => ?_, ?_⟩
    · have := aN_inj hN hn (by omega) hj z
      omega
    · rw [(hp i (by omega)).1]
      exact chd_L hN hn hj hp f (pa i) (fun p hpi => by have := (hp i (by omega)).2 p hpi; omega)
abbrev c_q (N : Nat → nR) (o : Option Nat) : nR := N (o.getD 0)
def c_arrive (nd : Nat) (aD : Nat → Nat) (D : Nat → dR) (pn : Nat → Nat → Int64) (pt : Nat → Nat → Int32) (N : Nat → nR) (ho : Nat → Nat) (pa : Nat → Option Nat) (nn j : Nat) : nR × Bool :=
  let r1 := n_s_va (N j) (n_count (N j) (c_q N (pa j)) (D (ho j)))
  if n_kd (N j) = 1 then
    (n_s_vt (n_s_bb r1 (n_bv (n_bnd (n_fi (N j)) r1 (c_chL (va_up N j r1) pa (nn + 1) (pa j))) (d_index (D (ho j)) (pn (ho j)) (n_fi (N j))))) (n_bt (n_bnd (n_fi (N j)) r1 (c_chL (va_up N j r1) pa (nn + 1) (pa j))) (n_fi (N j)) (D (ho j)) (pt (ho j)) (d_index (D (ho j)) (pn (ho j)) (n_fi (N j)))), n_bok (n_bnd (n_fi (N j)) r1 (c_chL (va_up N j r1) pa (nn + 1) (pa j))) (d_index (D (ho j)) (pn (ho j)) (n_fi (N j))))
  else if k_isCall (n_kd (N j)) = true then
    match c_named D (n_fi (N j)) nd 0 with
    | none => (r1, false)
    | some t => if n_aimOk r1 (D t) = true then (n_s_vt (n_s_ca r1 (some (aD t))) (d_vt (D t)), true) else (r1, false)
  else (n_s_vt r1 (k_ownType (n_kd (N j))), true)
theorem c_named_lt {D : Nat → dR} {x : Int64} : ∀ (k i t : Nat), c_named D x k i = some t → t < i + k
  | 0, i, t, h => by cases h
  | k + 1, i, t, h => by
    unfold c_named at h
    split at h
    · cases h; omega
    · have := c_named_lt k (i + 1) t h; omega
theorem map_some {o : Option Nat} {f : Nat → Nat} {y : Nat} (h : o.map f = some y) : ∃ t, o = some t ∧ y = f t := by
  cases o with
  | none => cases h
  | some t => cases h; exact ⟨t, rfl, rfl⟩
theorem rl_q {nd nn : Nat} {aD aN : Nat → Nat} {D : Nat → dR} {N : Nat → nR} {ho : Nat → Nat} {pa ca op : Nat → Option Nat} (hI : rl nd nn aD aN D N ho pa ca op) {M : mC} (hN : rp_N M nn aN N) {j : Nat} (hj : j < nn) : ∀ y, n_pa (N j) = some y → M y = some (nC (c_q N (pa j))) := by
  intro y hy
  obtain ⟨p, hp, ep, ea⟩ := rl_pa hI hj hy
  rw [ea, ep]
  exact (hN p (by omega)).1
theorem rl_qne {nd nn : Nat} {aD aN : Nat → Nat} {D : Nat → dR} {N : Nat → nR} {ho : Nat → Nat} {pa ca op : Nat → Option Nat} (hI : rl nd nn aD aN D N ho pa ca op) {M : mC} (hN : rp_N M nn aN N) (hn : nn ≤ 600) {j : Nat} (hj : j < nn) : ∀ y, n_pa (N j) = some y → y ≠ aN j := by
  intro y hy z
  obtain ⟨p, hp, ep, ea⟩ := rl_pa hI hj hy
  rw [ea] at z
  have := aN_inj hN hn (by omega) hj z
  omega
theorem rl_pp {nd nn : Nat} {aD aN : Nat → Nat} {D : Nat → dR} {N : Nat → nR} {ho : Nat → Nat} {pa ca op : Nat → Option Nat} (hI : rl nd nn aD aN D N ho pa ca op) {j : Nat} {r : nR} (hr : n_pa r = n_pa (N j)) : ∀ i, i < nn → n_pa (va_up N j r i) = (pa i).map aN ∧ ∀ p, pa i = some p → p < i := by
  intro i hi
  obtain ⟨-, -, h3, h4, -⟩ := hI.1 i hi
  refine ⟨?_, fun p hp => (h4 p hp).1⟩
  by_cases hij : i = j
  · subst hij; rw [va_up_self, hr]; exact h3
  · rw [va_up_ne _ _ hij]; exact h3
