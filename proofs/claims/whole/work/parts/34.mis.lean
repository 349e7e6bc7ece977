/-! leaving nodes: from a leaf up, while each is the last part of its parent -/
def c_hear (N : Nat → nR) (pa : Nat → Option Nat) (i : Nat) : Nat → nR := match pa i with
  | none => N
  | some p => va_up N p (n_hear (N p) (n_pl (N i)) (n_vt (N i)))
abbrev c_tq (pa ca : Nat → Option Nat) (i : Nat) : Nat := (ca ((pa i).getD 0)).getD 0
def c_fit (D : Nat → dR) (pt : Nat → Nat → Int32) (N : Nat → nR) (ho : Nat → Nat) (pa ca : Nat → Option Nat) (i : Nat) : Bool := n_fitsV (N i) (c_q N (pa i)) (D (ho i)) (D (c_tq pa ca i)) (pt (c_tq pa ca i))
def c_mis (D : Nat → dR) (pt : Nat → Nat → Int32) (ho : Nat → Nat) (pa ca : Nat → Option Nat) : Nat → (Nat → nR) → Option Nat → (Nat → nR) × Option Nat
  | 0, N, _ => (N, none)
  | _ + 1, N, none => (N, none)
  | f + 1, N, some i => if c_fit D pt N ho pa ca i = true then (if n_isLast (c_hear N pa i i) (c_q (c_hear N pa i) (pa i)) = true then c_mis D pt ho pa ca f (c_hear N pa i) (pa i) else (c_hear N pa i, none)) else (N, some i)
theorem hear_ho (r : nR) (k t : Int32) : n_ho (n_hear r k t) = n_ho r ∧ n_pa (n_hear r k t) = n_pa r ∧ n_ca (n_hear r k t) = n_ca r ∧ n_num (n_hear r k t) = n_num r := by
  unfold n_hear
  split <;> (split <;> (try split) <;> exact ⟨rfl, rfl, rfl, rfl⟩)
theorem rl_set {nd nn : Nat} {aD aN : Nat → Nat} {D : Nat → dR} {N : Nat → nR} {ho : Nat → Nat} {pa ca op : Nat → Option Nat} (hI : rl nd nn aD aN D N ho pa ca op) {p : Nat} {r : nR} (h1 : n_ho r = n_ho (N p)) (h2 : n_pa r = n_pa (N p)) (h3 : n_ca r = n_ca (N p)) : rl nd nn aD aN D (va_up N p r) ho pa ca op := by
  refine ⟨fun j hj => ?_, hI.2⟩
  by_cases hjp : j = p
  · subst hjp
    rw [va_up_self, h1, h2, h3]
    exact hI.1 j hj
  · rw [va_up_ne _ _ hjp]
    exact hI.1 j hj
theorem rl_hear {nd nn : Nat} {aD aN : Nat → Nat} {D : Nat → dR} {N : Nat → nR} {ho : Nat → Nat} {pa ca op : Nat → Option Nat} (hI : rl nd nn aD aN D N ho pa ca op) (i : Nat) : rl nd nn aD aN D (c_hear N pa i) ho pa ca op := by
  unfold c_hear
  split
  · exact hI
  · exact rl_set hI (hear_ho _ _ _).1 (hear_ho _ _ _).2.1 (hear_ho _ _ _).2.2.1
theorem up_eq {α : Type} {f : Nat → α} {p : Nat} {v : α} (h : v = f p) : va_up f p v = f := by
  funext i
  by_cases hi : i = p
  · subst hi; rw [va_up_self, h]
  · rw [va_up_ne _ _ hi]
theorem rl_mq {G : gC} {M : mC} {nd nn : Nat} {aD aN : Nat → Nat} {D : Nat → dR} {N : Nat → nR} {pn : Nat → Nat → Int64} {pt : Nat → Nat → Int32} {ho : Nat → Nat} {pa ca op : Nat → Option Nat} (hI : rl nd nn aD aN D N ho pa ca op) (hD : rp_D G M nd aD D pn pt) {i : Nat} (hi : i < nn) : (∀ y, n_ca (c_q N (pa i)) = some y → M y = some (dC (D (c_tq pa ca i)))) ∧ (n_ca (c_q N (pa i)) ≠ none → M (d_apt (D (c_tq pa ca i))) = some (iA G 8 (pt (c_tq pa ca i)))) := by
  have hq : (pa i).getD 0 < nn := by
    cases hp : pa i with
    | none => show 0 < nn; omega
    | some p => show p < nn; have := ((hI.1 i hi).2.2.2.1 p hp).1; omega
  refine ⟨fun y hy => ?_, fun hne => ?_⟩
  · obtain ⟨t, ht, et, ea⟩ := rl_ca hI hq hy
    rw [ea]
    show M (aD t) = some (dC (D ((ca ((pa i).getD 0)).getD 0)))
    rw [et]
    exact (hD t ht).1
  · cases hc : n_ca (c_q N (pa i)) with
    | none => exact absurd hc hne
    | some y =>
      obtain ⟨t, ht, et, ea⟩ := rl_ca hI hq hc
      show M (d_apt (D ((ca ((pa i).getD 0)).getD 0))) = some (iA G 8 (pt ((ca ((pa i).getD 0)).getD 0)))
      rw [et]
      exact (hD t ht).2.2.1
theorem mis_none {D : Nat → dR} {pt : Nat → Nat → Int32} {ho : Nat → Nat} {pa ca : Nat → Option Nat} : ∀ (f : Nat) (N : Nat → nR), c_mis D pt ho pa ca f N none = (N, none)
  | 0, _ => rfl
  | _ + 1, _ => rfl
