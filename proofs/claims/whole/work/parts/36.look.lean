/-! looking at a node, and at all -/
def c_ca (nd : Nat) (D : Nat → dR) (N : Nat → nR) (ca : Nat → Option Nat) (j : Nat) : Nat → Option Nat :=
  if n_kd (N j) = 1 then ca else if k_isCall (n_kd (N j)) = true then
    match c_named D (n_fi (N j)) nd 0 with
    | none => ca
    | some t => if n_aimOk (N j) (D t) = true then va_up ca j (some t) else ca
  else ca
abbrev cS : Type := (Nat → nR) × (Nat → Option Nat) × Int32 × Int32 × Int32
def c_at (nd : Nat) (aD : Nat → Nat) (D : Nat → dR) (pn : Nat → Nat → Int64) (pt : Nat → Nat → Int32) (ho : Nat → Nat) (pa : Nat → Option Nat) (nn : Nat) (z : cS) (j : Nat) : cS :=
  let a := c_arrive nd aD D pn pt z.1 ho pa nn j
  let N1 := va_up z.1 j a.1
  let c1 := c_ca nd D z.1 z.2.1 j
  if a.2 = true then
    let mv1 := if z.2.2.2.2 < n_va a.1 then n_va a.1 else z.2.2.2.2
    if n_pt a.1 = 0 then
      let q := c_mis D pt ho pa c1 (nn + 1) N1 (some j)
      match q.2 with
      | none => (q.1, c1, z.2.2.1, z.2.2.2.1, mv1)
      | some i => (q.1, c1, 6, nI i, mv1)
    else (N1, c1, z.2.2.1, z.2.2.2.1, mv1)
  else (N1, c1, 5, nI j, z.2.2.2.2)
theorem rl_ca_up {nd nn : Nat} {aD aN : Nat → Nat} {D : Nat → dR} {N : Nat → nR} {ho : Nat → Nat} {pa ca op : Nat → Option Nat} (hI : rl nd nn aD aN D N ho pa ca op) {p t : Nat} {r : nR} (h1 : n_ho r = n_ho (N p)) (h2 : n_pa r = n_pa (N p)) (h3 : n_ca r = some (aD t)) (ht : t < nd) : rl nd nn aD aN D (va_up N p r) ho pa (va_up ca p (some t)) op := by
  refine ⟨fun j hj => ?_, hI.2⟩
  by_cases hjp : j = p
  · subst hjp
    rw [va_up_self, va_up_self, h1, h2, h3]
    obtain ⟨g1, g2, g3, g4, -, -⟩ := hI.1 j hj
    exact ⟨g1, g2, g3, g4, rfl, fun z hz => by cases hz; exact ht⟩
  · rw [va_up_ne _ _ hjp, va_up_ne _ _ hjp]
    exact hI.1 j hj
theorem rl_arr {nd nn : Nat} {aD aN : Nat → Nat} {D : Nat → dR} {N : Nat → nR} {pn : Nat → Nat → Int64} {pt : Nat → Nat → Int32} {ho : Nat → Nat} {pa ca op : Nat → Option Nat} (hI : rl nd nn aD aN D N ho pa ca op) (j : Nat) : rl nd nn aD aN D (va_up N j (c_arrive nd aD D pn pt N ho pa nn j).1) ho pa (c_ca nd D N ca j) op := by
  unfold c_arrive c_ca
  by_cases h1 : n_kd (N j) = 1
  · simp only [if_pos h1]
    exact rl_set hI rfl rfl rfl
  · simp only [if_neg h1]
    by_cases h2 : k_isCall (n_kd (N j)) = true
    · simp only [if_pos h2]
      cases hn : c_named D (n_fi (N j)) nd 0 with
      | none => exact rl_set hI rfl rfl rfl
      | some t =>
        have ht : t < nd := by have := c_named_lt nd 0 t hn; omega
        by_cases h3 : n_aimOk (N j) (D t) = true
        · have h4 : n_aimOk (n_s_va (N j) (n_count (N j) (c_q N (pa j)) (D (ho j)))) (D t) = true := h3
          simp only [if_pos h3, if_pos h4]
          exact rl_ca_up hI rfl rfl rfl ht
        · have h4 : ¬ n_aimOk (n_s_va (N j) (n_count (N j) (c_q N (pa j)) (D (ho j)))) (D t) = true := h3
          simp only [if_neg h3, if_neg h4]
          exact rl_set hI rfl rfl rfl
    · simp only [if_neg h2]
      exact rl_set hI rfl rfl rfl
theorem rl_mis {nd nn : Nat} {aD aN : Nat → Nat} {D : Nat → dR} {pt : Nat → Nat → Int32} {ho : Nat → Nat} {pa ca op : Nat → Option Nat} : ∀ (f : Nat) (N : Nat → nR) (o : Option Nat), rl nd nn aD aN D N ho pa ca op → (∀ i, o = some i → i < nn) → rl nd nn aD aN D (c_mis D pt ho pa ca f N o).1 ho pa ca op ∧ ∀ i, (c_mis D pt ho pa ca f N o).2 = some i → i < nn
  | 0, N, o, hI, ho9 => ⟨hI, fun i h => by cases h⟩
  | f + 1, N, none, hI, ho9 => ⟨hI, fun i h => by cases h⟩
  | f + 1, N, some i, hI, ho9 => by
    unfold c_mis
    by_cases h1 : c_fit D pt N ho pa ca i = true
    · rw [if_pos h1]
      by_cases h2 : n_isLast (c_hear N pa i i) (c_q (c_hear N pa i) (pa i)) = true
      · rw [if_pos h2]
        exact rl_mis f _ _ (rl_hear hI i) (fun p hp => by have h3 := ((hI.1 i (ho9 i rfl)).2.2.2.1 p hp).1; have h4 := ho9 i rfl; omega)
      · rw [if_neg h2]
        exact ⟨rl_hear hI i, fun z h => by cases h⟩
    · rw [if_neg h1]
      exact ⟨hI, fun z h => by cases h; exact ho9 i rfl⟩
theorem rl_at {nd nn : Nat} {aD aN : Nat → Nat} {D : Nat → dR} {pn : Nat → Nat → Int64} {pt : Nat → Nat → Int32} {ho : Nat → Nat} {pa op : Nat → Option Nat} {z : cS} (hI : rl nd nn aD aN D z.1 ho pa z.2.1 op) {j : Nat} (hj : j < nn) : rl nd nn aD aN D (c_at nd aD D pn pt ho pa nn z j).1 ho pa (c_at nd aD D pn pt ho pa nn z j).2.1 op := by
  have h1 := rl_arr (pn := pn) (pt := pt) hI j
  have h2 := (rl_mis (pt := pt) (nn + 1) _ (some j) h1 (fun i h => by cases h; exact hj)).1
  unfold c_at
  simp only []
  split
  · split
    · split
      · exact h2
      · exact h2
    · exact h1
  · exact h1
/-- from the i-th node on, k to go, while there is no fault -/
def c_all (nd : Nat) (aD : Nat → Nat) (D : Nat → dR) (pn : Nat → Nat → Int64) (pt : Nat → Nat → Int32) (ho : Nat → Nat) (pa : Nat → Option Nat) (nn : Nat) : Nat → Nat → cS → cS
  | 0, _, z => z
  | k + 1, i, z => if z.2.2.1 = 0 then c_all nd aD D pn pt ho pa nn k (i + 1) (c_at nd aD D pn pt ho pa nn z i) else z
def c_lookAll (nd : Nat) (aD : Nat → Nat) (D : Nat → dR) (pn : Nat → Nat → Int64) (pt : Nat → Nat → Int32) (ho : Nat → Nat) (pa : Nat → Option Nat) (nn : Nat) (z : cS) : cS :=
  if c_main nd D pt = true then c_all nd aD D pn pt ho pa nn nn 0 z else (z.1, z.2.1, 4, z.2.2.2.1, z.2.2.2.2)
theorem rl_all {nd nn : Nat} {aD aN : Nat → Nat} {D : Nat → dR} {pn : Nat → Nat → Int64} {pt : Nat → Nat → Int32} {ho : Nat → Nat} {pa op : Nat → Option Nat} : ∀ (k i : Nat) (z : cS), i + k = nn → rl nd nn aD aN D z.1 ho pa z.2.1 op → rl nd nn aD aN D (c_all nd aD D pn pt ho pa nn k i z).1 ho pa (c_all nd aD D pn pt ho pa nn k i z).2.1 op
  | 0, i, z, _, h => h
  | k + 1, i, z, hik, h => by
    unfold c_all
    split
    · exact rl_all k (i + 1) _ (by omega) (rl_at h (by omega))
    · exact h
theorem rl_lookAll {nd nn : Nat} {aD aN : Nat → Nat} {D : Nat → dR} {pn : Nat → Nat → Int64} {pt : Nat → Nat → Int32} {ho : Nat → Nat} {pa op : Nat → Option Nat} {z : cS} (h : rl nd nn aD aN D z.1 ho pa z.2.1 op) : rl nd nn aD aN D (c_lookAll nd aD D pn pt ho pa nn z).1 ho pa (c_lookAll nd aD D pn pt ho pa nn z).2.1 op := by
  unfold c_lookAll
  split
  · exact rl_all nn 0 z (by omega) h
  · exact h
