/-! one more node -/
abbrev c_new (nn ad : Nat) (dop : Option Nat) (sl kd : Int32) (fi se : Int64) (pts : Int32) : nR := (nI nn, ad, dop, sl, kd, fi, se, pts, 0, -1, -1, -1, none, 0)
def c_bump (N : Nat → nR) (o : Option Nat) : Nat → nR := match o with
  | none => N
  | some j => va_up N j (n_s_fl (N j) (n_fl (N j) + 1))
theorem bump_pa (N : Nat → nR) (o : Option Nat) (j : Nat) : n_pa (c_bump N o j) = n_pa (N j) := by
  cases o with
  | none => rfl
  | some i =>
    by_cases h : j = i
    · subst h; show n_pa (va_up N j _ j) = _; rw [va_up_self]
    · show n_pa (va_up N i _ j) = _; rw [va_up_ne _ _ h]
theorem map_up {o : Option Nat} {aN : Nat → Nat} {nn a : Nat} (h : ∀ p, o = some p → p < nn) : o.map aN = o.map (va_up aN nn a) := by
  cases o with
  | none => rfl
  | some p => show some (aN p) = some (va_up aN nn a p); rw [va_up_ne _ _ (by have := h p rfl; omega)]
theorem node_pa {nd nn k a : Nat} {aD aN : Nat → Nat} {D : Nat → dR} {N : Nat → nR} {ho : Nat → Nat} {pa ca op : Nat → Option Nat} (hI : rl nd nn aD aN D N ho pa ca op) (hk : k < nd) {r : nR} (hr : n_pa r = d_op (D k)) : ∀ j, j < nn + 1 → n_pa (c_bump (va_up N nn r) (op k) j) = (va_up pa nn (op k) j).map (va_up aN nn a) ∧ ∀ p, va_up pa nn (op k) j = some p → p < j := by
  intro j hj
  rw [bump_pa]
  by_cases hjn : j = nn
  · subst hjn
    rw [va_up_self, va_up_self, hr, (hI.2 k hk).1]
    exact ⟨map_up (fun p hp => ((hI.2 k hk).2 p hp).1), fun p hp => ((hI.2 k hk).2 p hp).1⟩
  · rw [va_up_ne _ _ hjn, va_up_ne _ _ hjn]
    obtain ⟨-, -, h3, h4, -⟩ := hI.1 j (by omega)
    rw [h3]
    exact ⟨map_up (fun p hp => by have := (h4 p hp).1; omega), fun p hp => (h4 p hp).1⟩
theorem rp_bump {G : gC} {u3 : mC} {x ld ln ed en nd n1 : Nat} {aD aN : Nat → Nat} {D : Nat → dR} {N : Nat → nR} {pn : Nat → Nat → Int64} {pt : Nat → Nat → Int32} {kn : Bool} {ft fn mv : Int32} (o : Option Nat) (hR : rp G u3 x ld ln ed en nd n1 aD aN D N pn pt kn ft fn mv) (h0 : u3 G.2.2.2.1 = none) (ho : ∀ j, o = some j → j < n1) : ∃ Nm : mC, (o = none → Nm = u3) ∧ (∀ j, o = some j → Nm = mp_up u3 (aN j) (nC (n_s_fl (N j) (n_fl (N j) + 1)))) ∧ rp G Nm x ld ln ed en nd n1 aD aN D (c_bump N o) pn pt kn ft fn mv ∧ Nm G.2.2.2.1 = none := by
  cases o with
  | none => exact ⟨u3, fun _ => rfl, fun j h => (by cases h), hR, h0⟩
  | some j =>
    have hj := ho j rfl
    have hz : G.2.2.2.1 ≠ aN j := fun z => by
      have := (hR.2.2.2.2.1 j hj).1
      rw [← z, h0] at this
      cases this
    exact ⟨_, fun h => (by cases h), fun i h => (by cases h; rfl), rp_setN hR h0 hj rfl, (mp_ne hz).trans h0⟩
def c_nodeOk (kd : Int32) (fi se : Int64) (pts : Int32) (d : dR) (q : nR) (nn : Nat) : Bool := !d_whole d && decide (nI nn < 4096) && k_isKind kd && (k_isChange kd == d_wants d q) && k_partsFit kd pts && k_namesFit kd fi se
