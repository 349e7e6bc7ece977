/-! how the class's picture is kept when other cells change -/
theorem mz_none {G : gC} {M : mC} {sz : Nat} {U : State} {H : Heap} (h : mZ G (fr M sz) U H) : M G.2.2.2.1 = none := by
  obtain ⟨-, -, -, -, -, -, -, -, -, -, hA⟩ := h
  cases hM : M G.2.2.2.1 with
  | none => rfl
  | some e => exact absurd (fr_in hM) hA
/-- a cell that is no row of objects isn't a list's array -/
theorem ls_ne {G : gC} {M : mC} {a ed n q : Nat} {g : Nat → Nat} {e : va_E} (h : ls_ok G M a ed n g) (h0 : M G.2.2.2.1 = none) (hq : M q = some e) (he : ∀ cap f, e ≠ oA G cap f) : q ≠ ed := by
  intro z
  subst z
  obtain ⟨c, -, ⟨-, rfl⟩ | ⟨cap, f, me, -⟩⟩ := h
  · rw [h0] at hq; cases hq
  · rw [me] at hq; cases hq; exact he cap f rfl
theorem ls_keep {G : gC} {M u : mC} {a ed n : Nat} {g : Nat → Nat} (h : ls_ok G M a ed n g) (ha : u a = M a) (he : ∀ x, M ed = some x → u ed = some x) : ls_ok G u a ed n g := by
  obtain ⟨c, m0, hE | ⟨cap, f, me, hr⟩⟩ := h
  · exact ⟨c, ha.trans m0, Or.inl hE⟩
  · exact ⟨c, ha.trans m0, Or.inr ⟨cap, f, he _ me, hr⟩⟩
theorem ls_0 {G : gC} {M : mC} {a ed : Nat} {g g' : Nat → Nat} (h : ls_ok G M a ed 0 g) : ls_ok G M a ed 0 g' := by
  obtain ⟨c, m0, hE | ⟨cap, f, me, h1, h2, h3, h4⟩⟩ := h
  · exact ⟨c, m0, Or.inl hE⟩
  · exact ⟨c, m0, Or.inr ⟨cap, f, me, h1, h2, h3, fun i hi => absurd hi (Nat.not_lt_zero _)⟩⟩
theorem ls_in {G : gC} {M : mC} {a ed n : Nat} {g : Nat → Nat} {x : va_E} (h : ls_ok G M a ed n g) (h0 : M G.2.2.2.1 = none) (hx : M ed = some x) : ∃ cap f, M ed = some (oA G cap f) := by
  obtain ⟨c, m0, ⟨-, rfl⟩ | ⟨cap, f, me, -⟩⟩ := h
  · rw [h0] at hx; cases hx
  · exact ⟨cap, f, me⟩
theorem ne_x {M : mC} {x a : Nat} {ld ln : Nat} {kn : Bool} {ft fn mv : Int32} {r : aR} (hx : M x = some (xC ld ln kn ft fn mv)) (ha : M a = some (aC r)) : x ≠ a := fun z => by rw [z, ha] at hx; cases hx
theorem ne_xo {M : mC} {x a : Nat} {ld ln : Nat} {kn : Bool} {ft fn mv : Int32} {G : gC} {cap : Nat} {f : Nat → Option Nat} (hx : M x = some (xC ld ln kn ft fn mv)) (ha : M a = some (oA G cap f)) : x ≠ a := fun z => by rw [z, ha] at hx; cases hx
/-- an empty picture -/
theorem rp_nil {G : gC} {M : mC} {x ld ln ed en : Nat} {kn : Bool} {ft fn mv : Int32} {aD aN : Nat → Nat} {D : Nat → dR} {N : Nat → nR} {pn : Nat → Nat → Int64} {pt : Nat → Nat → Int32} (mx : M x = some (xC ld ln kn ft fn mv)) (hd : ls_ok G M ld ed 0 aD) (hn : ls_ok G M ln en 0 aN) (h1 : ld ≠ ln) (h2 : ed = en → ed = G.2.2.2.1) : rp G M x ld ln ed en 0 0 aD aN D N pn pt kn ft fn mv :=
  ⟨mx, hd, hn, fun i hi => absurd hi (Nat.not_lt_zero _), fun i hi => absurd hi (Nat.not_lt_zero _), ⟨h1, h2, fun i j hi => absurd hi (Nat.not_lt_zero _)⟩, Nat.zero_le _, Nat.zero_le _⟩
def k_parts (k : Int32) : Int32 := [0, 0, 0, 2, 2, 2, 2, 2, 2, 2, 3, 2, 3, 2, -1, -1, 1, 1, 2, 1, 3, 2, 3, -1].getD k.toNatClampNeg 0
def k_partsFit (k n : Int32) : Bool := if k_isKind k = true then (if k_parts k = -1 then !decide (n < 0) else decide (n = k_parts k)) else false
theorem k_in {k : Int32} (h : k_isKind k = true) : vp_in k 24 := by
  unfold k_isKind at h
  rw [vp_in_iff]
  split at h
  · cases h
  · split at h
    · cases h
    · rename_i h0 h1
      rw [Int32.lt_iff_toInt_lt] at h0 h1
      have e0 : (0 : Int32).toInt = 0 := by decide
      have e8 : (23 : Int32).toInt = 23 := by decide
      rw [e0] at h0
      rw [e8] at h1
      omega
theorem mz_E {G : gC} {M : mC} {sz : Nat} {U : State} {H : Heap} (h : mZ G (fr M sz) U H) : ¬ fr M sz G.2.2.2.1 := by
  obtain ⟨-, -, -, -, -, -, -, -, -, -, hA⟩ := h
  exact hA
theorem e_none {A : Nat → Prop} {u : mC} {e : Nat} (hF : ∀ q, u q ≠ none → A q) (hE : ¬ A e) : u e = none := by
  cases h : u e with
  | none => rfl
  | some x => exact absurd (hF e (by rw [h]; exact Option.some_ne_none _)) hE
/-- one list changes: the other stays -/
theorem ls_other {G : gC} {M u : mC} {a ed n b eb m : Nat} {g h : Nat → Nat} (hA : ls_ok G M a ed n g) (hB : ls_ok G M b eb m h) (h0 : M G.2.2.2.1 = none) (hab : a ≠ b) (he : ed = eb → ed = G.2.2.2.1) (hq : ∀ q, q ≠ a → q ≠ ed → u q = M q) : ls_ok G u b eb m h := by
  obtain ⟨ca, ma⟩ := ls_obj hA
  obtain ⟨cb, mb⟩ := ls_obj hB
  refine ls_keep hB (hq b (Ne.symm hab) (ls_ne hA h0 mb (fun _ _ z => by cases z))) (fun z hz => ?_)
  obtain ⟨cap, f, me⟩ := ls_in hB h0 hz
  refine (hq eb (Ne.symm (oa_ne ma me)) (fun e => ?_)).trans hz
  rw [e, he e.symm, h0] at hz
  cases hz
theorem ls_x {G : gC} {M u : mC} {a ed n x : Nat} {g : Nat → Nat} {ld ln : Nat} {kn : Bool} {ft fn mv : Int32} (hA : ls_ok G M a ed n g) (h0 : M G.2.2.2.1 = none) (mx : M x = some (xC ld ln kn ft fn mv)) (hq : ∀ q, q ≠ a → q ≠ ed → u q = M q) : u x = some (xC ld ln kn ft fn mv) := by
  obtain ⟨ca, ma⟩ := ls_obj hA
  exact (hq x (ne_x mx ma) (ls_ne hA h0 mx (fun _ _ z => by cases z))).trans mx
theorem ls_up {G : gC} {M : mC} {a ed n q : Nat} {g : Nat → Nat} {e e' : va_E} (hA : ls_ok G M a ed n g) (h0 : M G.2.2.2.1 = none) (hq : M q = some e) (h1 : ∀ r, e ≠ aC r) (h2 : ∀ cap f, e ≠ oA G cap f) : ls_ok G (mp_up M q e') a ed n g := by
  obtain ⟨ca, ma⟩ := ls_obj hA
  have hqa : a ≠ q := fun z => by rw [z, hq] at ma; cases ma; exact h1 _ rfl
  exact ls_keep hA (mp_ne hqa) (fun z hz => mp_at (Ne.symm (ls_ne hA h0 hq h2)) hz)
theorem c_nn {o : Option Nat} {f : Nat → Nat} {y : Nat} (h : o.map f = some y) : o.isNone = false := by
  cases o with
  | none => cases h
  | some j => rfl
