/-! one more definition -/
theorem rp_mono {G : gC} {M u : mC} {x ld ln ed en nd nn : Nat} {aD aN : Nat → Nat} {D : Nat → dR} {N : Nat → nR} {pn : Nat → Nat → Int64} {pt : Nat → Nat → Int32} {kn : Bool} {ft fn mv : Int32} (hR : rp G M x ld ln ed en nd nn aD aN D N pn pt kn ft fn mv) (h : ∀ q e, M q = some e → u q = some e) : rp G u x ld ln ed en nd nn aD aN D N pn pt kn ft fn mv := by
  obtain ⟨mx, hLd, hLn, hD, hN, hAp, hnd, hnn⟩ := hR
  obtain ⟨cl, ml⟩ := ls_obj hLd
  obtain ⟨ck, mk⟩ := ls_obj hLn
  exact ⟨h _ _ mx, ls_keep hLd ((h _ _ ml).trans ml.symm) (h _), ls_keep hLn ((h _ _ mk).trans mk.symm) (h _), fun i hi => ⟨h _ _ (hD i hi).1, h _ _ (hD i hi).2.1, h _ _ (hD i hi).2.2.1, (hD i hi).2.2.2⟩, fun j hj => ⟨h _ _ (hN j hj).1, (hN j hj).2⟩, hAp, hnd, hnn⟩
/-- behind add: cells that are no list and no row of objects -/
theorem add_keep {G : gC} {u2 u3 : mC} {a ed' : Nat} {r : aR} (hq : ∀ q, q ≠ a → q ≠ ed' → u3 q = u2 q) (ma : u2 a = some (aC r)) (hed : (∃ cap f, u2 ed' = some (oA G cap f)) ∨ u2 ed' = none) {q : Nat} {e : va_E} (h : u2 q = some e) (h1 : ∀ r, e ≠ aC r) (h2 : ∀ cap f, e ≠ oA G cap f) : u3 q = some e := by
  refine (hq q (fun z => ?_) (fun z => ?_)).trans h
  · rw [z, ma] at h; cases h; exact h1 _ rfl
  · rcases hed with ⟨cap, f, me⟩ | me
    · rw [z, me] at h; cases h; exact h2 _ _ rfl
    · rw [z, me] at h; cases h
/-- behind add: the other list -/
theorem add_other {G : gC} {u2 u3 : mC} {a b ed' eb m : Nat} {r : aR} {h : Nat → Nat} (hq : ∀ q, q ≠ a → q ≠ ed' → u3 q = u2 q) (ma : u2 a = some (aC r)) (hed : (∃ cap f, u2 ed' = some (oA G cap f)) ∨ u2 ed' = none) (hB : ls_ok G u2 b eb m h) (h02 : u2 G.2.2.2.1 = none) (hab : a ≠ b) (he : ed' = eb → ed' = G.2.2.2.1) : ls_ok G u3 b eb m h := by
  obtain ⟨cb, mb⟩ := ls_obj hB
  refine ls_keep hB (hq b (Ne.symm hab) (fun z => ?_)) (fun z hz => ?_)
  · rcases hed with ⟨cap, f, me⟩ | me
    · rw [z, me] at mb; cases mb
    · rw [z, me] at mb; cases mb
  · obtain ⟨cap, f, me⟩ := ls_in hB h02 hz
    refine (hq eb (Ne.symm (oa_ne ma me)) (fun e => ?_)).trans hz
    rw [e, he e.symm, h02] at hz
    cases hz
theorem ed_ne {G : gC} {u2 : mC} {b eb ed ed' m : Nat} {h : Nat → Nat} (hB : ls_ok G u2 b eb m h) (hed : ed' = ed ∨ u2 ed' = none) (he : ed = eb → ed = G.2.2.2.1) : ed' = eb → ed' = G.2.2.2.1 := by
  intro z
  rcases hed with e | e
  · rw [e] at z ⊢; exact he z
  · obtain ⟨c, -, ⟨-, e2⟩ | ⟨cap, f, me, -⟩⟩ := hB
    · rw [z]; exact e2
    · rw [← z, e] at me; cases me
theorem up_x {G : gC} {M : mC} {x q : Nat} {e e' : va_E} {ld ln : Nat} {kn : Bool} {ft fn mv : Int32} (mx : M x = some (xC ld ln kn ft fn mv)) (h : M q = some e) (hn : ∀ ld ln kn ft fn mv, e ≠ xC ld ln kn ft fn mv) : mp_up M x e' q = some e := mp_at (fun z => by rw [z, mx] at h; cases h; exact hn _ _ _ _ _ _ rfl) h
theorem rp_def {G : gC} {M u2 u3 : mC} {x ld ln ed en ed' nd nn a : Nat} {aD aN : Nat → Nat} {D : Nat → dR} {N : Nat → nR} {pn : Nat → Nat → Int64} {pt : Nat → Nat → Int32} {kn : Bool} {ft fn mv : Int32} {d : dR} (hR : rp G M x ld ln ed en nd nn aD aN D N pn pt kn ft fn mv) (hlt : nd < 64) (h2 : ∀ q e, M q = some e → u2 q = some e) (ha : u2 a = some (dC d)) (hb : u2 (d_apn d) = some (lA G 8 (fun _ => 0))) (hc : u2 (d_apt d) = some (iA G 8 (fun _ => 0))) (hnum : d_num d = nI nd) (hnb : M (d_apn d) = none) (hnc : M (d_apt d) = none) (h02 : u2 G.2.2.2.1 = none) (h03 : u3 G.2.2.2.1 = none) (hL : ls_ok G u3 ld ed' (nd + 1) (va_up aD nd a)) (hed : (ed' = ed ∧ ∃ cap f, u2 ed = some (oA G cap f)) ∨ u2 ed' = none) (hq : ∀ q, q ≠ ld → q ≠ ed' → u3 q = u2 q) :
    rp G (mp_up u3 x (xC ld ln false ft fn mv)) x ld ln ed' en (nd + 1) nn (va_up aD nd a) aN (va_up D nd d) N (va_up pn nd (fun _ => 0)) (va_up pt nd (fun _ => 0)) false ft fn mv := by
  have hR2 := rp_mono hR h2
  have hD1 := hR.2.2.2.1
  obtain ⟨mx, hLd, hLn, hD, hN, hAp, hnd, hnn⟩ := hR2
  obtain ⟨cl, ml⟩ := ls_obj hLd
  have hed2 : (∃ cap f, u2 ed' = some (oA G cap f)) ∨ u2 ed' = none := hed.elim (fun h => Or.inl (by rw [h.1]; exact h.2)) Or.inr
  have hed3 : ed' = en → ed' = G.2.2.2.1 := ed_ne hLn (hed.elim (fun h => Or.inl h.1) Or.inr) hAp.2.1
  have mx3 : u3 x = some (xC ld ln kn ft fn mv) := add_keep hq ml hed2 mx (fun _ z => by cases z) (fun _ _ z => by cases z)
  have k3 : ∀ {q : Nat} {e : va_E}, u2 q = some e → (∀ r, e ≠ aC r) → (∀ cap f, e ≠ oA G cap f) → (∀ ld ln kn ft fn mv, e ≠ xC ld ln kn ft fn mv) → mp_up u3 x (xC ld ln false ft fn mv) q = some e := fun h h1 h2 h3 => up_x (G := G) mx3 (add_keep hq ml hed2 h h1 h2) h3
  refine ⟨mp_self _ _ _, ls_up hL h03 mx3 (fun _ z => by cases z) (fun _ _ z => by cases z), ls_up (add_other hq ml hed2 hLn h02 hAp.1 hed3) h03 mx3 (fun _ z => by cases z) (fun _ _ z => by cases z), ?_, ?_, ⟨hAp.1, hed3, ?_⟩, by omega, hnn⟩
  · intro i hi
    by_cases hin : i = nd
    · subst hin
      rw [va_up_self, va_up_self, va_up_self, va_up_self]
      exact ⟨k3 ha (fun _ z => by cases z) (fun _ _ z => by cases z) (fun _ _ _ _ _ _ z => by cases z), k3 hb (fun _ z => by cases z) (fun _ _ z => by simp at z) (fun _ _ _ _ _ _ z => by cases z), k3 hc (fun _ z => by cases z) (fun _ _ z => by simp at z) (fun _ _ _ _ _ _ z => by cases z), hnum⟩
    · rw [va_up_ne _ _ hin, va_up_ne _ _ hin, va_up_ne _ _ hin, va_up_ne _ _ hin]
      obtain ⟨g1, g2, g3, g4⟩ := hD i (by omega)
      exact ⟨k3 g1 (fun _ z => by cases z) (fun _ _ z => by cases z) (fun _ _ _ _ _ _ z => by cases z), k3 g2 (fun _ z => by cases z) (fun _ _ z => by simp at z) (fun _ _ _ _ _ _ z => by cases z), k3 g3 (fun _ z => by cases z) (fun _ _ z => by simp at z) (fun _ _ _ _ _ _ z => by cases z), g4⟩
  · intro j hj
    obtain ⟨g1, g2⟩ := hN j hj
    exact ⟨k3 g1 (fun _ z => by cases z) (fun _ _ z => by cases z) (fun _ _ _ _ _ _ z => by cases z), g2⟩
  · intro i j hi hj h
    by_cases hin : i = nd
    · by_cases hjn : j = nd
      · rw [hin, hjn]
      · subst hin
        rw [va_up_self, va_up_ne _ _ hjn] at h
        obtain ⟨g1, g2, g3, g4⟩ := hD1 j (by omega)
        rcases h with h | h
        · rw [← h, hnb] at g2; cases g2
        · rw [← h, hnc] at g3; cases g3
    · by_cases hjn : j = nd
      · subst hjn
        rw [va_up_self, va_up_ne _ _ hin] at h
        obtain ⟨g1, g2, g3, g4⟩ := hD1 i (by omega)
        rcases h with h | h
        · rw [h, hnb] at g2; cases g2
        · rw [h, hnc] at g3; cases g3
      · rw [va_up_ne _ _ hin, va_up_ne _ _ hjn] at h
        exact hAp.2.2 i j (by omega) (by omega) h
theorem def_maps {M : mC} {sz : Nat} {e0 e1 e2 e3 e4 : va_E} (hn : ∀ q, sz ≤ q → M q = none) : mp_up (mp_up (mp_up (mp_up (mp_up M sz e0) (sz + 1) e1) sz e2) (sz + 1 + 1) e3) sz e4 sz = some e4 ∧ mp_up (mp_up (mp_up (mp_up (mp_up M sz e0) (sz + 1) e1) sz e2) (sz + 1 + 1) e3) sz e4 (sz + 1) = some e1 ∧ mp_up (mp_up (mp_up (mp_up (mp_up M sz e0) (sz + 1) e1) sz e2) (sz + 1 + 1) e3) sz e4 (sz + 1 + 1) = some e3 ∧ ∀ q e, M q = some e → mp_up (mp_up (mp_up (mp_up (mp_up M sz e0) (sz + 1) e1) sz e2) (sz + 1 + 1) e3) sz e4 q = some e := by
  refine ⟨mp_self _ _ _, ?_, ?_, fun q e h => ?_⟩
  · rw [mp_ne (by omega), mp_ne (by omega), mp_ne (by omega), mp_self]
  · rw [mp_ne (by omega), mp_self]
  · have hq : q < sz := Nat.not_le.mp fun z => by rw [hn q z] at h; cases h
    rw [mp_ne (by omega), mp_ne (by omega), mp_ne (by omega), mp_ne (by omega), mp_ne (by omega)]
    exact h
def c_defOk (chg : Bool) (nm : Int64) (ty : Int32) (nd : Nat) (D : Nat → dR) : Bool := c_whole nd D && decide (nI nd < 64) && !decide (nm ≤ 0) && (if chg = true then k_isWritten ty else k_isType ty) && (c_named D nm nd 0).isNone
