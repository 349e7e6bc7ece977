/-! the picture behind single changes: the root's numbers, a definition's record, a node's record, one more node -/
theorem rp_setX {G : gC} {M : mC} {x ld ln ed en nd nn : Nat} {aD aN : Nat → Nat} {D : Nat → dR} {N : Nat → nR} {pn : Nat → Nat → Int64} {pt : Nat → Nat → Int32} {kn kn' : Bool} {ft fn mv ft' fn' mv' : Int32} (hR : rp G M x ld ln ed en nd nn aD aN D N pn pt kn ft fn mv) (h0 : M G.2.2.2.1 = none) : rp G (mp_up M x (xC ld ln kn' ft' fn' mv')) x ld ln ed en nd nn aD aN D N pn pt kn' ft' fn' mv' := by
  obtain ⟨mx, hLd, hLn, hD, hN, hAp, hnd, hnn⟩ := hR
  refine ⟨mp_self _ _ _, ls_up hLd h0 mx (fun _ z => by cases z) (fun _ _ z => by cases z), ls_up hLn h0 mx (fun _ z => by cases z) (fun _ _ z => by cases z), fun i hi => ?_, fun j hj => ?_, hAp, hnd, hnn⟩
  · obtain ⟨g1, g2, g3, g4⟩ := hD i hi
    exact ⟨mp_at (fun z => by rw [z, mx] at g1; cases g1) g1, mp_at (fun z => by rw [z, mx] at g2; cases g2) g2, mp_at (fun z => by rw [z, mx] at g3; cases g3) g3, g4⟩
  · obtain ⟨g1, g2⟩ := hN j hj
    exact ⟨mp_at (fun z => by rw [z, mx] at g1; cases g1) g1, g2⟩
theorem aN_inj {M : mC} {nn : Nat} {aN : Nat → Nat} {N : Nat → nR} (hN : rp_N M nn aN N) (hn : nn ≤ 600) {i j : Nat} (hi : i < nn) (hj : j < nn) (h : aN i = aN j) : i = j := by
  obtain ⟨g1, g4⟩ := hN i hi
  obtain ⟨h1, h4⟩ := hN j hj
  rw [h, h1] at g1
  have this := Option.some.inj g1
  simp only [Sum.inr.injEq, Prod.mk.injEq, List.cons.injEq, Value.int.injEq] at this
  have hh := this.2.1
  rw [g4, h4] at hh
  exact ((nI_eq (by omega) (by omega)).mp hh).symm
theorem rp_setD {G : gC} {M : mC} {x ld ln ed en nd nn k : Nat} {aD aN : Nat → Nat} {D : Nat → dR} {N : Nat → nR} {pn : Nat → Nat → Int64} {pt : Nat → Nat → Int32} {kn : Bool} {ft fn mv : Int32} {d : dR} (hR : rp G M x ld ln ed en nd nn aD aN D N pn pt kn ft fn mv) (h0 : M G.2.2.2.1 = none) (hk : k < nd) (h1 : d_apn d = d_apn (D k)) (h2 : d_apt d = d_apt (D k)) (h3 : d_num d = d_num (D k)) : rp G (mp_up M (aD k) (dC d)) x ld ln ed en nd nn aD aN (va_up D k d) N pn pt kn ft fn mv := by
  obtain ⟨mx, hLd, hLn, hD, hN, hAp, hnd, hnn⟩ := hR
  obtain ⟨d1, d2, d3, d4⟩ := hD k hk
  refine ⟨mp_at (fun z => by rw [z, d1] at mx; cases mx) mx, ls_up hLd h0 d1 (fun _ z => by cases z) (fun _ _ z => by cases z), ls_up hLn h0 d1 (fun _ z => by cases z) (fun _ _ z => by cases z), fun i hi => ?_, fun j hj => ?_, ⟨hAp.1, hAp.2.1, fun i j hi hj h => ?_⟩, hnd, hnn⟩
  · by_cases hik : i = k
    · subst hik
      rw [va_up_self, h1, h2, h3]
      exact ⟨mp_self _ _ _, mp_at (fun z => by rw [z, d1] at d2; cases d2) d2, mp_at (fun z => by rw [z, d1] at d3; cases d3) d3, d4⟩
    · rw [va_up_ne _ _ hik]
      obtain ⟨g1, g2, g3, g4⟩ := hD i hi
      exact ⟨mp_at (fun z => hik (aD_inj hD hnd hi hk z)) g1, mp_at (fun z => by rw [z, d1] at g2; cases g2) g2, mp_at (fun z => by rw [z, d1] at g3; cases g3) g3, g4⟩
  · obtain ⟨g1, g2⟩ := hN j hj
    exact ⟨mp_at (fun z => by rw [z, d1] at g1; cases g1) g1, g2⟩
  · have e : ∀ i, d_apn (va_up D k d i) = d_apn (D i) ∧ d_apt (va_up D k d i) = d_apt (D i) := by
      intro i
      by_cases hik : i = k
      · subst hik; rw [va_up_self]; exact ⟨h1, h2⟩
      · rw [va_up_ne _ _ hik]; exact ⟨rfl, rfl⟩
    rw [(e i).1, (e j).1, (e i).2, (e j).2] at h
    exact hAp.2.2 i j hi hj h
theorem rp_setN {G : gC} {M : mC} {x ld ln ed en nd nn j : Nat} {aD aN : Nat → Nat} {D : Nat → dR} {N : Nat → nR} {pn : Nat → Nat → Int64} {pt : Nat → Nat → Int32} {kn : Bool} {ft fn mv : Int32} {r : nR} (hR : rp G M x ld ln ed en nd nn aD aN D N pn pt kn ft fn mv) (h0 : M G.2.2.2.1 = none) (hj : j < nn) (h3 : n_num r = n_num (N j)) : rp G (mp_up M (aN j) (nC r)) x ld ln ed en nd nn aD aN D (va_up N j r) pn pt kn ft fn mv := by
  obtain ⟨mx, hLd, hLn, hD, hN, hAp, hnd, hnn⟩ := hR
  obtain ⟨d1, d4⟩ := hN j hj
  refine ⟨mp_at (fun z => by rw [z, d1] at mx; cases mx) mx, ls_up hLd h0 d1 (fun _ z => by cases z) (fun _ _ z => by cases z), ls_up hLn h0 d1 (fun _ z => by cases z) (fun _ _ z => by cases z), fun i hi => ?_, fun i hi => ?_, hAp, hnd, hnn⟩
  · obtain ⟨g1, g2, g3, g4⟩ := hD i hi
    exact ⟨mp_at (fun z => by rw [z, d1] at g1; cases g1) g1, mp_at (fun z => by rw [z, d1] at g2; cases g2) g2, mp_at (fun z => by rw [z, d1] at g3; cases g3) g3, g4⟩
  · by_cases hij : i = j
    · subst hij
      rw [va_up_self, h3]
      exact ⟨mp_self _ _ _, d4⟩
    · rw [va_up_ne _ _ hij]
      obtain ⟨g1, g2⟩ := hN i hi
      exact ⟨mp_at (fun z => hij (aN_inj hN hnn hi hj z)) g1, g2⟩
theorem rp_addN {G : gC} {M u2 u3 : mC} {x ld ln ed en en' nd nn a : Nat} {aD aN : Nat → Nat} {D : Nat → dR} {N : Nat → nR} {pn : Nat → Nat → Int64} {pt : Nat → Nat → Int32} {kn : Bool} {ft fn mv : Int32} {r : nR} (hR : rp G M x ld ln ed en nd nn aD aN D N pn pt kn ft fn mv) (hlt : nn < 600) (h2 : ∀ q e, M q = some e → u2 q = some e) (ha : u2 a = some (nC r)) (hnum : n_num r = nI nn) (h02 : u2 G.2.2.2.1 = none) (hL : ls_ok G u3 ln en' (nn + 1) (va_up aN nn a)) (hed : (en' = en ∧ ∃ cap f, u2 en = some (oA G cap f)) ∨ u2 en' = none) (hq : ∀ q, q ≠ ln → q ≠ en' → u3 q = u2 q) :
    rp G u3 x ld ln ed en' nd (nn + 1) aD (va_up aN nn a) D (va_up N nn r) pn pt kn ft fn mv := by
  have hR2 := rp_mono hR h2
  obtain ⟨mx, hLd, hLn, hD, hN, hAp, hnd, hnn⟩ := hR2
  obtain ⟨cl, ml⟩ := ls_obj hLn
  have hed2 : (∃ cap f, u2 en' = some (oA G cap f)) ∨ u2 en' = none := hed.elim (fun h => Or.inl (by rw [h.1]; exact h.2)) Or.inr
  have hed3 : en' = ed → en' = G.2.2.2.1 := ed_ne hLd (hed.elim (fun h => Or.inl h.1) Or.inr) (fun e => by rw [e]; exact hAp.2.1 e.symm)
  have k3 : ∀ {q : Nat} {e : va_E}, u2 q = some e → (∀ r, e ≠ aC r) → (∀ cap f, e ≠ oA G cap f) → u3 q = some e := fun h h1 h2 => add_keep hq ml hed2 h h1 h2
  refine ⟨k3 mx (fun _ z => by cases z) (fun _ _ z => by cases z), add_other hq ml hed2 hLd h02 (Ne.symm hAp.1) hed3, hL, fun i hi => ?_, fun j hj => ?_, ⟨hAp.1, fun e => by rw [e]; exact hed3 e.symm, hAp.2.2⟩, hnd, by omega⟩
  · obtain ⟨g1, g2, g3, g4⟩ := hD i hi
    exact ⟨k3 g1 (fun _ z => by cases z) (fun _ _ z => by cases z), k3 g2 (fun _ z => by cases z) (fun _ _ z => by simp at z), k3 g3 (fun _ z => by cases z) (fun _ _ z => by simp at z), g4⟩
  · by_cases hjn : j = nn
    · subst hjn
      rw [va_up_self, va_up_self]
      exact ⟨k3 ha (fun _ z => by cases z) (fun _ _ z => by cases z), hnum⟩
    · rw [va_up_ne _ _ hjn, va_up_ne _ _ hjn]
      obtain ⟨g1, g2⟩ := hN j (by omega)
      exact ⟨k3 g1 (fun _ z => by cases z) (fun _ _ z => by cases z), g2⟩
/-- the chain of parents by numbers: f steps at most -/
def c_chL (N : Nat → nR) (pa : Nat → Option Nat) : Nat → Option Nat → List nR
  | 0, _ => []
  | _ + 1, none => []
  | f + 1, some j => N j :: c_chL N pa f (pa j)
/-- the first of the chain that lacks parts -/
def c_rest (N : Nat → nR) (pa : Nat → Option Nat) : Nat → Option Nat → Option Nat
  | 0, _ => none
  | _ + 1, none => none
  | f + 1, some j => if n_fl (N j) < n_pt (N j) then some j else c_rest N pa f (pa j)
theorem chn_L {M : mC} {nn : Nat} {aN : Nat → Nat} {N : Nat → nR} {pa : Nat → Option Nat} (hN : rp_N M nn aN N) (hp : ∀ j, j < nn → n_pa (N j) = (pa j).map aN ∧ ∀ p, pa j = some p → p < j) : ∀ (f : Nat) (o : Option Nat), (∀ j, o = some j → j < nn ∧ j < f) → chn M (o.map aN) (c_chL N pa f o)
  | 0, none, _ => trivial
  | 0, some j, h => absurd (h j rfl).2 (Nat.not_lt_zero _)
  | _ + 1, none, _ => trivial
  | f + 1, some j, h => by
    obtain ⟨h1, h2⟩ := h j rfl
    refine ⟨(hN j h1).1, ?_⟩
    rw [(hp j h1).1]
    exact chn_L hN hp f (pa j) (fun p hpj => ⟨Nat.lt_trans ((hp j h1).2 p hpj) h1, by have := (hp j h1).2 p hpj; omega⟩)
theorem rest_L {nn : Nat} {aN : Nat → Nat} {N : Nat → nR} {pa : Nat → Option Nat} (hp : ∀ j, j < nn → n_pa (N j) = (pa j).map aN ∧ ∀ p, pa j = some p → p < j) : ∀ (f : Nat) (o : Option Nat), (∀ j, o = some j → j < nn ∧ j < f) → d_rest (o.map aN) (c_chL N pa f o) = (c_rest N pa f o).map aN
  | 0, none, _ => rfl
  | 0, some j, h => absurd (h j rfl).2 (Nat.not_lt_zero _)
  | _ + 1, none, _ => rfl
  | f + 1, some j, h => by
    obtain ⟨h1, h2⟩ := h j rfl
    show (if n_fl (N j) < n_pt (N j) then some (aN j) else d_rest (n_pa (N j)) (c_chL N pa f (pa j))) = (if n_fl (N j) < n_pt (N j) then some j else c_rest N pa f (pa j)).map aN
    by_cases hc : n_fl (N j) < n_pt (N j)
    · rw [if_pos hc, if_pos hc]; rfl
    · rw [if_neg hc, if_neg hc, (hp j h1).1]
      exact rest_L hp f (pa j) (fun p hpj => ⟨Nat.lt_trans ((hp j h1).2 p hpj) h1, by have := (hp j h1).2 p hpj; omega⟩)
