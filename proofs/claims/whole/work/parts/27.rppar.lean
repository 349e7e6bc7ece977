/-! one more parameter of the last definition -/
theorem aD_inj {G : gC} {M : mC} {nd : Nat} {aD : Nat → Nat} {D : Nat → dR} {pn : Nat → Nat → Int64} {pt : Nat → Nat → Int32} (hD : rp_D G M nd aD D pn pt) (hn : nd ≤ 64) {i j : Nat} (hi : i < nd) (hj : j < nd) (h : aD i = aD j) : i = j := by
  obtain ⟨g1, -, -, g4⟩ := hD i hi
  obtain ⟨h1, -, -, h4⟩ := hD j hj
  rw [h, h1] at g1
  have e : D j = D i := by
    have := Option.some.inj g1
    simp only [Sum.inr.injEq, Prod.mk.injEq, List.cons.injEq, Value.int.injEq] at this
    have hh := this.2.1
    rw [g4, h4] at hh
    exact ((nI_eq (by omega) (by omega)).mp hh) ▸ rfl
  rw [e, g4] at h4
  exact (nI_eq (by omega) (by omega)).mp h4
theorem rp_par {G : gC} {M : mC} {x ld ln ed en k nn : Nat} {aD aN : Nat → Nat} {D : Nat → dR} {N : Nat → nR} {pn : Nat → Nat → Int64} {pt : Nat → Nat → Int32} {kn : Bool} {ft fn mv : Int32} {d : dR} {f : Nat → Int64} {g : Nat → Int32} (hR : rp G M x ld ln ed en (k + 1) nn aD aN D N pn pt kn ft fn mv) (h0 : M G.2.2.2.1 = none) (h1 : d_apn d = d_apn (D k)) (h2 : d_apt d = d_apt (D k)) (h3 : d_num d = d_num (D k)) :
    rp G (mp_up (mp_up (mp_up (mp_up M (d_apn (D k)) (lA G 8 f)) (d_apt (D k)) (iA G 8 g)) (aD k) (dC d)) x (xC ld ln false ft fn mv)) x ld ln ed en (k + 1) nn aD aN (va_up D k d) N (va_up pn k f) (va_up pt k g) false ft fn mv := by
  obtain ⟨mx, hLd, hLn, hD, hN, hAp, hnd, hnn⟩ := hR
  obtain ⟨cl, ml⟩ := ls_obj hLd
  obtain ⟨ck, mk⟩ := ls_obj hLn
  obtain ⟨d1, d2, d3, d4⟩ := hD k (Nat.lt_succ_self k)
  have nab : d_apn (D k) ≠ d_apt (D k) := fun z => by rw [z, d3] at d2; simp at d2
  have nax : d_apn (D k) ≠ x := fun z => by rw [z, mx] at d2; cases d2
  have nbx : d_apt (D k) ≠ x := fun z => by rw [z, mx] at d3; cases d3
  have nkx : aD k ≠ x := fun z => by rw [z, mx] at d1; cases d1
  have nka : aD k ≠ d_apn (D k) := fun z => by rw [z, d2] at d1; cases d1
  have nkb : aD k ≠ d_apt (D k) := fun z => by rw [z, d3] at d1; cases d1
  -- a cell of another kind stays
  have st : ∀ {q : Nat}, q ≠ d_apn (D k) → q ≠ d_apt (D k) → q ≠ aD k → q ≠ x → mp_up (mp_up (mp_up (mp_up M (d_apn (D k)) (lA G 8 f)) (d_apt (D k)) (iA G 8 g)) (aD k) (dC d)) x (xC ld ln false ft fn mv) q = M q := fun z1 z2 z3 z4 => by rw [mp_ne z4, mp_ne z3, mp_ne z2, mp_ne z1]
  have lst : ∀ {a e n : Nat} {h : Nat → Nat}, ls_ok G M a e n h → ls_ok G (mp_up (mp_up (mp_up (mp_up M (d_apn (D k)) (lA G 8 f)) (d_apt (D k)) (iA G 8 g)) (aD k) (dC d)) x (xC ld ln false ft fn mv)) a e n h := by
    intro a e n h hL
    obtain ⟨ca, ma⟩ := ls_obj hL
    refine ls_keep hL (st (fun z => by rw [z, d2] at ma; cases ma) (fun z => by rw [z, d3] at ma; cases ma) (fun z => by rw [z, d1] at ma; cases ma) (fun z => by rw [z, mx] at ma; cases ma)) (fun z hz => ?_)
    obtain ⟨cap, f', me⟩ := ls_in hL h0 hz
    exact (st (fun z => by rw [z, d2] at me; simp at me) (fun z => by rw [z, d3] at me; simp at me) (fun z => by rw [z, d1] at me; cases me) (fun z => by rw [z, mx] at me; cases me)).trans hz
  refine ⟨mp_self _ _ _, lst hLd, lst hLn, fun i hi => ?_, fun j hj => ?_, ⟨hAp.1, hAp.2.1, fun i j hi hj h => ?_⟩, hnd, hnn⟩
  · by_cases hik : i = k
    · subst hik
      rw [va_up_self, va_up_self, va_up_self, h1, h2, h3]
      refine ⟨?_, ?_, ?_, d4⟩
      · rw [mp_ne nkx, mp_self]
      · rw [mp_ne nax, mp_ne (Ne.symm nka), mp_ne nab, mp_self]
      · rw [mp_ne nbx, mp_ne (Ne.symm nkb), mp_self]
    · rw [va_up_ne _ _ hik, va_up_ne _ _ hik, va_up_ne _ _ hik]
      obtain ⟨g1, g2, g3, g4⟩ := hD i hi
      refine ⟨?_, ?_, ?_, g4⟩
      · exact (st (fun z => by rw [z, d2] at g1; cases g1) (fun z => by rw [z, d3] at g1; cases g1) (fun z => hik (aD_inj hD hnd hi (Nat.lt_succ_self k) z)) (fun z => by rw [z, mx] at g1; cases g1)).trans g1
      · exact (st (fun z => hik (hAp.2.2 i k hi (Nat.lt_succ_self k) (Or.inl z))) (fun z => by rw [z, d3] at g2; simp at g2) (fun z => by rw [z, d1] at g2; cases g2) (fun z => by rw [z, mx] at g2; cases g2)).trans g2
      · exact (st (fun z => by rw [z, d2] at g3; simp at g3) (fun z => hik (hAp.2.2 i k hi (Nat.lt_succ_self k) (Or.inr z))) (fun z => by rw [z, d1] at g3; cases g3) (fun z => by rw [z, mx] at g3; cases g3)).trans g3
  · obtain ⟨g1, g2⟩ := hN j hj
    exact ⟨(st (fun z => by rw [z, d2] at g1; cases g1) (fun z => by rw [z, d3] at g1; cases g1) (fun z => by rw [z, d1] at g1; cases g1) (fun z => by rw [z, mx] at g1; cases g1)).trans g1, g2⟩
  · have e : ∀ i, d_apn (va_up D k d i) = d_apn (D i) ∧ d_apt (va_up D k d i) = d_apt (D i) := by
      intro i
      by_cases hik : i = k
      · subst hik; rw [va_up_self]; exact ⟨h1, h2⟩
      · rw [va_up_ne _ _ hik]; exact ⟨rfl, rfl⟩
    rw [(e i).1, (e j).1, (e i).2, (e j).2] at h
    exact hAp.2.2 i j hi hj h
def c_parOk (d : dR) (f : Nat → Int64) (nm : Int64) (ty : Int32) : Bool := !d_beg d && decide (d_np d < 8) && !decide (nm ≤ 0) && k_isType ty && decide (d_index d f nm = -1)
