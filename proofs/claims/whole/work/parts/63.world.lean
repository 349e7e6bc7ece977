/-! a text that is whole: what stands where -/
def vW (nd nn : Nat) (aN : Nat → Nat) (D : Nat → dR) (N : Nat → nR) (pt : Nat → Nat → Int32) (np ho : Nat → Nat) (pa : Nat → Option Nat) (P Q F : Nat → Nat) : Prop :=
  vT nn N pa P Q F ∧ vO nn pa P Q = none ∧ nn ≤ 600 ∧ nd ≤ 64 ∧ uq nd D
  ∧ (∀ i, i < nd → d_np (D i) = nI (np i) ∧ np i ≤ 8 ∧ k_isType (d_vt (D i)) = true ∧ ∀ t, t < np i → k_isType (pt i t) = true)
  ∧ (∀ j, j < nn → n_num (N j) = nI j ∧ n_pa (N j) = (pa j).map aN ∧ ho j < nd ∧ ∀ p, pa j = some p → ho p = ho j)
theorem use_as {k : Int32} (hk : k_isKind k = true) : m_useLast k = k_isAsLast k := kd_all (P := fun k => m_useLast k = k_isAsLast k) (by refine ⟨?_, ?_, ?_, ?_, ?_, ?_, ?_, ?_, ?_, ?_, ?_, ?_, ?_, ?_, ?_, ?_, ?_, ?_, ?_, ?_, ?_, ?_, ?_, ?_⟩ <;> decide) hk
theorem as_parts {k : Int32} (hk : k_isKind k = true) : k_isAsLast k = true → k_parts k = nI 1 ∨ k_parts k = nI 2 ∨ k_parts k = nI 3 := kd_all (P := fun k => k_isAsLast k = true → k_parts k = nI 1 ∨ k_parts k = nI 2 ∨ k_parts k = nI 3) (by refine ⟨?_, ?_, ?_, ?_, ?_, ?_, ?_, ?_, ?_, ?_, ?_, ?_, ?_, ?_, ?_, ?_, ?_, ?_, ?_, ?_, ?_, ?_, ?_, ?_⟩ <;> decide) hk
theorem bi_parts {k : Int32} (hk : k_isKind k = true) : k_isBinder k = true → k_parts k = nI 2 ∨ k_parts k = nI 3 := kd_all (P := fun k => k_isBinder k = true → k_parts k = nI 2 ∨ k_parts k = nI 3) (by refine ⟨?_, ?_, ?_, ?_, ?_, ?_, ?_, ?_, ?_, ?_, ?_, ?_, ?_, ?_, ?_, ?_, ?_, ?_, ?_, ?_, ?_, ?_, ?_, ?_⟩ <;> decide) hk
theorem P_as {nn p : Nat} {N : Nat → nR} {pa : Nat → Option Nat} {P Q F : Nat → Nat} (h : vT nn N pa P Q F) (hp : p < nn) (hk : k_isAsLast (n_kd (N p)) = true) : 1 ≤ P p ∧ P p ≤ 3 := by
  obtain ⟨e1, e2, -, e3, e4, -⟩ := h.1 p hp
  rw [e3] at e2
  rcases as_parts e1 hk with h1 | h1 | h1
  · have := fit_n e2 e1 h1 (by omega) e4; omega
  · have := fit_n e2 e1 h1 (by omega) e4; omega
  · have := fit_n e2 e1 h1 (by omega) e4; omega
theorem P_bi {nn p : Nat} {N : Nat → nR} {pa : Nat → Option Nat} {P Q F : Nat → Nat} (h : vT nn N pa P Q F) (hp : p < nn) (hk : k_isBinder (n_kd (N p)) = true) : 2 ≤ P p ∧ P p ≤ 3 := by
  obtain ⟨e1, e2, -, e3, e4, -⟩ := h.1 p hp
  rw [e3] at e2
  rcases bi_parts e1 hk with h1 | h1
  · have := fit_n e2 e1 h1 (by omega) e4; omega
  · have := fit_n e2 e1 h1 (by omega) e4; omega
theorem bo_spec {N : Nat → nR} {pa : Nat → Option Nat} {x : Int64} : ∀ (f j b : Nat), m_bo N pa x f j = some b → ∃ c, an pa j c ∧ pa c = some b ∧ m_bIn (n_kd (N b)) (n_pl (N c)) = true ∧ (n_fi (N b) = x ∨ n_se (N b) = x)
  | 0, j, b, h => by cases h
  | f + 1, j, b, h => by
    unfold m_bo at h
    split at h
    · cases h
    · rename_i p hp
      split at h
      · rename_i hc
        cases h
        simp only [Bool.and_eq_true, Bool.or_eq_true, decide_eq_true_eq] at hc
        exact ⟨j, an_refl _ _, hp, hc.1, hc.2⟩
      · obtain ⟨c, h1, h2⟩ := bo_spec f p b h
        exact ⟨c, an_up hp h1, h2⟩
theorem tgt_spec {nd : Nat} {D : Nat → dR} {np : Nat → Nat} {r : nR} {t : Nat} (h : m_tgt nd D np r = some t) : m_tg D (n_fi r) nd 0 none = some t ∧ (d_chg (D t) == decide (n_kd r = 23)) = true ∧ nI (np t) = n_pt r := by
  unfold m_tgt at h
  split at h
  · cases h
  · rename_i t9 h9
    split at h
    · split at h
      · cases h; exact ⟨h9, by assumption, by assumption⟩
      · cases h
    · cases h
theorem part_at {nn p q : Nat} {N : Nat → nR} {pa : Nat → Option Nat} {P Q F : Nat → Nat} (h : vT nn N pa P Q F) (hn : nn ≤ 600) (hp : p < nn) (hq : q < F p) : ∃ i, i < nn ∧ pa i = some p ∧ Q i = q ∧ m_pt N pa nn p (nI q) = some i := by
  obtain ⟨i, h1, h2, h3⟩ := h.2.2.2.1 p q hp hq
  exact ⟨i, h1, h2, h3, part_one h hn h1 h2 (by rw [h3])⟩
theorem vW_SS {nd nn : Nat} {aN : Nat → Nat} {D : Nat → dR} {N : Nat → nR} {pt : Nat → Nat → Int32} {np ho : Nat → Nat} {pa : Nat → Option Nat} {P Q F : Nat → Nat} (h : vW nd nn aN D N pt np ho pa P Q F) : ∀ k, k < nn → m_SS nd nn D N pa np k := by
  obtain ⟨hT, hO, hn, hnd, hu, hDf, hNf⟩ := h
  have hd := vT_dec hT
  have hfull := vT_full hT hO
  intro k hk
  refine ⟨fun b hb hc => ?_, fun hl => ?_, fun o ho9 => ⟨fun hc t ht => ?_, fun ha h0 h1 => ?_, ?_⟩⟩
  · obtain ⟨c, h1, h2, h3, h4⟩ := bo_spec _ _ _ hb
    have hck := an_le hd hk h1
    have hbc := hT.2.1 c b (by omega) h2
    obtain ⟨i, -, -, -, hi⟩ := part_at hT hn (by omega) (show 0 < F b by omega)
    rw [nI_0] at hi
    rw [hi]; rfl
  · obtain ⟨e1, e2, -, e3, e4, -⟩ := hT.1 k hk
    rw [use_as e1] at hl
    have hP := P_as hT hk hl
    have hF := hfull k hk
    obtain ⟨i, -, -, -, hi⟩ := part_at hT hn hk (show P k - 1 < F k by omega)
    have : n_pt (N k) - 1 = nI (P k - 1) := by
      rw [e3]
      obtain ⟨m, hm⟩ : ∃ m, P k = m + 1 := ⟨P k - 1, by omega⟩
      rw [hm, nI_pred]; rfl
    rw [this, hi]; rfl
  · have ho1 := hT.2.1 k o hk ho9
    obtain ⟨-, -, h3⟩ := tgt_spec ht
    obtain ⟨-, -, -, e3, e4, -, -, e5, -⟩ := hT.1 o (by omega)
    have h8 := (hDf t (m_tgt_lt ht)).2.1
    rw [e3] at h3
    have := (nI_eq (by omega) e4).mp h3
    exact ⟨Q k, (hT.1 k hk).2.2.2.2.2.1, by omega⟩
  · have ho1 := hT.2.1 k o hk ho9
    obtain ⟨-, -, -, -, -, e6, -⟩ := hT.1 k hk
    have q0 : Q k ≠ 0 := fun z => h0 (by rw [e6, z]; exact nI_0)
    have q1 : Q k ≠ 1 := fun z => h1 (by rw [e6, z]; rfl)
    obtain ⟨i, -, -, -, hi⟩ := part_at hT hn (show o < nn by omega) (show 1 < F o by omega)
    have : (1 : Int32) = nI 1 := rfl
    rw [this, hi]; rfl
  · exact (hT.1 o (by have := (hT.2.1 k o hk ho9).1; omega)).1
/-- the same but for what check finds -/
def sR (r r' : nR) : Prop := n_num r' = n_num r ∧ n_ho r' = n_ho r ∧ n_pa r' = n_pa r ∧ n_pl r' = n_pl r ∧ n_kd r' = n_kd r ∧ n_fi r' = n_fi r ∧ n_se r' = n_se r ∧ n_pt r' = n_pt r ∧ n_fl r' = n_fl r
theorem sR_refl (r : nR) : sR r r := ⟨rfl, rfl, rfl, rfl, rfl, rfl, rfl, rfl, rfl⟩
theorem sR_tr {a b c : nR} (h : sR a b) (h2 : sR b c) : sR a c := ⟨h2.1.trans h.1, h2.2.1.trans h.2.1, h2.2.2.1.trans h.2.2.1, h2.2.2.2.1.trans h.2.2.2.1, h2.2.2.2.2.1.trans h.2.2.2.2.1, h2.2.2.2.2.2.1.trans h.2.2.2.2.2.1, h2.2.2.2.2.2.2.1.trans h.2.2.2.2.2.2.1, h2.2.2.2.2.2.2.2.1.trans h.2.2.2.2.2.2.2.1, h2.2.2.2.2.2.2.2.2.trans h.2.2.2.2.2.2.2.2⟩
def sN (N N' : Nat → nR) : Prop := ∀ j, sR (N j) (N' j)
theorem sN_up {N N' : Nat → nR} (h : sN N N') {j : Nat} {r : nR} (hr : sR (N' j) r) : sN N (va_up N' j r) := by
  intro i
  by_cases e : i = j
  · subst e; rw [va_up_self]; exact sR_tr (h i) hr
  · rw [va_up_ne _ _ e]; exact h i
theorem hear_s (r : nR) (k t : Int32) : sR r (n_hear r k t) := by
  unfold n_hear
  split <;> (split <;> (try split) <;> exact ⟨rfl, rfl, rfl, rfl, rfl, rfl, rfl, rfl, rfl⟩)
theorem hear_sN {N N' : Nat → nR} (h : sN N N') (pa : Nat → Option Nat) (i : Nat) : sN N (c_hear N' pa i) := by
  unfold c_hear
  split
  · exact h
  · exact sN_up h (hear_s _ _ _)
theorem arrive_s {nd nn : Nat} {aD : Nat → Nat} {D : Nat → dR} {pn : Nat → Nat → Int64} {pt : Nat → Nat → Int32} {N : Nat → nR} {ho : Nat → Nat} {pa : Nat → Option Nat} {j : Nat} : sR (N j) (c_arrive nd aD D pn pt N ho pa nn j).1 := by
  unfold c_arrive
  simp only []
  split
  · exact ⟨rfl, rfl, rfl, rfl, rfl, rfl, rfl, rfl, rfl⟩
  · split
    · split
      · exact ⟨rfl, rfl, rfl, rfl, rfl, rfl, rfl, rfl, rfl⟩
      · split
        · exact ⟨rfl, rfl, rfl, rfl, rfl, rfl, rfl, rfl, rfl⟩
        · exact ⟨rfl, rfl, rfl, rfl, rfl, rfl, rfl, rfl, rfl⟩
    · exact ⟨rfl, rfl, rfl, rfl, rfl, rfl, rfl, rfl, rfl⟩
theorem mis_s {D : Nat → dR} {pt : Nat → Nat → Int32} {ho : Nat → Nat} {pa ca : Nat → Option Nat} {N : Nat → nR} : ∀ (f : Nat) (N' : Nat → nR) (o : Option Nat), sN N N' → sN N (c_mis D pt ho pa ca f N' o).1
  | 0, _, _, h => h
  | _ + 1, _, none, h => h
  | f + 1, N', some i, h => by
    unfold c_mis
    split
    · split
      · exact mis_s f _ _ (hear_sN h pa i)
      · exact hear_sN h pa i
    · exact h
theorem at_s {nd nn : Nat} {aD : Nat → Nat} {D : Nat → dR} {pn : Nat → Nat → Int64} {pt : Nat → Nat → Int32} {ho : Nat → Nat} {pa : Nat → Option Nat} {N : Nat → nR} {z : cS} (h : sN N z.1) (j : Nat) : sN N (c_at nd aD D pn pt ho pa nn z j).1 := by
  have h1 : sN N (va_up z.1 j (c_arrive nd aD D pn pt z.1 ho pa nn j).1) := sN_up h arrive_s
  simp only [c_at]
  split
  · split
    · split <;> exact mis_s _ _ _ h1
    · exact h1
  · exact h1
theorem all_s {nd nn : Nat} {aD : Nat → Nat} {D : Nat → dR} {pn : Nat → Nat → Int64} {pt : Nat → Nat → Int32} {ho : Nat → Nat} {pa : Nat → Option Nat} {N : Nat → nR} : ∀ (k i : Nat) (z : cS), sN N z.1 → sN N (c_all nd aD D pn pt ho pa nn k i z).1
  | 0, _, _, h => h
  | k + 1, i, z, h => by
    unfold c_all
    split
    · exact all_s k (i + 1) _ (at_s h i)
    · exact h
