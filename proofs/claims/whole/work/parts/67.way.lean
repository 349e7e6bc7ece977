/-! the way up from a leaf -/
section WAY
variable {nd nn : Nat} {aD aN : Nat → Nat} {D : Nat → dR} {N : Nat → nR} {pn : Nat → Nat → Int64} {pt : Nat → Nat → Int32} {np ho : Nat → Nat} {pa ca : Nat → Option Nat} {P Q F : Nat → Nat} {k : Nat} {B C : Nat → Int32} {fn mo : Int32}
theorem hear_off {Z : Nat → nR} {i p j : Nat} (hp : pa i = some p) (hj : j ≠ p) : c_hear Z pa i j = Z j := by
  unfold c_hear
  rw [hp]
  exact va_up_ne _ _ hj
theorem hear_on {Z : Nat → nR} {i p : Nat} (hp : pa i = some p) : c_hear Z pa i p = n_hear (Z p) (n_pl (Z i)) (n_vt (Z i)) := by
  unfold c_hear
  rw [hp]
  exact va_up_self _ _ _
theorem hear_no {Z : Nat → nR} {i : Nat} (hp : pa i = none) : c_hear Z pa i = Z := by
  unfold c_hear
  rw [hp]
theorem ck0_hear {Z : Nat → nR} {i j : Nat} (hs : sN N Z) (h : ck0 nd D N pa np ho Z ca B C j) : ck0 nd D N pa np ho (c_hear Z pa i) ca B C j := by
  cases hp : pa i with
  | none => rw [hear_no hp]; exact h
  | some p =>
    by_cases e : j = p
    · subst e
      unfold ck0
      rw [hear_on hp]
      obtain ⟨g1, g2, g3, -⟩ := hear_keep (Z j) (n_pl (Z i)) (n_vt (Z i))
      obtain ⟨c1, c2, c3, c4, c5⟩ := h
      refine ⟨g1.trans c1, g2.trans c2, c3, c4, fun ha h1 => ?_⟩
      rw [g3 (by rw [(hs j).2.2.2.2.1]; exact ha)]
      exact c5 ha h1
    · unfold ck0
      rw [hear_off hp e]
      exact h
/-- behind hear, from the parent on -/
theorem tx5_hear {Z : Nat → nR} {T : Nat → Int32} {i p : Nat} {v : Int32} (hW : vW nd nn aN D N pt np ho pa P Q F) (hi : i < nn) (hp : pa i = some p) (h5 : tx5 nn N pa Q T Z i) : tx5 nn N pa Q (upd T i v) (c_hear Z pa i) p := by
  have hT := hW.1
  have hd := vT_dec hT
  have hpi := hd i hi p hp
  intro c p2 h1 h2 h3
  have hcp := an_le hd (by omega) h1
  have hp2 := hd c (by omega) p2 h2
  rw [hear_off hp (by omega)]
  obtain ⟨g1, g2⟩ := h5 c p2 (an_up hp h1) h2 h3
  have e1 : upd T i v (p2 + 1) = T (p2 + 1) := upd_off (by omega)
  rw [e1]
  refine ⟨g1, fun ha => ?_⟩
  obtain ⟨i', k1, k2, k3, k4⟩ := g2 ha
  have hne : i' ≠ i := fun z => by rw [z, hp] at k2; cases k2; omega
  exact ⟨i', k1, k2, k3, by rw [upd_off hne]; exact k4⟩
theorem s_way (hW : vW nd nn aN D N pt np ho pa P Q F) (hk : k < nn) : ∀ (f g i : Nat) (Z : Nat → nR) (T : Nat → Int32), i < f → i < g → an pa k i → sN N Z → (∀ j, j < k + 1 → ck0 nd D N pa np ho Z ca B C j) → (∀ j, j < nn → n_ca (Z j) = (ca j).map aD) → n_vt (Z i) = m_tyAt nd D N pa pn pt np ho nn T i → k_isType (n_vt (Z i)) = true → (∀ j, j < k + 1 → ¬ an pa i j → T j = n_vt (Z j) ∧ k_isType (T j) = true) → tx5 nn N pa Q T Z i → nx pa P Q k = nx_up pa P Q (i + 1) i →
    (∃ m, (c_mis D pt ho pa ca f Z (some i)).2 = some m ∧ (m_lvs nd D N pa pn pt np ho nn k g (T, B, C, 0, fn, mo) (some i)).2.2.2.1 = 6 ∧ (m_lvs nd D N pa pn pt np ho nn k g (T, B, C, 0, fn, mo) (some i)).2.2.2.2.1 = nI m)
    ∨ ((c_mis D pt ho pa ca f Z (some i)).2 = none ∧ ∃ T', m_lvs nd D N pa pn pt np ho nn k g (T, B, C, 0, fn, mo) (some i) = (T', B, C, 0, fn, mo) ∧ (∀ j, j < k + 1 → ck0 nd D N pa np ho (c_mis D pt ho pa ca f Z (some i)).1 ca B C j) ∧ (∀ j, j < k + 1 → (k + 1 < nn → ¬ an pa (k + 1) j) → T' j = n_vt ((c_mis D pt ho pa ca f Z (some i)).1 j) ∧ k_isType (T' j) = true) ∧ (k + 1 < nn → tx5 nn N pa Q T' (c_mis D pt ho pa ca f Z (some i)).1 (k + 1)))
  | 0, _, i, _, _, hf, _, _, _, _, _, _, _, _, _, _ => absurd hf (Nat.not_lt_zero _)
  | _ + 1, 0, i, _, _, _, hg, _, _, _, _, _, _, _, _, _ => absurd hg (Nat.not_lt_zero _)
  | f + 1, g + 1, i, Z, T, hf, hg, hki, hs, h0, hca, hv, hty, h4, h5, hx => by
    have hT := hW.1
    have hd := vT_dec hT
    have hik := an_le hd hk hki
    have hi : i < nn := by omega
    obtain ⟨v, ev⟩ : ∃ v, v = n_vt (Z i) := ⟨_, rfl⟩
    have hfit := s_fit (aD := aD) hW hs hi hik h0 hca hty h5
    rw [lvs_some rfl, if_pos (s_end hW hk hi hx)]
    have hlv : m_leave nd D N pa pn pt np ho nn (T, B, C, 0, fn, mo) i = if c_fit D pt Z ho pa ca i = true then (upd T i v, B, C, 0, fn, mo) else (upd T i v, B, C, 6, nI i, mo) := by
      simp only [m_leave]
      rw [← hv, hfit, ev]
    have hmis : c_mis D pt ho pa ca (f + 1) Z (some i) = if c_fit D pt Z ho pa ca i = true then (if n_isLast (c_hear Z pa i i) (c_q (c_hear Z pa i) (pa i)) = true then c_mis D pt ho pa ca f (c_hear Z pa i) (pa i) else (c_hear Z pa i, none)) else (Z, some i) := by
      conv => lhs; unfold c_mis
    rw [hlv, hmis]
    by_cases hc : c_fit D pt Z ho pa ca i = true
    · simp only [if_pos hc]
      cases hp : pa i with
      | none =>
        -- the top
        right
        have hl : n_isLast (c_hear Z pa i i) (c_q (c_hear Z pa i) none) = false := by
          rw [hear_no hp]
          unfold n_isLast
          rw [(hs i).2.2.1, (hW.2.2.2.2.2.2 i hi).2.1, hp]
          rfl
        rw [if_neg (by rw [hl]; decide), hear_no hp, lvs_none]
        refine ⟨rfl, _, rfl, h0, fun j hj hn => ?_, fun hk1 => ?_⟩
        · by_cases e : j = i
          · subst e
            show upd T j v j = n_vt (Z j) ∧ k_isType (upd T j v j) = true
            rw [upd_at, ev]
            exact ⟨rfl, hty⟩
          · show upd T i v j = n_vt (Z j) ∧ k_isType (upd T i v j) = true
            rw [upd_off e]
            exact h4 j hj (fun z => e (an_none hp z))
        · have h6 := (hT.2.2.2.2.1 k hk1).1
          rw [hx, nxu_none hp] at h6
          intro c p h1 h2
          have := an_none h6 h1
          rw [this, h6] at h2
          cases h2
      | some p =>
        obtain ⟨hpi, hQF⟩ := hT.2.1 i p hi hp
        obtain ⟨eKd, eFit, -, e3, e4, -, -, e5, -⟩ := hT.1 p (by omega)
        have hsh : sN N (c_hear Z pa i) := hear_sN hs pa i
        have h0h : ∀ j, j < k + 1 → ck0 nd D N pa np ho (c_hear Z pa i) ca B C j := fun j hj => ck0_hear hs (h0 j hj)
        have hcah : ∀ j, j < nn → n_ca (c_hear Z pa i j) = (ca j).map aD := by
          intro j hj
          by_cases e : j = p
          · subst e; rw [hear_on hp, (hear_ho _ _ _).2.2.1]; exact hca j hj
          · rw [hear_off hp e]; exact hca j hj
        have h5h : tx5 nn N pa Q (upd T i v) (c_hear Z pa i) p := tx5_hear hW hi hp h5
        have hii : c_hear Z pa i i = Z i := hear_off hp (by omega)
        have h4h : ∀ j, j < k + 1 → ¬ an pa p j → upd T i v j = n_vt (c_hear Z pa i j) ∧ k_isType (upd T i v j) = true := by
          intro j hj hn
          have hjp : j ≠ p := fun z => hn (by rw [z]; exact an_refl _ _)
          rw [hear_off hp hjp]
          by_cases e : j = i
          · subst e
            rw [upd_at, ev]
            exact ⟨rfl, hty⟩
          · rw [upd_off e]
            refine h4 j hj (fun z => ?_)
            rcases an_cases z with h | ⟨p', hp', h⟩
            · exact e h
            · rw [hp] at hp'; cases hp'; exact hn h
        have hlast : n_isLast (c_hear Z pa i i) (c_q (c_hear Z pa i) (some p)) = decide (Q i + 1 = P p) := s_last hW hsh hi hp
        obtain ⟨k1, k2, k3, k4, k5, k6⟩ := hear_keep (Z p) (n_pl (Z i)) (n_vt (Z i))
        have eKp : n_kd (Z p) = n_kd (N p) := (hs p).2.2.2.2.1
        rw [hlast]
        by_cases hl : Q i + 1 = P p
        · -- the last part: on
          rw [if_pos (decide_eq_true hl)]
          refine s_way hW hk f g p (c_hear Z pa i) (upd T i v) (by omega) (by omega) (an_tr hki (an_up hp (an_refl _ _))) hsh h0h hcah ?_ ?_ h4h h5h ?_
          · -- its type
            rw [hear_on hp]
            unfold m_tyAt
            by_cases ha : k_isAsLast (n_kd (N p)) = true
            · rw [k4 (by rw [eKp]; exact ha), tyK_as eKd ha]
              have hpt : m_pt N pa nn p (n_pt (N p) - 1) = some i := part_one hT hW.2.2.1 hi hp (by
                rw [e3]
                exact ((last_iff (by omega) e4).mpr hl).symm)
              rw [hpt]
              show _ = upd T i v i
              rw [upd_at, ev]
            · have haF : k_isAsLast (n_kd (N p)) = false := Bool.eq_false_iff.mpr ha
              have hp1 : n_kd (N p) ≠ 1 := by
                intro z
                rw [e3, z] at eFit
                have := fit_n (m := 0) eFit (by decide) (by decide) (by omega) e4
                omega
              rw [k3 (by rw [eKp]; exact haF), (h0 p (by omega)).2.2.2.2 haF hp1]
              exact tyK_ind eKd haF hp1 _ _ _ _ _
          · rw [hear_on hp]
            by_cases ha : k_isAsLast (n_kd (N p)) = true
            · rw [k4 (by rw [eKp]; exact ha)]; exact hty
            · have haF : k_isAsLast (n_kd (N p)) = false := Bool.eq_false_iff.mpr ha
              have hp1 : n_kd (N p) ≠ 1 := by
                intro z
                rw [e3, z] at eFit
                have := fit_n (m := 0) eFit (by decide) (by decide) (by omega) e4
                omega
              rw [k3 (by rw [eKp]; exact haF), (h0 p (by omega)).2.2.2.2 haF hp1]
              by_cases hcl : k_isCall (n_kd (N p)) = true
              · rw [tyK_call hcl]
                obtain ⟨-, g2⟩ := (h0 p (by omega)).2.2.2.1 hcl
                obtain ⟨t, ht⟩ := Option.isSome_iff_exists.mp g2
                rw [ht]
                exact (hW.2.2.2.2.2.1 t (m_tgt_lt ht)).2.2.1
              · obtain ⟨g1, g2⟩ := tyK_own eKd (Bool.eq_false_iff.mpr hcl) haF hp1 0 (d_vt (D ((m_tgt nd D np (N p)).getD 0))) 0
                rw [g1]; exact g2
          · rw [hx, nxu_some hp, if_neg (by omega)]
            exact nxu_fuel hd i (p + 1) p (by omega) (by omega) (by omega)
        · -- not the last: here the way ends
          right
          rw [if_neg (by rw [decide_eq_false hl]; decide)]
          have hxx : nx pa P Q k = some (p, Q i + 1) := by rw [hx, nxu_some hp, if_pos (by omega)]
          obtain ⟨hk1, n1, n2, n3⟩ := s_noend hW hk hxx
          have hz : m_lvs nd D N pa pn pt np ho nn k g (upd T i v, B, C, 0, fn, mo) (some p) = (upd T i v, B, C, 0, fn, mo) := by
            cases g with
            | zero => rfl
            | succ g => rw [lvs_some rfl, if_neg (by rw [n3]; decide)]
          rw [hz]
          refine ⟨rfl, _, rfl, h0h, fun j hj hn => h4h j hj (fun z => hn hk1 (an_up n1 z)), fun _ => ?_⟩
          show tx5 nn N pa Q (upd T i v) (c_hear Z pa i) (k + 1)
          intro c p2 h1 h2 h3
          rcases an_cases h1 with hck | ⟨p', hp', h1'⟩
          · rw [hck, n1] at h2
            cases h2
            rw [hck, n2]
            rw [hear_on hp]
            refine ⟨fun hb => ?_, fun ha => ?_⟩
            · by_cases q0 : Q i = 0
              · have hi1 := part_0 hT hi hp q0
                have hpl : n_pl (Z i) = 0 := by rw [(hs i).2.2.2.1, (hT.1 i hi).2.2.2.2.2.1, q0]; exact nI_0
                rw [k6 hpl (by rw [eKp]; exact hb)]
                have etx : n_txAfter (Z p) (n_vt (Z i)) = n_txAfter (N p) (n_vt (Z i)) := by unfold n_txAfter; rw [eKp]
                rw [etx, ← hi1, upd_at, ev]
                refine ⟨rfl, hty, fun h18 => ?_⟩
                -- read: what was admitted
                have hadm := hc
                unfold c_fit n_fitsV at hadm
                rw [(hs i).2.2.1, (hW.2.2.2.2.2.2 i hi).2.1, hp] at hadm
                have hadm : n_admits (Z p) (D (c_tq pa ca i)) (pt (c_tq pa ca i)) (n_pl (Z i)) (n_vt (Z i)) = true := hadm
                rw [admits_adm (fun h => by rw [eKp, h18] at h; exact absurd h (by decide)), eKp, h18, hpl] at hadm
                rcases ty4 hty with e | e | e | e
                · rw [e] at hadm; exact absurd hadm (show ¬ (false = true) by decide)
                · rw [e] at hadm; exact absurd hadm (show ¬ (false = true) by decide)
                · exact Or.inl e
                · exact Or.inr e
              · have hpl : n_pl (Z i) ≠ 0 := by
                  rw [(hs i).2.2.2.1, (hT.1 i hi).2.2.2.2.2.1]
                  exact nI_ne0 (by omega) (by have := (hT.1 i hi).2.2.2.2.2.2.2.2.2; have := hW.2.2.1; omega)
                rw [k5 hpl]
                have hne : p + 1 ≠ i := by
                  intro z
                  have h7 : nx pa P Q p = some (p, 0) := by unfold nx; rw [if_neg (by omega)]
                  have h8 := (hT.2.2.2.2.1 p (by omega)).2
                  rw [h7, z] at h8
                  exact q0 h8
                rw [upd_off hne]
                exact (h5 i p (an_refl _ _) hp (by omega)).1 hb
            · exact ⟨i, hi, hp, rfl, by rw [k4 (by rw [eKp]; exact ha), upd_at, ev]⟩
          · rw [n1] at hp'
            cases hp'
            exact h5h c p2 h1' h2 h3
    · -- it cannot stand there
      left
      simp only [if_neg hc]
      refine ⟨i, rfl, ?_, ?_⟩
      · rw [lvs_stop (show (6 : Int32) ≠ 0 by decide)]
      · rw [lvs_stop (show (6 : Int32) ≠ 0 by decide)]
end WAY
