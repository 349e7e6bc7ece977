/-! leaving nodes: one step, then the way up -/
def adm (kd vt pty k t : Int32) : Bool :=
  if kd = 10 then (if k = 0 then decide (t = 0) else if k = 1 then true else decide (t = vt))
  else if kd = 11 then true
  else if kd = 12 then (if k = 0 then decide (t = 1) else if k = 1 then true else decide (t = vt))
  else if kd = 13 then (if k = 0 then decide (t = 0) else decide (t = 3))
  else if kd = 14 then decide (t = pty)
  else if kd = 15 then decide (t = pty)
  else if kd = 17 then decide (t = 1)
  else if kd = 18 then (if 0 < k then true else if t = 2 then true else decide (t = 3))
  else if kd = 19 then k_isWritten t
  else if kd = 20 then (if k = 0 then decide (t = 0) else if k = 1 then true else decide (t = vt))
  else if kd = 21 then true
  else if kd = 22 then (if k = 0 then decide (t = 1) else if k = 1 then true else decide (t = vt))
  else if kd = 23 then decide (t = pty)
  else decide (t = 0)
theorem ty4 {t : Int32} (h : k_isType t = true) : t = 0 ∨ t = 1 ∨ t = 2 ∨ t = 3 := by
  unfold k_isType at h
  split at h
  · cases h
  · rename_i h0
    split at h
    · cases h
    · rename_i h3
      obtain ⟨j, hj, rfl⟩ := nI_of h0
      have : j ≤ 3 := by
        rcases Nat.lt_or_ge 3 j with h9 | h9
        · exact absurd (show (3 : Int32) < nI j from nI_lt (a := 3) h9 hj) h3
        · exact h9
      rcases (show j = 0 ∨ j = 1 ∨ j = 2 ∨ j = 3 by omega) with h | h | h | h <;> subst h <;> decide
theorem adm_in {kd x t vt pty pc t1 : Int32} (hk : k_isKind kd = true) (ht : k_isType t = true) (h1 : k_isCall kd = true → pty = pc) (h2 : k_isAsLast kd = true → x ≠ 0 → x ≠ 1 → vt = t1) : adm kd vt pty x t = m_in kd x t pc t1 := by
  have ht4 := ty4 ht
  revert h1 h2
  refine kd_all (P := fun kd => (k_isCall kd = true → pty = pc) → (k_isAsLast kd = true → x ≠ 0 → x ≠ 1 → vt = t1) → adm kd vt pty x t = m_in kd x t pc t1) ⟨?_, ?_, ?_, ?_, ?_, ?_, ?_, ?_, ?_, ?_, ?_, ?_, ?_, ?_, ?_, ?_, ?_, ?_, ?_, ?_, ?_, ?_, ?_, ?_⟩ hk <;> (intro h1 h2; rcases ht4 with h | h | h | h <;> subst h <;> first | rfl | (rw [h1 (by decide)]; rfl) | (by_cases hx0 : x = 0; (subst hx0; rfl); by_cases hx1 : x = 1; (subst hx1; rfl); rw [h2 (by decide) hx0 hx1]; rfl))
theorem admits_adm {r : nR} {d : dR} {pt : Nat → Int32} {k t : Int32} (h : k_isCall (n_kd r) = true → n_ca r ≠ none) : n_admits r d pt k t = adm (n_kd r) (n_vt r) (d_ptype d pt k) k t := by
  unfold n_admits adm
  by_cases a1 : n_kd r = 14
  · have := h (by rw [a1]; decide)
    rw [a1]; simp [this]
  · by_cases a2 : n_kd r = 15
    · have := h (by rw [a2]; decide)
      rw [a2]; simp [this]
    · by_cases a3 : n_kd r = 23
      · have := h (by rw [a3]; decide)
        rw [a3]; simp [this]
      · simp only [if_neg a1, if_neg a2, if_neg a3]
theorem tyK_ind {k : Int32} (hk : k_isKind k = true) (h2 : k_isAsLast k = false) (h1 : k ≠ 1) (a b c a' c' : Int32) : m_tyK k a b c = m_tyK k a' b c' := by
  by_cases hc : k_isCall k = true
  · rw [tyK_call hc, tyK_call hc]
  · rw [(tyK_own hk (Bool.eq_false_iff.mpr hc) h2 h1 a b c).1, (tyK_own hk (Bool.eq_false_iff.mpr hc) h2 h1 a' b c').1]
theorem hear_keep (r : nR) (k t : Int32) : n_va (n_hear r k t) = n_va r ∧ n_bb (n_hear r k t) = n_bb r ∧ (k_isAsLast (n_kd r) = false → n_vt (n_hear r k t) = n_vt r) ∧ (k_isAsLast (n_kd r) = true → n_vt (n_hear r k t) = t) ∧ (k ≠ 0 → n_tx (n_hear r k t) = n_tx r) ∧ (k = 0 → k_isBinder (n_kd r) = true → n_tx (n_hear r k t) = n_txAfter r t) := by
  by_cases h1 : k = 0
  · by_cases h2 : k_isBinder (n_kd r) = true
    · by_cases h3 : k_isAsLast (n_kd r) = true
      · have e : n_hear r k t = n_s_vt (n_s_tx r (n_txAfter r t)) t := by unfold n_hear; simp only [if_pos h1, if_pos h2, if_pos h3]
        rw [e]
        exact ⟨rfl, rfl, fun z => absurd (h3.symm.trans z) (by decide), fun _ => rfl, fun z => absurd h1 z, fun _ _ => rfl⟩
      · have e : n_hear r k t = n_s_tx r (n_txAfter r t) := by unfold n_hear; simp only [if_pos h1, if_pos h2, if_neg h3]
        rw [e]
        exact ⟨rfl, rfl, fun _ => rfl, fun z => absurd z h3, fun z => absurd h1 z, fun _ _ => rfl⟩
    · by_cases h3 : k_isAsLast (n_kd r) = true
      · have e : n_hear r k t = n_s_vt r t := by unfold n_hear; simp only [if_pos h1, if_neg h2, if_pos h3]
        rw [e]
        exact ⟨rfl, rfl, fun z => absurd (h3.symm.trans z) (by decide), fun _ => rfl, fun z => absurd h1 z, fun _ z => absurd z h2⟩
      · have e : n_hear r k t = r := by unfold n_hear; simp only [if_pos h1, if_neg h2, if_neg h3]
        rw [e]
        exact ⟨rfl, rfl, fun _ => rfl, fun z => absurd z h3, fun z => absurd h1 z, fun _ z => absurd z h2⟩
  · by_cases h3 : k_isAsLast (n_kd r) = true
    · have e : n_hear r k t = n_s_vt r t := by unfold n_hear; simp only [if_neg h1, if_pos h3]
      rw [e]
      exact ⟨rfl, rfl, fun z => absurd (h3.symm.trans z) (by decide), fun _ => rfl, fun _ => rfl, fun z => absurd z h1⟩
    · have e : n_hear r k t = r := by unfold n_hear; simp only [if_neg h1, if_neg h3]
      rw [e]
      exact ⟨rfl, rfl, fun _ => rfl, fun z => absurd z h3, fun _ => rfl, fun z => absurd z h1⟩
theorem lvs_stop {nd nn k : Nat} {D : Nat → dR} {N : Nat → nR} {pa : Nat → Option Nat} {pn : Nat → Nat → Int64} {pt : Nat → Nat → Int32} {np ho : Nat → Nat} {z : mS} (h : z.2.2.2.1 ≠ 0) : ∀ (f : Nat) (o : Option Nat), m_lvs nd D N pa pn pt np ho nn k f z o = z
  | 0, _ => rfl
  | _ + 1, none => rfl
  | f + 1, some j => by unfold m_lvs; rw [if_neg h]
theorem lvs_none {nd nn k : Nat} {D : Nat → dR} {N : Nat → nR} {pa : Nat → Option Nat} {pn : Nat → Nat → Int64} {pt : Nat → Nat → Int32} {np ho : Nat → Nat} {z : mS} : ∀ (f : Nat), m_lvs nd D N pa pn pt np ho nn k f z none = z
  | 0 => rfl
  | _ + 1 => rfl
theorem lvs_some {nd nn k f j : Nat} {D : Nat → dR} {N : Nat → nR} {pa : Nat → Option Nat} {pn : Nat → Nat → Int64} {pt : Nat → Nat → Int32} {np ho : Nat → Nat} {z : mS} (h : z.2.2.2.1 = 0) : m_lvs nd D N pa pn pt np ho nn k (f + 1) z (some j) = if m_isEnd nn pa j k = true then m_lvs nd D N pa pn pt np ho nn k f (m_leave nd D N pa pn pt np ho nn z j) (pa j) else z := by
  conv => lhs; unfold m_lvs
  rw [if_pos h]
section LEAVE
variable {nd nn : Nat} {aD aN : Nat → Nat} {D : Nat → dR} {N Z : Nat → nR} {pn : Nat → Nat → Int64} {pt : Nat → Nat → Int32} {np ho : Nat → Nat} {pa ca : Nat → Option Nat} {P Q F : Nat → Nat} {k i p : Nat} {T B C : Nat → Int32} {fn mo : Int32}
theorem s_end (hW : vW nd nn aN D N pt np ho pa P Q F) (hk : k < nn) (hi : i < nn) (hx : nx pa P Q k = nx_up pa P Q (i + 1) i) : m_isEnd nn pa i k = true := by
  obtain ⟨hT, hO, hn, -, -, -, -⟩ := hW
  have hd := vT_dec hT
  unfold m_isEnd
  by_cases e : nI (k + 1) = nI nn
  · rw [if_pos e]
  · rw [if_neg e]
    have hk1 : k + 1 < nn := by
      have : k + 1 ≠ nn := fun z => e (by rw [z])
      omega
    have h5 := (hT.2.2.2.2.1 k hk1).1
    rw [hx] at h5
    cases hu : nx_up pa P Q (i + 1) i with
    | none => rw [hu] at h5; rw [h5]; rfl
    | some z =>
      obtain ⟨p, q⟩ := z
      rw [hu] at h5
      rw [h5]
      obtain ⟨c, h1, h2, -, -⟩ := nxu_spec _ _ hu
      have h3 := an_le hd hi h1
      have h4 := hd c (by omega) p h2
      show (!decide (nI i ≤ nI p)) = true
      rw [decide_eq_false (nI_ge (by omega) (by omega))]; rfl
theorem s_noend (hW : vW nd nn aN D N pt np ho pa P Q F) (hk : k < nn) {q : Nat} (hx : nx pa P Q k = some (p, q)) : k + 1 < nn ∧ pa (k + 1) = some p ∧ Q (k + 1) = q ∧ m_isEnd nn pa p k = false := by
  obtain ⟨hT, hO, hn, -, -, -, -⟩ := hW
  have hk1 : k + 1 < nn := by
    rcases Nat.lt_or_ge (k + 1) nn with h | h
    · exact h
    · have : nn = k + 1 := by omega
      rw [this] at hO
      have hO : (nx pa P Q k).map Prod.fst = none := hO
      rw [hx] at hO
      cases hO
  have h5 := hT.2.2.2.2.1 k hk1
  rw [hx] at h5
  have h51 : pa (k + 1) = some p := h5.1
  have h52 : Q (k + 1) = q := h5.2
  refine ⟨hk1, h51, h52, ?_⟩
  unfold m_isEnd
  rw [if_neg (fun z => by have := (nI_eq (a := k + 1) (b := nn) (by omega) (by omega)).mp z; omega), h51]
  show (!decide (nI p ≤ nI p)) = false
  have hp := (hT.2.1 (k + 1) p hk1 h51).1
  rw [decide_eq_true (nI_le (Nat.le_refl p) (by omega))]; rfl
/-- whether a type can stand where it stands -/
theorem s_fit (hW : vW nd nn aN D N pt np ho pa P Q F) (hs : sN N Z) (hi : i < nn) (hik : i ≤ k) (h0 : ∀ j, j < k + 1 → ck0 nd D N pa np ho Z ca B C j) (hca : ∀ j, j < nn → n_ca (Z j) = (ca j).map aD) (hty : k_isType (n_vt (Z i)) = true) (h5 : tx5 nn N pa Q T Z i) : c_fit D pt Z ho pa ca i = m_stAt nd D N pa pt np ho nn (upd T i (n_vt (Z i))) i (n_vt (Z i)) := by
  have hW2 := hW
  obtain ⟨hT, hO, hn, -, hu, hDf, hNf⟩ := hW
  have hd := vT_dec hT
  unfold c_fit n_fitsV m_stAt m_std
  rw [(hs i).2.2.1, (hNf i hi).2.1]
  cases hp : pa i with
  | none => rfl
  | some p =>
    obtain ⟨hpi, hQF⟩ := hT.2.1 i p hi hp
    show n_admits (Z p) (D (c_tq pa ca i)) (pt (c_tq pa ca i)) (n_pl (Z i)) (n_vt (Z i)) = m_in (n_kd (N p)) (n_pl (N i)) (n_vt (Z i)) (pt ((m_tgt nd D np (N p)).getD 0) (n_pl (N i)).toNatClampNeg) (upd T i (n_vt (Z i)) ((m_pt N pa nn p 1).getD 0))
    obtain ⟨c1, c2, c3, c4, c5⟩ := h0 p (by omega)
    have eK : n_kd (Z p) = n_kd (N p) := (hs p).2.2.2.2.1
    obtain ⟨eKd, eFit, -, e3, e4, -, -, e5, -⟩ := hT.1 p (by omega)
    obtain ⟨-, -, -, -, -, e6, -, -, -, e7⟩ := hT.1 i hi
    rw [admits_adm (fun h => ?_), eK, (hs i).2.2.2.1]
    · refine adm_in eKd hty (fun hc => ?_) (fun ha hx0 hx1 => ?_)
      · obtain ⟨g1, g2⟩ := c4 hc
        obtain ⟨t, ht⟩ := Option.isSome_iff_exists.mp g2
        have htl := m_tgt_lt ht
        obtain ⟨-, -, h3⟩ := tgt_spec ht
        obtain ⟨d1, d2, -, -⟩ := hDf t htl
        rw [e3] at h3
        have hnp := (nI_eq (by omega) e4).mp h3
        have etq : c_tq pa ca i = t := by show (ca ((pa i).getD 0)).getD 0 = t; rw [hp]; show (ca p).getD 0 = t; rw [g1, ht]; rfl
        rw [etq, ht, e6]
        show d_ptype (D t) (pt t) (nI (Q i)) = pt t (nI (Q i)).toNatClampNeg
        unfold d_ptype
        rw [if_neg (nI_pos (by omega)), d1, if_neg (nI_ge (by omega) (by omega)), if_pos (show nI (Q i) < 8 from nI_lt (b := 8) (by omega) (by omega))]
      · rw [e6] at hx0 hx1
        have q0 : Q i ≠ 0 := fun z => hx0 (by rw [z]; exact nI_0)
        have q1 : Q i ≠ 1 := fun z => hx1 (by rw [z]; rfl)
        have hP := P_as hT (by omega) ha
        have q2 : Q i = 2 := by omega
        obtain ⟨i', g1, g2, g3, g4⟩ := (h5 i p (an_refl _ _) hp (by omega)).2 ha
        have q1' : Q i' = 1 := by omega
        have hpt : m_pt N pa nn p 1 = some i' := part_one hT hn g1 g2 (by rw [q1']; rfl)
        have hne : i' ≠ i := fun z => by rw [z] at g3; omega
        rw [hpt]
        show _ = upd T i _ i'
        rw [upd_off hne]
        exact g4
    · rw [eK] at h
      obtain ⟨g1, g2⟩ := c4 h
      obtain ⟨t, ht⟩ := Option.isSome_iff_exists.mp g2
      rw [hca p (by omega), g1, ht]
      exact Option.some_ne_none _
end LEAVE
