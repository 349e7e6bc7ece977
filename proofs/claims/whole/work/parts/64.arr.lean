/-! coming to a node: class and reference -/
abbrev m_va (N : Nat → nR) (pa : Nat → Option Nat) (np ho : Nat → Nat) (k : Nat) : Int32 := m_thr N pa (k + 1) (nI (np (ho k))) k
theorem thr_fuel {N : Nat → nR} {pa : Nat → Option Nat} {n : Nat} (hd : dec pa n) : ∀ (f g : Nat) (a : Int32) (j : Nat), j < n → j < f → j < g → m_thr N pa f a j = m_thr N pa g a j
  | 0, _, _, _, _, h, _ => absurd h (Nat.not_lt_zero _)
  | _ + 1, 0, _, _, _, _, h => absurd h (Nat.not_lt_zero _)
  | f + 1, g + 1, a, j, hj, hf, hg => by
    unfold m_thr
    split
    · rfl
    · rename_i p hp
      have := hd j hj p hp
      exact thr_fuel hd f g _ p (by omega) (by omega) (by omega)
theorem va_root {N : Nat → nR} {pa : Nat → Option Nat} {np ho : Nat → Nat} {k : Nat} (h : pa k = none) : m_va N pa np ho k = nI (np (ho k)) := by
  show m_thr N pa (k + 1) _ k = _
  unfold m_thr
  rw [h]
theorem va_step {N : Nat → nR} {pa : Nat → Option Nat} {np ho : Nat → Nat} {n k p : Nat} (hd : dec pa n) (hk : k < n) (h : pa k = some p) (hh : ho p = ho k) : m_va N pa np ho k = m_va N pa np ho p + m_vb (N p) (n_pl (N k)) := by
  have hp := hd k hk p h
  show m_thr N pa (k + 1) _ k = m_thr N pa (p + 1) _ p + _
  rw [hh]
  have e : m_thr N pa (k + 1) (nI (np (ho k))) k = m_thr N pa k (nI (np (ho k)) + m_vb (N p) (n_pl (N k))) p := by
    conv => lhs; unfold m_thr
    rw [h]
  rw [e, m_thr_acc, thr_fuel hd k (p + 1) 0 p (by omega) (by omega) (by omega), m_thr_acc (p + 1) (nI (np (ho k)))]
  rw [Int32.add_assoc, Int32.add_comm (m_vb (N p) (n_pl (N k))), ← Int32.add_assoc]
section ARR
variable {nd nn : Nat} {aD aN : Nat → Nat} {D : Nat → dR} {N M : Nat → nR} {pn : Nat → Nat → Int64} {pt : Nat → Nat → Int32} {np ho : Nat → Nat} {pa : Nat → Option Nat} {P Q F : Nat → Nat} {k p : Nat}
theorem s_last (hW : vW nd nn aN D N pt np ho pa P Q F) (hs : sN N M) (hk : k < nn) (hp : pa k = some p) : n_isLast (M k) (M p) = decide (Q k + 1 = P p) := by
  obtain ⟨hT, -, hn, -, -, -, hNf⟩ := hW
  have e1 : n_pa (M k) = some (aN p) := by rw [(hs k).2.2.1, (hNf k hk).2.1, hp]; rfl
  obtain ⟨g1, g2⟩ := hT.2.1 k p hk hp
  obtain ⟨-, -, -, e3, e4, -, -, e5, -⟩ := hT.1 p (by omega)
  unfold n_isLast
  rw [e1]
  simp only []
  rw [(hs k).2.2.2.1, (hs p).2.2.2.2.2.2.2.1, (hT.1 k hk).2.2.2.2.2.1, e3]
  exact decide_eq_decide.mpr (last_iff (by omega) e4)
theorem s_bIn (hW : vW nd nn aN D N pt np ho pa P Q F) (hk : k < nn) (hp : pa k = some p) : m_bIn (n_kd (N p)) (n_pl (N k)) = (decide (Q k + 1 = P p) && k_isBinder (n_kd (N p))) := by
  obtain ⟨hT, -, hn, -, -, -, hNf⟩ := hW
  obtain ⟨g1, g2⟩ := hT.2.1 k p hk hp
  obtain ⟨-, e2, -, e3, e4, -, -, e5, -⟩ := hT.1 p (by omega)
  rw [e3] at e2
  rw [(hT.1 k hk).2.2.2.2.2.1, bIn_last e2 (by omega) e4]
  congr 1
  exact decide_eq_decide.mpr (last_iff (by omega) e4)
theorem s_count (hW : vW nd nn aN D N pt np ho pa P Q F) (hs : sN N M) (hk : k < nn) (hva : ∀ p, pa k = some p → n_va (M p) = m_va N pa np ho p) : n_count (M k) (c_q M (pa k)) (D (ho k)) = m_va N pa np ho k := by
  have hW2 := hW
  obtain ⟨hT, -, hn, -, -, hDf, hNf⟩ := hW
  obtain ⟨-, e1, hh, hhp⟩ := hNf k hk
  unfold n_count
  rw [(hs k).2.2.1, e1]
  cases hp : pa k with
  | none =>
    show d_np (D (ho k)) = _
    rw [va_root hp, (hDf _ hh).1]
  | some p =>
    show n_va (M p) + (if n_isLast (M k) (M p) = true then n_varsLast (M p) else 0) = _
    rw [va_step (vT_dec hT) hk hp (hhp p hp), hva p hp, s_last hW2 hs hk hp]
    congr 1
    unfold m_vb n_varsLast
    rw [s_bIn hW2 hk hp, (hs p).2.2.2.2.1]
    by_cases hl : Q k + 1 = P p
    · simp only [hl, decide_true, Bool.true_and, if_true]
    · simp only [hl, decide_false, Bool.false_and]
      simp
theorem s_bnd (hW : vW nd nn aN D N pt np ho pa P Q F) (hs : sN N M) (x : Int64) : ∀ (f g j : Nat), j < nn → j ≤ f → j < g → n_bnd x (M j) (c_chL M pa f (pa j)) = (m_bo N pa x g j).map M
  | f, 0, j, _, _, hg => absurd hg (Nat.not_lt_zero _)
  | f, g + 1, j, hj, hf, hg => by
    have hd := vT_dec hW.1
    unfold m_bo
    cases hp : pa j with
    | none =>
      have : c_chL M pa f none = [] := by cases f <;> rfl
      rw [this]; rfl
    | some p =>
      have hpj := hd j hj p hp
      cases f with
      | zero => omega
      | succ f =>
        show (if (n_isLast (M j) (M p) && n_binds (M p) x) = true then some (M p) else n_bnd x (M p) (c_chL M pa f (pa p))) = (if (m_bIn (n_kd (N p)) (n_pl (N j)) && (decide (n_fi (N p) = x) || decide (n_se (N p) = x))) = true then some p else m_bo N pa x g p).map M
        have e : (n_isLast (M j) (M p) && n_binds (M p) x) = (m_bIn (n_kd (N p)) (n_pl (N j)) && (decide (n_fi (N p) = x) || decide (n_se (N p) = x))) := by
          rw [s_last hW hs hj hp, s_bIn hW hj hp]
          unfold n_binds
          rw [(hs p).2.2.2.2.1, (hs p).2.2.2.2.2.1, (hs p).2.2.2.2.2.2.1, Bool.and_assoc]
        rw [e]
        split
        · rfl
        · exact s_bnd hW hs x f g p (by omega) (by omega) (by omega)
end ARR
theorem pv_ne {o : Option Nat} (h : ∀ t, o = some t → t < 8) : m_pv o = -1 ↔ o = none := by
  cases o with
  | none => exact ⟨fun _ => rfl, fun _ => rfl⟩
  | some t =>
    refine ⟨fun z => ?_, fun z => by cases z⟩
    have := h t rfl
    have z : -2 - nI t = -1 := z
    rcases (show t = 0 ∨ t = 1 ∨ t = 2 ∨ t = 3 ∨ t = 4 ∨ t = 5 ∨ t = 6 ∨ t = 7 by omega) with h | h | h | h | h | h | h | h <;> subst h <;> exact absurd z (by decide)
theorem nI_nem {b : Nat} (h : b < 2 ^ 31) : nI b ≠ -1 := by
  intro z
  have h1 := congrArg Int32.toInt z
  rw [nI_toInt h] at h1
  have h2 : (-1 : Int32).toInt = -1 := by decide
  omega
theorem pv_ix {o : Option Nat} (h : ∀ t, o = some t → t < 8) : (if m_ix o = -1 then (-1 : Int32) else -2 - m_ix o) = m_pv o := by
  cases o with
  | none => rfl
  | some t =>
    have h8 := h t rfl
    show (if nI t = -1 then (-1 : Int32) else -2 - nI t) = -2 - nI t
    rw [if_neg (nI_nem (by omega))]
/-- what holds of the way up from k: what binders and ifs know of the parts behind them -/
def tx5 (nn : Nat) (N : Nat → nR) (pa : Nat → Option Nat) (Q : Nat → Nat) (T : Nat → Int32) (Z : Nat → nR) (k : Nat) : Prop := ∀ c p, an pa k c → pa c = some p → 0 < Q c → (k_isBinder (n_kd (N p)) = true → n_tx (Z p) = n_txAfter (N p) (T (p + 1)) ∧ k_isType (T (p + 1)) = true ∧ (n_kd (N p) = 18 → T (p + 1) = 2 ∨ T (p + 1) = 3)) ∧ (k_isAsLast (n_kd (N p)) = true → ∃ i, i < nn ∧ pa i = some p ∧ Q i + 1 = Q c ∧ n_vt (Z p) = T i)
theorem case_names {k : Int32} {f s : Int64} (h : k_namesFit k f s = true) : (k_isCase k = true → s ≠ f) ∧ (k_isCase k = false → s = 0) ∧ (k_hasFirst k = true → ¬ f ≤ 0) := by
  unfold k_namesFit at h
  rw [Bool.and_eq_true] at h
  refine ⟨fun hc => ?_, fun hc => ?_, fun hc => ?_⟩
  · have h2 := h.2
    rw [if_pos hc] at h2
    simp at h2
    exact h2.2
  · have h2 := h.2
    rw [if_neg (by rw [hc]; decide)] at h2
    exact of_decide_eq_true h2
  · have h1 := h.1
    rw [if_pos hc] at h1
    simp at h1
    exact fun z => absurd z (by simpa using h1)
/-- a variable's type -/
theorem s_var {nd nn : Nat} {aN : Nat → Nat} {D : Nat → dR} {N M : Nat → nR} {pn : Nat → Nat → Int64} {pt : Nat → Nat → Int32} {np ho : Nat → Nat} {pa : Nat → Option Nat} {P Q F : Nat → Nat} {k : Nat} {T : Nat → Int32} (hW : vW nd nn aN D N pt np ho pa P Q F) (hs : sN N M) (hk : k < nn) (hk1 : n_kd (N k) = 1) (h5 : tx5 nn N pa Q T M k) (hok : m_bval N pa pn np ho (n_fi (N k)) k ≠ -1) :
    n_bt ((m_bo N pa (n_fi (N k)) (k + 1) k).map M) (n_fi (N k)) (D (ho k)) (pt (ho k)) (m_ix (m_pi (pn (ho k)) (n_fi (N k)) (np (ho k)) 0)) = m_tyV T N pa pn pt np ho nn k ∧ k_isType (m_tyV T N pa pn pt np ho nn k) = true := by
  have hW2 := hW
  obtain ⟨hT, hO, hn, -, -, hDf, hNf⟩ := hW
  have hd := vT_dec hT
  unfold m_tyV
  unfold m_bval at hok
  have hx0 : ¬ n_fi (N k) ≤ 0 := (case_names (hT.1 k hk).2.2.1).2.2 (by rw [hk1]; decide)
  cases hb : m_bo N pa (n_fi (N k)) (k + 1) k with
  | some b =>
    obtain ⟨c, h1, h2, h3, h4⟩ := bo_spec _ _ _ hb
    have hck := an_le hd hk h1
    obtain ⟨hbc, hQF⟩ := hT.2.1 c b (by omega) h2
    rw [s_bIn hW2 (by omega) h2, Bool.and_eq_true] at h3
    have hlast := of_decide_eq_true h3.1
    have hbi := h3.2
    have hP := P_bi hT (by omega) hbi
    obtain ⟨t1, t2, t3⟩ := (h5 c b h1 h2 (by omega)).1 hbi
    obtain ⟨eK, -, eN, -⟩ := hT.1 b (by omega)
    obtain ⟨n1, n2, -⟩ := case_names eN
    have hF1 : 0 < F b := by omega
    obtain ⟨i, hi1, hi2, hi3, hi4⟩ := part_at hT hn (by omega) hF1
    have hib := part_0 hT hi1 hi2 hi3
    rw [nI_0] at hi4
    show (if n_se (M b) = n_fi (N k) then 3 else n_tx (M b)) = m_tyB T N k b ((m_pt N pa nn b 0).getD 0) ∧ k_isType (m_tyB T N k b ((m_pt N pa nn b 0).getD 0)) = true
    rw [(hs b).2.2.2.2.2.2.1, t1, hi4]
    show _ = m_tyB T N k b i ∧ _
    rw [hib]
    show _ ∧ k_isType (m_tyB T N k b (b + 1)) = true
    unfold m_tyB n_txAfter
    by_cases hc : k_isCase (n_kd (N b)) = true
    · rw [if_pos hc]
      have hne := n1 hc
      have hlet : ¬ k_isLet (n_kd (N b)) = true := by
        intro z
        unfold k_isCase at hc
        unfold k_isLet at z
        by_cases a1 : n_kd (N b) = 12
        · rw [a1] at z; exact absurd z (by decide)
        · by_cases a2 : n_kd (N b) = 22
          · rw [a2] at z; exact absurd z (by decide)
          · rw [if_neg a1, if_neg a2] at hc; cases hc
      have h18 : ¬ n_kd (N b) = 18 := fun z => by rw [z] at hc; exact absurd hc (by decide)
      rw [if_neg hlet, if_neg h18]
      by_cases hf : n_fi (N b) = n_fi (N k)
      · rw [if_pos hf, if_neg (fun z => hne (z.trans hf.symm))]
        exact ⟨rfl, by decide⟩
      · rw [if_neg hf, if_pos (h4.resolve_left hf)]
        exact ⟨rfl, by decide⟩
    · have hse := n2 (Bool.eq_false_iff.mpr hc)
      have hne : ¬ n_se (N b) = n_fi (N k) := fun z => hx0 (by rw [← z, hse]; exact Int64.le_refl 0)
      rw [if_neg hc, if_neg hne]
      by_cases h18 : n_kd (N b) = 18
      · have hlet : ¬ k_isLet (n_kd (N b)) = true := by rw [h18]; decide
        rw [if_neg hlet, if_pos h18, if_pos h18]
        rcases t3 h18 with e | e <;> rw [e] <;> exact ⟨by decide, by decide⟩
      · have hlet : k_isLet (n_kd (N b)) = true := by
          unfold k_isBinder at hbi
          unfold k_isCase at hc
          unfold k_isLet
          by_cases a1 : n_kd (N b) = 11
          · rw [if_pos a1]
          · rw [if_neg a1]
            by_cases a2 : n_kd (N b) = 21
            · rw [if_pos a2]
            · exfalso
              by_cases a3 : n_kd (N b) = 12
              · rw [if_pos a3] at hc; exact hc rfl
              · by_cases a4 : n_kd (N b) = 22
                · rw [if_neg a3, if_pos a4] at hc; exact hc rfl
                · rw [if_neg a1, if_neg a3, if_neg h18, if_neg a2, if_neg a4] at hbi; cases hbi
        rw [if_pos hlet, if_neg h18]
        exact ⟨rfl, t2⟩
  | none =>
    rw [hb] at hok
    obtain ⟨hh, -⟩ := (hNf k hk).2.2
    obtain ⟨d1, d2, -, d4⟩ := hDf _ hh
    cases hpi : m_pi (pn (ho k)) (n_fi (N k)) (np (ho k)) 0 with
    | none => rw [hpi] at hok; exact absurd rfl hok
    | some t =>
      have ht := m_pi_lt _ _ _ hpi
      show d_ptype (D (ho k)) (pt (ho k)) (nI t) = pt (ho k) t ∧ k_isType (pt (ho k) t) = true
      refine ⟨?_, d4 t (by omega)⟩
      unfold d_ptype
      rw [if_neg (nI_pos (by omega)), d1, if_neg (nI_ge (by omega) (by omega)), if_pos (show nI t < 8 from nI_lt (b := 8) (by omega) (by omega)), nI_clamp (by omega)]
