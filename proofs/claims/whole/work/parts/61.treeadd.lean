/-! one more node: the tree's facts -/
def vQ (F : Nat → Nat) (o : Option Nat) : Nat := match o with
  | none => 0
  | some p => F p
def vF (nn : Nat) (F : Nat → Nat) (o : Option Nat) : Nat → Nat := match o with
  | none => va_up F nn 0
  | some p => va_up (va_up F nn 0) p (F p + 1)
theorem vF_at {nn : Nat} {F : Nat → Nat} {o : Option Nat} (ho : ∀ p, o = some p → p < nn) (j : Nat) : vF nn F o j = if o = some j then F j + 1 else if j = nn then 0 else F j := by
  cases o with
  | none => simp [vF, va_up]
  | some p =>
    have hp := ho p rfl
    show va_up (va_up F nn 0) p (F p + 1) j = _
    by_cases h : j = p
    · subst h; rw [va_up_self, if_pos rfl]
    · rw [va_up_ne _ _ h, if_neg (fun z => h (by cases z; rfl))]
      by_cases h2 : j = nn
      · subst h2; rw [va_up_self, if_pos rfl]
      · rw [va_up_ne _ _ h2, if_neg h2]
theorem vT_add {nn : Nat} {N N' : Nat → nR} {pa : Nat → Option Nat} {P Q F : Nat → Nat} (h : vT nn N pa P Q F) {o : Option Nat} (ho : o = vO nn pa P Q) {p9 : Nat} (hp9 : p9 < 2 ^ 31)
    (hs : ∀ j, j < nn → n_kd (N' j) = n_kd (N j) ∧ n_fi (N' j) = n_fi (N j) ∧ n_se (N' j) = n_se (N j) ∧ n_pt (N' j) = n_pt (N j) ∧ n_pl (N' j) = n_pl (N j)) (hf : ∀ j, j < nn + 1 → n_fl (N' j) = nI (vF nn F o j))
    (h1 : k_isKind (n_kd (N' nn)) = true) (h2 : k_partsFit (n_kd (N' nn)) (n_pt (N' nn)) = true) (h3 : k_namesFit (n_kd (N' nn)) (n_fi (N' nn)) (n_se (N' nn)) = true) (h4 : n_pt (N' nn) = nI p9) (h5 : n_pl (N' nn) = nI (vQ F o)) :
    vT (nn + 1) N' (va_up pa nn o) (va_up P nn p9) (va_up Q nn (vQ F o)) (vF nn F o) := by
  have hd := vT_dec h
  have hol : ∀ p, o = some p → p < nn ∧ F p < P p ∧ an pa (nn - 1) p := fun p hp => by
    obtain ⟨g1, g2, g3, -⟩ := vO_lt h (ho.symm.trans hp)
    exact ⟨g1, g2, g3⟩
  have hol1 : ∀ p, o = some p → p < nn := fun p hp => (hol p hp).1
  have hFat := fun j => vF_at (F := F) hol1 j
  have hpa : ∀ i, i < nn → va_up pa nn o i = pa i := fun i hi => va_up_ne _ _ (by omega)
  have hP : ∀ i, i < nn → va_up P nn p9 i = P i := fun i hi => va_up_ne _ _ (by omega)
  have hQ : ∀ i, i < nn → va_up Q nn (vQ F o) i = Q i := fun i hi => va_up_ne _ _ (by omega)
  have hF1 : ∀ i, i < nn → F i ≤ vF nn F o i ∧ vF nn F o i ≤ F i + 1 := fun i hi => by
    rw [hFat i]
    split
    · omega
    · rw [if_neg (by omega)]; omega
  have hFn : vF nn F o nn = 0 := by rw [hFat nn, if_neg (fun z => absurd (hol1 nn z) (by omega)), if_pos rfl]
  have hFo : ∀ p, o = some p → vF nn F o p = F p + 1 := fun p hp => by rw [hFat p, if_pos hp]
  have hFx : ∀ j, j < nn → o ≠ some j → vF nn F o j = F j := fun j hj hne => by rw [hFat j, if_neg hne, if_neg (by omega)]
  have hnx : ∀ k, k < nn → nx (va_up pa nn o) (va_up P nn p9) (va_up Q nn (vQ F o)) k = nx pa P Q k := fun k hk => nx_congr hd hpa hP hQ hk
  obtain ⟨v1, v2, v3, v4, v5, v7, v7b, v8⟩ := id h
  have hQn : ∀ p, o = some p → vQ F o = F p := fun p hp => by rw [hp]; rfl
  refine ⟨fun j hj => ?_, fun j p hj hp => ?_, fun i j p hi hj hpi hpj hq => ?_, fun p q hp hq => ?_, fun k hk => ?_, fun i p _ hi hp => ?_, fun _ => hFn, fun j hj hlt => ?_⟩
  · by_cases e : j = nn
    · subst e
      rw [va_up_self, va_up_self, hFn]
      refine ⟨h1, h2, h3, h4, hp9, h5, ?_, Nat.zero_le _, Nat.zero_le _, ?_⟩
      · rw [hf j hj, hFn]
      · cases o with
        | none => exact Nat.zero_le _
        | some p =>
          have := (v1 p (hol1 p rfl)).2.2.2.2.2.2.2.2.1
          show F p ≤ _
          omega
    · have hj' : j < nn := by omega
      obtain ⟨a1, a2, a3, a4, a5⟩ := hs j hj'
      obtain ⟨b1, b2, b3, b4, b5, b6, b7, b8, b9, b10⟩ := v1 j hj'
      rw [hP j hj', hQ j hj', a1, a2, a3, a4, a5]
      refine ⟨b1, b2, b3, b4, b5, b6, hf j hj, ?_, ?_, by omega⟩
      · by_cases e2 : o = some j
        · rw [hFo j e2]; have := (hol j e2).2.1; omega
        · rw [hFx j hj' e2]; exact b8
      · have := (hF1 j hj').2; omega
  · by_cases e : j = nn
    · subst e
      rw [va_up_self] at hp
      rw [va_up_self, hQn p hp, hFo p hp]
      exact ⟨hol1 p hp, by omega⟩
    · have hj' : j < nn := by omega
      rw [hpa j hj'] at hp
      rw [hQ j hj']
      obtain ⟨g1, g2⟩ := v2 j p hj' hp
      have := (hF1 p (by omega)).1
      exact ⟨g1, by omega⟩
  · by_cases e : i = nn
    · by_cases e2 : j = nn
      · rw [e, e2]
      · have hj' : j < nn := by omega
        subst e
        rw [va_up_self] at hpi hq
        rw [hpa j hj'] at hpj
        rw [hQ j hj', hQn p hpi] at hq
        have := (v2 j p hj' hpj).2
        omega
    · have hi' : i < nn := by omega
      by_cases e2 : j = nn
      · subst e2
        rw [va_up_self] at hpj hq
        rw [hpa i hi'] at hpi
        rw [hQ i hi', hQn p hpj] at hq
        have := (v2 i p hi' hpi).2
        omega
      · have hj' : j < nn := by omega
        rw [hpa i hi'] at hpi
        rw [hpa j hj'] at hpj
        rw [hQ i hi', hQ j hj'] at hq
        exact v3 i j p hi' hj' hpi hpj hq
  · by_cases e : p = nn
    · subst e; rw [hFn] at hq; omega
    · have hp' : p < nn := by omega
      by_cases hlt : q < F p
      · obtain ⟨i, hi, g1, g2⟩ := v4 p q hp' hlt
        exact ⟨i, by omega, by rw [hpa i hi]; exact g1, by rw [hQ i hi]; exact g2⟩
      · have e2 : o = some p := by
          by_cases e2 : o = some p
          · exact e2
          · rw [hFx p hp' e2] at hq; omega
        rw [hFo p e2] at hq
        exact ⟨nn, by omega, by rw [va_up_self]; exact e2, by rw [va_up_self, hQn p e2]; omega⟩
  · rw [hnx k (by omega)]
    by_cases e : k + 1 = nn
    · have ho2 : o = (nx pa P Q k).map Prod.fst := by rw [ho, ← e]; rfl
      rw [e, va_up_self, va_up_self]
      refine ⟨ho2, ?_⟩
      cases hx : nx pa P Q k with
      | none => rw [hx] at ho2; rw [ho2]; rfl
      | some z =>
        obtain ⟨p, q⟩ := z
        rw [hx] at ho2
        have h6 : vT (k + 1) N pa P Q F := by rw [e]; exact h
        rw [hQn p ho2]
        exact (vT_F h6 hx).1
    · rw [hpa (k + 1) (by omega), hQ (k + 1) (by omega)]
      exact v5 k (by omega)
  · have hi : an (va_up pa nn o) nn i := hi
    rcases an_cases hi with e | ⟨p', hp', hi2⟩
    · subst e
      rw [va_up_self] at hp
      rw [va_up_self, hFo p hp, hQn p hp]
    · rw [va_up_self] at hp'
      have hpl := hol1 p' hp'
      have hi3 : an pa p' i := (an_congr hd hpa hpl).mp hi2
      have hile := an_le hd hpl hi3
      rw [hpa i (by omega)] at hp
      rw [hQ i (by omega)]
      have hpi := (v2 i p (by omega) hp).1
      have hne : o ≠ some p := fun z => by rw [hp'] at z; cases z; omega
      rw [hFx p (by omega) hne]
      exact v7 i p (by omega) (an_tr (hol p' hp').2.2 hi3) hp
  · show an (va_up pa nn o) nn j
    by_cases e : j = nn
    · subst e; exact an_refl _ _
    · have hj' : j < nn := by omega
      rw [hP j hj'] at hlt
      have hlt2 : F j < P j := by have := (hF1 j hj').1; omega
      have hch := v8 j hj' hlt2
      -- there is an open node, and j is above it
      cases ho9 : o with
      | none => exact absurd (vT_full h (ho.symm.trans ho9) j hj') (by omega)
      | some p =>
        obtain ⟨g1, g2, g3, n, en, hx⟩ := vO_lt h (ho.symm.trans ho9)
        refine an_up (va_up_self _ _ _) ((an_congr hd (fun i hi => by rw [← ho9]; exact hpa i hi) g1).mpr ?_)
        subst en
        have hch : an pa n j := hch
        unfold nx at hx
        split at hx
        · rename_i hP0
          have h0 : F n = 0 := v7b (by omega)
          rcases nxu_full h (n + 1) n (an_refl _ _) (by omega) (by rw [hP0]; exact h0) j hch with h6 | ⟨p2, q2, h6, h7⟩
          · omega
          · rw [hx] at h6; cases h6; exact h7
        · have := congrArg Prod.fst (Option.some.inj hx)
          have hnp : n = p := this
          rw [← hnp]; exact hch
theorem vT_0 (N : Nat → nR) (pa : Nat → Option Nat) (P Q F : Nat → Nat) : vT 0 N pa P Q F :=
  ⟨fun j hj => absurd hj (Nat.not_lt_zero _), fun j p hj => absurd hj (Nat.not_lt_zero _), fun i j p hi => absurd hi (Nat.not_lt_zero _), fun p q hp => absurd hp (Nat.not_lt_zero _), fun k hk => absurd hk (Nat.not_lt_zero _), fun i p h => absurd h (Nat.lt_irrefl _), fun h => absurd h (Nat.lt_irrefl _), fun j hj => absurd hj (Nat.not_lt_zero _)⟩
theorem vT_cg {nn : Nat} {N N' : Nat → nR} {pa : Nat → Option Nat} {P Q F : Nat → Nat} (h : vT nn N pa P Q F) (hs : ∀ j, j < nn → n_kd (N' j) = n_kd (N j) ∧ n_fi (N' j) = n_fi (N j) ∧ n_se (N' j) = n_se (N j) ∧ n_pt (N' j) = n_pt (N j) ∧ n_pl (N' j) = n_pl (N j) ∧ n_fl (N' j) = n_fl (N j)) : vT nn N' pa P Q F := by
  refine ⟨fun j hj => ?_, h.2⟩
  obtain ⟨a1, a2, a3, a4, a5, a6⟩ := hs j hj
  rw [a1, a2, a3, a4, a5, a6]
  exact h.1 j hj
