/-! THE TREE: nodes in the order of the text. P: parts, Q: places, F: filled, as numbers -/
def it (pa : Nat → Option Nat) : Nat → Nat → Option Nat
  | 0, k => some k
  | f + 1, k => match pa k with
    | none => none
    | some p => it pa f p
/-- j is k, or above k -/
def an (pa : Nat → Option Nat) (k j : Nat) : Prop := ∃ f, it pa f k = some j
theorem an_refl (pa : Nat → Option Nat) (k : Nat) : an pa k k := ⟨0, rfl⟩
theorem an_up {pa : Nat → Option Nat} {k p j : Nat} (h : pa k = some p) (h2 : an pa p j) : an pa k j := by
  obtain ⟨f, hf⟩ := h2
  refine ⟨f + 1, ?_⟩
  show (match pa k with | none => none | some p => it pa f p) = some j
  rw [h]
  exact hf
theorem an_cases {pa : Nat → Option Nat} {k j : Nat} (h : an pa k j) : j = k ∨ ∃ p, pa k = some p ∧ an pa p j := by
  obtain ⟨f, hf⟩ := h
  cases f with
  | zero => cases hf; exact Or.inl rfl
  | succ f =>
    right
    have hf : (match pa k with | none => none | some p => it pa f p) = some j := hf
    cases hp : pa k with
    | none => rw [hp] at hf; cases hf
    | some p => rw [hp] at hf; exact ⟨p, rfl, f, hf⟩
theorem an_trans {pa : Nat → Option Nat} {j i : Nat} : ∀ (f k : Nat), it pa f k = some j → an pa j i → an pa k i
  | 0, k, h, h2 => by cases h; exact h2
  | f + 1, k, h, h2 => by
    have h : (match pa k with | none => none | some p => it pa f p) = some j := h
    cases hp : pa k with
    | none => rw [hp] at h; cases h
    | some p => rw [hp] at h; exact an_up hp (an_trans f p h h2)
theorem an_tr {pa : Nat → Option Nat} {k j i : Nat} (h : an pa k j) (h2 : an pa j i) : an pa k i := by
  obtain ⟨f, hf⟩ := h
  exact an_trans f k hf h2
theorem an_none {pa : Nat → Option Nat} {k j : Nat} (h : pa k = none) (h2 : an pa k j) : j = k := by
  rcases an_cases h2 with h3 | ⟨p, hp, -⟩
  · exact h3
  · rw [h] at hp; cases hp
def dec (pa : Nat → Option Nat) (n : Nat) : Prop := ∀ j, j < n → ∀ p, pa j = some p → p < j
theorem it_le {pa : Nat → Option Nat} {n : Nat} (hd : dec pa n) {j : Nat} : ∀ (f k : Nat), k < n → it pa f k = some j → j ≤ k
  | 0, k, _, h => by cases h; exact Nat.le_refl _
  | f + 1, k, hk, h => by
    have h : (match pa k with | none => none | some p => it pa f p) = some j := h
    cases hp : pa k with
    | none => rw [hp] at h; cases h
    | some p =>
      rw [hp] at h
      have h1 := hd k hk p hp
      have := it_le hd f p (by omega) h
      omega
theorem an_le {pa : Nat → Option Nat} {n k j : Nat} (hd : dec pa n) (hk : k < n) (h : an pa k j) : j ≤ k := by
  obtain ⟨f, hf⟩ := h
  exact it_le hd f k hk hf
theorem it_congr {pa pa' : Nat → Option Nat} {n : Nat} (hd : dec pa n) (h : ∀ i, i < n → pa' i = pa i) : ∀ (f k : Nat), k < n → it pa' f k = it pa f k
  | 0, _, _ => rfl
  | f + 1, k, hk => by
    show (match pa' k with | none => none | some p => it pa' f p) = (match pa k with | none => none | some p => it pa f p)
    rw [h k hk]
    cases hp : pa k with
    | none => rfl
    | some p =>
      have h1 := hd k hk p hp
      exact it_congr hd h f p (by omega)
theorem an_congr {pa pa' : Nat → Option Nat} {n k j : Nat} (hd : dec pa n) (h : ∀ i, i < n → pa' i = pa i) (hk : k < n) : an pa' k j ↔ an pa k j := by
  unfold an
  exact ⟨fun ⟨f, hf⟩ => ⟨f, by rw [← it_congr hd h f k hk]; exact hf⟩, fun ⟨f, hf⟩ => ⟨f, by rw [it_congr hd h f k hk]; exact hf⟩⟩
def nx_up (pa : Nat → Option Nat) (P Q : Nat → Nat) : Nat → Nat → Option (Nat × Nat)
  | 0, _ => none
  | f + 1, i => match pa i with
    | none => none
    | some p => if Q i + 1 < P p then some (p, Q i + 1) else nx_up pa P Q f p
/-- where the node behind k goes -/
def nx (pa : Nat → Option Nat) (P Q : Nat → Nat) (k : Nat) : Option (Nat × Nat) := if P k = 0 then nx_up pa P Q (k + 1) k else some (k, 0)
theorem nxu_none {pa : Nat → Option Nat} {P Q : Nat → Nat} {f i : Nat} (h : pa i = none) : nx_up pa P Q (f + 1) i = none := by unfold nx_up; rw [h]
theorem nxu_some {pa : Nat → Option Nat} {P Q : Nat → Nat} {f i p : Nat} (h : pa i = some p) : nx_up pa P Q (f + 1) i = if Q i + 1 < P p then some (p, Q i + 1) else nx_up pa P Q f p := by conv => lhs; unfold nx_up; rw [h]
theorem nxu_fuel {pa : Nat → Option Nat} {P Q : Nat → Nat} {n : Nat} (hd : dec pa n) : ∀ (f g i : Nat), i < n → i < f → i < g → nx_up pa P Q f i = nx_up pa P Q g i
  | 0, _, i, _, h, _ => absurd h (Nat.not_lt_zero _)
  | _ + 1, 0, i, _, _, h => absurd h (Nat.not_lt_zero _)
  | f + 1, g + 1, i, hi, hf, hg => by
    cases hp : pa i with
    | none => rw [nxu_none hp, nxu_none hp]
    | some p =>
      rw [nxu_some hp, nxu_some hp]
      have h1 := hd i hi p hp
      rw [nxu_fuel hd f g p (by omega) (by omega) (by omega)]
theorem nxu_congr {pa pa' : Nat → Option Nat} {P P' Q Q' : Nat → Nat} {n : Nat} (hd : dec pa n) (h : ∀ i, i < n → pa' i = pa i) (hP : ∀ i, i < n → P' i = P i) (hQ : ∀ i, i < n → Q' i = Q i) : ∀ (f i : Nat), i < n → nx_up pa' P' Q' f i = nx_up pa P Q f i
  | 0, _, _ => rfl
  | f + 1, i, hi => by
    cases hp : pa i with
    | none => rw [nxu_none hp, nxu_none ((h i hi).trans hp)]
    | some p =>
      have h1 := hd i hi p hp
      rw [nxu_some hp, nxu_some ((h i hi).trans hp), hP p (by omega), hQ i hi, nxu_congr hd h hP hQ f p (by omega)]
theorem nx_congr {pa pa' : Nat → Option Nat} {P P' Q Q' : Nat → Nat} {n k : Nat} (hd : dec pa n) (h : ∀ i, i < n → pa' i = pa i) (hP : ∀ i, i < n → P' i = P i) (hQ : ∀ i, i < n → Q' i = Q i) (hk : k < n) : nx pa' P' Q' k = nx pa P Q k := by
  unfold nx
  rw [hP k hk, nxu_congr hd h hP hQ _ k hk]
/-- what the way up finds: an ancestor that lacks parts, whose part on the way is the one before -/
theorem nxu_spec {pa : Nat → Option Nat} {P Q : Nat → Nat} {p q : Nat} : ∀ (f i : Nat), nx_up pa P Q f i = some (p, q) → ∃ c, an pa i c ∧ pa c = some p ∧ q = Q c + 1 ∧ q < P p
  | 0, i, h => by cases h
  | f + 1, i, h => by
    cases hp : pa i with
    | none => rw [nxu_none hp] at h; cases h
    | some p' =>
      rw [nxu_some hp] at h
      split at h
      · rename_i hlt
        cases h
        exact ⟨i, an_refl _ _, hp, rfl, hlt⟩
      · obtain ⟨c, h1, h2⟩ := nxu_spec f p' h
        exact ⟨c, an_up hp h1, h2⟩
def vT (nn : Nat) (N : Nat → nR) (pa : Nat → Option Nat) (P Q F : Nat → Nat) : Prop :=
  (∀ j, j < nn → k_isKind (n_kd (N j)) = true ∧ k_partsFit (n_kd (N j)) (n_pt (N j)) = true ∧ k_namesFit (n_kd (N j)) (n_fi (N j)) (n_se (N j)) = true ∧ n_pt (N j) = nI (P j) ∧ P j < 2 ^ 31 ∧ n_pl (N j) = nI (Q j) ∧ n_fl (N j) = nI (F j) ∧ F j ≤ P j ∧ F j ≤ nn ∧ Q j ≤ nn)
  ∧ (∀ j p, j < nn → pa j = some p → p < j ∧ Q j < F p)
  ∧ (∀ i j p, i < nn → j < nn → pa i = some p → pa j = some p → Q i = Q j → i = j)
  ∧ (∀ p q, p < nn → q < F p → ∃ i, i < nn ∧ pa i = some p ∧ Q i = q)
  ∧ (∀ k, k + 1 < nn → pa (k + 1) = (nx pa P Q k).map Prod.fst ∧ Q (k + 1) = ((nx pa P Q k).map Prod.snd).getD 0)
  ∧ (∀ i p, 0 < nn → an pa (nn - 1) i → pa i = some p → F p = Q i + 1)
  ∧ (0 < nn → F (nn - 1) = 0)
  ∧ (∀ j, j < nn → F j < P j → an pa (nn - 1) j)
theorem vT_dec {nn : Nat} {N : Nat → nR} {pa : Nat → Option Nat} {P Q F : Nat → Nat} (h : vT nn N pa P Q F) : dec pa nn := fun j hj p hp => (h.2.1 j p hj hp).1
/-- the parent of the next node -/
def vO (nn : Nat) (pa : Nat → Option Nat) (P Q : Nat → Nat) : Option Nat := match nn with
  | 0 => none
  | k + 1 => (nx pa P Q k).map Prod.fst
theorem vT_F {nn : Nat} {N : Nat → nR} {pa : Nat → Option Nat} {P Q F : Nat → Nat} (h : vT (nn + 1) N pa P Q F) {p q : Nat} (hx : nx pa P Q nn = some (p, q)) : F p = q ∧ q < P p ∧ p ≤ nn ∧ an pa nn p := by
  have hd := vT_dec h
  obtain ⟨v1, v2, v3, v4, v5, v7, v7b, v8⟩ := h
  unfold nx at hx
  split at hx
  · obtain ⟨c, h1, h2, h3, h4⟩ := nxu_spec _ _ hx
    have h5 := v7 c p (by omega) h1 h2
    have h6 := an_le hd (Nat.lt_succ_self nn) h1
    have h7 := (v2 c p (by omega) h2).1
    exact ⟨by omega, h4, by omega, an_tr h1 (an_up h2 (an_refl _ _))⟩
  · rename_i hP
    cases hx
    exact ⟨v7b (by omega), by omega, Nat.le_refl _, an_refl _ _⟩
theorem vO_lt {nn : Nat} {N : Nat → nR} {pa : Nat → Option Nat} {P Q F : Nat → Nat} (h : vT nn N pa P Q F) {p : Nat} (ho : vO nn pa P Q = some p) : p < nn ∧ F p < P p ∧ an pa (nn - 1) p ∧ ∃ n, nn = n + 1 ∧ nx pa P Q n = some (p, F p) := by
  cases nn with
  | zero => cases ho
  | succ n =>
    have ho : (nx pa P Q n).map Prod.fst = some p := ho
    cases hx : nx pa P Q n with
    | none => rw [hx] at ho; cases ho
    | some z =>
      rw [hx] at ho
      obtain ⟨p', q⟩ := z
      have hp' : p' = p := Option.some.inj ho
      subst hp'
      obtain ⟨h1, h2, h3, h4⟩ := vT_F h hx
      exact ⟨by omega, by omega, h4, n, rfl, by rw [h1]; exact hx⟩
/-- ancestors of the last node that are below the next one's parent are full; the others are above it -/
theorem nxu_full {nn : Nat} {N : Nat → nR} {pa : Nat → Option Nat} {P Q F : Nat → Nat} (h : vT (nn + 1) N pa P Q F) : ∀ (f i : Nat), an pa nn i → i < f → F i = P i → ∀ j, an pa i j → F j = P j ∨ ∃ p q, nx_up pa P Q f i = some (p, q) ∧ an pa p j
  | 0, i, _, hf, _, _, _ => absurd hf (Nat.not_lt_zero _)
  | f + 1, i, hi, hf, hfull, j, hj => by
    have hd := vT_dec h
    have hin := an_le hd (Nat.lt_succ_self nn) hi
    rcases an_cases hj with rfl | ⟨p, hp, hpj⟩
    · exact Or.inl hfull
    · have h7 := h.2.2.2.2.2.1 i p (by omega) hi hp
      have hlt := h.2.1 i p (by omega) hp
      have hFP := (h.1 p (by omega)).2.2.2.2.2.2.2.1
      rw [nxu_some hp]
      by_cases hc : Q i + 1 < P p
      · rw [if_pos hc]
        exact Or.inr ⟨p, Q i + 1, rfl, hpj⟩
      · rw [if_neg hc]
        exact nxu_full h f p (an_tr hi (an_up hp (an_refl _ _))) (by omega) (by omega) j hpj
/-- with no place left all nodes are full -/
theorem vT_full {nn : Nat} {N : Nat → nR} {pa : Nat → Option Nat} {P Q F : Nat → Nat} (h : vT nn N pa P Q F) (ho : vO nn pa P Q = none) : ∀ j, j < nn → F j = P j := by
  intro j hj
  have hFP := (h.1 j hj).2.2.2.2.2.2.2.1
  rcases Nat.lt_or_ge (F j) (P j) with hlt | hge
  · cases nn with
    | zero => omega
    | succ n =>
      have hz := h.2.2.2.2.2.2.2 j hj hlt
      have ho : (nx pa P Q n).map Prod.fst = none := ho
      have hx : nx pa P Q n = none := by
        cases hx : nx pa P Q n with
        | none => rfl
        | some z => rw [hx] at ho; cases ho
      unfold nx at hx
      split at hx
      · rename_i hP
        have h0 := h.2.2.2.2.2.2.1 (by omega)
        rcases nxu_full h (n + 1) n (an_refl _ _) (by omega) (by rw [hP]; exact h0) j hz with h1 | ⟨p, q, h1, -⟩
        · exact h1
        · rw [hx] at h1; cases h1
      · cases hx
  · omega
/-- the reference's lacking node -/
theorem rest_nxu {nn : Nat} {N : Nat → nR} {pa : Nat → Option Nat} {P Q F : Nat → Nat} (h : vT (nn + 1) N pa P Q F) (hn : nn + 1 ≤ 600) : ∀ (f i : Nat), an pa nn i → i < f → F i = P i → m_rest N pa f (pa i) = (nx_up pa P Q f i).map Prod.fst
  | 0, i, _, hf, _ => absurd hf (Nat.not_lt_zero _)
  | f + 1, i, hi, hf, hfull => by
    have hd := vT_dec h
    have hin := an_le hd (Nat.lt_succ_self nn) hi
    cases hp : pa i with
    | none => rw [nxu_none hp]; rfl
    | some p =>
      have h7 := h.2.2.2.2.2.1 i p (by omega) hi hp
      have hlt := h.2.1 i p (by omega) hp
      obtain ⟨-, -, -, e1, e2, -, e3, hFP, e4, -⟩ := h.1 p (by omega)
      rw [nxu_some hp]
      show (if n_fl (N p) = n_pt (N p) then m_rest N pa f (pa p) else some p) = _
      have hiff := nI_eq (a := F p) (b := P p) (by omega) e2
      rw [e1, e3]
      by_cases hc : Q i + 1 < P p
      · rw [if_pos hc, if_neg (fun z => by have := hiff.mp z; omega)]; rfl
      · rw [if_neg hc, if_pos (hiff.mpr (by omega))]
        exact rest_nxu h hn f p (an_tr hi (an_up hp (an_refl _ _))) (by omega) (by omega)
theorem lack_vO {nn : Nat} {N : Nat → nR} {pa : Nat → Option Nat} {P Q F : Nat → Nat} (h : vT nn N pa P Q F) (hn : nn ≤ 600) : m_rest N pa (nn + 1) (c_pred nn) = vO nn pa P Q := by
  cases nn with
  | zero => rfl
  | succ n =>
    show (if n_fl (N n) = n_pt (N n) then m_rest N pa (n + 1) (pa n) else some n) = (nx pa P Q n).map Prod.fst
    obtain ⟨-, -, -, e1, e2, -, e3, hFP, e4, -⟩ := h.1 n (by omega)
    have h0 := h.2.2.2.2.2.2.1 (by omega)
    have h0 : F n = 0 := h0
    have hiff := nI_eq (a := F n) (b := P n) (by omega) e2
    rw [e1, e3]
    unfold nx
    by_cases hP : P n = 0
    · rw [if_pos (hiff.mpr (by omega)), if_pos hP]
      exact rest_nxu h hn (n + 1) n (an_refl _ _) (by omega) (by omega)
    · rw [if_neg (fun z => by have := hiff.mp z; omega), if_neg hP]; rfl
