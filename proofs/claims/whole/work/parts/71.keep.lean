/-! what keeps the invariant: define, parameter, node, check -/
theorem an_ho {pa : Nat → Option Nat} {ho : Nat → Nat} {n : Nat} (h : ∀ j, j < n → ∀ p, pa j = some p → p < j ∧ ho p = ho j) {i : Nat} : ∀ (f k : Nat), k < n → it pa f k = some i → ho i = ho k
  | 0, k, _, e => by cases e; rfl
  | f + 1, k, hk, e => by
    have e : (match pa k with | none => none | some p => it pa f p) = some i := e
    cases hp : pa k with
    | none => rw [hp] at e; cases e
    | some p =>
      rw [hp] at e
      obtain ⟨h1, h2⟩ := h k hk p hp
      exact (an_ho h f p (by omega) e).trans h2
theorem map_eq {o : Option Nat} {f g : Nat → Nat} (h : ∀ p, o = some p → f p = g p) : o.map f = o.map g := by
  cases o with
  | none => rfl
  | some p => show some (f p) = some (g p); rw [h p rfl]
theorem bump_ex (N : Nat → nR) (o : Option Nat) (j : Nat) : ∃ f, c_bump N o j = n_s_fl (N j) f := by
  cases o with
  | none => exact ⟨n_fl (N j), rfl⟩
  | some i =>
    by_cases h : j = i
    · subst h; exact ⟨_, va_up_self _ _ _⟩
    · exact ⟨n_fl (N j), va_up_ne _ _ h⟩
theorem rest_lt {N : Nat → nR} {pa : Nat → Option Nat} {nn : Nat} (hF : ∀ j, j < nn → (n_fl (N j) < n_pt (N j) ↔ ¬ n_fl (N j) = n_pt (N j))) (hp : ∀ j, j < nn → ∀ p, pa j = some p → p < j) : ∀ (f g : Nat) (o : Option Nat), (∀ j, o = some j → j < nn ∧ j < f ∧ j < g) → c_rest N pa f o = m_rest N pa g o
  | 0, g, none, _ => by cases g <;> rfl
  | 0, g, some j, h => absurd (h j rfl).2.1 (Nat.not_lt_zero _)
  | f + 1, g, none, _ => by cases g <;> rfl
  | f + 1, 0, some j, h => absurd (h j rfl).2.2 (Nat.not_lt_zero _)
  | f + 1, g + 1, some j, h => by
    obtain ⟨h1, h2, h3⟩ := h j rfl
    show (if n_fl (N j) < n_pt (N j) then some j else c_rest N pa f (pa j)) = (if n_fl (N j) = n_pt (N j) then m_rest N pa g (pa j) else some j)
    by_cases e : n_fl (N j) = n_pt (N j)
    · rw [if_pos e, if_neg (fun z => (hF j h1).mp z e)]
      exact rest_lt hF hp f g (pa j) (fun p hp9 => by have := hp j h1 p hp9; omega)
    · rw [if_neg e, if_pos ((hF j h1).mpr e)]
section KEEP
variable {nd nn k : Nat} {aD aN : Nat → Nat} {D : Nat → dR} {N : Nat → nR} {pn : Nat → Nat → Int64} {pt : Nat → Nat → Int32} {np bg ho : Nat → Nat} {pa ca op : Nat → Option Nat} {P Q F : Nat → Nat}
theorem vS_0 : vS 0 0 aD aN D N pt np bg ho pa ca op P Q F :=
  ⟨⟨fun j hj => absurd hj (Nat.not_lt_zero _), fun i hi => absurd hi (Nat.not_lt_zero _)⟩, vT_0 _ _ _ _ _, fun i j hi => absurd hi (Nat.not_lt_zero _), fun i hi => absurd hi (Nat.not_lt_zero _), fun j hj => absurd hj (Nat.not_lt_zero _), fun j hj => absurd hj (Nat.not_lt_zero _), Nat.zero_le _, Nat.zero_le _, fun k hk => absurd hk.symm (Nat.succ_ne_zero _), fun _ => rfl⟩
theorem vS_def (h : vS nd nn aD aN D N pt np bg ho pa ca op P Q F) {chg : Bool} {nm : Int64} {ty : Int32} (hok : c_defOk chg nm ty nd D = true) {a b c : Nat} {g : Nat → Int32} : vS (nd + 1) nn (va_up aD nd a) aN (va_up D nd (nI nd, chg, nm, ty, b, c, 0, false, none)) N (va_up pt nd g) (va_up np nd 0) (va_up bg nd nn) ho pa ca (va_up op nd none) P Q F := by
  unfold c_defOk at hok
  simp only [Bool.and_eq_true] at hok
  obtain ⟨⟨⟨⟨hw, h64⟩, -⟩, hty⟩, hnm⟩ := hok
  have hO := vS_none h hw
  obtain ⟨hI, hT, hu, hD, hN, hg, hd, hn, hk, h0⟩ := h
  have hlt : nd < 64 := by
    rcases Nat.lt_or_ge nd 64 with h9 | h9
    · exact h9
    · have h8 : nd = 64 := by omega
      subst h8
      exact absurd h64 (by decide)
  have htyp : k_isType ty = true := by
    cases chg with
    | false => exact hty
    | true =>
      have hty : k_isWritten ty = true := hty
      unfold k_isWritten at hty
      by_cases a0 : ty = 0
      · subst a0; decide
      · by_cases a1 : ty = 1
        · subst a1; decide
        · rw [if_neg a0, if_neg a1] at hty; cases hty
  have hne : ∀ t, t < nd → d_nm (D t) ≠ nm := by
    rcases named_spec (D := D) (x := nm) nd 0 with ⟨t, h1, -⟩ | ⟨h1, h2⟩
    · rw [h1] at hnm; cases hnm
    · exact fun t ht => h2 t (Nat.zero_le _) (by omega)
  refine ⟨⟨fun j hj => ?_, fun i hi => ?_⟩, hT, fun i j hi hj he => ?_, fun i hi => ?_, hN, hg, by omega, hn, fun k9 hk9 => ?_, fun z => absurd z (Nat.succ_ne_zero _)⟩
  · obtain ⟨g1, g2, g3, g4, g5, g6⟩ := hI.1 j hj
    refine ⟨?_, by omega, g3, g4, ?_, fun t ht => by have := g6 t ht; omega⟩
    · rw [va_up_ne _ _ (by omega)]; exact g1
    · rw [g5]; exact map_eq (fun t ht => (va_up_ne _ _ (by have := g6 t ht; omega)).symm)
  · by_cases e : i = nd
    · subst e
      rw [va_up_self, va_up_self]
      exact ⟨rfl, fun o ho9 => by cases ho9⟩
    · rw [va_up_ne _ _ e, va_up_ne _ _ e]
      exact hI.2 i (by omega)
  · by_cases e : i = nd
    · by_cases e2 : j = nd
      · rw [e, e2]
      · rw [e, va_up_self, va_up_ne _ _ e2] at he
        exact absurd (show d_nm (D j) = nm from he.symm) (hne j (by omega))
    · by_cases e2 : j = nd
      · rw [e2, va_up_self, va_up_ne _ _ e] at he
        exact absurd (show d_nm (D i) = nm from he) (hne i (by omega))
      · rw [va_up_ne _ _ e, va_up_ne _ _ e2] at he
        exact hu i j (by omega) (by omega) he
  · by_cases e : i = nd
    · subst e
      rw [va_up_self, va_up_self, va_up_self]
      exact ⟨nI_0.symm, by omega, htyp, fun t ht => absurd ht (Nat.not_lt_zero _)⟩
    · rw [va_up_ne _ _ e, va_up_ne _ _ e, va_up_ne _ _ e]
      exact hD i (by omega)
  · have e : k9 = nd := by omega
    subst e
    rw [va_up_self, va_up_self, va_up_self]
    refine ⟨hO.symm, ?_, Nat.le_refl _, fun _ => hO⟩
    show false = decide (nn < nn)
    rw [decide_eq_false (Nat.lt_irrefl _)]
theorem vS_par (h : vS (k + 1) nn aD aN D N pt np bg ho pa ca op P Q F) {nm : Int64} {ty : Int32} (hok : c_parOk (D k) (pn k) nm ty = true) : vS (k + 1) nn aD aN (va_up D k (d_s_np (D k) (nI (np k + 1)))) N (va_up pt k (upd (pt k) (np k) ty)) (va_up np k (np k + 1)) bg ho pa ca op P Q F := by
  unfold c_parOk at hok
  simp only [Bool.and_eq_true] at hok
  obtain ⟨⟨⟨⟨hbg, h8⟩, -⟩, hty⟩, -⟩ := hok
  obtain ⟨hI, hT, hu, hD, hN, hg, hd, hn, hk, h0⟩ := h
  obtain ⟨d1, d2, d3, d4⟩ := hD k (Nat.lt_succ_self k)
  have hlt : np k < 8 := by
    rw [d1] at h8
    exact (nI_ltI (a := np k) (b := 8) (by omega) (by omega)).mp (of_decide_eq_true h8)
  refine ⟨⟨hI.1, fun i hi => ?_⟩, hT, fun i j hi hj he => ?_, fun i hi => ?_, hN, hg, hd, hn, fun k9 hk9 => ?_, h0⟩
  · by_cases e : i = k
    · subst e; rw [va_up_self]; exact hI.2 i hi
    · rw [va_up_ne _ _ e]; exact hI.2 i hi
  · have e : ∀ i, d_nm (va_up D k (d_s_np (D k) (nI (np k + 1))) i) = d_nm (D i) := fun i => by
      by_cases e : i = k
      · subst e; rw [va_up_self]
      · rw [va_up_ne _ _ e]
    rw [e, e] at he
    exact hu i j hi hj he
  · by_cases e : i = k
    · subst e
      rw [va_up_self, va_up_self, va_up_self]
      refine ⟨rfl, by omega, d3, fun t ht => ?_⟩
      by_cases et : t = np i
      · subst et
        have : upd (pt i) (np i) ty (np i) = ty := by simp [upd]
        rw [this]; exact hty
      · have : upd (pt i) (np i) ty t = pt i t := by simp [upd, et]
        rw [this]; exact d4 t (by omega)
    · rw [va_up_ne _ _ e, va_up_ne _ _ e, va_up_ne _ _ e]
      exact hD i hi
  · have e : k9 = k := by omega
    subst e
    rw [va_up_self]
    exact hk k9 rfl
theorem vS_chk (h : vS nd nn aD aN D N pt np bg ho pa ca op P Q F) {N' : Nat → nR} {ca' : Nat → Option Nat} (hI' : rl nd nn aD aN D N' ho pa ca' op) (hg' : gbc N N' ca' nn) (hs : sN N N') : vS nd nn aD aN D N' pt np bg ho pa ca' op P Q F := by
  obtain ⟨hI, hT, hu, hD, hN, hg, hd, hn, hk, h0⟩ := h
  refine ⟨hI', vT_cg hT (fun j _ => ?_), hu, hD, fun j hj => (hs j).1.trans (hN j hj), fun j hj => ?_, hd, hn, hk, h0⟩
  · obtain ⟨s1, s2, s3, s4, s5, s6, s7, s8, s9⟩ := hs j
    exact ⟨s5, s6, s7, s8, s4, s9⟩
  · rw [(hs j).2.2.2.2.1]
    exact hg' j hj
theorem vS_node (h : vS (k + 1) nn aD aN D N pt np bg ho pa ca op P Q F) (hn6 : nn < 600) {kd : Int32} {fi se : Int64} {pts : Int32} (hok : c_nodeOk kd fi se pts (D k) (N ((op k).getD 0)) nn = true) {a : Nat} {r9 : nR} (hr : r9 = c_new nn (aD k) (d_op (D k)) (d_slot (D k) (N ((op k).getD 0))) kd fi se pts) {N' : Nat → nR} (hN' : N' = c_bump (va_up N nn r9) (op k)) {pa' : Nat → Option Nat} (hpa' : pa' = va_up pa nn (op k)) :
    ∃ p9, vS (k + 1) (nn + 1) aD (va_up aN nn a) (va_up D k (d_s_op (d_s_beg (D k) true) ((c_rest N' pa' (nn + 2) (some nn)).map (va_up aN nn a)))) N' pt np bg (va_up ho nn k) pa' (va_up ca nn none) (va_up op k (c_rest N' pa' (nn + 2) (some nn))) (va_up P nn p9) (va_up Q nn (vQ F (op k))) (vF nn F (op k)) := by
  have hsl := slot_eq h
  unfold c_nodeOk at hok
  simp only [Bool.and_eq_true] at hok
  obtain ⟨⟨⟨⟨⟨hnw, -⟩, hkd⟩, -⟩, hpf⟩, hnf⟩ := hok
  obtain ⟨hI, hT, hu, hD, hN, hg, hd, hn, hk, h0⟩ := h
  obtain ⟨k1, k2, k3, k4⟩ := hk k rfl
  have hop := hI.2 k (Nat.lt_succ_self k)
  have hpts : ¬ pts < 0 := by
    intro z
    unfold k_partsFit at hpf
    rw [if_pos hkd] at hpf
    split at hpf
    · rw [decide_eq_true z] at hpf; cases hpf
    · rename_i h1
      have e := of_decide_eq_true hpf
      have := kd_all (P := fun k => k_parts k = -1 ∨ ¬ k_parts k < 0) (by refine ⟨?_, ?_, ?_, ?_, ?_, ?_, ?_, ?_, ?_, ?_, ?_, ?_, ?_, ?_, ?_, ?_, ?_, ?_, ?_, ?_, ?_, ?_, ?_, ?_⟩ <;> decide) hkd
      rcases this with h2 | h2
      · exact h1 h2
      · rw [e] at z; exact h2 z
  obtain ⟨p9, hp9, rfl⟩ := nI_of hpts
  refine ⟨p9, ?_⟩
  have hol : ∀ p, op k = some p → p < nn := fun p hp => (hop.2 p hp).1
  have bN : ∀ j, ∃ f, N' j = n_s_fl (va_up N nn r9 j) f := fun j => by rw [hN']; exact bump_ex _ _ _
  have hlt : ∀ j, j < nn → ∃ f, N' j = n_s_fl (N j) f := fun j hj => by
    obtain ⟨f, hf⟩ := bN j
    rw [va_up_ne _ _ (by omega)] at hf
    exact ⟨f, hf⟩
  have hat : ∃ f, N' nn = n_s_fl r9 f := by
    obtain ⟨f, hf⟩ := bN nn
    rw [va_up_self] at hf
    exact ⟨f, hf⟩
  have hfl : ∀ j, j < nn + 1 → n_fl (N' j) = nI (vF nn F (op k) j) := fun j hj => by
    rw [hN', (bump_at (va_up N nn r9) (op k) j).2.2.2.2.2, vF_at hol j]
    by_cases e : op k = some j
    · have hj := hol j e
      rw [if_pos e, if_pos e, va_up_ne _ _ (by omega), (hT.1 j hj).2.2.2.2.2.2.1, ← nI_add]; rfl
    · rw [if_neg e, if_neg e]
      by_cases e2 : j = nn
      · subst e2
        rw [if_pos rfl, va_up_self, hr]
        exact nI_0.symm
      · rw [if_neg e2, va_up_ne _ _ e2, (hT.1 j (by omega)).2.2.2.2.2.2.1]
  have hT' : vT (nn + 1) N' pa' (va_up P nn p9) (va_up Q nn (vQ F (op k))) (vF nn F (op k)) := by
    rw [hpa']
    obtain ⟨f9, hf9⟩ := hat
    refine vT_add hT k1 hp9 (fun j hj => ?_) hfl ?_ ?_ ?_ ?_ ?_
    · obtain ⟨f, hf⟩ := hlt j hj
      rw [hf]; exact ⟨rfl, rfl, rfl, rfl, rfl⟩
    · rw [hf9, hr]; exact hkd
    · rw [hf9, hr]; exact hpf
    · rw [hf9, hr]; exact hnf
    · rw [hf9, hr]
    · rw [hf9, hr]
      show d_slot (D k) (N ((op k).getD 0)) = _
      rw [← hsl]
      unfold m_slot vQ
      cases ho9 : op k with
      | none => exact nI_0.symm
      | some j => exact (hT.1 j (hol j ho9)).2.2.2.2.2.2.1
  have hd' := vT_dec hT'
  have hrest : c_rest N' pa' (nn + 2) (some nn) = vO (nn + 1) pa' (va_up P nn p9) (va_up Q nn (vQ F (op k))) := by
    rw [← lack_vO hT' (by omega)]
    refine rest_lt (nn := nn + 1) (fun j hj => ?_) hd' (nn + 2) (nn + 1 + 1) (some nn) (fun j hj => by cases hj; omega)
    obtain ⟨-, -, -, e1, e2, -, e3, e4, -⟩ := hT'.1 j hj
    rw [e1, e3, nI_ltI (by omega) e2, nI_eq (by omega) e2]
    omega
  have hho : ∀ j, j < nn + 1 → ∀ p, pa' j = some p → p < j ∧ va_up ho nn k p = va_up ho nn k j := fun j hj p hp => by
    rw [hpa'] at hp
    by_cases e : j = nn
    · subst e
      rw [va_up_self] at hp
      have h1 := hop.2 p hp
      rw [va_up_self, va_up_ne _ _ (by omega)]
      exact h1
    · rw [va_up_ne _ _ e] at hp
      have h1 := (hI.1 j (by omega)).2.2.2.1 p hp
      rw [va_up_ne _ _ e, va_up_ne _ _ (by omega)]
      exact h1
  have hpp := node_pa (a := a) (nn := nn) hI (Nat.lt_succ_self k) (r := r9) (by rw [hr])
  rw [← hN', ← hpa'] at hpp
  refine ⟨⟨fun j hj => ?_, fun i hi => ?_⟩, hT', fun i j hi hj he => ?_, fun i hi => ?_, fun j hj => ?_, fun j hj => ?_, hd, by omega, fun k9 hk9 => ?_, fun z => absurd z (Nat.succ_ne_zero _)⟩
  · have hp1 := (hpp j hj).1
    by_cases e : j = nn
    · subst e
      obtain ⟨f9, hf9⟩ := hat
      refine ⟨?_, by rw [va_up_self]; omega, hp1, hho j hj, ?_, fun t ht => ?_⟩
      · rw [hf9, hr, va_up_self]
      · rw [hf9, hr, va_up_self]; rfl
      · rw [va_up_self] at ht; cases ht
    · obtain ⟨f, hf⟩ := hlt j (by omega)
      obtain ⟨g1, g2, g3, g4, g5, g6⟩ := hI.1 j (by omega)
      refine ⟨?_, by rw [va_up_ne _ _ e]; exact g2, hp1, hho j hj, ?_, fun t ht => ?_⟩
      · rw [hf, va_up_ne _ _ e]; exact g1
      · rw [hf, va_up_ne _ _ e]; exact g5
      · rw [va_up_ne _ _ e] at ht; exact g6 t ht
  · by_cases e : i = k
    · subst e
      rw [va_up_self, va_up_self]
      refine ⟨rfl, fun o ho9 => ?_⟩
      rw [hrest] at ho9
      obtain ⟨o1, -, o3, -⟩ := vO_lt hT' ho9
      obtain ⟨f, hf⟩ := o3
      refine ⟨o1, ?_⟩
      rw [an_ho hho f nn (by omega) hf, va_up_self]
    · rw [va_up_ne _ _ e, va_up_ne _ _ e]
      obtain ⟨g1, g2⟩ := hI.2 i hi
      refine ⟨?_, fun o ho9 => ?_⟩
      · rw [g1]; exact map_eq (fun o ho9 => (va_up_ne _ _ (by have := (g2 o ho9).1; omega)).symm)
      · have := g2 o ho9
        rw [va_up_ne _ _ (by omega)]
        exact ⟨by omega, this.2⟩
  · have e : ∀ i, d_nm (va_up D k (d_s_op (d_s_beg (D k) true) ((c_rest N' pa' (nn + 2) (some nn)).map (va_up aN nn a))) i) = d_nm (D i) := fun i => by
      by_cases e : i = k
      · subst e; rw [va_up_self]
      · rw [va_up_ne _ _ e]
    rw [e, e] at he
    exact hu i j hi hj he
  · by_cases e : i = k
    · subst e; rw [va_up_self]; exact hD i hi
    · rw [va_up_ne _ _ e]; exact hD i hi
  · by_cases e : j = nn
    · subst e
      obtain ⟨f9, hf9⟩ := hat
      rw [hf9, hr]
    · obtain ⟨f, hf⟩ := hlt j (by omega)
      rw [hf]; exact hN j (by omega)
  · by_cases e : j = nn
    · subst e
      obtain ⟨f9, hf9⟩ := hat
      rw [hf9, hr, va_up_self]
      exact ⟨fun _ => rfl, fun _ => rfl⟩
    · obtain ⟨f, hf⟩ := hlt j (by omega)
      rw [hf, va_up_ne _ _ e]; exact hg j (by omega)
  · have e : k9 = k := by omega
    subst e
    rw [va_up_self, va_up_self]
    refine ⟨hrest, ?_, by omega, fun z => absurd z (by omega)⟩
    show true = decide (bg k9 < nn + 1)
    rw [decide_eq_true (by omega)]
end KEEP
