/-! coming to a node: one step of both -/
def ck0 (nd : Nat) (D : Nat → dR) (N : Nat → nR) (pa : Nat → Option Nat) (np ho : Nat → Nat) (Z : Nat → nR) (ca : Nat → Option Nat) (B C : Nat → Int32) (j : Nat) : Prop := n_va (Z j) = m_va N pa np ho j ∧ n_bb (Z j) = B j ∧ c_num (ca j) = C j ∧ (k_isCall (n_kd (N j)) = true → ca j = m_tgt nd D np (N j) ∧ (m_tgt nd D np (N j)).isSome = true) ∧ (k_isAsLast (n_kd (N j)) = false → n_kd (N j) ≠ 1 → n_vt (Z j) = m_tyK (n_kd (N j)) 0 (d_vt (D ((m_tgt nd D np (N j)).getD 0))) 0)
/-- what is never touched: binders of other nodes than variables, callees of other nodes than calls -/
def gbc (N : Nat → nR) (Z : Nat → nR) (ca : Nat → Option Nat) (nn : Nat) : Prop := ∀ j, j < nn → (n_kd (N j) ≠ 1 → n_bb (Z j) = -1) ∧ (k_isCall (n_kd (N j)) = false → ca j = none)
theorem tgt_named {nd : Nat} {D : Nat → dR} {np : Nat → Nat} (hu : uq nd D) (hnp : ∀ t, t < nd → d_np (D t) = nI (np t)) (r : nR) : m_tgt nd D np r = (match c_named D (n_fi r) nd 0 with | none => none | some t => if n_aimOk r (D t) = true then some t else none) := by
  unfold m_tgt
  rw [tg_named hu]
  cases hc : c_named D (n_fi r) nd 0 with
  | none => rfl
  | some t =>
    have ht : t < nd := by have := c_named_lt nd 0 t hc; omega
    show (if (d_chg (D t) == decide (n_kd r = 23)) = true then (if nI (np t) = n_pt r then some t else none) else none) = (if n_aimOk r (D t) = true then some t else none)
    unfold n_aimOk
    rw [hnp t ht]
    by_cases h1 : (d_chg (D t) == decide (n_kd r = 23)) = true
    · rw [if_pos h1, h1, Bool.true_and]
      by_cases h2 : nI (np t) = n_pt r
      · rw [if_pos h2, if_pos (decide_eq_true h2)]
      · rw [if_neg h2, if_neg (by simpa using h2)]
    · rw [if_neg h1, Bool.eq_false_iff.mpr h1, Bool.false_and]
      rfl
theorem tyK_call {k a b c : Int32} (h : k_isCall k = true) : m_tyK k a b c = b := by
  unfold k_isCall at h
  by_cases a1 : k = 14
  · subst a1; rfl
  · by_cases a2 : k = 15
    · subst a2; rfl
    · by_cases a3 : k = 23
      · subst a3; rfl
      · rw [if_neg a1, if_neg a2, if_neg a3] at h; cases h
theorem tyK_own {k : Int32} (hk : k_isKind k = true) : k_isCall k = false → k_isAsLast k = false → k ≠ 1 → ∀ a b c : Int32, m_tyK k a b c = k_ownType k ∧ k_isType (k_ownType k) = true := kd_all (P := fun k => k_isCall k = false → k_isAsLast k = false → k ≠ 1 → ∀ a b c : Int32, m_tyK k a b c = k_ownType k ∧ k_isType (k_ownType k) = true) (by refine ⟨?_, ?_, ?_, ?_, ?_, ?_, ?_, ?_, ?_, ?_, ?_, ?_, ?_, ?_, ?_, ?_, ?_, ?_, ?_, ?_, ?_, ?_, ?_, ?_⟩ <;> (intro h1 h2 h3 a b c; first | exact ⟨rfl, by decide⟩ | contradiction)) hk
theorem tyK_as {k : Int32} (hk : k_isKind k = true) : k_isAsLast k = true → ∀ a b c : Int32, m_tyK k a b c = c := kd_all (P := fun k => k_isAsLast k = true → ∀ a b c : Int32, m_tyK k a b c = c) (by refine ⟨?_, ?_, ?_, ?_, ?_, ?_, ?_, ?_, ?_, ?_, ?_, ?_, ?_, ?_, ?_, ?_, ?_, ?_, ?_, ?_, ?_, ?_, ?_, ?_⟩ <;> (intro h1 a b c; first | rfl | contradiction)) hk
theorem tyK_1 {a b c : Int32} : m_tyK 1 a b c = a := rfl
theorem tx5_up {nn n : Nat} {N : Nat → nR} {pa : Nat → Option Nat} {Q : Nat → Nat} {T : Nat → Int32} {Z : Nat → nR} {k : Nat} (hd : dec pa n) (hk : k < n) (h : tx5 nn N pa Q T Z k) (r : nR) : tx5 nn N pa Q T (va_up Z k r) k := by
  intro c p h1 h2 h3
  have hc := an_le hd hk h1
  have hp := hd c (by omega) p h2
  rw [va_up_ne _ _ (by omega)]
  exact h c p h1 h2 h3
section COME
variable {nd nn : Nat} {aD aN : Nat → Nat} {D : Nat → dR} {N Z : Nat → nR} {pn : Nat → Nat → Int64} {pt : Nat → Nat → Int32} {np ho : Nat → Nat} {pa ca : Nat → Option Nat} {P Q F : Nat → Nat} {k : Nat} {T B C : Nat → Int32} {fn mo : Int32}
theorem s_come (hW : vW nd nn aN D N pt np ho pa P Q F) (hs : sN N Z) (hk : k < nn) (h0 : ∀ j, j < k → ck0 nd D N pa np ho Z ca B C j) (h5 : tx5 nn N pa Q T Z k) (hg : gbc N Z ca nn) :
    ((c_arrive nd aD D pn pt Z ho pa nn k).2 = false ∧ (m_come nd D N pa pn np ho (T, B, C, 0, fn, mo) k).2.2.2.1 = 5 ∧ (m_come nd D N pa pn np ho (T, B, C, 0, fn, mo) k).2.2.2.2.1 = nI k ∧ gbc N (va_up Z k (c_arrive nd aD D pn pt Z ho pa nn k).1) (c_ca nd D Z ca k) nn)
    ∨ ((c_arrive nd aD D pn pt Z ho pa nn k).2 = true ∧ (m_come nd D N pa pn np ho (T, B, C, 0, fn, mo) k).1 = T ∧ (m_come nd D N pa pn np ho (T, B, C, 0, fn, mo) k).2.2.2.1 = 0 ∧ (m_come nd D N pa pn np ho (T, B, C, 0, fn, mo) k).2.2.2.2.1 = fn
      ∧ (∀ j, j < k + 1 → ck0 nd D N pa np ho (va_up Z k (c_arrive nd aD D pn pt Z ho pa nn k).1) (c_ca nd D Z ca k) (m_come nd D N pa pn np ho (T, B, C, 0, fn, mo) k).2.1 (m_come nd D N pa pn np ho (T, B, C, 0, fn, mo) k).2.2.1 j)
      ∧ (n_kd (N k) = 1 → n_vt (c_arrive nd aD D pn pt Z ho pa nn k).1 = m_tyV T N pa pn pt np ho nn k ∧ k_isType (m_tyV T N pa pn pt np ho nn k) = true)
      ∧ gbc N (va_up Z k (c_arrive nd aD D pn pt Z ho pa nn k).1) (c_ca nd D Z ca k) nn) := by
  have hW2 := hW
  obtain ⟨hT, hO, hn, hnd, hu, hDf, hNf⟩ := hW
  have hd := vT_dec hT
  have hsk := hs k
  have eK : n_kd (Z k) = n_kd (N k) := hsk.2.2.2.2.1
  have eF : n_fi (Z k) = n_fi (N k) := hsk.2.2.2.2.2.1
  have eP : n_pt (Z k) = n_pt (N k) := hsk.2.2.2.2.2.2.2.1
  have hcnt := s_count hW2 hs hk (fun p hp => (h0 p (hd k hk p hp)).1)
  obtain ⟨r1, er1⟩ : ∃ z, z = n_s_va (Z k) (n_count (Z k) (c_q Z (pa k)) (D (ho k))) := ⟨_, rfl⟩
  have hr1s : sR (Z k) r1 := by rw [er1]; exact ⟨rfl, rfl, rfl, rfl, rfl, rfl, rfl, rfl, rfl⟩
  have hr1v : n_va r1 = m_va N pa np ho k := by rw [er1]; exact hcnt
  have hr1b : n_bb r1 = n_bb (Z k) := by rw [er1]
  have hMs : sN N (va_up Z k r1) := sN_up hs hr1s
  have hlow : ∀ (r : nR) (ca' : Nat → Option Nat) (B' C' : Nat → Int32), (∀ j, j < k → ca' j = ca j) → (∀ j, j ≠ k → B' j = B j) → (∀ j, j ≠ k → C' j = C j) → ∀ j, j < k → ck0 nd D N pa np ho (va_up Z k r) ca' B' C' j := by
    intro r ca' B' C' g1 g2 g3 j hj
    unfold ck0
    rw [va_up_ne _ _ (by omega), g1 j hj, g2 j (by omega), g3 j (by omega)]
    exact h0 j hj
  have hgb : ∀ (r : nR) (ca' : Nat → Option Nat), (n_kd (N k) ≠ 1 → n_bb r = -1) → (∀ j, k_isCall (n_kd (N j)) = false → ca' j = ca j) → gbc N (va_up Z k r) ca' nn := by
    intro r ca' g1 g2 j hj
    refine ⟨fun h => ?_, fun h => by rw [g2 j h]; exact (hg j hj).2 h⟩
    by_cases e : j = k
    · subst e; rw [va_up_self]; exact g1 h
    · rw [va_up_ne _ _ e]; exact (hg j hj).1 h
  by_cases h1 : n_kd (N k) = 1
  · -- a variable
    have hZ1 : n_kd (Z k) = 1 := eK.trans h1
    have hca : c_ca nd D Z ca k = ca := by unfold c_ca; rw [if_pos hZ1]
    have hMk : va_up Z k r1 k = r1 := va_up_self _ _ _
    have hbnd := s_bnd hW2 hMs (n_fi (N k)) (nn + 1) (k + 1) k hk (by omega) (by omega)
    rw [hMk] at hbnd
    obtain ⟨-, -, hh, -⟩ := hNf k hk
    obtain ⟨d1, d2, -, -⟩ := hDf _ hh
    have hidx : d_index (D (ho k)) (pn (ho k)) (n_fi (N k)) = m_ix (m_pi (pn (ho k)) (n_fi (N k)) (np (ho k)) 0) := index_pi d1 d2
    have har : c_arrive nd aD D pn pt Z ho pa nn k = (n_s_vt (n_s_bb r1 (n_bv ((m_bo N pa (n_fi (N k)) (k + 1) k).map (va_up Z k r1)) (m_ix (m_pi (pn (ho k)) (n_fi (N k)) (np (ho k)) 0)))) (n_bt ((m_bo N pa (n_fi (N k)) (k + 1) k).map (va_up Z k r1)) (n_fi (N k)) (D (ho k)) (pt (ho k)) (m_ix (m_pi (pn (ho k)) (n_fi (N k)) (np (ho k)) 0))), n_bok ((m_bo N pa (n_fi (N k)) (k + 1) k).map (va_up Z k r1)) (m_ix (m_pi (pn (ho k)) (n_fi (N k)) (np (ho k)) 0))) := by
      unfold c_arrive
      simp only []
      rw [if_pos hZ1, ← er1, eF, hbnd, hidx]
    have hpi8 : ∀ t, m_pi (pn (ho k)) (n_fi (N k)) (np (ho k)) 0 = some t → t < 8 := fun t ht => by have := m_pi_lt _ _ _ ht; omega
    have hbv : n_bv ((m_bo N pa (n_fi (N k)) (k + 1) k).map (va_up Z k r1)) (m_ix (m_pi (pn (ho k)) (n_fi (N k)) (np (ho k)) 0)) = m_bval N pa pn np ho (n_fi (N k)) k := by
      unfold m_bval n_bv
      cases hb : m_bo N pa (n_fi (N k)) (k + 1) k with
      | some b =>
        have hbk := m_bo_lt hd _ _ _ hk hb
        show n_num (va_up Z k r1 b) = nI b
        rw [(hMs b).1]
        exact (hNf b (by omega)).1
      | none => exact pv_ix hpi8
    have hok : n_bok ((m_bo N pa (n_fi (N k)) (k + 1) k).map (va_up Z k r1)) (m_ix (m_pi (pn (ho k)) (n_fi (N k)) (np (ho k)) 0)) = !decide (m_bval N pa pn np ho (n_fi (N k)) k = -1) := by
      unfold m_bval n_bok
      cases hb : m_bo N pa (n_fi (N k)) (k + 1) k with
      | some b =>
        have hbk := m_bo_lt hd _ _ _ hk hb
        show true = !decide (nI b = -1)
        rw [decide_eq_false (nI_nem (by omega))]; rfl
      | none =>
        have hiff := (ix_none (o := m_pi (pn (ho k)) (n_fi (N k)) (np (ho k)) 0) (fun t ht => by have := hpi8 t ht; omega)).trans (pv_ne hpi8).symm
        have hde : decide (m_ix (m_pi (pn (ho k)) (n_fi (N k)) (np (ho k)) 0) = -1) = decide (m_pv (m_pi (pn (ho k)) (n_fi (N k)) (np (ho k)) 0) = -1) := decide_eq_decide.mpr hiff
        show (!decide (m_ix (m_pi (pn (ho k)) (n_fi (N k)) (np (ho k)) 0) = -1)) = !decide (m_pv (m_pi (pn (ho k)) (n_fi (N k)) (np (ho k)) 0) = -1)
        rw [hde]
    rw [har, hca]
    have hcome : m_come nd D N pa pn np ho (T, B, C, 0, fn, mo) k = (T, upd (upd B k (-1)) k (m_bval N pa pn np ho (n_fi (N k)) k), upd C k (-1), if m_bval N pa pn np ho (n_fi (N k)) k = -1 then 5 else 0, if m_bval N pa pn np ho (n_fi (N k)) k = -1 then nI k else fn, if m_ins N pa np ho k ≤ mo then mo else m_ins N pa np ho k) := by
      simp only [m_come]; rw [if_pos h1]
    rw [hcome]
    have hgb2 := hgb (n_s_vt (n_s_bb r1 (n_bv ((m_bo N pa (n_fi (N k)) (k + 1) k).map (va_up Z k r1)) (m_ix (m_pi (pn (ho k)) (n_fi (N k)) (np (ho k)) 0)))) (n_bt ((m_bo N pa (n_fi (N k)) (k + 1) k).map (va_up Z k r1)) (n_fi (N k)) (D (ho k)) (pt (ho k)) (m_ix (m_pi (pn (ho k)) (n_fi (N k)) (np (ho k)) 0)))) ca (fun h => absurd h1 h) (fun _ _ => rfl)
    by_cases hb1 : m_bval N pa pn np ho (n_fi (N k)) k = -1
    · left
      refine ⟨?_, ?_, ?_, hgb2⟩
      · show n_bok _ _ = false
        rw [hok, hb1]; rfl
      · show (if _ then (5 : Int32) else 0) = 5
        rw [if_pos hb1]
      · show (if _ then nI k else fn) = nI k
        rw [if_pos hb1]
    · right
      have hv := s_var hW2 hMs hk h1 (tx5_up hd hk h5 r1) hb1
      refine ⟨?_, rfl, ?_, ?_, fun j hj => ?_, fun _ => hv, hgb2⟩
      · show n_bok _ _ = true
        rw [hok, decide_eq_false hb1]; rfl
      · show (if _ then (5 : Int32) else 0) = 0
        rw [if_neg hb1]
      · show (if _ then nI k else fn) = fn
        rw [if_neg hb1]
      · by_cases e : j = k
        · subst e
          unfold ck0
          rw [va_up_self]
          refine ⟨hr1v, ?_, ?_, fun h => ?_, fun _ h => absurd h1 h⟩
          · show n_bv _ _ = upd (upd B j (-1)) j _ j
            rw [upd_at]; exact hbv
          · show c_num (ca j) = upd C j (-1) j
            rw [upd_at, (hg j hk).2 (by rw [h1]; decide)]; rfl
          · rw [h1] at h; exact absurd h (by decide)
        · exact hlow _ ca _ _ (fun _ _ => rfl) (fun i hi => (upd_off hi).trans (upd_off hi)) (fun i hi => upd_off hi) j (by omega)
  · have hZ1 : ¬ n_kd (Z k) = 1 := fun z => h1 (eK.symm.trans z)
    have hbb : n_bb r1 = -1 := hr1b.trans ((hg k hk).1 h1)
    by_cases hc : k_isCall (n_kd (N k)) = true
    · -- a call
      have hZc : k_isCall (n_kd (Z k)) = true := by rw [eK]; exact hc
      have hdue := due_call.mpr hc
      have htg := tgt_named hu (fun t ht => (hDf t ht).1) (N k)
      have hcome : m_come nd D N pa pn np ho (T, B, C, 0, fn, mo) k = (T, upd B k (-1), upd (upd C k (-1)) k (c_num (m_tgt nd D np (N k))), if (m_tgt nd D np (N k)).isNone = true then 5 else 0, if (m_tgt nd D np (N k)).isNone = true then nI k else fn, if m_ins N pa np ho k ≤ mo then mo else m_ins N pa np ho k) := by
        simp only [m_come]; rw [if_neg h1, if_neg hdue]
      rw [hcome]
      have haim : ∀ t, n_aimOk r1 (D t) = n_aimOk (N k) (D t) := fun t => by unfold n_aimOk; rw [hr1s.2.2.2.2.1, hr1s.2.2.2.2.2.2.2.1, eK, eP]
      have haimZ : ∀ t, n_aimOk (Z k) (D t) = n_aimOk (N k) (D t) := fun t => by unfold n_aimOk; rw [eK, eP]
      cases hm : m_tgt nd D np (N k) with
      | none =>
        left
        have h2 : c_arrive nd aD D pn pt Z ho pa nn k = (r1, false) ∧ c_ca nd D Z ca k = ca := by
          rw [hm] at htg
          constructor
          · unfold c_arrive
            simp only []
            rw [if_neg hZ1, if_pos hZc, eF, ← er1]
            cases hn9 : c_named D (n_fi (N k)) nd 0 with
            | none => rfl
            | some t =>
              rw [hn9] at htg
              have htg : none = (if n_aimOk (N k) (D t) = true then some t else none) := htg
              show (if n_aimOk r1 (D t) = true then _ else (r1, false)) = (r1, false)
              rw [haim t]
              split at htg
              · cases htg
              · rename_i hx; rw [if_neg hx]
          · unfold c_ca
            rw [if_neg hZ1, if_pos hZc, eF]
            cases hn9 : c_named D (n_fi (N k)) nd 0 with
            | none => rfl
            | some t =>
              rw [hn9] at htg
              have htg : none = (if n_aimOk (N k) (D t) = true then some t else none) := htg
              show (if n_aimOk (Z k) (D t) = true then _ else ca) = ca
              rw [haimZ t]
              split at htg
              · cases htg
              · rename_i hx; rw [if_neg hx]
        rw [h2.1, h2.2]
        exact ⟨rfl, rfl, rfl, hgb r1 ca (fun _ => hbb) (fun _ _ => rfl)⟩
      | some t =>
        right
        have h2 : c_arrive nd aD D pn pt Z ho pa nn k = (n_s_vt (n_s_ca r1 (some (aD t))) (d_vt (D t)), true) ∧ c_ca nd D Z ca k = va_up ca k (some t) := by
          rw [hm] at htg
          cases hn9 : c_named D (n_fi (N k)) nd 0 with
          | none => rw [hn9] at htg; cases htg
          | some t' =>
            rw [hn9] at htg
            have htg : some t = (if n_aimOk (N k) (D t') = true then some t' else none) := htg
            split at htg
            · rename_i hx
              cases htg
              constructor
              · unfold c_arrive
                simp only []
                rw [if_neg hZ1, if_pos hZc, eF, ← er1, hn9]
                show (if n_aimOk r1 (D t) = true then _ else (r1, false)) = _
                rw [haim t, if_pos hx]
              · unfold c_ca
                rw [if_neg hZ1, if_pos hZc, eF, hn9]
                show (if n_aimOk (Z k) (D t) = true then _ else ca) = _
                rw [haimZ t, if_pos hx]
            · cases htg
        rw [h2.1, h2.2]
        refine ⟨rfl, rfl, rfl, rfl, fun j hj => ?_, fun h => absurd h h1, hgb _ _ (fun _ => hbb) (fun j hj => va_up_ne _ _ (fun z => by rw [z, hc] at hj; cases hj))⟩
        by_cases e : j = k
        · subst e
          unfold ck0
          rw [va_up_self, va_up_self, hm]
          refine ⟨hr1v, ?_, ?_, fun _ => ⟨rfl, rfl⟩, fun _ _ => ?_⟩
          · show n_bb r1 = upd B j (-1) j
            rw [upd_at]; exact hbb
          · show c_num (some t) = upd (upd C j (-1)) j (c_num (some t)) j
            rw [upd_at]
          · rw [tyK_call hc]; rfl
        · exact hlow _ _ _ _ (fun i hi => va_up_ne _ _ (by omega)) (fun i hi => upd_off hi) (fun i hi => (upd_off hi).trans (upd_off hi)) j (by omega)
    · -- another node
      right
      have hZc : ¬ k_isCall (n_kd (Z k)) = true := by rw [eK]; exact hc
      have hcF : k_isCall (n_kd (N k)) = false := Bool.eq_false_iff.mpr hc
      have hdue : 0 ≤ m_due (n_kd (N k)) := Decidable.not_not.mp (fun z => hc (due_call.mp z))
      have har : c_arrive nd aD D pn pt Z ho pa nn k = (n_s_vt r1 (k_ownType (n_kd (N k))), true) := by
        unfold c_arrive
        simp only []
        rw [if_neg hZ1, if_neg hZc, ← er1, eK]
      have hca : c_ca nd D Z ca k = ca := by unfold c_ca; rw [if_neg hZ1, if_neg hZc]
      have hcome : m_come nd D N pa pn np ho (T, B, C, 0, fn, mo) k = (T, upd B k (-1), upd C k (-1), 0, fn, if m_ins N pa np ho k ≤ mo then mo else m_ins N pa np ho k) := by
        simp only [m_come]; rw [if_neg h1, if_pos hdue]
      rw [har, hca, hcome]
      refine ⟨rfl, rfl, rfl, rfl, fun j hj => ?_, fun h => absurd h h1, hgb _ _ (fun _ => hbb) (fun _ _ => rfl)⟩
      by_cases e : j = k
      · subst e
        unfold ck0
        rw [va_up_self]
        refine ⟨hr1v, ?_, ?_, fun h => absurd h hc, fun h2 _ => ?_⟩
        · show n_bb r1 = upd B j (-1) j
          rw [upd_at]; exact hbb
        · show c_num (ca j) = upd C j (-1) j
          rw [upd_at, (hg j hk).2 hcF]; rfl
        · show k_ownType (n_kd (N j)) = _
          rw [(tyK_own (hT.1 j hk).1 hcF h2 h1 _ _ _).1]
      · exact hlow _ ca _ _ (fun _ _ => rfl) (fun i hi => upd_off hi) (fun i hi => upd_off hi) j (by omega)
end COME
