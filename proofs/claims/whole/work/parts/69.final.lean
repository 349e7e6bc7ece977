/-! check, as a whole: what is found is the same -/
theorem mxS_le {m v X : Int32} : mxS m v ≤ X ↔ m ≤ X ∧ v ≤ X := by
  unfold mxS
  split
  · rename_i h
    exact ⟨fun h2 => ⟨h2, Int32.le_trans h h2⟩, fun h2 => h2.1⟩
  · rename_i h
    have h3 : m ≤ v := Int32.le_of_lt (Int32.not_le.mp h)
    exact ⟨fun h2 => ⟨Int32.le_trans h3 h2, h2⟩, fun h2 => h2.2⟩
theorem mxF_le {v : Nat → Int32} {X : Int32} : ∀ (f k : Nat) (m : Int32), mxF v f k m ≤ X ↔ m ≤ X ∧ ∀ j, k ≤ j → j < k + f → v j ≤ X
  | 0, k, m => ⟨fun h => ⟨h, fun j h1 h2 => by omega⟩, fun h => h.1⟩
  | f + 1, k, m => by
    show mxF v f (k + 1) (mxS m (v k)) ≤ X ↔ _
    rw [mxF_le f (k + 1) (mxS m (v k)), mxS_le]
    constructor
    · intro h
      refine ⟨h.1.1, fun j h1 h2 => ?_⟩
      by_cases e : j = k
      · rw [e]; exact h.1.2
      · exact h.2 j (by omega) (by omega)
    · intro h
      exact ⟨⟨h.1, h.2 k (Nat.le_refl _) (by omega)⟩, fun j h1 h2 => h.2 j (by omega) (by omega)⟩
theorem mx_eq {a b : Nat → Int32} {n : Nat} {m : Int32} (h1 : ∀ j, j < n → a j ≤ b j) (h2 : ∀ j, j < n → ∃ i, i < n ∧ b j = a i) : mxF a n 0 m = mxF b n 0 m := by
  have la := (mxF_le (v := a) (X := mxF a n 0 m) n 0 m).mp (Int32.le_refl _)
  have lb := (mxF_le (v := b) (X := mxF b n 0 m) n 0 m).mp (Int32.le_refl _)
  refine Int32.le_antisymm ((mxF_le n 0 m).mpr ⟨lb.1, fun j h3 h4 => ?_⟩) ((mxF_le n 0 m).mpr ⟨la.1, fun j h3 h4 => ?_⟩)
  · exact Int32.le_trans (h1 j (by omega)) (lb.2 j h3 h4)
  · obtain ⟨i, h5, h6⟩ := h2 j (by omega)
    rw [h6]
    exact la.2 i (Nat.zero_le _) (by omega)
theorem vb_nat (q : nR) (pl : Int32) : ∃ e, e ≤ 2 ∧ m_vb q pl = nI e := by
  unfold m_vb
  split
  · split
    · exact ⟨2, by omega, rfl⟩
    · exact ⟨1, by omega, rfl⟩
  · exact ⟨0, by omega, nI_0.symm⟩
def m_in1 (kd : Int32) : Int32 := if k_isCase kd = true then 2 else if m_bIn kd 1 = true then 1 else 0
theorem in1_no {kd : Int32} (h : k_isBinder kd = false) : m_in1 kd = 0 := by
  unfold k_isBinder at h
  by_cases a1 : kd = 11
  · rw [if_pos a1] at h; cases h
  · by_cases a2 : kd = 12
    · rw [if_neg a1, if_pos a2] at h; cases h
    · by_cases a3 : kd = 18
      · rw [if_neg a1, if_neg a2, if_pos a3] at h; cases h
      · by_cases a4 : kd = 21
        · rw [if_neg a1, if_neg a2, if_neg a3, if_pos a4] at h; cases h
        · by_cases a5 : kd = 22
          · rw [if_neg a1, if_neg a2, if_neg a3, if_neg a4, if_pos a5] at h; cases h
          · have hc : k_isCase kd = false := by simp [k_isCase, a2, a5]
            simp [m_in1, m_bIn, hc, a1, a3, a4]
theorem in1_yes {kd : Int32} (h : k_isBinder kd = true) : m_in1 kd = if k_isCase kd = true then 2 else 1 := by
  unfold k_isBinder at h
  by_cases a1 : kd = 11
  · subst a1; decide
  · by_cases a2 : kd = 12
    · subst a2; decide
    · by_cases a3 : kd = 18
      · subst a3; decide
      · by_cases a4 : kd = 21
        · subst a4; decide
        · by_cases a5 : kd = 22
          · subst a5; decide
          · rw [if_neg a1, if_neg a2, if_neg a3, if_neg a4, if_neg a5] at h; cases h
section FIN
variable {nd nn : Nat} {aD aN : Nat → Nat} {D : Nat → dR} {N : Nat → nR} {pn : Nat → Nat → Int64} {pt : Nat → Nat → Int32} {np ho : Nat → Nat} {pa ca op : Nat → Option Nat} {P Q F : Nat → Nat}
theorem va_nat (hW : vW nd nn aN D N pt np ho pa P Q F) : ∀ k, k < nn → ∃ n, n ≤ 8 + 2 * k ∧ m_va N pa np ho k = nI n := by
  intro k
  induction k using Nat.strongRecOn with
  | _ k ih =>
    intro hk
    have hd := vT_dec hW.1
    cases hp : pa k with
    | none =>
      have h8 := (hW.2.2.2.2.2.1 _ (hW.2.2.2.2.2.2 k hk).2.2.1).2.1
      exact ⟨np (ho k), by omega, va_root hp⟩
    | some p =>
      have hpk := hd k hk p hp
      obtain ⟨n, h1, h2⟩ := ih p hpk (by omega)
      obtain ⟨e, h3, h4⟩ := vb_nat (N p) (n_pl (N k))
      refine ⟨n + e, by omega, ?_⟩
      rw [va_step hd hk hp ((hW.2.2.2.2.2.2 k hk).2.2.2 p hp), h2, h4, nI_add]
theorem ins_in1 (k : Nat) : m_ins N pa np ho k = m_va N pa np ho k + m_in1 (n_kd (N k)) := rfl
theorem mx_va (hW : vW nd nn aN D N pt np ho pa P Q F) (m : Int32) : mxF (m_va N pa np ho) nn 0 m = mxF (m_ins N pa np ho) nn 0 m := by
  have hT := hW.1
  have hd := vT_dec hT
  have hn := hW.2.2.1
  refine mx_eq (fun j hj => ?_) (fun j hj => ?_)
  · obtain ⟨n, h1, h2⟩ := va_nat hW j hj
    rw [ins_in1, h2]
    have h3 : ∃ e, e ≤ 2 ∧ m_in1 (n_kd (N j)) = nI e := by
      unfold m_in1
      split
      · exact ⟨2, by omega, rfl⟩
      · split
        · exact ⟨1, by omega, rfl⟩
        · exact ⟨0, by omega, nI_0.symm⟩
    obtain ⟨e, h3, h4⟩ := h3
    rw [h4, nI_add]
    exact nI_le (by omega) (by omega)
  · by_cases hb : k_isBinder (n_kd (N j)) = true
    · have hP := P_bi hT hj hb
      have hF := vT_full hT hW.2.1 j hj
      obtain ⟨i, h1, h2, h3⟩ := hT.2.2.2.1 j (P j - 1) hj (by omega)
      refine ⟨i, h1, ?_⟩
      rw [va_step hd h1 h2 ((hW.2.2.2.2.2.2 i h1).2.2.2 j h2), ins_in1, in1_yes hb]
      congr 1
      unfold m_vb
      rw [s_bIn hW h1 h2, hb, decide_eq_true (by omega)]
      rfl
    · refine ⟨j, hj, ?_⟩
      rw [ins_in1, in1_no (Bool.eq_false_iff.mpr hb), Int32.add_zero]
theorem main_eq (hDf : ∀ i, i < nd → d_np (D i) = nI (np i) ∧ np i ≤ 8) : c_main nd D pt = m_main nd D np pt := by
  cases nd with
  | zero => rfl
  | succ k =>
    obtain ⟨h1, h2⟩ := hDf k (Nat.lt_succ_self k)
    show c_main1 (D k) (pt k) = (!d_chg (D k) && decide (d_nm (D k) = 427310) && decide (nI (np k) = 1) && decide (pt k 0 = 3) && decide (d_vt (D k) = 3))
    unfold c_main1
    rw [h1]
    by_cases hn : nI (np k) = 1
    · have e : d_ptype (D k) (pt k) 0 = pt k 0 := by
        unfold d_ptype
        rw [h1, hn]; rfl
      rw [e, hn]
      cases d_chg (D k) <;> cases decide (d_nm (D k) = 427310) <;> cases decide (d_vt (D k) = 3) <;> cases decide (pt k 0 = 3) <;> rfl
    · rw [decide_eq_false hn]
      cases d_chg (D k) <;> cases decide (d_nm (D k) = 427310) <;> cases decide (d_vt (D k) = 3) <;> simp
theorem alls_stop {z : mS} (h : z.2.2.2.1 ≠ 0) : ∀ (f k : Nat), m_alls nd D N pa pn pt np ho nn f k z = z
  | 0, _ => rfl
  | f + 1, k => by unfold m_alls; rw [if_neg h]
theorem chk_eq (hW : vW nd nn aN D N pt np ho pa P Q F) (hI : rl nd nn aD aN D N ho pa ca op) (hg : gbc N N ca nn) {T B C : Nat → Int32} {zc : cS} (hzc : zc = c_lookAll nd aD D pn pt ho pa nn (N, ca, 0, -1, 0)) {zr : mS} (hzr : zr = m_check nd D N pa pn pt np ho nn T B C) :
    zc.2.2.1 = zr.2.2.2.1 ∧ zc.2.2.2.1 = zr.2.2.2.2.1 ∧ gbc N zc.1 zc.2.1 nn ∧ sN N zc.1 ∧ (zc.2.2.1 = 0 → (∀ j, j < nn → zr.1 j = n_vt (zc.1 j) ∧ zr.2.1 j = n_bb (zc.1 j) ∧ zr.2.2.1 j = c_num (zc.2.1 j)) ∧ zc.2.2.2.2 = zr.2.2.2.2.2) := by
  have hm : c_main nd D pt = m_main nd D np pt := main_eq (fun i hi => ⟨(hW.2.2.2.2.2.1 i hi).1, (hW.2.2.2.2.2.1 i hi).2.1⟩)
  have hd := vT_dec hW.1
  unfold c_lookAll at hzc
  unfold m_check at hzr
  rw [hm] at hzc
  by_cases hmm : m_main nd D np pt = true
  · rw [if_pos hmm] at hzc hzr
    have hs0 : sN N N := fun j => sR_refl _
    have h := s_all (aD := aD) (pn := pn) (op := op) hW nn 0 (N, ca, 0, -1, 0) (T, B, C, 0, -1, 0) (by omega) rfl rfl hg (fun _ => ⟨hs0, hI, fun j hj => absurd hj (Nat.not_lt_zero _), fun j hj => absurd hj (Nat.not_lt_zero _), fun h0 c p h1 h2 => by
      have h3 := an_le hd h0 h1
      have h4 := hd c (by omega) p h2
      omega⟩)
    rw [← hzc, ← hzr] at h
    refine ⟨h.1, h.2.1, h.2.2.1, by rw [hzc]; exact all_s _ _ _ hs0, fun h0 => ?_⟩
    obtain ⟨g1, g2, g3⟩ := h.2.2.2 h0
    obtain ⟨-, -, r3, r4, -⟩ := g1
    refine ⟨fun j hj => ?_, by rw [g2, g3]; exact mx_va hW 0⟩
    obtain ⟨-, c2, c3, -⟩ := r3 j hj
    exact ⟨(r4 j hj (fun z => absurd z (Nat.lt_irrefl _))).1, c2.symm, c3.symm⟩
  · rw [if_neg hmm] at hzc hzr
    rw [alls_stop (show (4 : Int32) ≠ 0 by decide)] at hzr
    rw [hzc, hzr]
    exact ⟨rfl, rfl, hg, fun j => sR_refl _, fun z => absurd (show (4 : Int32) = 0 from z) (by decide)⟩
end FIN
