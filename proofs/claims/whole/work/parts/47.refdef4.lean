/-- the arrays with types, binders and targets named -/
def mI (I : Nat → Nat → Int32) (T B C : Nat → Int32) : Nat → Nat → Int32 := fun t => if t = 15 then T else if t = 16 then B else if t = 17 then C else I t
theorem mI_15 {I : Nat → Nat → Int32} {T B C g : Nat → Int32} : va_up (mI I T B C) 15 g = mI I g B C := by
  funext t
  by_cases h : t = 15
  · subst h; rw [va_up_self]; rfl
  · rw [va_up_ne _ _ h]; simp [mI, h]
theorem mI_16 {I : Nat → Nat → Int32} {T B C g : Nat → Int32} : va_up (mI I T B C) 16 g = mI I T g C := by
  funext t
  by_cases h : t = 16
  · subst h; rw [va_up_self]; rfl
  · rw [va_up_ne _ _ h]; simp [mI, h]
theorem mI_17 {I : Nat → Nat → Int32} {T B C g : Nat → Int32} : va_up (mI I T B C) 17 g = mI I T B g := by
  funext t
  by_cases h : t = 17
  · subst h; rw [va_up_self]; rfl
  · rw [va_up_ne _ _ h]; simp [mI, h]
theorem mI_id (I : Nat → Nat → Int32) : mI I (I 15) (I 16) (I 17) = I := by
  funext t
  unfold mI
  split
  · rename_i h; rw [h]
  · split
    · rename_i h; rw [h]
    · split
      · rename_i h; rw [h]
      · rfl
theorem tD_mI {nd : Nat} {D : Nat → dR} {pn : Nat → Nat → Int64} {pt : Nat → Nat → Int32} {np bg : Nat → Nat} {I : Nat → Nat → Int32} {J : Nat → Nat → Int64} {Z : Nat → Int32} (h : tD nd D pn pt np bg I J Z) (T B C : Nat → Int32) : tD nd D pn pt np bg (mI I T B C) J Z := h
theorem tN_mI {nd nn : Nat} {N : Nat → nR} {ho : Nat → Nat} {pa : Nat → Option Nat} {I : Nat → Nat → Int32} {J : Nat → Nat → Int64} (h : tN nd nn N ho pa I J) (T B C : Nat → Int32) : tN nd nn N ho pa (mI I T B C) J := h
theorem rmB_of {G : gC} {M : mC} {b : Nat} {I : Nat → Nat → Int32} {T B C : Nat → Int32} {J : Nat → Nat → Int64} {Z : Nat → Int32} (h : rmA G M b (mI I T B C) J Z) : M b = some (zA G 64 Z) ∧ M (b + 1) = some (lA G 64 (J 1)) ∧ M (b + 2) = some (iA G 64 (I 2)) ∧ M (b + 3) = some (iA G 64 (I 3)) ∧ M (b + 4) = some (lA G 512 (J 4)) ∧ M (b + 5) = some (iA G 512 (I 5)) ∧ M (b + 6) = some (iA G 65 (I 6)) ∧ M (b + 7) = some (iA G 4096 (I 7)) ∧ M (b + 8) = some (lA G 4096 (J 8)) ∧ M (b + 9) = some (lA G 4096 (J 9)) ∧ M (b + 10) = some (iA G 4096 (I 10)) ∧ M (b + 11) = some (iA G 4096 (I 11)) ∧ M (b + 12) = some (iA G 4096 (I 12)) ∧ M (b + 13) = some (iA G 4096 (I 13)) ∧ M (b + 14) = some (iA G 4096 (I 14)) ∧ M (b + 15) = some (iA G 4096 T) ∧ M (b + 16) = some (iA G 4096 B) ∧ M (b + 17) = some (iA G 4096 C) := h
theorem upd_at (f : Nat → Int32) (k : Nat) (v : Int32) : upd f k v k = v := by simp [upd]
/-- types, binders, targets, fault, its node, most -/
abbrev mS : Type := (Nat → Int32) × (Nat → Int32) × (Nat → Int32) × Int32 × Int32 × Int32
def m_ins (N : Nat → nR) (pa : Nat → Option Nat) (np ho : Nat → Nat) (k : Nat) : Int32 := m_thr N pa (k + 1) (nI (np (ho k))) k + (if k_isCase (n_kd (N k)) = true then 2 else if m_bIn (n_kd (N k)) 1 = true then 1 else 0)
def m_come (nd : Nat) (D : Nat → dR) (N : Nat → nR) (pa : Nat → Option Nat) (pn : Nat → Nat → Int64) (np ho : Nat → Nat) (z : mS) (k : Nat) : mS :=
  let mo := if m_ins N pa np ho k ≤ z.2.2.2.2.2 then z.2.2.2.2.2 else m_ins N pa np ho k
  let B := upd z.2.1 k (-1)
  let C := upd z.2.2.1 k (-1)
  if n_kd (N k) = 1 then
    (z.1, upd B k (m_bval N pa pn np ho (n_fi (N k)) k), C, if m_bval N pa pn np ho (n_fi (N k)) k = -1 then 5 else z.2.2.2.1, if m_bval N pa pn np ho (n_fi (N k)) k = -1 then nI k else z.2.2.2.2.1, mo)
  else if 0 ≤ m_due (n_kd (N k)) then (z.1, B, C, z.2.2.2.1, z.2.2.2.2.1, mo)
  else (z.1, B, upd C k (c_num (m_tgt nd D np (N k))), if (m_tgt nd D np (N k)).isNone = true then 5 else z.2.2.2.1, if (m_tgt nd D np (N k)).isNone = true then nI k else z.2.2.2.2.1, mo)
def m_tyAt (nd : Nat) (D : Nat → dR) (N : Nat → nR) (pa : Nat → Option Nat) (pn : Nat → Nat → Int64) (pt : Nat → Nat → Int32) (np ho : Nat → Nat) (nn : Nat) (T : Nat → Int32) (k : Nat) : Int32 := m_tyK (n_kd (N k)) (m_tyV T N pa pn pt np ho nn k) (d_vt (D ((m_tgt nd D np (N k)).getD 0))) (T ((m_pt N pa nn k (n_pt (N k) - 1)).getD 0))
def m_stAt (nd : Nat) (D : Nat → dR) (N : Nat → nR) (pa : Nat → Option Nat) (pt : Nat → Nat → Int32) (np ho : Nat → Nat) (nn : Nat) (T : Nat → Int32) (k : Nat) (ty : Int32) : Bool := m_std D N ho pa k ty (pt ((m_tgt nd D np (c_q N (pa k))).getD 0) (n_pl (N k)).toNatClampNeg) (T ((m_pt N pa nn ((pa k).getD 0) 1).getD 0))
def m_leave (nd : Nat) (D : Nat → dR) (N : Nat → nR) (pa : Nat → Option Nat) (pn : Nat → Nat → Int64) (pt : Nat → Nat → Int32) (np ho : Nat → Nat) (nn : Nat) (z : mS) (k : Nat) : mS :=
  let ty := m_tyAt nd D N pa pn pt np ho nn z.1 k
  let T := upd z.1 k ty
  if m_stAt nd D N pa pt np ho nn T k ty = true then (T, z.2.1, z.2.2.1, z.2.2.2.1, z.2.2.2.2.1, z.2.2.2.2.2) else (T, z.2.1, z.2.2.1, 6, nI k, z.2.2.2.2.2)
/-- what is known of the nodes that were come to -/
def m_got (nd : Nat) (D : Nat → dR) (N : Nat → nR) (pa : Nat → Option Nat) (pn : Nat → Nat → Int64) (np ho : Nat → Nat) (B C : Nat → Int32) (i : Nat) : Prop := (n_kd (N i) = 1 → B i = m_bval N pa pn np ho (n_fi (N i)) i ∧ m_bval N pa pn np ho (n_fi (N i)) i ≠ -1) ∧ (k_isCall (n_kd (N i)) = true → C i = c_num (m_tgt nd D np (N i)) ∧ (m_tgt nd D np (N i)).isSome = true)
/-- parts that are there -/
def m_SS (nd nn : Nat) (D : Nat → dR) (N : Nat → nR) (pa : Nat → Option Nat) (np : Nat → Nat) (k : Nat) : Prop := (∀ b, m_bo N pa (n_fi (N k)) (k + 1) k = some b → k_isCase (n_kd (N b)) = false → (m_pt N pa nn b 0).isSome = true) ∧ (m_useLast (n_kd (N k)) = true → (m_pt N pa nn k (n_pt (N k) - 1)).isSome = true) ∧ ∀ o, pa k = some o → (k_isCall (n_kd (N o)) = true → ∀ t, m_tgt nd D np (N o) = some t → ∃ q, n_pl (N k) = nI q ∧ q < np t) ∧ (k_isAsLast (n_kd (N o)) = true → n_pl (N k) ≠ 0 → n_pl (N k) ≠ 1 → (m_pt N pa nn o 1).isSome = true) ∧ k_isKind (n_kd (N o)) = true
theorem due_call {k : Int32} : (¬ 0 ≤ m_due k) ↔ k_isCall k = true := by
  unfold m_due k_isCall
  by_cases h1 : k = 14
  · simp [h1]
  · by_cases h2 : k = 15
    · simp [h2]
    · by_cases h3 : k = 23
      · simp [h3]
      · simp only [if_neg h1, if_neg h2, if_neg h3]
        have hd : ∀ x : Int32, (x = 0 ∨ x = 1 ∨ x = 2 ∨ x = 3) → 0 ≤ x := by intro x hx; rcases hx with h | h | h | h <;> subst h <;> decide
        refine ⟨fun h => absurd (hd _ ?_) h, fun h => by cases h⟩
        repeat' split
        all_goals simp
theorem kd_all {P : Int32 → Prop} (h : P 0 ∧ P 1 ∧ P 2 ∧ P 3 ∧ P 4 ∧ P 5 ∧ P 6 ∧ P 7 ∧ P 8 ∧ P 9 ∧ P 10 ∧ P 11 ∧ P 12 ∧ P 13 ∧ P 14 ∧ P 15 ∧ P 16 ∧ P 17 ∧ P 18 ∧ P 19 ∧ P 20 ∧ P 21 ∧ P 22 ∧ P 23) {k : Int32} (hk : k_isKind k = true) : P k := by
  have hin := k_in hk
  have h0 : ¬ k < 0 := fun z => hin (Or.inl z)
  obtain ⟨j, hj, rfl⟩ := nI_of h0
  have hlt : j < 24 := by
    have h9 : ¬ 24 ≤ (nI j).toNatClampNeg := fun z => hin (Or.inr z)
    rw [nI_clamp hj] at h9
    omega
  obtain ⟨h0, h1, h2, h3, h4, h5, h6, h7, h8, h9, h10, h11, h12, h13, h14, h15, h16, h17, h18, h19, h20, h21, h22, h23⟩ := h
  rcases (show j = 0 ∨ j = 1 ∨ j = 2 ∨ j = 3 ∨ j = 4 ∨ j = 5 ∨ j = 6 ∨ j = 7 ∨ j = 8 ∨ j = 9 ∨ j = 10 ∨ j = 11 ∨ j = 12 ∨ j = 13 ∨ j = 14 ∨ j = 15 ∨ j = 16 ∨ j = 17 ∨ j = 18 ∨ j = 19 ∨ j = 20 ∨ j = 21 ∨ j = 22 ∨ j = 23 by omega) with h | h | h | h | h | h | h | h | h | h | h | h | h | h | h | h | h | h | h | h | h | h | h | h <;> subst h <;> assumption
theorem kd_st {k : Int32} (hk : k_isKind k = true) : 0 ≤ m_due k → 9 < k → k ≠ 13 → k ≠ 18 → k ≠ 11 → k ≠ 16 → k ≠ 17 → k ≠ 19 → k ≠ 21 → k_isAsLast k = true := kd_all (P := fun k => 0 ≤ m_due k → 9 < k → k ≠ 13 → k ≠ 18 → k ≠ 11 → k ≠ 16 → k ≠ 17 → k ≠ 19 → k ≠ 21 → k_isAsLast k = true) (by refine ⟨?_, ?_, ?_, ?_, ?_, ?_, ?_, ?_, ?_, ?_, ?_, ?_, ?_, ?_, ?_, ?_, ?_, ?_, ?_, ?_, ?_, ?_, ?_, ?_⟩ <;> (intros; first | decide | contradiction)) hk
/-- leaving j and its parents while they end at k -/
def m_lvs (nd : Nat) (D : Nat → dR) (N : Nat → nR) (pa : Nat → Option Nat) (pn : Nat → Nat → Int64) (pt : Nat → Nat → Int32) (np ho : Nat → Nat) (nn k : Nat) : Nat → mS → Option Nat → mS
  | 0, z, _ => z
  | _ + 1, z, none => z
  | f + 1, z, some j => if z.2.2.2.1 = 0 then (if m_isEnd nn pa j k = true then m_lvs nd D N pa pn pt np ho nn k f (m_leave nd D N pa pn pt np ho nn z j) (pa j) else z) else z
def m_alls (nd : Nat) (D : Nat → dR) (N : Nat → nR) (pa : Nat → Option Nat) (pn : Nat → Nat → Int64) (pt : Nat → Nat → Int32) (np ho : Nat → Nat) (nn : Nat) : Nat → Nat → mS → mS
  | 0, _, z => z
  | f + 1, k, z => if z.2.2.2.1 = 0 then m_alls nd D N pa pn pt np ho nn f (k + 1) (m_lvs nd D N pa pn pt np ho nn k (k + 1) (m_come nd D N pa pn np ho z k) (some k)) else z
