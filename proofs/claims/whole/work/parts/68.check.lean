/-! check: class and reference -/
theorem mis_bb {D : Nat → dR} {pt : Nat → Nat → Int32} {ho : Nat → Nat} {pa ca : Nat → Option Nat} : ∀ (f : Nat) (Z : Nat → nR) (o : Option Nat) (j : Nat), n_bb ((c_mis D pt ho pa ca f Z o).1 j) = n_bb (Z j)
  | 0, _, _, _ => rfl
  | _ + 1, _, none, _ => rfl
  | f + 1, Z, some i, j => by
    have hh : n_bb (c_hear Z pa i j) = n_bb (Z j) := by
      cases hp : pa i with
      | none => rw [hear_no hp]
      | some p =>
        by_cases e : j = p
        · subst e; rw [hear_on hp]; exact (hear_keep _ _ _).2.1
        · rw [hear_off hp e]
    unfold c_mis
    split
    · split
      · rw [mis_bb f _ _ j]; exact hh
      · exact hh
    · rfl
section CHK
variable {nd nn : Nat} {aD aN : Nat → Nat} {D : Nat → dR} {N : Nat → nR} {pn : Nat → Nat → Int64} {pt : Nat → Nat → Int32} {np ho : Nat → Nat} {pa op : Nat → Option Nat} {P Q F : Nat → Nat}
theorem own_type {Z : Nat → nR} {ca : Nat → Option Nat} {B C : Nat → Int32} {p : Nat} (hW : vW nd nn aN D N pt np ho pa P Q F) (hp : p < nn) (h0 : ck0 nd D N pa np ho Z ca B C p) (ha : k_isAsLast (n_kd (N p)) = false) (h1 : n_kd (N p) ≠ 1) : k_isType (n_vt (Z p)) = true := by
  rw [h0.2.2.2.2 ha h1]
  by_cases hcl : k_isCall (n_kd (N p)) = true
  · rw [tyK_call hcl]
    obtain ⟨-, g2⟩ := h0.2.2.2.1 hcl
    obtain ⟨t, ht⟩ := Option.isSome_iff_exists.mp g2
    rw [ht]
    exact (hW.2.2.2.2.2.1 t (m_tgt_lt ht)).2.2.1
  · obtain ⟨g1, g2⟩ := tyK_own (hW.1.1 p hp).1 (Bool.eq_false_iff.mpr hcl) ha h1 0 (d_vt (D ((m_tgt nd D np (N p)).getD 0))) 0
    rw [g1]; exact g2
/-- after k nodes without a fault -/
def ckR (nd nn : Nat) (aD aN : Nat → Nat) (D : Nat → dR) (N : Nat → nR) (np ho : Nat → Nat) (pa op : Nat → Option Nat) (Q : Nat → Nat) (k : Nat) (z : cS) (y : mS) : Prop :=
  sN N z.1 ∧ rl nd nn aD aN D z.1 ho pa z.2.1 op ∧ (∀ j, j < k → ck0 nd D N pa np ho z.1 z.2.1 y.2.1 y.2.2.1 j) ∧ (∀ j, j < k → (k < nn → ¬ an pa k j) → y.1 j = n_vt (z.1 j) ∧ k_isType (y.1 j) = true) ∧ (k < nn → tx5 nn N pa Q y.1 z.1 k)
def mxS (m v : Int32) : Int32 := if v ≤ m then m else v
theorem mxS_lt (m v : Int32) : (if m < v then v else m) = mxS m v := by
  unfold mxS
  by_cases h : v ≤ m
  · rw [if_pos h, if_neg (Int32.not_lt.mpr h)]
  · rw [if_neg h, if_pos (Int32.not_le.mp h)]
theorem s_step (hW : vW nd nn aN D N pt np ho pa P Q F) {k : Nat} (hk : k < nn) {Z : Nat → nR} {ca : Nat → Option Nat} {T B C : Nat → Int32} {fn mv mo : Int32} (hg : gbc N Z ca nn) (hR : ckR nd nn aD aN D N np ho pa op Q k (Z, ca, 0, fn, mv) (T, B, C, 0, fn, mo)) {z' : cS} (hz : z' = c_at nd aD D pn pt ho pa nn (Z, ca, 0, fn, mv) k) {y' : mS} (hy : y' = m_lvs nd D N pa pn pt np ho nn k (k + 1) (m_come nd D N pa pn np ho (T, B, C, 0, fn, mo) k) (some k)) :
    z'.2.2.1 = y'.2.2.2.1 ∧ z'.2.2.2.1 = y'.2.2.2.2.1 ∧ gbc N z'.1 z'.2.1 nn ∧ (z'.2.2.1 = 0 → ckR nd nn aD aN D N np ho pa op Q (k + 1) z' y' ∧ z'.2.2.2.2 = mxS mv (m_va N pa np ho k) ∧ y'.2.2.2.2.2 = mxS mo (m_ins N pa np ho k)) := by
  have hT := hW.1
  have hd := vT_dec hT
  obtain ⟨hs, hI, h0, h4, h5⟩ := hR
  have hs : sN N Z := hs
  have h5 : tx5 nn N pa Q T Z k := h5 hk
  have h0 : ∀ j, j < k → ck0 nd D N pa np ho Z ca B C j := h0
  have h4 : ∀ j, j < k → (k < nn → ¬ an pa k j) → T j = n_vt (Z j) ∧ k_isType (T j) = true := h4
  have hmo : (m_come nd D N pa pn np ho (T, B, C, 0, fn, mo) k).2.2.2.2.2 = mxS mo (m_ins N pa np ho k) := by
    simp only [m_come]
    split
    · rfl
    · split <;> rfl
  have hI2 : rl nd nn aD aN D z'.1 ho pa z'.2.1 op := by rw [hz]; exact rl_at hI hk
  have hs2 : sN N z'.1 := by rw [hz]; exact at_s hs k
  have hIa := rl_arr (pn := pn) (pt := pt) (show rl nd nn aD aN D Z ho pa ca op from hI) k
  rcases s_come (aD := aD) (pn := pn) (fn := fn) (mo := mo) hW hs hk h0 h5 hg with ⟨a1, a2, a3, a4⟩ | ⟨a1, a2, a3, a4, a5, a6, a7⟩
  · -- nothing binds it, or it has no target
    have ez : z' = (va_up Z k (c_arrive nd aD D pn pt Z ho pa nn k).1, c_ca nd D Z ca k, 5, nI k, mv) := by
      rw [hz]; simp only [c_at]; rw [if_neg (by rw [a1]; decide)]
    have ey : y' = m_come nd D N pa pn np ho (T, B, C, 0, fn, mo) k := by
      rw [hy]; exact lvs_stop (by rw [a2]; decide) _ _
    rw [ez, ey]
    exact ⟨a2.symm, a3.symm, a4, fun z => absurd (show (5 : Int32) = 0 from z) (by decide)⟩
  · obtain ⟨ar, ear⟩ : ∃ a, a = c_arrive nd aD D pn pt Z ho pa nn k := ⟨_, rfl⟩
    have hars : sR (Z k) ar.1 := by rw [ear]; exact arrive_s
    rw [← ear] at a1 a5 a6 a7 hIa
    obtain ⟨cm, ecm⟩ : ∃ c, c = m_come nd D N pa pn np ho (T, B, C, 0, fn, mo) k := ⟨_, rfl⟩
    rw [← ecm] at a2 a3 a4 a5 hmo hy
    have ecm2 : cm = (T, cm.2.1, cm.2.2.1, 0, fn, cm.2.2.2.2.2) := by
      rw [← a2, ← a3, ← a4]
    have hpt : n_pt ar.1 = nI (P k) := by rw [hars.2.2.2.2.2.2.2.1, (hs k).2.2.2.2.2.2.2.1]; exact (hT.1 k hk).2.2.2.1
    have hva : n_va ar.1 = m_va N pa np ho k := by have := (a5 k (by omega)).1; rw [va_up_self] at this; exact this
    have hN1s : sN N (va_up Z k ar.1) := sN_up hs hars
    have hmv : (if mv < n_va ar.1 then n_va ar.1 else mv) = mxS mv (m_va N pa np ho k) := by rw [hva]; exact mxS_lt _ _
    have h5u : tx5 nn N pa Q T (va_up Z k ar.1) k := tx5_up hd hk h5 ar.1
    have hlow : ∀ j, j < k + 1 → ¬ an pa k j → T j = n_vt (va_up Z k ar.1 j) ∧ k_isType (T j) = true := by
      intro j hj hn
      have e : j ≠ k := fun z => hn (by rw [z]; exact an_refl _ _)
      rw [va_up_ne _ _ e]
      exact h4 j (by omega) (fun _ => hn)
    by_cases hP : P k = 0
    · -- a leaf
      have hpt0 : n_pt ar.1 = 0 := by rw [hpt, hP]; exact nI_0
      have hx : nx pa P Q k = nx_up pa P Q (k + 1) k := by unfold nx; rw [if_pos hP]
      have hasF : k_isAsLast (n_kd (N k)) = false := by
        cases ha : k_isAsLast (n_kd (N k)) with
        | false => rfl
        | true => have := P_as hT hk ha; omega
      have hvk : n_vt (va_up Z k ar.1 k) = m_tyAt nd D N pa pn pt np ho nn T k ∧ k_isType (n_vt (va_up Z k ar.1 k)) = true := by
        by_cases h1 : n_kd (N k) = 1
        · obtain ⟨g1, g2⟩ := a6 h1
          rw [va_up_self, g1]
          refine ⟨?_, g2⟩
          unfold m_tyAt
          rw [h1]; rfl
        · refine ⟨?_, own_type hW hk (a5 k (by omega)) hasF h1⟩
          rw [(a5 k (by omega)).2.2.2.2 hasF h1]
          exact tyK_ind (hT.1 k hk).1 hasF h1 _ _ _ _ _
      obtain ⟨c1, ec1⟩ : ∃ c, c = c_ca nd D Z ca k := ⟨_, rfl⟩
      rw [← ec1] at a5 a7 hIa
      have hway := s_way (aD := aD) (pn := pn) (ca := c1) (B := cm.2.1) (C := cm.2.2.1) (fn := fn) (mo := cm.2.2.2.2.2) hW hk (nn + 1) (k + 1) k (va_up Z k ar.1) T (by omega) (by omega) (an_refl _ _) hN1s a5 (fun j hj => (hIa.1 j hj).2.2.2.2.1) hvk.1 hvk.2 hlow h5u hx
      rw [← ecm2, ← hy] at hway
      obtain ⟨q, eq9⟩ : ∃ q, q = c_mis D pt ho pa c1 (nn + 1) (va_up Z k ar.1) (some k) := ⟨_, rfl⟩
      rw [← eq9] at hway
      have hgq : gbc N q.1 c1 nn := by
        intro j hj
        refine ⟨fun h => ?_, (a7 j hj).2⟩
        rw [eq9, mis_bb]
        exact (a7 j hj).1 h
      rcases hway with ⟨m, w1, w2, w3⟩ | ⟨w1, T', w2, w3, w4, w5⟩
      · have ez : z' = (q.1, c1, 6, nI m, mxS mv (m_va N pa np ho k)) := by
          rw [hz]; simp only [c_at]; rw [← ear, if_pos a1, if_pos hpt0, ← ec1, ← eq9, w1, hmv]
        rw [ez]
        exact ⟨w2.symm, w3.symm, hgq, fun z => absurd (show (6 : Int32) = 0 from z) (by decide)⟩
      · have ez : z' = (q.1, c1, 0, fn, mxS mv (m_va N pa np ho k)) := by
          rw [hz]; simp only [c_at]; rw [← ear, if_pos a1, if_pos hpt0, ← ec1, ← eq9, w1, hmv]
        refine ⟨by rw [ez, w2], by rw [ez, w2], by rw [ez]; exact hgq, fun _ => ⟨⟨hs2, hI2, ?_, ?_, ?_⟩, by rw [ez], by rw [w2]; exact hmo⟩⟩
        · rw [ez, w2]; exact w3
        · rw [ez, w2]; exact w4
        · rw [ez, w2]; exact w5
    · -- a node with parts
      have hpt0 : ¬ n_pt ar.1 = 0 := by rw [hpt]; exact nI_ne0 (by omega) (hT.1 k hk).2.2.2.2.1
      have hx : nx pa P Q k = some (k, 0) := by unfold nx; rw [if_neg hP]
      obtain ⟨hk1, n1, n2, n3⟩ := s_noend hW hk hx
      have ez : z' = (va_up Z k ar.1, c_ca nd D Z ca k, 0, fn, mxS mv (m_va N pa np ho k)) := by
        rw [hz]; simp only [c_at]; rw [← ear, if_pos a1, if_neg hpt0, hmv]
      have ey : y' = cm := by
        rw [hy, lvs_some a3, if_neg (by rw [n3]; decide)]
      refine ⟨by rw [ez, ey, a3], by rw [ez, ey, a4], by rw [ez]; exact a7, fun _ => ⟨⟨hs2, hI2, ?_, ?_, ?_⟩, by rw [ez], by rw [ey]; exact hmo⟩⟩
      · rw [ez, ey]; exact a5
      · rw [ez, ey, a2]
        intro j hj hn
        exact hlow j hj (fun z => hn hk1 (an_up n1 z))
      · rw [ez, ey, a2]
        intro _ c p h1 h2 h3
        rcases an_cases h1 with e | ⟨p', hp', h1'⟩
        · rw [e, n2] at h3
          omega
        · rw [n1] at hp'
          cases hp'
          exact h5u c p h1' h2 h3
/-- the greatest of v k .. and m -/
def mxF (v : Nat → Int32) : Nat → Nat → Int32 → Int32
  | 0, _, m => m
  | f + 1, k, m => mxF v f (k + 1) (mxS m (v k))
theorem s_all (hW : vW nd nn aN D N pt np ho pa P Q F) : ∀ (f k : Nat) (z : cS) (y : mS), k + f = nn → z.2.2.1 = y.2.2.2.1 → z.2.2.2.1 = y.2.2.2.2.1 → gbc N z.1 z.2.1 nn → (z.2.2.1 = 0 → ckR nd nn aD aN D N np ho pa op Q k z y) →
    (c_all nd aD D pn pt ho pa nn f k z).2.2.1 = (m_alls nd D N pa pn pt np ho nn f k y).2.2.2.1 ∧ (c_all nd aD D pn pt ho pa nn f k z).2.2.2.1 = (m_alls nd D N pa pn pt np ho nn f k y).2.2.2.2.1 ∧ gbc N (c_all nd aD D pn pt ho pa nn f k z).1 (c_all nd aD D pn pt ho pa nn f k z).2.1 nn ∧ ((c_all nd aD D pn pt ho pa nn f k z).2.2.1 = 0 → ckR nd nn aD aN D N np ho pa op Q nn (c_all nd aD D pn pt ho pa nn f k z) (m_alls nd D N pa pn pt np ho nn f k y) ∧ (c_all nd aD D pn pt ho pa nn f k z).2.2.2.2 = mxF (m_va N pa np ho) f k z.2.2.2.2 ∧ (m_alls nd D N pa pn pt np ho nn f k y).2.2.2.2.2 = mxF (m_ins N pa np ho) f k y.2.2.2.2.2)
  | 0, k, z, y, hkf, e1, e2, hg, hR => by
    have hkn : k = nn := by omega
    subst hkn
    exact ⟨e1, e2, hg, fun h => ⟨hR h, rfl, rfl⟩⟩
  | f + 1, k, z, y, hkf, e1, e2, hg, hR => by
    by_cases h : z.2.2.1 = 0
    · obtain ⟨Z, ca, ft, fn, mv⟩ := z
      obtain ⟨T, B, C, ft', fn', mo⟩ := y
      have h : ft = 0 := h
      subst h
      have e1 : (0 : Int32) = ft' := e1
      subst e1
      have e2 : fn = fn' := e2
      subst e2
      obtain ⟨z', ez⟩ : ∃ z', z' = c_at nd aD D pn pt ho pa nn (Z, ca, 0, fn, mv) k := ⟨_, rfl⟩
      obtain ⟨y', ey⟩ : ∃ y', y' = m_lvs nd D N pa pn pt np ho nn k (k + 1) (m_come nd D N pa pn np ho (T, B, C, 0, fn, mo) k) (some k) := ⟨_, rfl⟩
      obtain ⟨s1, s2, s3, s4⟩ := s_step hW (show k < nn by omega) hg (hR rfl) ez ey
      have g1 : c_all nd aD D pn pt ho pa nn (f + 1) k (Z, ca, 0, fn, mv) = c_all nd aD D pn pt ho pa nn f (k + 1) z' := by
        conv => lhs; unfold c_all
        rw [if_pos rfl, ← ez]
      have g2 : m_alls nd D N pa pn pt np ho nn (f + 1) k (T, B, C, 0, fn, mo) = m_alls nd D N pa pn pt np ho nn f (k + 1) y' := by
        conv => lhs; unfold m_alls
        rw [if_pos rfl, ← ey]
      rw [g1, g2]
      have ih := s_all hW f (k + 1) z' y' (by omega) s1 s2 s3 (fun h => (s4 h).1)
      refine ⟨ih.1, ih.2.1, ih.2.2.1, fun h9 => ?_⟩
      obtain ⟨i1, i2, i3⟩ := ih.2.2.2 h9
      by_cases hz0 : z'.2.2.1 = 0
      · obtain ⟨-, t2, t3⟩ := s4 hz0
        refine ⟨i1, ?_, ?_⟩
        · rw [i2, t2]; rfl
        · rw [i3, t3]; rfl
      · exfalso
        have : c_all nd aD D pn pt ho pa nn f (k + 1) z' = z' := by
          cases f with
          | zero => rfl
          | succ f => unfold c_all; rw [if_neg hz0]
        rw [this] at h9
        exact hz0 h9
    · have g1 : c_all nd aD D pn pt ho pa nn (f + 1) k z = z := by unfold c_all; rw [if_neg h]
      have g2 : m_alls nd D N pa pn pt np ho nn (f + 1) k y = y := by unfold m_alls; rw [if_neg (by rw [← e1]; exact h)]
      rw [g1, g2]
      exact ⟨e1, e2, hg, fun z => absurd z h⟩
end CHK
