/-! LISTS: what an ArrayList of n objects is in a map, and add as one contract -/
def hm_any (G : gC) (M : mC) (sz : Nat) : Prop := ∃ H : Heap, H.size = sz ∧ hm G M H
theorem cW_mono {l : Launch} {y : MethodName} {b : ByteArray} {n : Nat} {ret : Option FieldType} {d mc ms : Nat} {G : gC} {M : mC} {sz : Nat} {av : List Value} {post post' : Option Value → mC → Prop} (h : cW l y b n ret d mc ms G M sz av post) (hp : hm_any G M sz → ∀ v u, post v u → post' v u) : cW l y b n ret d mc ms G M sz av post' := by
  intro p e h1 h2 h3 s m args below h4 h5 h6 h7
  obtain ⟨k, o, g1, g2, g3, g4, g5⟩ := h p e h1 h2 h3 s m args below h4 h5 h6 h7
  obtain ⟨⟨v, u, q1, q2, q3⟩, q4⟩ := g4
  exact ⟨k, o, g1, g2, g3, ⟨⟨v, u, q1, hp ⟨s.heap, h6.2.1, h6.2.2.1⟩ v u q2, q3⟩, q4⟩, g5⟩
/-- a list at a, its array at ed, that holds the objects g 0 .. g (n - 1) -/
def ls_ok (G : gC) (M : mC) (a ed n : Nat) (g : Nat → Nat) : Prop := ∃ c : Int32, M a = some (aC (c, ed, nI n)) ∧ ((n = 0 ∧ ed = G.2.2.2.1) ∨ ∃ (cap : Nat) (f : Nat → Option Nat), M ed = some (oA G cap f) ∧ n ≤ cap ∧ 2 ≤ cap ∧ cap ≤ 1000 ∧ ∀ i, i < n → f i = some (g i))
theorem ls_obj {G : gC} {M : mC} {a ed n : Nat} {g : Nat → Nat} (h : ls_ok G M a ed n g) : ∃ c : Int32, M a = some (aC (c, ed, nI n)) := h.elim fun c h => ⟨c, h.1⟩
theorem oa_ne {G : gC} {M : mC} {a b cap : Nat} {f : Nat → Option Nat} {r : aR} (ha : M a = some (aC r)) (hb : M b = some (oA G cap f)) : a ≠ b := fun z => by rw [z, hb] at ha; cases ha
/-- add: one more -/
theorem cc_A_add {l : Launch} {G : gC} {M : mC} {sz a ed n hv : Nat} {g : Nat → Nat} (hL : ls_ok G M a ed n g) (hn : n ≤ 600) (hob : ob_ok M hv) (hg : ∀ i, i < n → ob_ok M (g i)) : cW l yy_A_add bb_A_add 2 (some .boolean) 6 1 2000 G M sz [.ref a, .ref hv]
    (fun v u => v = some (.int 1) ∧ ∃ ed', ls_ok G u a ed' (n + 1) (va_up g n hv) ∧ ((ed' = ed ∧ ∃ (cap : Nat) (f : Nat → Option Nat), M ed = some (oA G cap f)) ∨ (ed' = sz ∧ M sz = none)) ∧ ∀ q, q ≠ a → q ≠ ed' → u q = M q) := by
  obtain ⟨c, m0, hE | ⟨cap, f, me, hcap, h2, h1000, hf⟩⟩ := hL
  · obtain ⟨rfl, rfl⟩ := hE
    refine cW_mono (cc_A_add_e m0 rfl hob) (fun hh v u hp => ?_)
    have hn9 : M sz = none := hh.elim fun H h => hm_new h.2 (by rw [h.1]; exact Nat.le_refl _)
    have hne : a ≠ sz := hm_ne m0 hn9
    refine ⟨hp.1, sz, ?_, Or.inr ⟨rfl, hn9⟩, fun q q1 q2 => ?_⟩
    · rw [hp.2]
      refine ⟨_, mp_self _ _ _, Or.inr ⟨10, va_up (fun _ => none) 0 (some hv), ?_, by omega, by omega, by omega, fun i hi => ?_⟩⟩
      · exact mp_at (Ne.symm hne) (mp_self _ _ _)
      · have h0 : i = 0 := by omega
        subst h0
        rw [va_up_self, va_up_self]
    · rw [hp.2, mp_ne q1, mp_ne q2, mp_ne q1, mp_ne q2, mp_ne q1]
  · rcases Nat.lt_or_ge n cap with hlt | hge
    · refine cW_mono (cc_A_add_r (k := n) m0 me hlt h1000 rfl hob) (fun hh v u hp => ?_)
      have hne : a ≠ ed := oa_ne m0 me
      refine ⟨hp.1, ed, ?_, Or.inl ⟨rfl, cap, f, me⟩, fun q q1 q2 => ?_⟩
      · rw [hp.2]
        refine ⟨_, mp_self _ _ _, Or.inr ⟨cap, va_up f n (some hv), ?_, by omega, h2, h1000, fun i hi => ?_⟩⟩
        · exact mp_at (Ne.symm hne) (mp_self _ _ _)
        · by_cases hi2 : i = n
          · subst hi2
            rw [va_up_self, va_up_self]
          · rw [va_up_ne _ _ hi2, va_up_ne _ _ hi2]
            exact hf i (by omega)
      · rw [hp.2, mp_ne q1, mp_ne q2, mp_ne q1]
    · have hnc : n = cap := by omega
      subst hnc
      refine cW_mono (cc_A_add_f m0 me h2 hn (fun i hi y hy => ?_) rfl hob) (fun hh v u hp => ?_)
      · rw [hf i hi] at hy
        cases hy
        exact hg i hi
      · have hn9 : M sz = none := hh.elim fun H h => hm_new h.2 (by rw [h.1]; exact Nat.le_refl _)
        have hne : a ≠ sz := hm_ne m0 hn9
        refine ⟨hp.1, sz, ?_, Or.inr ⟨rfl, hn9⟩, fun q q1 q2 => ?_⟩
        · rw [hp.2]
          refine ⟨_, mp_self _ _ _, Or.inr ⟨n + n / 2, va_up (va_cpy f (fun _ => none) 0 0 n) n (some hv), ?_, by omega, by omega, by omega, fun i hi => ?_⟩⟩
          · exact mp_at (Ne.symm hne) (mp_self _ _ _)
          · by_cases hi2 : i = n
            · subst hi2
              rw [va_up_self, va_up_self]
            · rw [va_up_ne _ _ hi2, va_up_ne _ _ hi2, pk_cpy_in (Nat.zero_le _) (by omega), Nat.sub_zero, Nat.zero_add]
              exact hf i (by omega)
        · rw [hp.2, mp_ne q1, mp_ne q2, mp_ne q1, mp_ne q2, mp_ne q1]
