/-! THE CLAIM OUT OF ONE WALK OF THE LAW'S BODY. Your part is whole_start (and what it stands on); all else here is the same for every law, but numbers. -/
def R_law : String := "LevelTypesLaw"
def lw_P (b : Addr) (xs : List Int32) (args : Array Value) (s : State) : Prop := args = #[.ref b] ∧ s.IntsAt b xs ∧ xs.length ≤ 3584 ∧ (Jvm.Cond.and given_1 narrow_1).before args s = true
def lw_Q (_ : Array Value) (s : State) (o : Outcome) (t : State) : Prop := o = .returned (some (.int 1)) ∧ Framed s o t [] 600000 7302250
def lw_Z (below : List Frame) (a : Array Value) (s : State) : State → Prop := fun t => ∃ o, t.status = .running ∧ Ended t below o ∧ lw_Q a s o t
/-- the law's own end, with 1 on the stack, nothing written that was there before, its room as the claim has it -/
theorem lw_ret {p : Program} {l : Launch} {e : Env} {s : State} {m : MethodId} {below : List Frame} {meth : Method} {c : Code} {b : Nat} (hx : p.tables.exec = Jvm.exec) (hb : c.code = code) (hr : meth.sig.returnType = ret) (hlocks : meth.locks = false) {pc : Nat} {H : Heap} {ls : Array Slot} (hdg : decode code pc = .ok (.ireturn, 1)) : W p l e room_1 s m #[Value.ref b] below meth c H [] 600000 7302250 (lw_Z below #[Value.ref b] s) (F0 m pc ls [.int 1]) := by
  intro T hT X
  obtain ⟨fs, hret, hrun, hended, hW, hframe⟩ := X.leave (v := some (.int 1)) (hlocks := hlocks) (fun h => by rw [hr] at h; cases h)
  have hmeth' : T.vm.method? m = some meth := X.method'
  refine ⟨T.setFrames fs, ?_, .returned (some (.int 1)), hrun, hended, rfl, ⟨_, rfl⟩, hW, hframe⟩
  jvm_step X.here [X.here.top, hx, hb, hdg, hmeth', hr, ret, narrow_b1]
  (try refine ⟨rfl, ?_⟩); (try refine ⟨rfl, ?_⟩)
  first | (intro acts; rw [hret _ acts rfl rfl rfl]) | rw [hret _ _ rfl rfl rfl]
  exact Steps.refl _
/-- what holds at the law's entry: the machine, the code, the tables' words (any of lw_tbl by 'hts w (by decide +kernel)'), the script of L ints xs at the cell b, what the Statement gives of the start (any of its parts by flat_of_before) -/
def lw_At (p : Program) (s : State) (m : MethodId) (meth : Method) (c : Code) (b L : Nat) (xs : Nat → Int32) : Prop :=
  p.tables.exec = Jvm.exec ∧ c.code = code ∧ meth.sig.returnType = ret ∧ c.maxLocals = 4 ∧ s.vm.findClass R_law = some m.cls ∧ (∀ w ∈ lw_tbl, w.before #[Value.ref b] s = true) ∧ va_X b L xs s s.heap ∧ b < s.heap.size ∧ meth.locks = false ∧ (Jvm.Cond.and given_1 narrow_1).before #[Value.ref b] s = true
/-! THE LAW: two worlds side by side, the class's map X and the reference's map Y, both new since the law's entry -/
def pW (G : gC) (X Y : mC) (s : State) (H : Heap) : Prop := hm G X H ∧ hm G Y H ∧ (∀ q, X q ≠ none → Y q = none) ∧ (∀ q, X q ≠ none → s.heap.size ≤ q) ∧ (∀ q, Y q ≠ none → s.heap.size ≤ q)
theorem pW_fX {G : gC} {X Y : mC} {s : State} {H : Heap} (h : pW G X Y s H) (hS : s.heap.size ≤ H.size) : ∀ q, fr X H.size q → s.heap.size ≤ q := fun q hq => hq.elim (h.2.2.2.1 q) (fun z => Nat.le_trans hS z)
theorem pW_fY {G : gC} {X Y : mC} {s : State} {H : Heap} (h : pW G X Y s H) (hS : s.heap.size ≤ H.size) : ∀ q, fr Y H.size q → s.heap.size ≤ q := fun q hq => hq.elim (h.2.2.2.2 q) (fun z => Nat.le_trans hS z)
theorem pW_X {G : gC} {X Y u : mC} {s : State} {H H1 : Heap} (h : pW G X Y s H) (hS : s.heap.size ≤ H.size) (hM : hm G u H1) (hd : ∀ q, u q ≠ none → fr X H.size q) (hk : ∀ q : Nat, q < H.size → ¬ fr X H.size q → H1[q]? = H[q]?) : pW G u Y s H1 := by
  obtain ⟨h1, h2, h3, h4, h5⟩ := h
  refine ⟨hM, hm_kept h2 (fun q hq hl => hk q hl (fun z => ?_)), fun q hq => ?_, fun q hq => ?_, h5⟩
  · rcases z with z | z
    · exact hq (h3 q z)
    · omega
  · rcases hd q hq with z | z
    · exact h3 q z
    · exact hm_new h2 z
  · rcases hd q hq with z | z
    · exact h4 q z
    · omega
theorem pW_Y {G : gC} {X Y u : mC} {s : State} {H H1 : Heap} (h : pW G X Y s H) (hS : s.heap.size ≤ H.size) (hM : hm G u H1) (hd : ∀ q, u q ≠ none → fr Y H.size q) (hk : ∀ q : Nat, q < H.size → ¬ fr Y H.size q → H1[q]? = H[q]?) : pW G X u s H1 := by
  obtain ⟨h1, h2, h3, h4, h5⟩ := h
  refine ⟨hm_kept h1 (fun q hq hl => hk q hl (fun z => ?_)), hM, fun q hq => ?_, h4, fun q hq => ?_⟩
  · rcases z with z | z
    · exact z (h3 q hq)
    · omega
  · cases hu : u q with
    | none => rfl
    | some e =>
      rcases hd q (by rw [hu]; exact Option.some_ne_none _) with z | z
      · exact absurd (h3 q hq) z
      · exact absurd (hm_new h1 z) hq
  · rcases hd q hq with z | z
    · exact h5 q z
    · omega
/-- what stays the same through the law; what holds at the head of its loop, behind n rows of the script -/
def lwC (p : Program) (s : State) (m : MethodId) (meth : Method) (c : Code) (b L : Nat) (xs : Nat → Int32) (G : gC) : Prop := lw_At p s m meth c b L xs ∧ mK G s ∧ mZ G (fun q => s.heap.size ≤ q) s s.heap
def lwV (G : gC) (s : State) (b i n x y : Nat) (X Y : mC) (H : Heap) (locs : List Loc) (ls : Array Slot) : Prop := pW G X Y s H ∧ lwS G X Y x y n ∧ va_S (fun q => s.heap.size ≤ q) s.heap H locs ∧ lv_has ls 4 [(0, .ref b), (1, .ref x), (2, .ref y), (3, .int (nI i))]
abbrev lcN (n : Nat) : Nat := 40 + 16 * n
abbrev lsN (n : Nat) : Nat := 60000 + 8000 * n
def lw_i (xs : Nat → Int32) (i : Nat) (d : Int32) : Int32 := xs (nI i + d).toNatClampNeg
def lw_j (xs : Nat → Int32) (i : Nat) (d d' : Int32) : Int64 := ((lw_i xs i d).toInt64 <<< ((32 : Int32).toInt64 &&& 63)) ||| ((lw_i xs i d').toInt64 &&& 4294967295)
theorem sc_in {i L d : Nat} {v : Int32} (hv : v = nI d) (h : i + d < L) (hL : L ≤ 4000) : vp_in (nI i + v) L := by
  rw [hv, nI_add]
  exact vp_in_nI h (by omega)
section LTOP
variable {p : Program} {l : Launch} {e : Env} {R : Room} {s : State} {m : MethodId} {args : Array Value} {below : List Frame} {meth : Method} {c : Code} {H : Heap} {locs : List Loc} {cells slots : Nat} {Q : State → Prop} {pc : Nat} {ls : Array Slot} {rest : List Value}
theorem lt_i {x : Int32} (y : Int32) (h : x = y) (k : W p l e R s m args below meth c H locs cells slots Q (F0 m pc ls (.int y :: rest))) : W p l e R s m args below meth c H locs cells slots Q (F0 m pc ls (.int x :: rest)) := by rw [h]; exact k
theorem lt_l {x : Int64} (y : Int64) (h : x = y) (k : W p l e R s m args below meth c H locs cells slots Q (F0 m pc ls (.long y :: rest))) : W p l e R s m args below meth c H locs cells slots Q (F0 m pc ls (.long x :: rest)) := by rw [h]; exact k
end LTOP
theorem len_7 {L i : Nat} (hL : L ≤ 4000) (hi : i ≤ 4000) : (Int32.ofNat L - 7 < nI i) ↔ L < i + 7 := by
  rcases Nat.lt_or_ge L 7 with h | h
  · refine ⟨fun _ => by omega, fun _ => ?_⟩
    have hn : ¬ nI i < 0 := nI_pos (by omega)
    have h7 : Int32.ofNat L - 7 < 0 := by
      rcases (show L = 0 ∨ L = 1 ∨ L = 2 ∨ L = 3 ∨ L = 4 ∨ L = 5 ∨ L = 6 by omega) with e | e | e | e | e | e | e <;> subst e <;> decide
    rw [Int32.lt_iff_toInt_lt] at h7 hn ⊢
    omega
  · obtain ⟨k, rfl⟩ : ∃ k, L = k + 7 := ⟨L - 7, by omega⟩
    have e : Int32.ofNat (k + 7) - 7 = nI k := by
      have : Int32.ofNat (k + 7) = nI k + 7 := (nI_add k 7).symm
      rw [this, Int32.add_sub_cancel]
    rw [e, nI_ltI (by omega) (by omega)]
    omega
theorem sw_9 (v : Int32) : v = 0 ∨ v = 1 ∨ v = 2 ∨ v = 3 ∨ v = 4 ∨ v = 5 ∨ v = 6 ∨ v = 7 ∨ v = 8 ∨ v = 9 ∨ (v.toInt < 0 ∨ 9 < v.toInt) := by
  by_cases h : v.toInt < 0 ∨ 9 < v.toInt
  · exact Or.inr (Or.inr (Or.inr (Or.inr (Or.inr (Or.inr (Or.inr (Or.inr (Or.inr (Or.inr h)))))))))
  · have key : ∀ k : Int32, v.toInt = k.toInt → v = k := fun k h => Int32.toInt_inj.mp h
    have e0 : (0 : Int32).toInt = 0 := by decide
    have e1 : (1 : Int32).toInt = 1 := by decide
    have e2 : (2 : Int32).toInt = 2 := by decide
    have e3 : (3 : Int32).toInt = 3 := by decide
    have e4 : (4 : Int32).toInt = 4 := by decide
    have e5 : (5 : Int32).toInt = 5 := by decide
    have e6 : (6 : Int32).toInt = 6 := by decide
    have e7 : (7 : Int32).toInt = 7 := by decide
    have e8 : (8 : Int32).toInt = 8 := by decide
    have e9 : (9 : Int32).toInt = 9 := by decide
    rcases (show v.toInt = 0 ∨ v.toInt = 1 ∨ v.toInt = 2 ∨ v.toInt = 3 ∨ v.toInt = 4 ∨ v.toInt = 5 ∨ v.toInt = 6 ∨ v.toInt = 7 ∨ v.toInt = 8 ∨ v.toInt = 9 by omega) with h | h | h | h | h | h | h | h | h | h
    · exact Or.inl (key 0 (by omega))
    · exact Or.inr (Or.inl (key 1 (by omega)))
    · exact Or.inr (Or.inr (Or.inl (key 2 (by omega))))
    · exact Or.inr (Or.inr (Or.inr (Or.inl (key 3 (by omega)))))
    · exact Or.inr (Or.inr (Or.inr (Or.inr (Or.inl (key 4 (by omega))))))
    · exact Or.inr (Or.inr (Or.inr (Or.inr (Or.inr (Or.inl (key 5 (by omega)))))))
    · exact Or.inr (Or.inr (Or.inr (Or.inr (Or.inr (Or.inr (Or.inl (key 6 (by omega))))))))
    · exact Or.inr (Or.inr (Or.inr (Or.inr (Or.inr (Or.inr (Or.inr (Or.inl (key 7 (by omega)))))))))
    · exact Or.inr (Or.inr (Or.inr (Or.inr (Or.inr (Or.inr (Or.inr (Or.inr (Or.inl (key 8 (by omega))))))))))
    · exact Or.inr (Or.inr (Or.inr (Or.inr (Or.inr (Or.inr (Or.inr (Or.inr (Or.inr (Or.inl (key 9 (by omega)))))))))))
