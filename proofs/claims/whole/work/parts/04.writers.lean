/-! WRITERS: methods that change cells of the map, or make cells -/
def z_parts : Nat → Value := fun j => .int ([0, 0, 0, 2, 2, 2, 2, 2, 2, 2, 3, 2, 3, 2, -1, -1, 1, 1, 2, 1, 3, 2, 3, -1].getD j 0)
/-- statics that are read: the table PARTS, the empty array of new lists -/
def mZ (G : gC) (A : Nat → Prop) (U : State) (H : Heap) : Prop :=
  va_Z "LevelTypes$Kind" "PARTS" "[I" (.ref G.2.2.1) A U H ∧ va_T .int G.2.2.1 24 z_parts A U H ∧ va_Z "java/util/ArrayList" "DEFAULTCAPACITY_EMPTY_ELEMENTDATA" "[Ljava/lang/Object;" (.ref G.2.2.2.1) A U H ∧ va_T (.object "java/lang/Object") G.2.2.2.1 0 (fun _ => .null) A U H
theorem mZ_to {G : gC} {A B : Nat → Prop} {u U : State} {H0 H : Heap} (h : mZ G A u H0) (hk : ∀ q : Nat, q < H0.size → ¬ A q → H[q]? = H0[q]?) (hB : ∀ q, B q → A q) (hvm : u.vm.Alike U.vm) : mZ G B U H :=
  ⟨((h.1.kept hk).narrow hB).moved hvm, ((h.2.1.kept hk).narrow hB).moved hvm, ((h.2.2.1.kept hk).narrow hB).moved hvm, ((h.2.2.2.kept hk).narrow hB).moved hvm⟩
def cQ (G : gC) (M : mC) (sz : Nat) (post : Option Value → mC → Prop) : Array Value → State → Outcome → State → Prop := fun _ st o t => (∃ (v : Option Value) (u : mC), o = .returned v ∧ post v u ∧ hm G u t.heap ∧ ∀ q, u q ≠ none → fr M sz q) ∧ va_F (fr M sz) st t
abbrev cP (G : gC) (M : mC) (sz : Nat) : State → Prop := fun U => U.heap.size = sz ∧ hm G M U.heap ∧ mK G U ∧ mZ G (fr M sz) U U.heap
/-- A WRITER: the map M goes to a map u, the answer is v, with post v u -/
def cW (l : Launch) (y : MethodName) (b : ByteArray) (n : Nat) (ret : Option FieldType) (d mc ms : Nat) (G : gC) (M : mC) (sz : Nat) (av : List Value) (post : Option Value → mC → Prop) : Prop :=
  Met l y (Cond.code y b n ret :: tb) (rd d mc ms) (va_Pc av (cP G M sz)) (cQ G M sz post) mc ms (fr M sz)
theorem me_W {l : Launch} {y : MethodName} {b : ByteArray} {n : Nat} {ret : Option FieldType} {d mc ms : Nat} {G : gC} {M : mC} {sz : Nat} {av : List Value} {post : Option Value → mC → Prop} (hy : plainName y.cls = true) (hlen : (lg_sl av).length ≤ n)
    (body : ∀ (p : Program) (e : Env) (s : State) (m : MethodId) (below : List Frame) (meth : Method) (c : Code) (ls : Array Slot), p.tables.exec = Jvm.exec → c.code = b → meth.sig.returnType = ret → meth.locks = false → c.maxLocals = n → s.vm.findClass y.cls = some m.cls → meth.name = y.name → (∀ w ∈ tb, w.before av.toArray s = true) → s.heap.size = sz → hm G M s.heap → mK G s → mZ G (fr M sz) s s.heap → lv_has ls n (lv_args 0 av) →
      W p l e (rd d mc ms) s m av.toArray below meth c s.heap [] 0 0 (MQ below (cQ G M sz post) av.toArray s mc ms (fr M sz)) (F0 m 0 ls [])) : cW l y b n ret d mc ms G M sz av post := by
  refine Met.ofW (cc := b) (maxL := n) (ret := ret) hy rfl ?_
  intro p e s m args below meth c s₁ B hml hv
  obtain ⟨rfl, hsz, hM, hK, hZ⟩ := hv
  have ht := atoms_spec (ws := Cond.code y b n ret :: tb) B.pre
  have hl := lv_entry av (n := n) hlen
  rw [lg_entry_eq]
  exact body p e s m below meth c _ B.exec B.bytes B.returns B.notSynchronized hml (findClass_of_methodNamed B.named) (name_of_methodNamed B.named B.method).1 (fun w hw => ht w (List.mem_cons_of_mem _ hw)) hsz hM hK hZ hl
/-- what holds of a map on the way: its cells may be changed by the method -/
theorem hF_put {A : Nat → Prop} {M : mC} {a : Nat} {e : va_E} (h : ∀ q, M q ≠ none → A q) (ha : A a) : ∀ q, mp_up M a e q ≠ none → A q := by
  intro q hq
  by_cases hqa : q = a
  · rw [hqa]; exact ha
  · rw [mp_ne hqa] at hq; exact h q hq
theorem hF_same {A : Nat → Prop} {M : mC} {a : Nat} {e e' : va_E} (h : ∀ q, mp_up M a e q ≠ none → A q) : ∀ q, mp_up M a e' q ≠ none → A q := by
  intro q hq
  by_cases hqa : q = a
  · exact h q (by rw [hqa, mp_self]; exact Option.some_ne_none _)
  · rw [mp_ne hqa] at hq; exact h q (by rw [mp_ne hqa]; exact hq)
theorem mp_at {M : mC} {a b : Nat} {e x : va_E} (hne : b ≠ a) (h : M b = some x) : mp_up M a e b = some x := (mp_ne hne).trans h
theorem mp_re {M : mC} {a b : Nat} {e e' x : va_E} (hne : b ≠ a) (h : mp_up M a e b = some x) : mp_up M a e' b = some x := (mp_ne hne).trans ((mp_ne hne).symm.trans h)
theorem hF_fr {A : Nat → Prop} {M : mC} {H0 H : Heap} {locs : List Loc} (h : ∀ q, M q ≠ none → A q) (hS : va_S A H0 H locs) (hA : ∀ q, H0.size ≤ q → A q) : ∀ q, fr M H.size q → A q := fun q hq => hq.elim (h q) (fun z => hA q (Nat.le_trans hS.1 z))
theorem fr_A {M : mC} {sz : Nat} : ∀ q, sz ≤ q → fr M sz q := fun _ h => Or.inr h
theorem fr_M {M : mC} {sz : Nat} : ∀ q, M q ≠ none → fr M sz q := fun _ h => Or.inl h
theorem rf_nar {x : Option Nat} {C : String} : narrow (.object C) (va_rf x) = va_rf x := by cases x <;> rfl
theorem rf_fit {x : Option Nat} {C : String} : fits (.object C) (va_rf x) = true := by cases x <;> rfl
section MWRT
variable {p : Program} {l : Launch} {e : Env} {R : Room} {s : State} {m : MethodId} {args : Array Value} {below : List Frame} {meth : Method} {c : Code} {H : Heap} {locs : List Loc} {cells slots : Nat} {Q : State → Prop}
variable {cc : ByteArray} {pc : Nat} {ls : Array Slot} {rest : List Value} {G : gC} {M : mC} {a sz mc ms : Nat} {post : Option Value → mC → Prop}
theorem mw_i {v : Int32} {ty : FieldType} (hexec : p.tables.exec = Jvm.exec) (hb : c.code = cc) (hr : meth.sig.returnType = some ty) (hlocks : meth.locks = false) (hn : narrow ty (.int v) = .int v) {u : mC} (hM : hm G u H) (hF : ∀ q, u q ≠ none → fr M sz q) (hS : va_S (fr M sz) s.heap H locs) (hc : cells ≤ mc) (hs : slots ≤ ms) (hp : post (some (.int v)) u) (hdg : decode cc pc = .ok (.ireturn, 1)) : W p l e R s m args below meth c H locs cells slots (MQ below (cQ G M sz post) args s mc ms (fr M sz)) (F0 m pc ls [.int v]) :=
  W.widen hc hs (W.zret hexec hb hr hn (fun t ht _ => ⟨⟨_, u, rfl, hp, by rw [ht]; exact hM, hF⟩, hS.F ht⟩) hS.2.2 hdg hlocks)
theorem mw_v (hexec : p.tables.exec = Jvm.exec) (hb : c.code = cc) (hr : meth.sig.returnType = none) (hlocks : meth.locks = false) {u : mC} (hM : hm G u H) (hF : ∀ q, u q ≠ none → fr M sz q) (hS : va_S (fr M sz) s.heap H locs) (hc : cells ≤ mc) (hs : slots ≤ ms) (hp : post none u) (hdg : decode cc pc = .ok (.return_, 1)) : W p l e R s m args below meth c H locs cells slots (MQ below (cQ G M sz post) args s mc ms (fr M sz)) (F0 m pc ls []) :=
  W.widen hc hs (W.vret hexec hb hr (fun t ht _ => ⟨⟨_, u, rfl, hp, by rw [ht]; exact hM, hF⟩, hS.F ht⟩) hS.2.2 hdg hlocks)
theorem mw_a {x : Option Nat} {rt : FieldType} (hexec : p.tables.exec = Jvm.exec) (hb : c.code = cc) (hr : meth.sig.returnType = some rt) (hrt : (∃ n, rt = .object n) ∨ ∃ t, rt = .array t) (hlocks : meth.locks = false) {u : mC} (hM : hm G u H) (hF : ∀ q, u q ≠ none → fr M sz q) (hS : va_S (fr M sz) s.heap H locs) (hc : cells ≤ mc) (hs : slots ≤ ms) (hp : post (some (va_rf x)) u) (hdg : decode cc pc = .ok (.areturn, 1)) : W p l e R s m args below meth c H locs cells slots (MQ below (cQ G M sz post) args s mc ms (fr M sz)) (F0 m pc ls [va_rf x]) :=
  W.widen hc hs (W.aret hexec hb hr hrt (by cases x with | none => exact Or.inl rfl | some y => exact Or.inr ⟨y, rfl⟩) (fun t ht _ => ⟨⟨_, u, rfl, hp, by rw [ht]; exact hM, hF⟩, hS.F ht⟩) hS.2.2 hdg hlocks)
/-- behind a writer's call -/
theorem mw_run {A0 : Nat → Prop} {H0 : Heap} {st0 : List Value} {av : Array Value} (hr : va_Run p l e R s m args below meth c H locs cells slots mc ms (F0 m pc ls st0) rest (cQ G M H.size post av) (fr M H.size)) (hS : va_S A0 H0 H locs) (hA : ∀ q, fr M H.size q → A0 q)
    (kk : ∀ (v : Option Value) (u : mC) (H1 : Heap) (locs1 : List Loc), post v u → hm G u H1 → (∀ q, u q ≠ none → fr M H.size q) → H.size ≤ H1.size → (∀ q : Nat, q < H.size → ¬ fr M H.size q → H1[q]? = H[q]?) → va_S A0 H0 H1 locs1 → W p l e R s m args below meth c H1 locs1 (cells + mc) (slots + ms) Q (F0 m (pc + 3) ls (v.toList ++ rest))) : W p l e R s m args below meth c H locs cells slots Q (F0 m pc ls st0) := by
  intro T hT X
  obtain ⟨v, st₀, t, T', L, h0, X', hL, e1, e2, ⟨⟨v', u, hv, hp, hu, hd⟩, hz, hk⟩, st⟩ := hr T hT X
  cases hv
  rw [h0] at hz hk
  obtain ⟨t2, a1, b1⟩ := kk v u T'.heap (locs ++ L) hp (by rw [e1]; exact hu) hd (by rw [e1]; exact hz) (fun q h1 h2 => by rw [e1]; exact hk q h1 h2)
    ⟨Nat.le_trans hS.1 (by rw [e1]; exact hz), fun q h1 h2 => by rw [e1, hk q (Nat.lt_of_lt_of_le h1 hS.1) (fun z => h2 (hA q z))]; exact hS.2.1 q h1 h2, fun q hq => by
      rcases List.mem_append.mp hq with h | h
      · exact hS.2.2 q h
      · exact hA _ (hL q h)⟩ T' rfl X'
  exact ⟨t2, st t2 a1, b1⟩
theorem cW_blind {av : List Value} : FrameBlind (va_Pc av (cP G M sz)) := fun a U g mk q => ⟨q.1, q.2.1, q.2.2.1, mK_moved (u := U) (U := U.calling g mk a) (Vm.Alike.refl U.vm) q.2.2.2.1, mZ_to (u := U) (U := U.calling g mk a) (H0 := U.heap) q.2.2.2.2 (fun _ _ _ => rfl) (fun _ h => h) (Vm.Alike.refl U.vm)⟩
theorem cW_pre {av : List Value} {A0 : Nat → Prop} (hK : mK G s) (hM : hm G M H) (hZ : mZ G A0 s s.heap) (hS : va_S A0 s.heap H locs) (hA : ∀ q, fr M H.size q → A0 q) : ∀ U : State, U.heap = H → s.WarmedH U.vm → va_Pc av (cP G M H.size) av.toArray U := fun U hU hW => ⟨rfl, by rw [hU], by rw [hU]; exact hM, mK_moved hW.alike hK, by rw [hU]; exact mZ_to hZ hS.2.1 hA hW.alike⟩
theorem lk_GV {own C : String} {index : Nat} {y : MethodName} {w0 : Cond} (hlk : ∀ w ∈ wsV own index C y [w0], w ∈ tb) : GoodIn tb (wsV own index C y (w0 :: tb)) := tb_GI (fun w hw => by
    unfold wsV at hw
    rcases List.mem_append.mp hw with h | h
    · exact hlk w (by unfold wsV; exact List.mem_append_left _ h)
    · rcases List.mem_cons.mp h with h | h
      · exact hlk w (by unfold wsV; exact List.mem_append_right _ (by rw [h]; exact List.mem_cons_self))
      · exact h)
theorem lk_GS {own : String} {index : Nat} {y : MethodName} {w0 : Cond} (hlk : ∀ w ∈ va_wsS own index y [w0], w ∈ tb) : GoodIn tb (va_wsS own index y (w0 :: tb)) := tb_GI (fun w hw => by
    unfold va_wsS at hw
    rcases List.mem_append.mp hw with h | h
    · exact hlk w (by unfold va_wsS; exact List.mem_append_left _ h)
    · rcases List.mem_cons.mp h with h | h
      · exact hlk w (by unfold va_wsS; exact List.mem_append_right _ (by rw [h]; exact List.mem_cons_self))
      · exact h)
theorem lk_GI {w0 : Cond} (h0 : w0 ∈ tb) : GoodIn tb (w0 :: tb) := tb_GI (fun w hw => by
    rcases List.mem_cons.mp hw with h | h
    · rw [h]; exact h0
    · exact h)
theorem mx_V {own C : String} {y : MethodName} {b' : ByteArray} {n' d' nL index : Nat} {ret' : Option FieldType} {As : List Value} {A0 : Nat → Prop} (n : Nat) (hc : cW l y b' n' ret' d' mc ms G M H.size (.ref a :: As) post) (hx : p.tables.exec = Jvm.exec) (hb : c.code = cc) (hml : c.maxLocals = nL) (hown : s.vm.findClass own = some m.cls) (ht : ∀ w ∈ tb, w.before args s = true) (hM : hm G M H) (hK : mK G s) (hZ : mZ G A0 s s.heap) (hS : va_S A0 s.heap H locs) (hA : ∀ q, fr M H.size q → A0 q) (hls : ls.size = nL) (hlk : ∀ w ∈ wsV own index C y [Cond.code y b' n' ret'], w ∈ tb)
    (hd : y.cls = C ∧ y.cls ≠ "java/lang/invoke/MethodHandle" ∧ y.cls ≠ "java/lang/invoke/VarHandle" ∧ (parseMethodDescriptor y.desc).map (fun d => d.parameters.length) = some n) (hR : rd_in R d' n') {ci : Nat} {fs : List Value} {T : u_T} {N : Nat} (he : M a = some (.inr (ci, fs))) (hcl : classes[ci]? = some (C, T, N)) (hn : As.length = n) {st : List Value} (hst : st = As.reverse ++ .ref a :: rest) (hroom : (rest.map fun v => v.category).sum ≤ 8) (hdg : decode cc pc = .ok (.invokevirtual index, 3)) (hcs : cells + mc ≤ R.cells ∧ slots + ms ≤ R.slots)
    (kk : ∀ (v : Option Value) (u : mC) (H1 : Heap) (locs1 : List Loc), post v u → hm G u H1 → (∀ q, u q ≠ none → fr M H.size q) → H.size ≤ H1.size → (∀ q : Nat, q < H.size → ¬ fr M H.size q → H1[q]? = H[q]?) → va_S A0 s.heap H1 locs1 → W p l e R s m args below meth c H1 locs1 (cells + mc) (slots + ms) Q (F0 m (pc + 3) ls (v.toList ++ rest))) : W p l e R s m args below meth c H locs cells slots Q (F0 m pc ls st) :=
  mw_run (va_runV (As := As) (rest := rest) ⟨hx, hb, hml, hown, ht⟩ hc (cwV n ht (lk_GV hlk) rfl rfl rfl hd hR) ⟨cW_blind, m_recv hK hM he hcl, cW_pre hK hM hZ hS hA⟩ rfl hn hls hst (lv_room hroom) hdg hcs) hS hA kk
theorem mx_S {own : String} {y : MethodName} {b' : ByteArray} {n' d' nL index : Nat} {ret' : Option FieldType} {As : List Value} {A0 : Nat → Prop} (n : Nat) (hc : cW l y b' n' ret' d' mc ms G M H.size As post) (hx : p.tables.exec = Jvm.exec) (hb : c.code = cc) (hml : c.maxLocals = nL) (hown : s.vm.findClass own = some m.cls) (ht : ∀ w ∈ tb, w.before args s = true) (hM : hm G M H) (hK : mK G s) (hZ : mZ G A0 s s.heap) (hS : va_S A0 s.heap H locs) (hA : ∀ q, fr M H.size q → A0 q) (hls : ls.size = nL) (hlk : ∀ w ∈ va_wsS own index y [Cond.code y b' n' ret'], w ∈ tb)
    (hd : y.cls ≠ "java/lang/invoke/MethodHandle" ∧ y.cls ≠ "java/lang/invoke/VarHandle" ∧ (parseMethodDescriptor y.desc).map (fun d => d.parameters.length) = some n) (hR : rd_in R d' n') (hn : As.length = n) {st : List Value} (hst : st = As.reverse ++ rest) (hroom : (rest.map fun v => v.category).sum ≤ 8) (hdg : decode cc pc = .ok (.invokestatic index, 3)) (hcs : cells + mc ≤ R.cells ∧ slots + ms ≤ R.slots)
    (kk : ∀ (v : Option Value) (u : mC) (H1 : Heap) (locs1 : List Loc), post v u → hm G u H1 → (∀ q, u q ≠ none → fr M H.size q) → H.size ≤ H1.size → (∀ q : Nat, q < H.size → ¬ fr M H.size q → H1[q]? = H[q]?) → va_S A0 s.heap H1 locs1 → W p l e R s m args below meth c H1 locs1 (cells + mc) (slots + ms) Q (F0 m (pc + 3) ls (v.toList ++ rest))) : W p l e R s m args below meth c H locs cells slots Q (F0 m pc ls st) :=
  mw_run (va_runS (As := As) (rest := rest) ⟨hx, hb, hml, hown, ht⟩ hc (va_cwS n ht (lk_GS hlk) rfl rfl rfl hd hR) ⟨cW_blind, cW_pre hK hM hZ hS hA⟩ rfl hn hls hst (lv_room hroom) hdg hcs) hS hA kk
theorem mx_I {own : String} {y : MethodName} {b' : ByteArray} {n' d' nL index : Nat} {As : List Value} {A0 : Nat → Prop} (n : Nat) (hc : cW l y b' n' none d' mc ms G M H.size (.ref a :: As) post) (hx : p.tables.exec = Jvm.exec) (hb : c.code = cc) (hml : c.maxLocals = nL) (hown : s.vm.findClass own = some m.cls) (ht : ∀ w ∈ tb, w.before args s = true) (hM : hm G M H) (hK : mK G s) (hZ : mZ G A0 s s.heap) (hS : va_S A0 s.heap H locs) (hA : ∀ q, fr M H.size q → A0 q) (hls : ls.size = nL) (hco : Cond.code y b' n' none ∈ tb) (hini : Cond.initialized y.cls ∈ tb) (hml2 : Cond.methodLink own index y ∈ tb) (him : Cond.instanceMethod y ∈ tb) (hy1 : y.name = "<init>")
    (hd : y.cls ≠ "java/lang/invoke/MethodHandle" ∧ y.cls ≠ "java/lang/invoke/VarHandle" ∧ (parseMethodDescriptor y.desc).map (fun d => d.parameters.length) = some n) (hR : rd_in R d' n') (hn : As.length = n) {st : List Value} (hst : st = As.reverse ++ .ref a :: rest) (hroom : (rest.map fun v => v.category).sum ≤ 8) (hdg : decode cc pc = .ok (.invokespecial index, 3)) (hcs : cells + mc ≤ R.cells ∧ slots + ms ≤ R.slots)
    (kk : ∀ (v : Option Value) (u : mC) (H1 : Heap) (locs1 : List Loc), post v u → hm G u H1 → (∀ q, u q ≠ none → fr M H.size q) → H.size ≤ H1.size → (∀ q : Nat, q < H.size → ¬ fr M H.size q → H1[q]? = H[q]?) → va_S A0 s.heap H1 locs1 → W p l e R s m args below meth c H1 locs1 (cells + mc) (slots + ms) Q (F0 m (pc + 3) ls (v.toList ++ rest))) : W p l e R s m args below meth c H locs cells slots Q (F0 m pc ls st) :=
  mw_run (va_runI (As := As) (rest := rest) ⟨hx, hb, hml, hown, ht⟩ hc (cwI n ht (lk_GI hco) rfl rfl rfl (ht _ hini) (ht _ hml2) (ht _ him) hy1 hd hR) ⟨cW_blind, cW_pre hK hM hZ hS hA⟩ rfl hn hls hst (lv_room hroom) hdg hcs) hS hA kk
end MWRT
