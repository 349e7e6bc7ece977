/-! WHAT THE CLASS COMPUTES, as functions: kinds, types, nodes, definitions -/
def k_isKind (k : Int32) : Bool := if k < 0 then false else if 23 < k then false else true
def k_isChange (k : Int32) : Bool := if k < 18 then false else true
def k_isCall (k : Int32) : Bool := if k = 14 then true else if k = 15 then true else if k = 23 then true else false
def k_isCase (k : Int32) : Bool := if k = 12 then true else if k = 22 then true else false
def k_isLet (k : Int32) : Bool := if k = 11 then true else if k = 21 then true else false
def k_isBinder (k : Int32) : Bool := if k = 11 then true else if k = 12 then true else if k = 18 then true else if k = 21 then true else if k = 22 then true else false
def k_isAsLast (k : Int32) : Bool := if k < 10 then (if k < 18 then false else if 22 < k then false else true) else if k ≤ 12 then true else if k < 18 then false else if 22 < k then false else true
def k_wants (k pl : Int32) : Bool := if k = 16 then true else if k = 17 then true else if k = 18 then !decide (pl ≤ 0) else if k = 20 then !decide (pl ≤ 0) else if k = 21 then !decide (pl ≤ 0) else if k = 22 then !decide (pl ≤ 0) else false
def k_hasFirst (k : Int32) : Bool := if k = 1 then true else if k_isBinder k = true then true else k_isCall k
def k_namesFit (k : Int32) (f s : Int64) : Bool := (if k_hasFirst k = true then !decide (f ≤ 0) else decide (f = 0)) && (if k_isCase k = true then !decide (s ≤ 0) && !decide (s = f) else decide (s = 0))
def k_ownSw (k : Int32) : Int32 := if k = 2 then 1 else if k = 13 then 1 else if k = 16 then 2 else if k = 17 then 3 else -1
def k_ownType (k : Int32) : Int32 := if k = 0 then 0 else if k < 3 then k_ownSw k else if 9 < k then k_ownSw k else 0
def k_isType (t : Int32) : Bool := if t < 0 then false else if 3 < t then false else true
def k_isWritten (t : Int32) : Bool := if t = 0 then true else if t = 1 then true else false
/-- a node: number, home, parent, place, kind, first, second, parts, filled, valueType, typeOfX, boundBy, callee, variables -/
abbrev nR : Type := Int32 × Nat × Option Nat × Int32 × Int32 × Int64 × Int64 × Int32 × Int32 × Int32 × Int32 × Int32 × Option Nat × Int32
abbrev n_num (r : nR) : Int32 := r.1
abbrev n_ho (r : nR) : Nat := r.2.1
abbrev n_pa (r : nR) : Option Nat := r.2.2.1
abbrev n_pl (r : nR) : Int32 := r.2.2.2.1
abbrev n_kd (r : nR) : Int32 := r.2.2.2.2.1
abbrev n_fi (r : nR) : Int64 := r.2.2.2.2.2.1
abbrev n_se (r : nR) : Int64 := r.2.2.2.2.2.2.1
abbrev n_pt (r : nR) : Int32 := r.2.2.2.2.2.2.2.1
abbrev n_fl (r : nR) : Int32 := r.2.2.2.2.2.2.2.2.1
abbrev n_vt (r : nR) : Int32 := r.2.2.2.2.2.2.2.2.2.1
abbrev n_tx (r : nR) : Int32 := r.2.2.2.2.2.2.2.2.2.2.1
abbrev n_bb (r : nR) : Int32 := r.2.2.2.2.2.2.2.2.2.2.2.1
abbrev n_ca (r : nR) : Option Nat := r.2.2.2.2.2.2.2.2.2.2.2.2.1
abbrev n_va (r : nR) : Int32 := r.2.2.2.2.2.2.2.2.2.2.2.2.2
abbrev nC (r : nR) : va_E := .inr (2, [.int (n_num r), .ref (n_ho r), va_rf (n_pa r), .int (n_pl r), .int (n_kd r), .long (n_fi r), .long (n_se r), .int (n_pt r), .int (n_fl r), .int (n_vt r), .int (n_tx r), .int (n_bb r), va_rf (n_ca r), .int (n_va r)])
/-- a definition: number, changes, name, valueType, the arrays of names and of types, parameters, begun, open -/
abbrev dR : Type := Int32 × Bool × Int64 × Int32 × Nat × Nat × Int32 × Bool × Option Nat
abbrev d_num (r : dR) : Int32 := r.1
abbrev d_chg (r : dR) : Bool := r.2.1
abbrev d_nm (r : dR) : Int64 := r.2.2.1
abbrev d_vt (r : dR) : Int32 := r.2.2.2.1
abbrev d_apn (r : dR) : Nat := r.2.2.2.2.1
abbrev d_apt (r : dR) : Nat := r.2.2.2.2.2.1
abbrev d_np (r : dR) : Int32 := r.2.2.2.2.2.2.1
abbrev d_beg (r : dR) : Bool := r.2.2.2.2.2.2.2.1
abbrev d_op (r : dR) : Option Nat := r.2.2.2.2.2.2.2.2
abbrev dC (r : dR) : va_E := .inr (1, [.int (d_num r), .int (bI (d_chg r)), .long (d_nm r), .int (d_vt r), .ref (d_apn r), .ref (d_apt r), .int (d_np r), .int (bI (d_beg r)), va_rf (d_op r)])
abbrev iA (G : gC) (n : Nat) (f : Nat → Int32) : va_E := .inl (G.2.1.1, n, .inl f)
abbrev lA (G : gC) (n : Nat) (f : Nat → Int64) : va_E := .inl (G.2.1.2.1, n, .inr (.inl f))
abbrev oA (G : gC) (n : Nat) (f : Nat → Option Nat) : va_E := .inl (G.2.1.2.2.1, n, .inr (.inr (.inr (.inr f))))
abbrev zA (G : gC) (n : Nat) (f : Nat → Int32) : va_E := .inl (G.2.1.2.2.2, n, .inl f)
def n_isLast (r q : nR) : Bool := match n_pa r with
  | none => false
  | some _ => decide (n_pl r = n_pt q - 1)
def n_varsLast (r : nR) : Int32 := if k_isBinder (n_kd r) = true then (if k_isCase (n_kd r) = true then 2 else 1) else 0
def n_binds (r : nR) (x : Int64) : Bool := k_isBinder (n_kd r) && (decide (n_fi r = x) || decide (n_se r = x))
def n_txAfter (r : nR) (t : Int32) : Int32 := if k_isLet (n_kd r) = true then t else if n_kd r = 18 then (if t = 3 then 1 else 0) else 0
def d_whole (d : dR) : Bool := d_beg d && (d_op d).isNone
def d_wants (d : dR) (q : nR) : Bool := match d_op d with
  | none => d_chg d
  | some _ => k_wants (n_kd q) (n_fl q)
theorem vp_8 {i : Int32} (h : ¬ i < 0) (h2 : i < 8) : vp_in i 8 := by
  rw [vp_in_iff]
  rw [Int32.lt_iff_toInt_lt] at h h2
  have e0 : (0 : Int32).toInt = 0 := by decide
  have e8 : (8 : Int32).toInt = 8 := by decide
  rw [e0] at h
  rw [e8] at h2
  omega
def d_ptype (d : dR) (pt : Nat → Int32) (i : Int32) : Int32 := if i < 0 then -1 else if d_np d ≤ i then -1 else if i < 8 then pt i.toNatClampNeg else -1
def n_admits (r : nR) (d : dR) (pt : Nat → Int32) (k t : Int32) : Bool :=
  if n_kd r = 10 then (if k = 0 then decide (t = 0) else if k = 1 then true else decide (t = n_vt r))
  else if n_kd r = 11 then true
  else if n_kd r = 12 then (if k = 0 then decide (t = 1) else if k = 1 then true else decide (t = n_vt r))
  else if n_kd r = 13 then (if k = 0 then decide (t = 0) else decide (t = 3))
  else if n_kd r = 14 then (if n_ca r = none then false else decide (t = d_ptype d pt k))
  else if n_kd r = 15 then (if n_ca r = none then false else decide (t = d_ptype d pt k))
  else if n_kd r = 17 then decide (t = 1)
  else if n_kd r = 18 then (if 0 < k then true else if t = 2 then true else decide (t = 3))
  else if n_kd r = 19 then k_isWritten t
  else if n_kd r = 20 then (if k = 0 then decide (t = 0) else if k = 1 then true else decide (t = n_vt r))
  else if n_kd r = 21 then true
  else if n_kd r = 22 then (if k = 0 then decide (t = 1) else if k = 1 then true else decide (t = n_vt r))
  else if n_kd r = 23 then (if n_ca r = none then false else decide (t = d_ptype d pt k))
  else decide (t = 0)
abbrev n_s_num (r : nR) (v : Int32) : nR := (v, n_ho r, n_pa r, n_pl r, n_kd r, n_fi r, n_se r, n_pt r, n_fl r, n_vt r, n_tx r, n_bb r, n_ca r, n_va r)
abbrev n_s_ho (r : nR) (v : Nat) : nR := (n_num r, v, n_pa r, n_pl r, n_kd r, n_fi r, n_se r, n_pt r, n_fl r, n_vt r, n_tx r, n_bb r, n_ca r, n_va r)
abbrev n_s_pa (r : nR) (v : Option Nat) : nR := (n_num r, n_ho r, v, n_pl r, n_kd r, n_fi r, n_se r, n_pt r, n_fl r, n_vt r, n_tx r, n_bb r, n_ca r, n_va r)
abbrev n_s_pl (r : nR) (v : Int32) : nR := (n_num r, n_ho r, n_pa r, v, n_kd r, n_fi r, n_se r, n_pt r, n_fl r, n_vt r, n_tx r, n_bb r, n_ca r, n_va r)
abbrev n_s_kd (r : nR) (v : Int32) : nR := (n_num r, n_ho r, n_pa r, n_pl r, v, n_fi r, n_se r, n_pt r, n_fl r, n_vt r, n_tx r, n_bb r, n_ca r, n_va r)
abbrev n_s_fi (r : nR) (v : Int64) : nR := (n_num r, n_ho r, n_pa r, n_pl r, n_kd r, v, n_se r, n_pt r, n_fl r, n_vt r, n_tx r, n_bb r, n_ca r, n_va r)
abbrev n_s_se (r : nR) (v : Int64) : nR := (n_num r, n_ho r, n_pa r, n_pl r, n_kd r, n_fi r, v, n_pt r, n_fl r, n_vt r, n_tx r, n_bb r, n_ca r, n_va r)
abbrev n_s_pt (r : nR) (v : Int32) : nR := (n_num r, n_ho r, n_pa r, n_pl r, n_kd r, n_fi r, n_se r, v, n_fl r, n_vt r, n_tx r, n_bb r, n_ca r, n_va r)
abbrev n_s_fl (r : nR) (v : Int32) : nR := (n_num r, n_ho r, n_pa r, n_pl r, n_kd r, n_fi r, n_se r, n_pt r, v, n_vt r, n_tx r, n_bb r, n_ca r, n_va r)
abbrev n_s_vt (r : nR) (v : Int32) : nR := (n_num r, n_ho r, n_pa r, n_pl r, n_kd r, n_fi r, n_se r, n_pt r, n_fl r, v, n_tx r, n_bb r, n_ca r, n_va r)
abbrev n_s_tx (r : nR) (v : Int32) : nR := (n_num r, n_ho r, n_pa r, n_pl r, n_kd r, n_fi r, n_se r, n_pt r, n_fl r, n_vt r, v, n_bb r, n_ca r, n_va r)
abbrev n_s_bb (r : nR) (v : Int32) : nR := (n_num r, n_ho r, n_pa r, n_pl r, n_kd r, n_fi r, n_se r, n_pt r, n_fl r, n_vt r, n_tx r, v, n_ca r, n_va r)
abbrev n_s_ca (r : nR) (v : Option Nat) : nR := (n_num r, n_ho r, n_pa r, n_pl r, n_kd r, n_fi r, n_se r, n_pt r, n_fl r, n_vt r, n_tx r, n_bb r, v, n_va r)
abbrev n_s_va (r : nR) (v : Int32) : nR := (n_num r, n_ho r, n_pa r, n_pl r, n_kd r, n_fi r, n_se r, n_pt r, n_fl r, n_vt r, n_tx r, n_bb r, n_ca r, v)
abbrev d_s_num (r : dR) (v : Int32) : dR := (v, d_chg r, d_nm r, d_vt r, d_apn r, d_apt r, d_np r, d_beg r, d_op r)
abbrev d_s_chg (r : dR) (v : Bool) : dR := (d_num r, v, d_nm r, d_vt r, d_apn r, d_apt r, d_np r, d_beg r, d_op r)
abbrev d_s_nm (r : dR) (v : Int64) : dR := (d_num r, d_chg r, v, d_vt r, d_apn r, d_apt r, d_np r, d_beg r, d_op r)
abbrev d_s_vt (r : dR) (v : Int32) : dR := (d_num r, d_chg r, d_nm r, v, d_apn r, d_apt r, d_np r, d_beg r, d_op r)
abbrev d_s_apn (r : dR) (v : Nat) : dR := (d_num r, d_chg r, d_nm r, d_vt r, v, d_apt r, d_np r, d_beg r, d_op r)
abbrev d_s_apt (r : dR) (v : Nat) : dR := (d_num r, d_chg r, d_nm r, d_vt r, d_apn r, v, d_np r, d_beg r, d_op r)
abbrev d_s_np (r : dR) (v : Int32) : dR := (d_num r, d_chg r, d_nm r, d_vt r, d_apn r, d_apt r, v, d_beg r, d_op r)
abbrev d_s_beg (r : dR) (v : Bool) : dR := (d_num r, d_chg r, d_nm r, d_vt r, d_apn r, d_apt r, d_np r, v, d_op r)
abbrev d_s_op (r : dR) (v : Option Nat) : dR := (d_num r, d_chg r, d_nm r, d_vt r, d_apn r, d_apt r, d_np r, d_beg r, v)
def n_count (r q : nR) (d : dR) : Int32 := match n_pa r with
  | none => d_np d
  | some _ => n_va q + (if n_isLast r q = true then n_varsLast q else 0)
def n_aimOk (r : nR) (d : dR) : Bool := (d_chg d == decide (n_kd r = 23)) && decide (d_np d = n_pt r)
def d_slot (d : dR) (q : nR) : Int32 := match d_op d with
  | none => 0
  | some _ => n_fl q
def n_hear (r : nR) (k t : Int32) : nR :=
  let r1 := if k = 0 then (if k_isBinder (n_kd r) = true then n_s_tx r (n_txAfter r t) else r) else r
  if k_isAsLast (n_kd r) = true then n_s_vt r1 t else r1
/-- the place of a parameter's name, from the i-th on, k to go; or -1 -/
def d_idx (np : Int32) (pn : Nat → Int64) (x : Int64) : Nat → Nat → Int32
  | 0, _ => -1
  | k + 1, i => if np ≤ nI i then -1 else if pn i = x then nI i else d_idx np pn x k (i + 1)
def d_index (d : dR) (pn : Nat → Int64) (x : Int64) : Int32 := d_idx (d_np d) pn x 8 0
theorem i8_ge {i : Nat} (h : i < 8) : ¬ (8 : Int32) ≤ nI i := nI_ge (b := 8) h (by decide)
/-- an ArrayList: modCount, elementData, size -/
abbrev aR : Type := Int32 × Nat × Int32
abbrev a_mc (r : aR) : Int32 := r.1
abbrev a_ed (r : aR) : Nat := r.2.1
abbrev a_sz (r : aR) : Int32 := r.2.2
abbrev aC (r : aR) : va_E := .inr (3, [.int (a_mc r), .ref (a_ed r), .int (a_sz r)])
abbrev a_s_mc (r : aR) (v : Int32) : aR := (v, a_ed r, a_sz r)
abbrev a_s_ed (r : aR) (v : Nat) : aR := (a_mc r, v, a_sz r)
abbrev a_s_sz (r : aR) (v : Int32) : aR := (a_mc r, a_ed r, v)
