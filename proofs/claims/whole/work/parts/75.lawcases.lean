set_option maxHeartbeats 4000000 in
set_option maxRecDepth 100000 in
theorem law_c0 {p : Program} {l : Launch} {e : Env} {s : State} {m : MethodId} {below : List Frame} {meth : Method} {c : Code} {b L : Nat} {xs : Nat → Int32} {G : gC} {Q : State → Prop} (C : lwC p s m meth c b L xs G) (hL : L ≤ 3584) {i n x y : Nat} {X Y : mC} {H : Heap} {locs : List Loc} {ls : Array Slot} (hi : i + 7 ≤ L) (hn : n < 512) (V : lwV G s b i n x y X Y H locs ls) (kk : ∀ (X' Y' : mC) (H' : Heap) (locs' : List Loc), lwV G s b i (n + 1) x y X' Y' H' locs' ls → W p l e room_1 s m #[Value.ref b] below meth c H' locs' (lcN (n + 1)) (lsN (n + 1)) Q (F0 m 504 ls [])) : W p l e room_1 s m #[Value.ref b] below meth c H locs (lcN n) (lsN n) Q (F0 m 88 ls []) := by
  obtain ⟨⟨hx, hb, hr, hml, hown, hts, hX, hbl, hlocks, hgv⟩, hK, hZ⟩ := C
  have ht : ∀ w ∈ tb, w.before #[Value.ref b] s = true := fun w hw => hts w (tb_lw hw)
  have hbA : ¬ (fun q : Nat => s.heap.size ≤ q) b := Nat.not_le.mpr hbl
  obtain ⟨hW, hS9, hS, hl⟩ := V
  obtain ⟨fx, ex⟩ := lwS_x hS9
  obtain ⟨fy, ey⟩ := lwS_y hS9
  obtain ⟨p1, p2, h1, h2, h3⟩ := st_clear hS9
  refine lv_aload_n hx hb dd_W_law_88 rfl (lv_at hl 1 rfl) ?_
  refine mx_V (As := []) (rest := []) 0 (h1 l H.size) hx hb hml hown ht hW.1 hK hZ hS (pW_fX hW hS.1) hl.1 lk_W_13 (by decide +kernel) ⟨Nat.le_of_ble_eq_true rfl, Nat.le_of_ble_eq_true rfl⟩ ex rfl rfl rfl (Nat.le_of_ble_eq_true rfl) dd_W_law_89 ⟨by show 40 + 16 * n + 0 ≤ 600000; omega, by show 60000 + 8000 * n + 0 ≤ 7302250; omega⟩ (fun v1 u H1 locs1 hp1 hM1 hd1 hle1 hk1 hS1 => ?_)
  obtain ⟨rfl, h4⟩ := h3 v1 u hp1
  have hW1 := pW_X hW hS.1 hM1 hd1 hk1
  refine lv_aload_n hx hb dd_W_law_92 rfl (lv_at hl 2 rfl) ?_
  refine mx_V (As := []) (rest := []) 0 (h2 l H1.size) hx hb hml hown ht hW1.2.1 hK hZ hS1 (pW_fY hW1 hS1.1) hl.1 lk_W_16 (by decide +kernel) ⟨Nat.le_of_ble_eq_true rfl, Nat.le_of_ble_eq_true rfl⟩ ey rfl rfl rfl (Nat.le_of_ble_eq_true rfl) dd_W_law_93 ⟨by show 40 + 16 * n + 0 + 8 ≤ 600000; omega, by show 60000 + 8000 * n + 0 + 4000 ≤ 7302250; omega⟩ (fun v2 t H2 locs2 hp2 hM2 hd2 hle2 hk2 hS2 => ?_)
  obtain ⟨rfl, hS8⟩ := h4 v2 t hp2
  have hW2 := pW_Y hW1 hS1.1 hM2 hd2 hk2
  refine lv_goto (tgt := 504) hx hb dd_W_law_96 (by decide) ?_
  refine W.widen (k := lcN (n + 1)) (n := lsN (n + 1)) (by show 40 + 16 * n + 0 + 8 ≤ 40 + 16 * (n + 1); omega) (by show 60000 + 8000 * n + 0 + 4000 ≤ 60000 + 8000 * (n + 1); omega) ?_
  exact kk u t H2 locs2 ⟨hW2, hS8, hS2, hl⟩

set_option maxHeartbeats 4000000 in
set_option maxRecDepth 100000 in
theorem law_c1 {p : Program} {l : Launch} {e : Env} {s : State} {m : MethodId} {below : List Frame} {meth : Method} {c : Code} {b L : Nat} {xs : Nat → Int32} {G : gC} {Q : State → Prop} (C : lwC p s m meth c b L xs G) (hL : L ≤ 3584) {i n x y : Nat} {X Y : mC} {H : Heap} {locs : List Loc} {ls : Array Slot} (hi : i + 7 ≤ L) (hn : n < 512) (V : lwV G s b i n x y X Y H locs ls) (kk : ∀ (X' Y' : mC) (H' : Heap) (locs' : List Loc), lwV G s b i (n + 1) x y X' Y' H' locs' ls → W p l e room_1 s m #[Value.ref b] below meth c H' locs' (lcN (n + 1)) (lsN (n + 1)) Q (F0 m 504 ls [])) : W p l e room_1 s m #[Value.ref b] below meth c H locs (lcN n) (lsN n) Q (F0 m 99 ls []) := by
  obtain ⟨⟨hx, hb, hr, hml, hown, hts, hX, hbl, hlocks, hgv⟩, hK, hZ⟩ := C
  have ht : ∀ w ∈ tb, w.before #[Value.ref b] s = true := fun w hw => hts w (tb_lw hw)
  have hbA : ¬ (fun q : Nat => s.heap.size ≤ q) b := Nat.not_le.mpr hbl
  obtain ⟨hW, hS9, hS, hl⟩ := V
  obtain ⟨fx, ex⟩ := lwS_x hS9
  obtain ⟨fy, ey⟩ := lwS_y hS9
  have j1 : vp_in (nI i + 1) L := sc_in (d := 1) rfl (by omega) (by omega)
  have j2 : vp_in (nI i + 2) L := sc_in (d := 2) rfl (by omega) (by omega)
  have j3 : vp_in (nI i + 3) L := sc_in (d := 3) rfl (by omega) (by omega)
  have j4 : vp_in (nI i + 4) L := sc_in (d := 4) rfl (by omega) (by omega)
  refine lv_aload_n hx hb dd_W_law_99 rfl (lv_at hl 1 rfl) ?_
  refine lv_aload_n hx hb dd_W_law_100 rfl (lv_at hl 0 rfl) ?_
  refine lv_iload_n hx hb dd_W_law_101 rfl (lv_at hl 3 rfl) ?_
  refine lv_iconst (v := 1) hx hb dd_W_law_102 (by decide) ?_
  refine lv_iadd hx hb dd_W_law_103 ?_
  refine va_sld hx hb hX hbl hbA hS j1 dd_W_law_104 ?_
  refine lt_i (lw_i xs i 1) rfl ?_
  have key1 : ∀ bq : Bool, bq = !decide (lw_i xs i 1 = 0) → W p l e room_1 s m #[Value.ref b] below meth c H locs (lcN n) (lsN n) Q (F0 m 113 ls (.int (bI bq) :: .ref x :: [])) := by
    intro bq ebq
    obtain ⟨p1, p2, h1, h2, h3⟩ := st_define hS9 bq (lw_j xs i 2 3) (lw_i xs i 4)
    refine lv_aload_n hx hb dd_W_law_113 rfl (lv_at hl 0 rfl) ?_
    refine lv_iload_n hx hb dd_W_law_114 rfl (lv_at hl 3 rfl) ?_
    refine lv_iconst (v := 2) hx hb dd_W_law_115 (by decide) ?_
    refine lv_iadd hx hb dd_W_law_116 ?_
    refine va_sld hx hb hX hbl hbA hS j2 dd_W_law_117 ?_
    refine lt_i (lw_i xs i 2) rfl ?_
    refine lv_i2l hx hb dd_W_law_118 rfl ?_
    refine lv_bipush (v := 32) hx hb dd_W_law_119 (by decide) ?_
    refine lv_lshl hx hb dd_W_law_121 rfl ?_
    refine lv_aload_n hx hb dd_W_law_122 rfl (lv_at hl 0 rfl) ?_
    refine lv_iload_n hx hb dd_W_law_123 rfl (lv_at hl 3 rfl) ?_
    refine lv_iconst (v := 3) hx hb dd_W_law_124 (by decide) ?_
    refine lv_iadd hx hb dd_W_law_125 ?_
    refine va_sld hx hb hX hbl hbA hS j3 dd_W_law_126 ?_
    refine lt_i (lw_i xs i 3) rfl ?_
    refine lv_i2l hx hb dd_W_law_127 rfl ?_
    refine lv_ldc2 (v := 4294967295) hx hb hown (ht _ wd_3_170) dd_W_law_128 ?_
    refine lv_land hx hb dd_W_law_131 ?_
    refine lv_lor hx hb dd_W_law_132 ?_
    refine lt_l (lw_j xs i 2 3) rfl ?_
    refine lv_aload_n hx hb dd_W_law_133 rfl (lv_at hl 0 rfl) ?_
    refine lv_iload_n hx hb dd_W_law_134 rfl (lv_at hl 3 rfl) ?_
    refine lv_iconst (v := 4) hx hb dd_W_law_135 (by decide) ?_
    refine lv_iadd hx hb dd_W_law_136 ?_
    refine va_sld hx hb hX hbl hbA hS j4 dd_W_law_137 ?_
    refine lt_i (lw_i xs i 4) rfl ?_
    refine mx_V (As := [.int (bI bq), .long (lw_j xs i 2 3), .int (lw_i xs i 4)]) (rest := []) 3 (h1 l H.size) hx hb hml hown ht hW.1 hK hZ hS (pW_fX hW hS.1) hl.1 lk_W_19 (by decide +kernel) ⟨Nat.le_of_ble_eq_true rfl, Nat.le_of_ble_eq_true rfl⟩ ex rfl rfl rfl (Nat.le_of_ble_eq_true rfl) dd_W_law_138 ⟨by show 40 + 16 * n + 8 ≤ 600000; omega, by show 60000 + 8000 * n + 4000 ≤ 7302250; omega⟩ (fun v1 u H1 locs1 hp1 hM1 hd1 hle1 hk1 hS1 => ?_)
    obtain ⟨a, rfl, h4⟩ := h3 v1 u hp1
    have hW1 := pW_X hW hS.1 hM1 hd1 hk1
    refine lv_aload_n hx hb dd_W_law_141 rfl (lv_at hl 2 rfl) ?_
    refine lv_aload_n hx hb dd_W_law_142 rfl (lv_at hl 0 rfl) ?_
    refine lv_iload_n hx hb dd_W_law_143 rfl (lv_at hl 3 rfl) ?_
    refine lv_iconst (v := 1) hx hb dd_W_law_144 (by decide) ?_
    refine lv_iadd hx hb dd_W_law_145 ?_
    refine va_sld hx hb hX hbl hbA hS1 j1 dd_W_law_146 ?_
    refine lt_i (lw_i xs i 1) rfl ?_
    have key2 : ∀ bz : Bool, bz = !decide (lw_i xs i 1 = 0) → W p l e room_1 s m #[Value.ref b] below meth c H1 locs1 (lcN n + 8) (lsN n + 4000) Q (F0 m 155 ls (.int (bI bz) :: .ref y :: [.int a])) := by
      intro bz ebz
      have e9 : bz = bq := ebz.trans ebq.symm
      rw [e9]
      refine lv_aload_n hx hb dd_W_law_155 rfl (lv_at hl 0 rfl) ?_
      refine lv_iload_n hx hb dd_W_law_156 rfl (lv_at hl 3 rfl) ?_
      refine lv_iconst (v := 2) hx hb dd_W_law_157 (by decide) ?_
      refine lv_iadd hx hb dd_W_law_158 ?_
      refine va_sld hx hb hX hbl hbA hS1 j2 dd_W_law_159 ?_
      refine lt_i (lw_i xs i 2) rfl ?_
      refine lv_i2l hx hb dd_W_law_160 rfl ?_
      refine lv_bipush (v := 32) hx hb dd_W_law_161 (by decide) ?_
      refine lv_lshl hx hb dd_W_law_163 rfl ?_
      refine lv_aload_n hx hb dd_W_law_164 rfl (lv_at hl 0 rfl) ?_
      refine lv_iload_n hx hb dd_W_law_165 rfl (lv_at hl 3 rfl) ?_
      refine lv_iconst (v := 3) hx hb dd_W_law_166 (by decide) ?_
      refine lv_iadd hx hb dd_W_law_167 ?_
      refine va_sld hx hb hX hbl hbA hS1 j3 dd_W_law_168 ?_
      refine lt_i (lw_i xs i 3) rfl ?_
      refine lv_i2l hx hb dd_W_law_169 rfl ?_
      refine lv_ldc2 (v := 4294967295) hx hb hown (ht _ wd_3_170) dd_W_law_170 ?_
      refine lv_land hx hb dd_W_law_173 ?_
      refine lv_lor hx hb dd_W_law_174 ?_
      refine lt_l (lw_j xs i 2 3) rfl ?_
      refine lv_aload_n hx hb dd_W_law_175 rfl (lv_at hl 0 rfl) ?_
      refine lv_iload_n hx hb dd_W_law_176 rfl (lv_at hl 3 rfl) ?_
      refine lv_iconst (v := 4) hx hb dd_W_law_177 (by decide) ?_
      refine lv_iadd hx hb dd_W_law_178 ?_
      refine va_sld hx hb hX hbl hbA hS1 j4 dd_W_law_179 ?_
      refine lt_i (lw_i xs i 4) rfl ?_
      refine mx_V (As := [.int (bI bq), .long (lw_j xs i 2 3), .int (lw_i xs i 4)]) (rest := [.int a]) 3 (h2 l H1.size) hx hb hml hown ht hW1.2.1 hK hZ hS1 (pW_fY hW1 hS1.1) hl.1 lk_W_23 (by decide +kernel) ⟨Nat.le_of_ble_eq_true rfl, Nat.le_of_ble_eq_true rfl⟩ ey rfl rfl rfl (Nat.le_of_ble_eq_true rfl) dd_W_law_180 ⟨by show 40 + 16 * n + 8 + 8 ≤ 600000; omega, by show 60000 + 8000 * n + 4000 + 4000 ≤ 7302250; omega⟩ (fun v2 t H2 locs2 hp2 hM2 hd2 hle2 hk2 hS2 => ?_)
      obtain ⟨rfl, hS8⟩ := h4 v2 t hp2
      have hW2 := pW_Y hW1 hS1.1 hM2 hd2 hk2
      refine lv_icmp_eq (tgt := 504) hx hb dd_W_law_183 (by decide) (fun _ => ?_) (fun z => absurd rfl z)
      refine W.widen (k := lcN (n + 1)) (n := lsN (n + 1)) (by show 40 + 16 * n + 8 + 8 ≤ 40 + 16 * (n + 1); omega) (by show 60000 + 8000 * n + 4000 + 4000 ≤ 60000 + 8000 * (n + 1); omega) ?_
      exact kk u t H2 locs2 ⟨hW2, hS8, hS2, hl⟩
    refine lv_if_eq (tgt := 154) hx hb dd_W_law_147 (by decide) (fun c9 => ?_) (fun c9 => ?_)
    · refine lv_iconst (v := 0) hx hb dd_W_law_154 (by decide) ?_
      exact key2 false (by rw [decide_eq_true c9]; rfl)
    · refine lv_iconst (v := 1) hx hb dd_W_law_150 (by decide) ?_
      refine lv_goto (tgt := 155) hx hb dd_W_law_151 (by decide) ?_
      exact key2 true (by rw [decide_eq_false c9]; rfl)
  refine lv_if_eq (tgt := 112) hx hb dd_W_law_105 (by decide) (fun c9 => ?_) (fun c9 => ?_)
  · refine lv_iconst (v := 0) hx hb dd_W_law_112 (by decide) ?_
    exact key1 false (by rw [decide_eq_true c9]; rfl)
  · refine lv_iconst (v := 1) hx hb dd_W_law_108 (by decide) ?_
    refine lv_goto (tgt := 113) hx hb dd_W_law_109 (by decide) ?_
    exact key1 true (by rw [decide_eq_false c9]; rfl)

set_option maxHeartbeats 4000000 in
set_option maxRecDepth 100000 in
theorem law_c2 {p : Program} {l : Launch} {e : Env} {s : State} {m : MethodId} {below : List Frame} {meth : Method} {c : Code} {b L : Nat} {xs : Nat → Int32} {G : gC} {Q : State → Prop} (C : lwC p s m meth c b L xs G) (hL : L ≤ 3584) {i n x y : Nat} {X Y : mC} {H : Heap} {locs : List Loc} {ls : Array Slot} (hi : i + 7 ≤ L) (hn : n < 512) (V : lwV G s b i n x y X Y H locs ls) (kk : ∀ (X' Y' : mC) (H' : Heap) (locs' : List Loc), lwV G s b i (n + 1) x y X' Y' H' locs' ls → W p l e room_1 s m #[Value.ref b] below meth c H' locs' (lcN (n + 1)) (lsN (n + 1)) Q (F0 m 504 ls [])) : W p l e room_1 s m #[Value.ref b] below meth c H locs (lcN n) (lsN n) Q (F0 m 188 ls []) := by
  obtain ⟨⟨hx, hb, hr, hml, hown, hts, hX, hbl, hlocks, hgv⟩, hK, hZ⟩ := C
  have ht : ∀ w ∈ tb, w.before #[Value.ref b] s = true := fun w hw => hts w (tb_lw hw)
  have hbA : ¬ (fun q : Nat => s.heap.size ≤ q) b := Nat.not_le.mpr hbl
  obtain ⟨hW, hS9, hS, hl⟩ := V
  obtain ⟨fx, ex⟩ := lwS_x hS9
  obtain ⟨fy, ey⟩ := lwS_y hS9
  have j1 : vp_in (nI i + 1) L := sc_in (d := 1) rfl (by omega) (by omega)
  have j2 : vp_in (nI i + 2) L := sc_in (d := 2) rfl (by omega) (by omega)
  have j3 : vp_in (nI i + 3) L := sc_in (d := 3) rfl (by omega) (by omega)
  obtain ⟨p1, p2, h1, h2, h3⟩ := st_parameter hS9 (lw_j xs i 1 2) (lw_i xs i 3)
  refine lv_aload_n hx hb dd_W_law_188 rfl (lv_at hl 1 rfl) ?_
  refine lv_aload_n hx hb dd_W_law_189 rfl (lv_at hl 0 rfl) ?_
  refine lv_iload_n hx hb dd_W_law_190 rfl (lv_at hl 3 rfl) ?_
  refine lv_iconst (v := 1) hx hb dd_W_law_191 (by decide) ?_
  refine lv_iadd hx hb dd_W_law_192 ?_
  refine va_sld hx hb hX hbl hbA hS j1 dd_W_law_193 ?_
  refine lt_i (lw_i xs i 1) rfl ?_
  refine lv_i2l hx hb dd_W_law_194 rfl ?_
  refine lv_bipush (v := 32) hx hb dd_W_law_195 (by decide) ?_
  refine lv_lshl hx hb dd_W_law_197 rfl ?_
  refine lv_aload_n hx hb dd_W_law_198 rfl (lv_at hl 0 rfl) ?_
  refine lv_iload_n hx hb dd_W_law_199 rfl (lv_at hl 3 rfl) ?_
  refine lv_iconst (v := 2) hx hb dd_W_law_200 (by decide) ?_
  refine lv_iadd hx hb dd_W_law_201 ?_
  refine va_sld hx hb hX hbl hbA hS j2 dd_W_law_202 ?_
  refine lt_i (lw_i xs i 2) rfl ?_
  refine lv_i2l hx hb dd_W_law_203 rfl ?_
  refine lv_ldc2 (v := 4294967295) hx hb hown (ht _ wd_3_170) dd_W_law_204 ?_
  refine lv_land hx hb dd_W_law_207 ?_
  refine lv_lor hx hb dd_W_law_208 ?_
  refine lt_l (lw_j xs i 1 2) rfl ?_
  refine lv_aload_n hx hb dd_W_law_209 rfl (lv_at hl 0 rfl) ?_
  refine lv_iload_n hx hb dd_W_law_210 rfl (lv_at hl 3 rfl) ?_
  refine lv_iconst (v := 3) hx hb dd_W_law_211 (by decide) ?_
  refine lv_iadd hx hb dd_W_law_212 ?_
  refine va_sld hx hb hX hbl hbA hS j3 dd_W_law_213 ?_
  refine lt_i (lw_i xs i 3) rfl ?_
  refine mx_V (As := [.long (lw_j xs i 1 2), .int (lw_i xs i 3)]) (rest := []) 2 (h1 l H.size) hx hb hml hown ht hW.1 hK hZ hS (pW_fX hW hS.1) hl.1 lk_W_24 (by decide +kernel) ⟨Nat.le_of_ble_eq_true rfl, Nat.le_of_ble_eq_true rfl⟩ ex rfl rfl rfl (Nat.le_of_ble_eq_true rfl) dd_W_law_214 ⟨by show 40 + 16 * n + 8 ≤ 600000; omega, by show 60000 + 8000 * n + 4000 ≤ 7302250; omega⟩ (fun v1 u H1 locs1 hp1 hM1 hd1 hle1 hk1 hS1 => ?_)
  obtain ⟨a, rfl, h4⟩ := h3 v1 u hp1
  have hW1 := pW_X hW hS.1 hM1 hd1 hk1
  refine lv_aload_n hx hb dd_W_law_217 rfl (lv_at hl 2 rfl) ?_
  refine lv_aload_n hx hb dd_W_law_218 rfl (lv_at hl 0 rfl) ?_
  refine lv_iload_n hx hb dd_W_law_219 rfl (lv_at hl 3 rfl) ?_
  refine lv_iconst (v := 1) hx hb dd_W_law_220 (by decide) ?_
  refine lv_iadd hx hb dd_W_law_221 ?_
  refine va_sld hx hb hX hbl hbA hS1 j1 dd_W_law_222 ?_
  refine lt_i (lw_i xs i 1) rfl ?_
  refine lv_i2l hx hb dd_W_law_223 rfl ?_
  refine lv_bipush (v := 32) hx hb dd_W_law_224 (by decide) ?_
  refine lv_lshl hx hb dd_W_law_226 rfl ?_
  refine lv_aload_n hx hb dd_W_law_227 rfl (lv_at hl 0 rfl) ?_
  refine lv_iload_n hx hb dd_W_law_228 rfl (lv_at hl 3 rfl) ?_
  refine lv_iconst (v := 2) hx hb dd_W_law_229 (by decide) ?_
  refine lv_iadd hx hb dd_W_law_230 ?_
  refine va_sld hx hb hX hbl hbA hS1 j2 dd_W_law_231 ?_
  refine lt_i (lw_i xs i 2) rfl ?_
  refine lv_i2l hx hb dd_W_law_232 rfl ?_
  refine lv_ldc2 (v := 4294967295) hx hb hown (ht _ wd_3_170) dd_W_law_233 ?_
  refine lv_land hx hb dd_W_law_236 ?_
  refine lv_lor hx hb dd_W_law_237 ?_
  refine lt_l (lw_j xs i 1 2) rfl ?_
  refine lv_aload_n hx hb dd_W_law_238 rfl (lv_at hl 0 rfl) ?_
  refine lv_iload_n hx hb dd_W_law_239 rfl (lv_at hl 3 rfl) ?_
  refine lv_iconst (v := 3) hx hb dd_W_law_240 (by decide) ?_
  refine lv_iadd hx hb dd_W_law_241 ?_
  refine va_sld hx hb hX hbl hbA hS1 j3 dd_W_law_242 ?_
  refine lt_i (lw_i xs i 3) rfl ?_
  refine mx_V (As := [.long (lw_j xs i 1 2), .int (lw_i xs i 3)]) (rest := [.int a]) 2 (h2 l H1.size) hx hb hml hown ht hW1.2.1 hK hZ hS1 (pW_fY hW1 hS1.1) hl.1 lk_W_28 (by decide +kernel) ⟨Nat.le_of_ble_eq_true rfl, Nat.le_of_ble_eq_true rfl⟩ ey rfl rfl rfl (Nat.le_of_ble_eq_true rfl) dd_W_law_243 ⟨by show 40 + 16 * n + 8 + 8 ≤ 600000; omega, by show 60000 + 8000 * n + 4000 + 4000 ≤ 7302250; omega⟩ (fun v2 t H2 locs2 hp2 hM2 hd2 hle2 hk2 hS2 => ?_)
  obtain ⟨rfl, hS8⟩ := h4 v2 t hp2
  have hW2 := pW_Y hW1 hS1.1 hM2 hd2 hk2
  refine lv_icmp_eq (tgt := 504) hx hb dd_W_law_246 (by decide) (fun _ => ?_) (fun z => absurd rfl z)
  refine W.widen (k := lcN (n + 1)) (n := lsN (n + 1)) (by show 40 + 16 * n + 8 + 8 ≤ 40 + 16 * (n + 1); omega) (by show 60000 + 8000 * n + 4000 + 4000 ≤ 60000 + 8000 * (n + 1); omega) ?_
  exact kk u t H2 locs2 ⟨hW2, hS8, hS2, hl⟩

set_option maxHeartbeats 4000000 in
set_option maxRecDepth 100000 in
theorem law_c3 {p : Program} {l : Launch} {e : Env} {s : State} {m : MethodId} {below : List Frame} {meth : Method} {c : Code} {b L : Nat} {xs : Nat → Int32} {G : gC} {Q : State → Prop} (C : lwC p s m meth c b L xs G) (hL : L ≤ 3584) {i n x y : Nat} {X Y : mC} {H : Heap} {locs : List Loc} {ls : Array Slot} (hi : i + 7 ≤ L) (hn : n < 512) (V : lwV G s b i n x y X Y H locs ls) (kk : ∀ (X' Y' : mC) (H' : Heap) (locs' : List Loc), lwV G s b i (n + 1) x y X' Y' H' locs' ls → W p l e room_1 s m #[Value.ref b] below meth c H' locs' (lcN (n + 1)) (lsN (n + 1)) Q (F0 m 504 ls [])) : W p l e room_1 s m #[Value.ref b] below meth c H locs (lcN n) (lsN n) Q (F0 m 251 ls []) := by
  obtain ⟨⟨hx, hb, hr, hml, hown, hts, hX, hbl, hlocks, hgv⟩, hK, hZ⟩ := C
  have ht : ∀ w ∈ tb, w.before #[Value.ref b] s = true := fun w hw => hts w (tb_lw hw)
  have hbA : ¬ (fun q : Nat => s.heap.size ≤ q) b := Nat.not_le.mpr hbl
  obtain ⟨hW, hS9, hS, hl⟩ := V
  obtain ⟨fx, ex⟩ := lwS_x hS9
  obtain ⟨fy, ey⟩ := lwS_y hS9
  have j1 : vp_in (nI i + 1) L := sc_in (d := 1) rfl (by omega) (by omega)
  have j2 : vp_in (nI i + 2) L := sc_in (d := 2) rfl (by omega) (by omega)
  have j3 : vp_in (nI i + 3) L := sc_in (d := 3) rfl (by omega) (by omega)
  have j4 : vp_in (nI i + 4) L := sc_in (d := 4) rfl (by omega) (by omega)
  have j5 : vp_in (nI i + 5) L := sc_in (d := 5) rfl (by omega) (by omega)
  have j6 : vp_in (nI i + 6) L := sc_in (d := 6) rfl (by omega) (by omega)
  obtain ⟨p1, p2, h1, h2, h3⟩ := st_node hS9 (by omega) (lw_i xs i 1) (lw_j xs i 2 3) (lw_j xs i 4 5) (lw_i xs i 6)
  refine lv_aload_n hx hb dd_W_law_251 rfl (lv_at hl 1 rfl) ?_
  refine lv_aload_n hx hb dd_W_law_252 rfl (lv_at hl 0 rfl) ?_
  refine lv_iload_n hx hb dd_W_law_253 rfl (lv_at hl 3 rfl) ?_
  refine lv_iconst (v := 1) hx hb dd_W_law_254 (by decide) ?_
  refine lv_iadd hx hb dd_W_law_255 ?_
  refine va_sld hx hb hX hbl hbA hS j1 dd_W_law_256 ?_
  refine lt_i (lw_i xs i 1) rfl ?_
  refine lv_aload_n hx hb dd_W_law_257 rfl (lv_at hl 0 rfl) ?_
  refine lv_iload_n hx hb dd_W_law_258 rfl (lv_at hl 3 rfl) ?_
  refine lv_iconst (v := 2) hx hb dd_W_law_259 (by decide) ?_
  refine lv_iadd hx hb dd_W_law_260 ?_
  refine va_sld hx hb hX hbl hbA hS j2 dd_W_law_261 ?_
  refine lt_i (lw_i xs i 2) rfl ?_
  refine lv_i2l hx hb dd_W_law_262 rfl ?_
  refine lv_bipush (v := 32) hx hb dd_W_law_263 (by decide) ?_
  refine lv_lshl hx hb dd_W_law_265 rfl ?_
  refine lv_aload_n hx hb dd_W_law_266 rfl (lv_at hl 0 rfl) ?_
  refine lv_iload_n hx hb dd_W_law_267 rfl (lv_at hl 3 rfl) ?_
  refine lv_iconst (v := 3) hx hb dd_W_law_268 (by decide) ?_
  refine lv_iadd hx hb dd_W_law_269 ?_
  refine va_sld hx hb hX hbl hbA hS j3 dd_W_law_270 ?_
  refine lt_i (lw_i xs i 3) rfl ?_
  refine lv_i2l hx hb dd_W_law_271 rfl ?_
  refine lv_ldc2 (v := 4294967295) hx hb hown (ht _ wd_3_170) dd_W_law_272 ?_
  refine lv_land hx hb dd_W_law_275 ?_
  refine lv_lor hx hb dd_W_law_276 ?_
  refine lt_l (lw_j xs i 2 3) rfl ?_
  refine lv_aload_n hx hb dd_W_law_277 rfl (lv_at hl 0 rfl) ?_
  refine lv_iload_n hx hb dd_W_law_278 rfl (lv_at hl 3 rfl) ?_
  refine lv_iconst (v := 4) hx hb dd_W_law_279 (by decide) ?_
  refine lv_iadd hx hb dd_W_law_280 ?_
  refine va_sld hx hb hX hbl hbA hS j4 dd_W_law_281 ?_
  refine lt_i (lw_i xs i 4) rfl ?_
  refine lv_i2l hx hb dd_W_law_282 rfl ?_
  refine lv_bipush (v := 32) hx hb dd_W_law_283 (by decide) ?_
  refine lv_lshl hx hb dd_W_law_285 rfl ?_
  refine lv_aload_n hx hb dd_W_law_286 rfl (lv_at hl 0 rfl) ?_
  refine lv_iload_n hx hb dd_W_law_287 rfl (lv_at hl 3 rfl) ?_
  refine lv_iconst (v := 5) hx hb dd_W_law_288 (by decide) ?_
  refine lv_iadd hx hb dd_W_law_289 ?_
  refine va_sld hx hb hX hbl hbA hS j5 dd_W_law_290 ?_
  refine lt_i (lw_i xs i 5) rfl ?_
  refine lv_i2l hx hb dd_W_law_291 rfl ?_
  refine lv_ldc2 (v := 4294967295) hx hb hown (ht _ wd_3_170) dd_W_law_292 ?_
  refine lv_land hx hb dd_W_law_295 ?_
  refine lv_lor hx hb dd_W_law_296 ?_
  refine lt_l (lw_j xs i 4 5) rfl ?_
  refine lv_aload_n hx hb dd_W_law_297 rfl (lv_at hl 0 rfl) ?_
  refine lv_iload_n hx hb dd_W_law_298 rfl (lv_at hl 3 rfl) ?_
  refine lv_bipush (v := 6) hx hb dd_W_law_299 (by decide) ?_
  refine lv_iadd hx hb dd_W_law_301 ?_
  refine va_sld hx hb hX hbl hbA hS j6 dd_W_law_302 ?_
  refine lt_i (lw_i xs i 6) rfl ?_
  refine mx_V (As := [.int (lw_i xs i 1), .long (lw_j xs i 2 3), .long (lw_j xs i 4 5), .int (lw_i xs i 6)]) (rest := []) 4 (h1 l H.size) hx hb hml hown ht hW.1 hK hZ hS (pW_fX hW hS.1) hl.1 lk_W_29 (by decide +kernel) ⟨Nat.le_of_ble_eq_true rfl, Nat.le_of_ble_eq_true rfl⟩ ex rfl rfl rfl (Nat.le_of_ble_eq_true rfl) dd_W_law_303 ⟨by show 40 + 16 * n + 8 ≤ 600000; omega, by show 60000 + 8000 * n + 4000 ≤ 7302250; omega⟩ (fun v1 u H1 locs1 hp1 hM1 hd1 hle1 hk1 hS1 => ?_)
  obtain ⟨a, rfl, h4⟩ := h3 v1 u hp1
  have hW1 := pW_X hW hS.1 hM1 hd1 hk1
  refine lv_aload_n hx hb dd_W_law_306 rfl (lv_at hl 2 rfl) ?_
  refine lv_aload_n hx hb dd_W_law_307 rfl (lv_at hl 0 rfl) ?_
  refine lv_iload_n hx hb dd_W_law_308 rfl (lv_at hl 3 rfl) ?_
  refine lv_iconst (v := 1) hx hb dd_W_law_309 (by decide) ?_
  refine lv_iadd hx hb dd_W_law_310 ?_
  refine va_sld hx hb hX hbl hbA hS1 j1 dd_W_law_311 ?_
  refine lt_i (lw_i xs i 1) rfl ?_
  refine lv_aload_n hx hb dd_W_law_312 rfl (lv_at hl 0 rfl) ?_
  refine lv_iload_n hx hb dd_W_law_313 rfl (lv_at hl 3 rfl) ?_
  refine lv_iconst (v := 2) hx hb dd_W_law_314 (by decide) ?_
  refine lv_iadd hx hb dd_W_law_315 ?_
  refine va_sld hx hb hX hbl hbA hS1 j2 dd_W_law_316 ?_
  refine lt_i (lw_i xs i 2) rfl ?_
  refine lv_i2l hx hb dd_W_law_317 rfl ?_
  refine lv_bipush (v := 32) hx hb dd_W_law_318 (by decide) ?_
  refine lv_lshl hx hb dd_W_law_320 rfl ?_
  refine lv_aload_n hx hb dd_W_law_321 rfl (lv_at hl 0 rfl) ?_
  refine lv_iload_n hx hb dd_W_law_322 rfl (lv_at hl 3 rfl) ?_
  refine lv_iconst (v := 3) hx hb dd_W_law_323 (by decide) ?_
  refine lv_iadd hx hb dd_W_law_324 ?_
  refine va_sld hx hb hX hbl hbA hS1 j3 dd_W_law_325 ?_
  refine lt_i (lw_i xs i 3) rfl ?_
  refine lv_i2l hx hb dd_W_law_326 rfl ?_
  refine lv_ldc2 (v := 4294967295) hx hb hown (ht _ wd_3_170) dd_W_law_327 ?_
  refine lv_land hx hb dd_W_law_330 ?_
  refine lv_lor hx hb dd_W_law_331 ?_
  refine lt_l (lw_j xs i 2 3) rfl ?_
  refine lv_aload_n hx hb dd_W_law_332 rfl (lv_at hl 0 rfl) ?_
  refine lv_iload_n hx hb dd_W_law_333 rfl (lv_at hl 3 rfl) ?_
  refine lv_iconst (v := 4) hx hb dd_W_law_334 (by decide) ?_
  refine lv_iadd hx hb dd_W_law_335 ?_
  refine va_sld hx hb hX hbl hbA hS1 j4 dd_W_law_336 ?_
  refine lt_i (lw_i xs i 4) rfl ?_
  refine lv_i2l hx hb dd_W_law_337 rfl ?_
  refine lv_bipush (v := 32) hx hb dd_W_law_338 (by decide) ?_
  refine lv_lshl hx hb dd_W_law_340 rfl ?_
  refine lv_aload_n hx hb dd_W_law_341 rfl (lv_at hl 0 rfl) ?_
  refine lv_iload_n hx hb dd_W_law_342 rfl (lv_at hl 3 rfl) ?_
  refine lv_iconst (v := 5) hx hb dd_W_law_343 (by decide) ?_
  refine lv_iadd hx hb dd_W_law_344 ?_
  refine va_sld hx hb hX hbl hbA hS1 j5 dd_W_law_345 ?_
  refine lt_i (lw_i xs i 5) rfl ?_
  refine lv_i2l hx hb dd_W_law_346 rfl ?_
  refine lv_ldc2 (v := 4294967295) hx hb hown (ht _ wd_3_170) dd_W_law_347 ?_
  refine lv_land hx hb dd_W_law_350 ?_
  refine lv_lor hx hb dd_W_law_351 ?_
  refine lt_l (lw_j xs i 4 5) rfl ?_
  refine lv_aload_n hx hb dd_W_law_352 rfl (lv_at hl 0 rfl) ?_
  refine lv_iload_n hx hb dd_W_law_353 rfl (lv_at hl 3 rfl) ?_
  refine lv_bipush (v := 6) hx hb dd_W_law_354 (by decide) ?_
  refine lv_iadd hx hb dd_W_law_356 ?_
  refine va_sld hx hb hX hbl hbA hS1 j6 dd_W_law_357 ?_
  refine lt_i (lw_i xs i 6) rfl ?_
  refine mx_V (As := [.int (lw_i xs i 1), .long (lw_j xs i 2 3), .long (lw_j xs i 4 5), .int (lw_i xs i 6)]) (rest := [.int a]) 4 (h2 l H1.size) hx hb hml hown ht hW1.2.1 hK hZ hS1 (pW_fY hW1 hS1.1) hl.1 lk_W_33 (by decide +kernel) ⟨Nat.le_of_ble_eq_true rfl, Nat.le_of_ble_eq_true rfl⟩ ey rfl rfl rfl (Nat.le_of_ble_eq_true rfl) dd_W_law_358 ⟨by show 40 + 16 * n + 8 + 8 ≤ 600000; omega, by show 60000 + 8000 * n + 4000 + 4000 ≤ 7302250; omega⟩ (fun v2 t H2 locs2 hp2 hM2 hd2 hle2 hk2 hS2 => ?_)
  obtain ⟨rfl, hS8⟩ := h4 v2 t hp2
  have hW2 := pW_Y hW1 hS1.1 hM2 hd2 hk2
  refine lv_icmp_eq (tgt := 504) hx hb dd_W_law_361 (by decide) (fun _ => ?_) (fun z => absurd rfl z)
  refine W.widen (k := lcN (n + 1)) (n := lsN (n + 1)) (by show 40 + 16 * n + 8 + 8 ≤ 40 + 16 * (n + 1); omega) (by show 60000 + 8000 * n + 4000 + 4000 ≤ 60000 + 8000 * (n + 1); omega) ?_
  exact kk u t H2 locs2 ⟨hW2, hS8, hS2, hl⟩

set_option maxHeartbeats 4000000 in
set_option maxRecDepth 100000 in
theorem law_c4 {p : Program} {l : Launch} {e : Env} {s : State} {m : MethodId} {below : List Frame} {meth : Method} {c : Code} {b L : Nat} {xs : Nat → Int32} {G : gC} {Q : State → Prop} (C : lwC p s m meth c b L xs G) (hL : L ≤ 3584) {i n x y : Nat} {X Y : mC} {H : Heap} {locs : List Loc} {ls : Array Slot} (hi : i + 7 ≤ L) (hn : n < 512) (V : lwV G s b i n x y X Y H locs ls) (kk : ∀ (X' Y' : mC) (H' : Heap) (locs' : List Loc), lwV G s b i (n + 1) x y X' Y' H' locs' ls → W p l e room_1 s m #[Value.ref b] below meth c H' locs' (lcN (n + 1)) (lsN (n + 1)) Q (F0 m 504 ls [])) : W p l e room_1 s m #[Value.ref b] below meth c H locs (lcN n) (lsN n) Q (F0 m 366 ls []) := by
  obtain ⟨⟨hx, hb, hr, hml, hown, hts, hX, hbl, hlocks, hgv⟩, hK, hZ⟩ := C
  have ht : ∀ w ∈ tb, w.before #[Value.ref b] s = true := fun w hw => hts w (tb_lw hw)
  have hbA : ¬ (fun q : Nat => s.heap.size ≤ q) b := Nat.not_le.mpr hbl
  obtain ⟨hW, hS9, hS, hl⟩ := V
  obtain ⟨fx, ex⟩ := lwS_x hS9
  obtain ⟨fy, ey⟩ := lwS_y hS9
  obtain ⟨p1, p2, h1, h2, h3⟩ := st_check hS9
  refine lv_aload_n hx hb dd_W_law_366 rfl (lv_at hl 1 rfl) ?_
  refine mx_V (As := []) (rest := []) 0 (h1 l H.size) hx hb hml hown ht hW.1 hK hZ hS (pW_fX hW hS.1) hl.1 lk_W_34 (by decide +kernel) ⟨Nat.le_of_ble_eq_true rfl, Nat.le_of_ble_eq_true rfl⟩ ex rfl rfl rfl (Nat.le_of_ble_eq_true rfl) dd_W_law_367 ⟨by show 40 + 16 * n + 8 ≤ 600000; omega, by show 60000 + 8000 * n + 4000 ≤ 7302250; omega⟩ (fun v1 u H1 locs1 hp1 hM1 hd1 hle1 hk1 hS1 => ?_)
  obtain ⟨a, rfl, h4⟩ := h3 v1 u hp1
  have hW1 := pW_X hW hS.1 hM1 hd1 hk1
  refine lv_aload_n hx hb dd_W_law_370 rfl (lv_at hl 2 rfl) ?_
  refine mx_V (As := []) (rest := [.int a]) 0 (h2 l H1.size) hx hb hml hown ht hW1.2.1 hK hZ hS1 (pW_fY hW1 hS1.1) hl.1 lk_W_38 (by decide +kernel) ⟨Nat.le_of_ble_eq_true rfl, Nat.le_of_ble_eq_true rfl⟩ ey rfl rfl rfl (Nat.le_of_ble_eq_true rfl) dd_W_law_371 ⟨by show 40 + 16 * n + 8 + 8 ≤ 600000; omega, by show 60000 + 8000 * n + 4000 + 4000 ≤ 7302250; omega⟩ (fun v2 t H2 locs2 hp2 hM2 hd2 hle2 hk2 hS2 => ?_)
  obtain ⟨rfl, hS8⟩ := h4 v2 t hp2
  have hW2 := pW_Y hW1 hS1.1 hM2 hd2 hk2
  refine lv_icmp_eq (tgt := 504) hx hb dd_W_law_374 (by decide) (fun _ => ?_) (fun z => absurd rfl z)
  refine W.widen (k := lcN (n + 1)) (n := lsN (n + 1)) (by show 40 + 16 * n + 8 + 8 ≤ 40 + 16 * (n + 1); omega) (by show 60000 + 8000 * n + 4000 + 4000 ≤ 60000 + 8000 * (n + 1); omega) ?_
  exact kk u t H2 locs2 ⟨hW2, hS8, hS2, hl⟩

set_option maxHeartbeats 4000000 in
set_option maxRecDepth 100000 in
theorem law_c5 {p : Program} {l : Launch} {e : Env} {s : State} {m : MethodId} {below : List Frame} {meth : Method} {c : Code} {b L : Nat} {xs : Nat → Int32} {G : gC} {Q : State → Prop} (C : lwC p s m meth c b L xs G) (hL : L ≤ 3584) {i n x y : Nat} {X Y : mC} {H : Heap} {locs : List Loc} {ls : Array Slot} (hi : i + 7 ≤ L) (hn : n < 512) (V : lwV G s b i n x y X Y H locs ls) (kk : ∀ (X' Y' : mC) (H' : Heap) (locs' : List Loc), lwV G s b i (n + 1) x y X' Y' H' locs' ls → W p l e room_1 s m #[Value.ref b] below meth c H' locs' (lcN (n + 1)) (lsN (n + 1)) Q (F0 m 504 ls [])) : W p l e room_1 s m #[Value.ref b] below meth c H locs (lcN n) (lsN n) Q (F0 m 379 ls []) := by
  obtain ⟨⟨hx, hb, hr, hml, hown, hts, hX, hbl, hlocks, hgv⟩, hK, hZ⟩ := C
  have ht : ∀ w ∈ tb, w.before #[Value.ref b] s = true := fun w hw => hts w (tb_lw hw)
  have hbA : ¬ (fun q : Nat => s.heap.size ≤ q) b := Nat.not_le.mpr hbl
  obtain ⟨hW, hS9, hS, hl⟩ := V
  obtain ⟨fx, ex⟩ := lwS_x hS9
  obtain ⟨fy, ey⟩ := lwS_y hS9
  have j1 : vp_in (nI i + 1) L := sc_in (d := 1) rfl (by omega) (by omega)
  obtain ⟨a, p2, h1, h2, h4⟩ := st_type hS9 (lw_i xs i 1)
  refine lv_aload_n hx hb dd_W_law_379 rfl (lv_at hl 1 rfl) ?_
  refine lv_aload_n hx hb dd_W_law_380 rfl (lv_at hl 0 rfl) ?_
  refine lv_iload_n hx hb dd_W_law_381 rfl (lv_at hl 3 rfl) ?_
  refine lv_iconst (v := 1) hx hb dd_W_law_382 (by decide) ?_
  refine lv_iadd hx hb dd_W_law_383 ?_
  refine va_sld hx hb hX hbl hbA hS j1 dd_W_law_384 ?_
  refine lt_i (lw_i xs i 1) rfl ?_
  refine mc_V (As := [.int (lw_i xs i 1)]) (rest := []) 1 (h1 l) hx hb hml hown ht hW.1 hK hl.1 lk_W_39 (by decide +kernel) ⟨Nat.le_of_ble_eq_true rfl, Nat.le_of_ble_eq_true rfl⟩ ex rfl rfl rfl (Nat.le_of_ble_eq_true rfl) dd_W_law_385 ⟨by show 40 + 16 * n ≤ 600000; omega, by show 60000 + 8000 * n ≤ 7302250; omega⟩ ?_
  refine lv_aload_n hx hb dd_W_law_388 rfl (lv_at hl 2 rfl) ?_
  refine lv_aload_n hx hb dd_W_law_389 rfl (lv_at hl 0 rfl) ?_
  refine lv_iload_n hx hb dd_W_law_390 rfl (lv_at hl 3 rfl) ?_
  refine lv_iconst (v := 1) hx hb dd_W_law_391 (by decide) ?_
  refine lv_iadd hx hb dd_W_law_392 ?_
  refine va_sld hx hb hX hbl hbA hS j1 dd_W_law_393 ?_
  refine lt_i (lw_i xs i 1) rfl ?_
  refine mx_V (As := [.int (lw_i xs i 1)]) (rest := [.int a]) 1 (h2 l H.size) hx hb hml hown ht hW.2.1 hK hZ hS (pW_fY hW hS.1) hl.1 lk_W_43 (by decide +kernel) ⟨Nat.le_of_ble_eq_true rfl, Nat.le_of_ble_eq_true rfl⟩ ey rfl rfl rfl (Nat.le_of_ble_eq_true rfl) dd_W_law_394 ⟨by show 40 + 16 * n + 8 ≤ 600000; omega, by show 60000 + 8000 * n + 4000 ≤ 7302250; omega⟩ (fun v2 t H2 locs2 hp2 hM2 hd2 hle2 hk2 hS2 => ?_)
  obtain ⟨rfl, hS8⟩ := h4 v2 t hp2
  have hW2 := pW_Y hW hS.1 hM2 hd2 hk2
  refine lv_icmp_eq (tgt := 504) hx hb dd_W_law_397 (by decide) (fun _ => ?_) (fun z => absurd rfl z)
  refine W.widen (k := lcN (n + 1)) (n := lsN (n + 1)) (by show 40 + 16 * n + 8 ≤ 40 + 16 * (n + 1); omega) (by show 60000 + 8000 * n + 4000 ≤ 60000 + 8000 * (n + 1); omega) ?_
  exact kk X t H2 locs2 ⟨hW2, hS8, hS2, hl⟩

set_option maxHeartbeats 4000000 in
set_option maxRecDepth 100000 in
theorem law_c6 {p : Program} {l : Launch} {e : Env} {s : State} {m : MethodId} {below : List Frame} {meth : Method} {c : Code} {b L : Nat} {xs : Nat → Int32} {G : gC} {Q : State → Prop} (C : lwC p s m meth c b L xs G) (hL : L ≤ 3584) {i n x y : Nat} {X Y : mC} {H : Heap} {locs : List Loc} {ls : Array Slot} (hi : i + 7 ≤ L) (hn : n < 512) (V : lwV G s b i n x y X Y H locs ls) (kk : ∀ (X' Y' : mC) (H' : Heap) (locs' : List Loc), lwV G s b i (n + 1) x y X' Y' H' locs' ls → W p l e room_1 s m #[Value.ref b] below meth c H' locs' (lcN (n + 1)) (lsN (n + 1)) Q (F0 m 504 ls [])) : W p l e room_1 s m #[Value.ref b] below meth c H locs (lcN n) (lsN n) Q (F0 m 402 ls []) := by
  obtain ⟨⟨hx, hb, hr, hml, hown, hts, hX, hbl, hlocks, hgv⟩, hK, hZ⟩ := C
  have ht : ∀ w ∈ tb, w.before #[Value.ref b] s = true := fun w hw => hts w (tb_lw hw)
  have hbA : ¬ (fun q : Nat => s.heap.size ≤ q) b := Nat.not_le.mpr hbl
  obtain ⟨hW, hS9, hS, hl⟩ := V
  obtain ⟨fx, ex⟩ := lwS_x hS9
  obtain ⟨fy, ey⟩ := lwS_y hS9
  have j1 : vp_in (nI i + 1) L := sc_in (d := 1) rfl (by omega) (by omega)
  obtain ⟨a, p2, h1, h2, h4⟩ := st_binder hS9 (lw_i xs i 1)
  refine lv_aload_n hx hb dd_W_law_402 rfl (lv_at hl 1 rfl) ?_
  refine lv_aload_n hx hb dd_W_law_403 rfl (lv_at hl 0 rfl) ?_
  refine lv_iload_n hx hb dd_W_law_404 rfl (lv_at hl 3 rfl) ?_
  refine lv_iconst (v := 1) hx hb dd_W_law_405 (by decide) ?_
  refine lv_iadd hx hb dd_W_law_406 ?_
  refine va_sld hx hb hX hbl hbA hS j1 dd_W_law_407 ?_
  refine lt_i (lw_i xs i 1) rfl ?_
  refine mc_V (As := [.int (lw_i xs i 1)]) (rest := []) 1 (h1 l) hx hb hml hown ht hW.1 hK hl.1 lk_W_44 (by decide +kernel) ⟨Nat.le_of_ble_eq_true rfl, Nat.le_of_ble_eq_true rfl⟩ ex rfl rfl rfl (Nat.le_of_ble_eq_true rfl) dd_W_law_408 ⟨by show 40 + 16 * n ≤ 600000; omega, by show 60000 + 8000 * n ≤ 7302250; omega⟩ ?_
  refine lv_aload_n hx hb dd_W_law_411 rfl (lv_at hl 2 rfl) ?_
  refine lv_aload_n hx hb dd_W_law_412 rfl (lv_at hl 0 rfl) ?_
  refine lv_iload_n hx hb dd_W_law_413 rfl (lv_at hl 3 rfl) ?_
  refine lv_iconst (v := 1) hx hb dd_W_law_414 (by decide) ?_
  refine lv_iadd hx hb dd_W_law_415 ?_
  refine va_sld hx hb hX hbl hbA hS j1 dd_W_law_416 ?_
  refine lt_i (lw_i xs i 1) rfl ?_
  refine mx_V (As := [.int (lw_i xs i 1)]) (rest := [.int a]) 1 (h2 l H.size) hx hb hml hown ht hW.2.1 hK hZ hS (pW_fY hW hS.1) hl.1 lk_W_47 (by decide +kernel) ⟨Nat.le_of_ble_eq_true rfl, Nat.le_of_ble_eq_true rfl⟩ ey rfl rfl rfl (Nat.le_of_ble_eq_true rfl) dd_W_law_417 ⟨by show 40 + 16 * n + 8 ≤ 600000; omega, by show 60000 + 8000 * n + 4000 ≤ 7302250; omega⟩ (fun v2 t H2 locs2 hp2 hM2 hd2 hle2 hk2 hS2 => ?_)
  obtain ⟨rfl, hS8⟩ := h4 v2 t hp2
  have hW2 := pW_Y hW hS.1 hM2 hd2 hk2
  refine lv_icmp_eq (tgt := 504) hx hb dd_W_law_420 (by decide) (fun _ => ?_) (fun z => absurd rfl z)
  refine W.widen (k := lcN (n + 1)) (n := lsN (n + 1)) (by show 40 + 16 * n + 8 ≤ 40 + 16 * (n + 1); omega) (by show 60000 + 8000 * n + 4000 ≤ 60000 + 8000 * (n + 1); omega) ?_
  exact kk X t H2 locs2 ⟨hW2, hS8, hS2, hl⟩

set_option maxHeartbeats 4000000 in
set_option maxRecDepth 100000 in
theorem law_c7 {p : Program} {l : Launch} {e : Env} {s : State} {m : MethodId} {below : List Frame} {meth : Method} {c : Code} {b L : Nat} {xs : Nat → Int32} {G : gC} {Q : State → Prop} (C : lwC p s m meth c b L xs G) (hL : L ≤ 3584) {i n x y : Nat} {X Y : mC} {H : Heap} {locs : List Loc} {ls : Array Slot} (hi : i + 7 ≤ L) (hn : n < 512) (V : lwV G s b i n x y X Y H locs ls) (kk : ∀ (X' Y' : mC) (H' : Heap) (locs' : List Loc), lwV G s b i (n + 1) x y X' Y' H' locs' ls → W p l e room_1 s m #[Value.ref b] below meth c H' locs' (lcN (n + 1)) (lsN (n + 1)) Q (F0 m 504 ls [])) : W p l e room_1 s m #[Value.ref b] below meth c H locs (lcN n) (lsN n) Q (F0 m 425 ls []) := by
  obtain ⟨⟨hx, hb, hr, hml, hown, hts, hX, hbl, hlocks, hgv⟩, hK, hZ⟩ := C
  have ht : ∀ w ∈ tb, w.before #[Value.ref b] s = true := fun w hw => hts w (tb_lw hw)
  have hbA : ¬ (fun q : Nat => s.heap.size ≤ q) b := Nat.not_le.mpr hbl
  obtain ⟨hW, hS9, hS, hl⟩ := V
  obtain ⟨fx, ex⟩ := lwS_x hS9
  obtain ⟨fy, ey⟩ := lwS_y hS9
  have j1 : vp_in (nI i + 1) L := sc_in (d := 1) rfl (by omega) (by omega)
  obtain ⟨a, p2, h1, h2, h4⟩ := st_target hS9 (lw_i xs i 1)
  refine lv_aload_n hx hb dd_W_law_425 rfl (lv_at hl 1 rfl) ?_
  refine lv_aload_n hx hb dd_W_law_426 rfl (lv_at hl 0 rfl) ?_
  refine lv_iload_n hx hb dd_W_law_427 rfl (lv_at hl 3 rfl) ?_
  refine lv_iconst (v := 1) hx hb dd_W_law_428 (by decide) ?_
  refine lv_iadd hx hb dd_W_law_429 ?_
  refine va_sld hx hb hX hbl hbA hS j1 dd_W_law_430 ?_
  refine lt_i (lw_i xs i 1) rfl ?_
  refine mc_V (As := [.int (lw_i xs i 1)]) (rest := []) 1 (h1 l) hx hb hml hown ht hW.1 hK hl.1 lk_W_48 (by decide +kernel) ⟨Nat.le_of_ble_eq_true rfl, Nat.le_of_ble_eq_true rfl⟩ ex rfl rfl rfl (Nat.le_of_ble_eq_true rfl) dd_W_law_431 ⟨by show 40 + 16 * n ≤ 600000; omega, by show 60000 + 8000 * n ≤ 7302250; omega⟩ ?_
  refine lv_aload_n hx hb dd_W_law_434 rfl (lv_at hl 2 rfl) ?_
  refine lv_aload_n hx hb dd_W_law_435 rfl (lv_at hl 0 rfl) ?_
  refine lv_iload_n hx hb dd_W_law_436 rfl (lv_at hl 3 rfl) ?_
  refine lv_iconst (v := 1) hx hb dd_W_law_437 (by decide) ?_
  refine lv_iadd hx hb dd_W_law_438 ?_
  refine va_sld hx hb hX hbl hbA hS j1 dd_W_law_439 ?_
  refine lt_i (lw_i xs i 1) rfl ?_
  refine mx_V (As := [.int (lw_i xs i 1)]) (rest := [.int a]) 1 (h2 l H.size) hx hb hml hown ht hW.2.1 hK hZ hS (pW_fY hW hS.1) hl.1 lk_W_51 (by decide +kernel) ⟨Nat.le_of_ble_eq_true rfl, Nat.le_of_ble_eq_true rfl⟩ ey rfl rfl rfl (Nat.le_of_ble_eq_true rfl) dd_W_law_440 ⟨by show 40 + 16 * n + 8 ≤ 600000; omega, by show 60000 + 8000 * n + 4000 ≤ 7302250; omega⟩ (fun v2 t H2 locs2 hp2 hM2 hd2 hle2 hk2 hS2 => ?_)
  obtain ⟨rfl, hS8⟩ := h4 v2 t hp2
  have hW2 := pW_Y hW hS.1 hM2 hd2 hk2
  refine lv_icmp_eq (tgt := 504) hx hb dd_W_law_443 (by decide) (fun _ => ?_) (fun z => absurd rfl z)
  refine W.widen (k := lcN (n + 1)) (n := lsN (n + 1)) (by show 40 + 16 * n + 8 ≤ 40 + 16 * (n + 1); omega) (by show 60000 + 8000 * n + 4000 ≤ 60000 + 8000 * (n + 1); omega) ?_
  exact kk X t H2 locs2 ⟨hW2, hS8, hS2, hl⟩

set_option maxHeartbeats 4000000 in
set_option maxRecDepth 100000 in
theorem law_c8 {p : Program} {l : Launch} {e : Env} {s : State} {m : MethodId} {below : List Frame} {meth : Method} {c : Code} {b L : Nat} {xs : Nat → Int32} {G : gC} {Q : State → Prop} (C : lwC p s m meth c b L xs G) (hL : L ≤ 3584) {i n x y : Nat} {X Y : mC} {H : Heap} {locs : List Loc} {ls : Array Slot} (hi : i + 7 ≤ L) (hn : n < 512) (V : lwV G s b i n x y X Y H locs ls) (kk : ∀ (X' Y' : mC) (H' : Heap) (locs' : List Loc), lwV G s b i (n + 1) x y X' Y' H' locs' ls → W p l e room_1 s m #[Value.ref b] below meth c H' locs' (lcN (n + 1)) (lsN (n + 1)) Q (F0 m 504 ls [])) : W p l e room_1 s m #[Value.ref b] below meth c H locs (lcN n) (lsN n) Q (F0 m 448 ls []) := by
  obtain ⟨⟨hx, hb, hr, hml, hown, hts, hX, hbl, hlocks, hgv⟩, hK, hZ⟩ := C
  have ht : ∀ w ∈ tb, w.before #[Value.ref b] s = true := fun w hw => hts w (tb_lw hw)
  have hbA : ¬ (fun q : Nat => s.heap.size ≤ q) b := Nat.not_le.mpr hbl
  obtain ⟨hW, hS9, hS, hl⟩ := V
  obtain ⟨fx, ex⟩ := lwS_x hS9
  obtain ⟨fy, ey⟩ := lwS_y hS9
  have j1 : vp_in (nI i + 1) L := sc_in (d := 1) rfl (by omega) (by omega)
  have j2 : vp_in (nI i + 2) L := sc_in (d := 2) rfl (by omega) (by omega)
  obtain ⟨a, p2, h1, h2, h4⟩ := st_of hS9 (lw_i xs i 1) (lw_i xs i 2)
  refine lv_aload_n hx hb dd_W_law_448 rfl (lv_at hl 1 rfl) ?_
  refine lv_aload_n hx hb dd_W_law_449 rfl (lv_at hl 0 rfl) ?_
  refine lv_iload_n hx hb dd_W_law_450 rfl (lv_at hl 3 rfl) ?_
  refine lv_iconst (v := 1) hx hb dd_W_law_451 (by decide) ?_
  refine lv_iadd hx hb dd_W_law_452 ?_
  refine va_sld hx hb hX hbl hbA hS j1 dd_W_law_453 ?_
  refine lt_i (lw_i xs i 1) rfl ?_
  refine lv_aload_n hx hb dd_W_law_454 rfl (lv_at hl 0 rfl) ?_
  refine lv_iload_n hx hb dd_W_law_455 rfl (lv_at hl 3 rfl) ?_
  refine lv_iconst (v := 2) hx hb dd_W_law_456 (by decide) ?_
  refine lv_iadd hx hb dd_W_law_457 ?_
  refine va_sld hx hb hX hbl hbA hS j2 dd_W_law_458 ?_
  refine lt_i (lw_i xs i 2) rfl ?_
  refine mc_V (As := [.int (lw_i xs i 1), .int (lw_i xs i 2)]) (rest := []) 2 (h1 l) hx hb hml hown ht hW.1 hK hl.1 lk_W_52 (by decide +kernel) ⟨Nat.le_of_ble_eq_true rfl, Nat.le_of_ble_eq_true rfl⟩ ex rfl rfl rfl (Nat.le_of_ble_eq_true rfl) dd_W_law_459 ⟨by show 40 + 16 * n ≤ 600000; omega, by show 60000 + 8000 * n ≤ 7302250; omega⟩ ?_
  refine lv_aload_n hx hb dd_W_law_462 rfl (lv_at hl 2 rfl) ?_
  refine lv_aload_n hx hb dd_W_law_463 rfl (lv_at hl 0 rfl) ?_
  refine lv_iload_n hx hb dd_W_law_464 rfl (lv_at hl 3 rfl) ?_
  refine lv_iconst (v := 1) hx hb dd_W_law_465 (by decide) ?_
  refine lv_iadd hx hb dd_W_law_466 ?_
  refine va_sld hx hb hX hbl hbA hS j1 dd_W_law_467 ?_
  refine lt_i (lw_i xs i 1) rfl ?_
  refine lv_aload_n hx hb dd_W_law_468 rfl (lv_at hl 0 rfl) ?_
  refine lv_iload_n hx hb dd_W_law_469 rfl (lv_at hl 3 rfl) ?_
  refine lv_iconst (v := 2) hx hb dd_W_law_470 (by decide) ?_
  refine lv_iadd hx hb dd_W_law_471 ?_
  refine va_sld hx hb hX hbl hbA hS j2 dd_W_law_472 ?_
  refine lt_i (lw_i xs i 2) rfl ?_
  refine mx_V (As := [.int (lw_i xs i 1), .int (lw_i xs i 2)]) (rest := [.int a]) 2 (h2 l H.size) hx hb hml hown ht hW.2.1 hK hZ hS (pW_fY hW hS.1) hl.1 lk_W_56 (by decide +kernel) ⟨Nat.le_of_ble_eq_true rfl, Nat.le_of_ble_eq_true rfl⟩ ey rfl rfl rfl (Nat.le_of_ble_eq_true rfl) dd_W_law_473 ⟨by show 40 + 16 * n + 8 ≤ 600000; omega, by show 60000 + 8000 * n + 4000 ≤ 7302250; omega⟩ (fun v2 t H2 locs2 hp2 hM2 hd2 hle2 hk2 hS2 => ?_)
  obtain ⟨rfl, hS8⟩ := h4 v2 t hp2
  have hW2 := pW_Y hW hS.1 hM2 hd2 hk2
  refine lv_icmp_eq (tgt := 504) hx hb dd_W_law_476 (by decide) (fun _ => ?_) (fun z => absurd rfl z)
  refine W.widen (k := lcN (n + 1)) (n := lsN (n + 1)) (by show 40 + 16 * n + 8 ≤ 40 + 16 * (n + 1); omega) (by show 60000 + 8000 * n + 4000 ≤ 60000 + 8000 * (n + 1); omega) ?_
  exact kk X t H2 locs2 ⟨hW2, hS8, hS2, hl⟩

set_option maxHeartbeats 4000000 in
set_option maxRecDepth 100000 in
theorem law_c9 {p : Program} {l : Launch} {e : Env} {s : State} {m : MethodId} {below : List Frame} {meth : Method} {c : Code} {b L : Nat} {xs : Nat → Int32} {G : gC} {Q : State → Prop} (C : lwC p s m meth c b L xs G) (hL : L ≤ 3584) {i n x y : Nat} {X Y : mC} {H : Heap} {locs : List Loc} {ls : Array Slot} (hi : i + 7 ≤ L) (hn : n < 512) (V : lwV G s b i n x y X Y H locs ls) (kk : ∀ (X' Y' : mC) (H' : Heap) (locs' : List Loc), lwV G s b i (n + 1) x y X' Y' H' locs' ls → W p l e room_1 s m #[Value.ref b] below meth c H' locs' (lcN (n + 1)) (lsN (n + 1)) Q (F0 m 504 ls [])) : W p l e room_1 s m #[Value.ref b] below meth c H locs (lcN n) (lsN n) Q (F0 m 481 ls []) := by
  obtain ⟨⟨hx, hb, hr, hml, hown, hts, hX, hbl, hlocks, hgv⟩, hK, hZ⟩ := C
  have ht : ∀ w ∈ tb, w.before #[Value.ref b] s = true := fun w hw => hts w (tb_lw hw)
  have hbA : ¬ (fun q : Nat => s.heap.size ≤ q) b := Nat.not_le.mpr hbl
  obtain ⟨hW, hS9, hS, hl⟩ := V
  obtain ⟨fx, ex⟩ := lwS_x hS9
  obtain ⟨fy, ey⟩ := lwS_y hS9
  have j1 : vp_in (nI i + 1) L := sc_in (d := 1) rfl (by omega) (by omega)
  obtain ⟨a, p2, h1, h2, h4⟩ := st_look hS9 (lw_i xs i 1)
  refine lv_aload_n hx hb dd_W_law_481 rfl (lv_at hl 1 rfl) ?_
  refine lv_aload_n hx hb dd_W_law_482 rfl (lv_at hl 0 rfl) ?_
  refine lv_iload_n hx hb dd_W_law_483 rfl (lv_at hl 3 rfl) ?_
  refine lv_iconst (v := 1) hx hb dd_W_law_484 (by decide) ?_
  refine lv_iadd hx hb dd_W_law_485 ?_
  refine va_sld hx hb hX hbl hbA hS j1 dd_W_law_486 ?_
  refine lt_i (lw_i xs i 1) rfl ?_
  refine mc_V (As := [.int (lw_i xs i 1)]) (rest := []) 1 (h1 l) hx hb hml hown ht hW.1 hK hl.1 lk_W_57 (by decide +kernel) ⟨Nat.le_of_ble_eq_true rfl, Nat.le_of_ble_eq_true rfl⟩ ex rfl rfl rfl (Nat.le_of_ble_eq_true rfl) dd_W_law_487 ⟨by show 40 + 16 * n ≤ 600000; omega, by show 60000 + 8000 * n ≤ 7302250; omega⟩ ?_
  refine lv_aload_n hx hb dd_W_law_490 rfl (lv_at hl 2 rfl) ?_
  refine lv_aload_n hx hb dd_W_law_491 rfl (lv_at hl 0 rfl) ?_
  refine lv_iload_n hx hb dd_W_law_492 rfl (lv_at hl 3 rfl) ?_
  refine lv_iconst (v := 1) hx hb dd_W_law_493 (by decide) ?_
  refine lv_iadd hx hb dd_W_law_494 ?_
  refine va_sld hx hb hX hbl hbA hS j1 dd_W_law_495 ?_
  refine lt_i (lw_i xs i 1) rfl ?_
  refine mx_V (As := [.int (lw_i xs i 1)]) (rest := [.int a]) 1 (h2 l H.size) hx hb hml hown ht hW.2.1 hK hZ hS (pW_fY hW hS.1) hl.1 lk_W_60 (by decide +kernel) ⟨Nat.le_of_ble_eq_true rfl, Nat.le_of_ble_eq_true rfl⟩ ey rfl rfl rfl (Nat.le_of_ble_eq_true rfl) dd_W_law_496 ⟨by show 40 + 16 * n + 8 ≤ 600000; omega, by show 60000 + 8000 * n + 4000 ≤ 7302250; omega⟩ (fun v2 t H2 locs2 hp2 hM2 hd2 hle2 hk2 hS2 => ?_)
  obtain ⟨rfl, hS8⟩ := h4 v2 t hp2
  have hW2 := pW_Y hW hS.1 hM2 hd2 hk2
  refine lv_icmp_eq (tgt := 504) hx hb dd_W_law_499 (by decide) (fun _ => ?_) (fun z => absurd rfl z)
  refine W.widen (k := lcN (n + 1)) (n := lsN (n + 1)) (by show 40 + 16 * n + 8 ≤ 40 + 16 * (n + 1); omega) (by show 60000 + 8000 * n + 4000 ≤ 60000 + 8000 * (n + 1); omega) ?_
  exact kk X t H2 locs2 ⟨hW2, hS8, hS2, hl⟩
