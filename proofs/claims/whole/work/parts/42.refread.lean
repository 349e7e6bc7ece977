set_option maxHeartbeats 4000000 in
set_option maxRecDepth 100000 in
theorem cc_M_hasSecond {l : Launch} {G : gC} {M : mC} {k : Int32} : cR l yy_M_hasSecond bb_M_hasSecond 1 (some .boolean) 0 G M [.int k] (.int (bI (k_isCase k))) := by
  refine me_R (by decide) (Nat.le_of_ble_eq_true rfl) ?_
  intro p e s m below meth c ls hx hb hr hlocks hml hown ht hM hK hl
  have hown : s.vm.findClass RR_M = some m.cls := hown
  have hl : lv_has ls 1 [(0, .int k)] := hl
  refine lv_iload_n hx hb dd_M_hasSecond_0 rfl (lv_at hl 0 rfl) ?_
  refine lv_bipush (v := 12) hx hb dd_M_hasSecond_1 (by decide) ?_
  refine lv_icmp_eq (tgt := 12) hx hb dd_M_hasSecond_3 (by decide) (fun c1 => ?_) (fun c1 => ?_)
  · refine lv_iconst (v := 1) hx hb dd_M_hasSecond_12 (by decide) ?_
    refine lv_goto (tgt := 17) hx hb dd_M_hasSecond_13 (by decide) ?_
    exact mr_i hx hb hr hlocks rfl (by simp [bI, k_isCase, eq_true c1]) dd_M_hasSecond_17
  · refine lv_iload_n hx hb dd_M_hasSecond_6 rfl (lv_at hl 0 rfl) ?_
    refine lv_bipush (v := 22) hx hb dd_M_hasSecond_7 (by decide) ?_
    refine lv_icmp_ne (tgt := 16) hx hb dd_M_hasSecond_9 (by decide) (fun c2 => ?_) (fun c2 => ?_)
    · refine lv_iconst (v := 0) hx hb dd_M_hasSecond_16 (by decide) ?_
      exact mr_i hx hb hr hlocks rfl (by simp [bI, k_isCase, c1, c2]) dd_M_hasSecond_17
    · refine lv_iconst (v := 1) hx hb dd_M_hasSecond_12 (by decide) ?_
      refine lv_goto (tgt := 17) hx hb dd_M_hasSecond_13 (by decide) ?_
      exact mr_i hx hb hr hlocks rfl (by simp [bI, k_isCase, c1, eq_true c2]) dd_M_hasSecond_17

set_option maxHeartbeats 4000000 in
set_option maxRecDepth 100000 in
theorem cc_M_due {l : Launch} {G : gC} {M : mC} {k : Int32} : cR l yy_M_due bb_M_due 1 (some .int) 0 G M [.int k] (.int (m_due k)) := by
  refine me_R (by decide) (Nat.le_of_ble_eq_true rfl) ?_
  intro p e s m below meth c ls hx hb hr hlocks hml hown ht hM hK hl
  have hown : s.vm.findClass RR_M = some m.cls := hown
  have hl : lv_has ls 1 [(0, .int k)] := hl
  refine lv_iload_n hx hb dd_M_due_0 rfl (lv_at hl 0 rfl) ?_
  refine lv_bipush (v := 14) hx hb dd_M_due_1 (by decide) ?_
  refine lv_icmp_eq (tgt := 18) hx hb dd_M_due_3 (by decide) (fun c1 => ?_) (fun c1 => ?_)
  · refine lv_iconst (v := -1) hx hb dd_M_due_18 (by decide) ?_
    exact mr_i hx hb hr hlocks rfl (by simp [bI, m_due, eq_true c1]) dd_M_due_19
  · refine lv_iload_n hx hb dd_M_due_6 rfl (lv_at hl 0 rfl) ?_
    refine lv_bipush (v := 15) hx hb dd_M_due_7 (by decide) ?_
    refine lv_icmp_eq (tgt := 18) hx hb dd_M_due_9 (by decide) (fun c2 => ?_) (fun c2 => ?_)
    · refine lv_iconst (v := -1) hx hb dd_M_due_18 (by decide) ?_
      exact mr_i hx hb hr hlocks rfl (by simp [bI, m_due, c1, eq_true c2]) dd_M_due_19
    · refine lv_iload_n hx hb dd_M_due_12 rfl (lv_at hl 0 rfl) ?_
      refine lv_bipush (v := 23) hx hb dd_M_due_13 (by decide) ?_
      refine lv_icmp_ne (tgt := 20) hx hb dd_M_due_15 (by decide) (fun c3 => ?_) (fun c3 => ?_)
      · refine lv_iload_n hx hb dd_M_due_20 rfl (lv_at hl 0 rfl) ?_
        refine lv_iconst (v := 3) hx hb dd_M_due_21 (by decide) ?_
        refine lv_icmp_ge (tgt := 27) hx hb dd_M_due_22 (by decide) (fun c4 => ?_) (fun c4 => ?_)
        · refine lv_iload_n hx hb dd_M_due_27 rfl (lv_at hl 0 rfl) ?_
          refine lv_bipush (v := 10) hx hb dd_M_due_28 (by decide) ?_
          refine lv_icmp_eq (tgt := 51) hx hb dd_M_due_30 (by decide) (fun c5 => ?_) (fun c5 => ?_)
          · refine lv_iconst (v := 3) hx hb dd_M_due_51 (by decide) ?_
            refine lv_goto (tgt := 78) hx hb dd_M_due_52 (by decide) ?_
            exact mr_i hx hb hr hlocks rfl (by simp [bI, m_due, c1, c2, c3, c4, eq_true c5]) dd_M_due_78
          · refine lv_iload_n hx hb dd_M_due_33 rfl (lv_at hl 0 rfl) ?_
            refine lv_bipush (v := 12) hx hb dd_M_due_34 (by decide) ?_
            refine lv_icmp_eq (tgt := 51) hx hb dd_M_due_36 (by decide) (fun c6 => ?_) (fun c6 => ?_)
            · refine lv_iconst (v := 3) hx hb dd_M_due_51 (by decide) ?_
              refine lv_goto (tgt := 78) hx hb dd_M_due_52 (by decide) ?_
              exact mr_i hx hb hr hlocks rfl (by simp [bI, m_due, c1, c2, c3, c4, c5, eq_true c6]) dd_M_due_78
            · refine lv_iload_n hx hb dd_M_due_39 rfl (lv_at hl 0 rfl) ?_
              refine lv_bipush (v := 20) hx hb dd_M_due_40 (by decide) ?_
              refine lv_icmp_eq (tgt := 51) hx hb dd_M_due_42 (by decide) (fun c7 => ?_) (fun c7 => ?_)
              · refine lv_iconst (v := 3) hx hb dd_M_due_51 (by decide) ?_
                refine lv_goto (tgt := 78) hx hb dd_M_due_52 (by decide) ?_
                exact mr_i hx hb hr hlocks rfl (by simp [bI, m_due, c1, c2, c3, c4, c5, c6, eq_true c7]) dd_M_due_78
              · refine lv_iload_n hx hb dd_M_due_45 rfl (lv_at hl 0 rfl) ?_
                refine lv_bipush (v := 22) hx hb dd_M_due_46 (by decide) ?_
                refine lv_icmp_ne (tgt := 55) hx hb dd_M_due_48 (by decide) (fun c8 => ?_) (fun c8 => ?_)
                · refine lv_iload_n hx hb dd_M_due_55 rfl (lv_at hl 0 rfl) ?_
                  refine lv_bipush (v := 16) hx hb dd_M_due_56 (by decide) ?_
                  refine lv_icmp_eq (tgt := 73) hx hb dd_M_due_58 (by decide) (fun c9 => ?_) (fun c9 => ?_)
                  · refine lv_iconst (v := 1) hx hb dd_M_due_73 (by decide) ?_
                    refine lv_goto (tgt := 78) hx hb dd_M_due_74 (by decide) ?_
                    exact mr_i hx hb hr hlocks rfl (by simp [bI, m_due, c1, c2, c3, c4, c5, c6, c7, c8, eq_true c9]) dd_M_due_78
                  · refine lv_iload_n hx hb dd_M_due_61 rfl (lv_at hl 0 rfl) ?_
                    refine lv_bipush (v := 17) hx hb dd_M_due_62 (by decide) ?_
                    refine lv_icmp_eq (tgt := 73) hx hb dd_M_due_64 (by decide) (fun c10 => ?_) (fun c10 => ?_)
                    · refine lv_iconst (v := 1) hx hb dd_M_due_73 (by decide) ?_
                      refine lv_goto (tgt := 78) hx hb dd_M_due_74 (by decide) ?_
                      exact mr_i hx hb hr hlocks rfl (by simp [bI, m_due, c1, c2, c3, c4, c5, c6, c7, c8, c9, eq_true c10]) dd_M_due_78
                    · refine lv_iload_n hx hb dd_M_due_67 rfl (lv_at hl 0 rfl) ?_
                      refine lv_bipush (v := 19) hx hb dd_M_due_68 (by decide) ?_
                      refine lv_icmp_ne (tgt := 77) hx hb dd_M_due_70 (by decide) (fun c11 => ?_) (fun c11 => ?_)
                      · refine lv_iconst (v := 2) hx hb dd_M_due_77 (by decide) ?_
                        exact mr_i hx hb hr hlocks rfl (by simp [bI, m_due, c1, c2, c3, c4, c5, c6, c7, c8, c9, c10, c11]) dd_M_due_78
                      · refine lv_iconst (v := 1) hx hb dd_M_due_73 (by decide) ?_
                        refine lv_goto (tgt := 78) hx hb dd_M_due_74 (by decide) ?_
                        exact mr_i hx hb hr hlocks rfl (by simp [bI, m_due, c1, c2, c3, c4, c5, c6, c7, c8, c9, c10, eq_true c11]) dd_M_due_78
                · refine lv_iconst (v := 3) hx hb dd_M_due_51 (by decide) ?_
                  refine lv_goto (tgt := 78) hx hb dd_M_due_52 (by decide) ?_
                  exact mr_i hx hb hr hlocks rfl (by simp [bI, m_due, c1, c2, c3, c4, c5, c6, c7, eq_true c8]) dd_M_due_78
        · refine lv_iconst (v := 0) hx hb dd_M_due_25 (by decide) ?_
          exact mr_i hx hb hr hlocks rfl (by simp [bI, m_due, c1, c2, c3, c4]) dd_M_due_26
      · refine lv_iconst (v := -1) hx hb dd_M_due_18 (by decide) ?_
        exact mr_i hx hb hr hlocks rfl (by simp [bI, m_due, c1, c2, eq_true c3]) dd_M_due_19

set_option maxHeartbeats 4000000 in
set_option maxRecDepth 100000 in
theorem cc_M_hasFirst {l : Launch} {G : gC} {M : mC} {k : Int32} : cR l yy_M_hasFirst bb_M_hasFirst 1 (some .boolean) 0 G M [.int k] (.int (bI (m_has1 k))) := by
  refine me_R (by decide) (Nat.le_of_ble_eq_true rfl) ?_
  intro p e s m below meth c ls hx hb hr hlocks hml hown ht hM hK hl
  have hown : s.vm.findClass RR_M = some m.cls := hown
  have hl : lv_has ls 1 [(0, .int k)] := hl
  refine lv_iload_n hx hb dd_M_hasFirst_0 rfl (lv_at hl 0 rfl) ?_
  refine lv_iconst (v := 1) hx hb dd_M_hasFirst_1 (by decide) ?_
  refine lv_icmp_eq (tgt := 41) hx hb dd_M_hasFirst_2 (by decide) (fun c1 => ?_) (fun c1 => ?_)
  · refine lv_iconst (v := 1) hx hb dd_M_hasFirst_41 (by decide) ?_
    refine lv_goto (tgt := 46) hx hb dd_M_hasFirst_42 (by decide) ?_
    exact mr_i hx hb hr hlocks rfl (by simp [bI, m_has1, eq_true c1]) dd_M_hasFirst_46
  · refine lv_iload_n hx hb dd_M_hasFirst_5 rfl (lv_at hl 0 rfl) ?_
    refine lv_bipush (v := 11) hx hb dd_M_hasFirst_6 (by decide) ?_
    refine lv_icmp_eq (tgt := 41) hx hb dd_M_hasFirst_8 (by decide) (fun c2 => ?_) (fun c2 => ?_)
    · refine lv_iconst (v := 1) hx hb dd_M_hasFirst_41 (by decide) ?_
      refine lv_goto (tgt := 46) hx hb dd_M_hasFirst_42 (by decide) ?_
      exact mr_i hx hb hr hlocks rfl (by simp [bI, m_has1, c1, eq_true c2]) dd_M_hasFirst_46
    · refine lv_iload_n hx hb dd_M_hasFirst_11 rfl (lv_at hl 0 rfl) ?_
      refine lv_bipush (v := 12) hx hb dd_M_hasFirst_12 (by decide) ?_
      refine lv_icmp_eq (tgt := 41) hx hb dd_M_hasFirst_14 (by decide) (fun c3 => ?_) (fun c3 => ?_)
      · refine lv_iconst (v := 1) hx hb dd_M_hasFirst_41 (by decide) ?_
        refine lv_goto (tgt := 46) hx hb dd_M_hasFirst_42 (by decide) ?_
        exact mr_i hx hb hr hlocks rfl (by simp [bI, m_has1, c1, c2, eq_true c3]) dd_M_hasFirst_46
      · refine lv_iload_n hx hb dd_M_hasFirst_17 rfl (lv_at hl 0 rfl) ?_
        refine lv_bipush (v := 14) hx hb dd_M_hasFirst_18 (by decide) ?_
        refine lv_icmp_eq (tgt := 41) hx hb dd_M_hasFirst_20 (by decide) (fun c4 => ?_) (fun c4 => ?_)
        · refine lv_iconst (v := 1) hx hb dd_M_hasFirst_41 (by decide) ?_
          refine lv_goto (tgt := 46) hx hb dd_M_hasFirst_42 (by decide) ?_
          exact mr_i hx hb hr hlocks rfl (by simp [bI, m_has1, c1, c2, c3, eq_true c4]) dd_M_hasFirst_46
        · refine lv_iload_n hx hb dd_M_hasFirst_23 rfl (lv_at hl 0 rfl) ?_
          refine lv_bipush (v := 15) hx hb dd_M_hasFirst_24 (by decide) ?_
          refine lv_icmp_eq (tgt := 41) hx hb dd_M_hasFirst_26 (by decide) (fun c5 => ?_) (fun c5 => ?_)
          · refine lv_iconst (v := 1) hx hb dd_M_hasFirst_41 (by decide) ?_
            refine lv_goto (tgt := 46) hx hb dd_M_hasFirst_42 (by decide) ?_
            exact mr_i hx hb hr hlocks rfl (by simp [bI, m_has1, c1, c2, c3, c4, eq_true c5]) dd_M_hasFirst_46
          · refine lv_iload_n hx hb dd_M_hasFirst_29 rfl (lv_at hl 0 rfl) ?_
            refine lv_bipush (v := 18) hx hb dd_M_hasFirst_30 (by decide) ?_
            refine lv_icmp_eq (tgt := 41) hx hb dd_M_hasFirst_32 (by decide) (fun c6 => ?_) (fun c6 => ?_)
            · refine lv_iconst (v := 1) hx hb dd_M_hasFirst_41 (by decide) ?_
              refine lv_goto (tgt := 46) hx hb dd_M_hasFirst_42 (by decide) ?_
              exact mr_i hx hb hr hlocks rfl (by simp [bI, m_has1, c1, c2, c3, c4, c5, eq_true c6]) dd_M_hasFirst_46
            · refine lv_iload_n hx hb dd_M_hasFirst_35 rfl (lv_at hl 0 rfl) ?_
              refine lv_bipush (v := 21) hx hb dd_M_hasFirst_36 (by decide) ?_
              refine lv_icmp_lt (tgt := 45) hx hb dd_M_hasFirst_38 (by decide) (fun c7 => ?_) (fun c7 => ?_)
              · refine lv_iconst (v := 0) hx hb dd_M_hasFirst_45 (by decide) ?_
                exact mr_i hx hb hr hlocks rfl (by simp [bI, m_has1, c1, c2, c3, c4, c5, c6, c7]) dd_M_hasFirst_46
              · refine lv_iconst (v := 1) hx hb dd_M_hasFirst_41 (by decide) ?_
                refine lv_goto (tgt := 46) hx hb dd_M_hasFirst_42 (by decide) ?_
                exact mr_i hx hb hr hlocks rfl (by simp [bI, m_has1, c1, c2, c3, c4, c5, c6, c7]) dd_M_hasFirst_46

set_option maxHeartbeats 4000000 in
set_option maxRecDepth 100000 in
theorem cc_M_isChangeable {l : Launch} {G : gC} {M : mC} {k p9 : Int32} : cR l yy_M_isChangeable bb_M_isChangeable 2 (some .boolean) 0 G M [.int k, .int p9] (.int (bI (m_chg k p9))) := by
  refine me_R (by decide) (Nat.le_of_ble_eq_true rfl) ?_
  intro p e s m below meth c ls hx hb hr hlocks hml hown ht hM hK hl
  have hown : s.vm.findClass RR_M = some m.cls := hown
  have hl : lv_has ls 2 [(0, .int k), (1, .int p9)] := hl
  refine lv_iload_n hx hb dd_M_isChangeable_0 rfl (lv_at hl 0 rfl) ?_
  refine lv_bipush (v := 16) hx hb dd_M_isChangeable_1 (by decide) ?_
  refine lv_icmp_eq (tgt := 34) hx hb dd_M_isChangeable_3 (by decide) (fun c1 => ?_) (fun c1 => ?_)
  · refine lv_iconst (v := 1) hx hb dd_M_isChangeable_34 (by decide) ?_
    refine lv_goto (tgt := 39) hx hb dd_M_isChangeable_35 (by decide) ?_
    exact mr_i hx hb hr hlocks rfl (by simp [bI, m_chg, eq_true c1]) dd_M_isChangeable_39
  · refine lv_iload_n hx hb dd_M_isChangeable_6 rfl (lv_at hl 0 rfl) ?_
    refine lv_bipush (v := 17) hx hb dd_M_isChangeable_7 (by decide) ?_
    refine lv_icmp_eq (tgt := 34) hx hb dd_M_isChangeable_9 (by decide) (fun c2 => ?_) (fun c2 => ?_)
    · refine lv_iconst (v := 1) hx hb dd_M_isChangeable_34 (by decide) ?_
      refine lv_goto (tgt := 39) hx hb dd_M_isChangeable_35 (by decide) ?_
      exact mr_i hx hb hr hlocks rfl (by simp [bI, m_chg, c1, eq_true c2]) dd_M_isChangeable_39
    · refine lv_iload_n hx hb dd_M_isChangeable_12 rfl (lv_at hl 1 rfl) ?_
      refine lv_if_le (tgt := 38) hx hb dd_M_isChangeable_13 (by decide) (fun c3 => ?_) (fun c3 => ?_)
      · refine lv_iconst (v := 0) hx hb dd_M_isChangeable_38 (by decide) ?_
        exact mr_i hx hb hr hlocks rfl (by simp [bI, m_chg, c1, c2, c3]) dd_M_isChangeable_39
      · refine lv_iload_n hx hb dd_M_isChangeable_16 rfl (lv_at hl 0 rfl) ?_
        refine lv_bipush (v := 18) hx hb dd_M_isChangeable_17 (by decide) ?_
        refine lv_icmp_eq (tgt := 34) hx hb dd_M_isChangeable_19 (by decide) (fun c4 => ?_) (fun c4 => ?_)
        · refine lv_iconst (v := 1) hx hb dd_M_isChangeable_34 (by decide) ?_
          refine lv_goto (tgt := 39) hx hb dd_M_isChangeable_35 (by decide) ?_
          exact mr_i hx hb hr hlocks rfl (by simp [bI, m_chg, c1, c2, c3, eq_true c4]) dd_M_isChangeable_39
        · refine lv_iload_n hx hb dd_M_isChangeable_22 rfl (lv_at hl 0 rfl) ?_
          refine lv_bipush (v := 20) hx hb dd_M_isChangeable_23 (by decide) ?_
          refine lv_icmp_lt (tgt := 38) hx hb dd_M_isChangeable_25 (by decide) (fun c5 => ?_) (fun c5 => ?_)
          · refine lv_iconst (v := 0) hx hb dd_M_isChangeable_38 (by decide) ?_
            exact mr_i hx hb hr hlocks rfl (by simp [bI, m_chg, c1, c2, c3, c4, c5]) dd_M_isChangeable_39
          · refine lv_iload_n hx hb dd_M_isChangeable_28 rfl (lv_at hl 0 rfl) ?_
            refine lv_bipush (v := 22) hx hb dd_M_isChangeable_29 (by decide) ?_
            refine lv_icmp_gt (tgt := 38) hx hb dd_M_isChangeable_31 (by decide) (fun c6 => ?_) (fun c6 => ?_)
            · refine lv_iconst (v := 0) hx hb dd_M_isChangeable_38 (by decide) ?_
              exact mr_i hx hb hr hlocks rfl (by simp [bI, m_chg, c1, c2, c3, c4, c5, c6]) dd_M_isChangeable_39
            · refine lv_iconst (v := 1) hx hb dd_M_isChangeable_34 (by decide) ?_
              refine lv_goto (tgt := 39) hx hb dd_M_isChangeable_35 (by decide) ?_
              exact mr_i hx hb hr hlocks rfl (by simp [bI, m_chg, c1, c2, c3, c4, c5, c6]) dd_M_isChangeable_39

set_option maxHeartbeats 4000000 in
set_option maxRecDepth 100000 in
theorem cc_M_isNode {l : Launch} {G : gC} {M : mC} {k : Int32} {f z : Int64} {n : Int32} : cR l yy_M_isNode bb_M_isNode 7 (some .boolean) 1 G M [.int k, .long f, .long z, .int n] (.int (bI (m_isNode k f z n))) := by
  refine me_R (by decide) (Nat.le_of_ble_eq_true rfl) ?_
  intro p e s m below meth c ls hx hb hr hlocks hml hown ht hM hK hl
  have hown : s.vm.findClass RR_M = some m.cls := hown
  have hl : lv_has ls 7 [(0, .int k), (1, .long f), (3, .long z), (5, .int n)] := hl
  refine lv_iload_n hx hb dd_M_isNode_0 rfl (lv_at hl 0 rfl) ?_
  refine lv_if_lt (tgt := 14) hx hb dd_M_isNode_1 (by decide) (fun c1 => ?_) (fun c1 => ?_)
  · refine lv_iconst (v := 0) hx hb dd_M_isNode_14 (by decide) ?_
    refine lv_istore (lv' := [(6, .int 0), (0, .int k), (1, .long f), (3, .long z), (5, .int n)]) hx hb dd_M_isNode_15 hl (by decide) rfl (fun ls hl => ?_)
    refine lv_iload hx hb dd_M_isNode_17 (lv_at hl 0 rfl) ?_
    refine lv_if_eq (tgt := 76) hx hb dd_M_isNode_19 (by decide) (fun _ => ?_) (fun z => absurd (by decide) z)
    refine lv_iconst (v := 0) hx hb dd_M_isNode_76 (by decide) ?_
    refine lv_istore (lv' := [(6, .int 0), (0, .int k), (1, .long f), (3, .long z), (5, .int n)]) hx hb dd_M_isNode_77 hl (by decide) rfl (fun ls hl => ?_)
    refine lv_iload hx hb dd_M_isNode_79 (lv_at hl 0 rfl) ?_
    refine lv_if_eq (tgt := 112) hx hb dd_M_isNode_81 (by decide) (fun _ => ?_) (fun z => absurd (by decide) z)
    refine lv_iconst (v := 0) hx hb dd_M_isNode_112 (by decide) ?_
    exact mr_i hx hb hr hlocks rfl (by simp [bI, m_isNode, k_isKind, c1]) dd_M_isNode_113
  · refine lv_iload_n hx hb dd_M_isNode_4 rfl (lv_at hl 0 rfl) ?_
    refine lv_bipush (v := 23) hx hb dd_M_isNode_5 (by decide) ?_
    refine lv_icmp_gt (tgt := 14) hx hb dd_M_isNode_7 (by decide) (fun c2 => ?_) (fun c2 => ?_)
    · refine lv_iconst (v := 0) hx hb dd_M_isNode_14 (by decide) ?_
      refine lv_istore (lv' := [(6, .int 0), (0, .int k), (1, .long f), (3, .long z), (5, .int n)]) hx hb dd_M_isNode_15 hl (by decide) rfl (fun ls hl => ?_)
      refine lv_iload hx hb dd_M_isNode_17 (lv_at hl 0 rfl) ?_
      refine lv_if_eq (tgt := 76) hx hb dd_M_isNode_19 (by decide) (fun _ => ?_) (fun z => absurd (by decide) z)
      refine lv_iconst (v := 0) hx hb dd_M_isNode_76 (by decide) ?_
      refine lv_istore (lv' := [(6, .int 0), (0, .int k), (1, .long f), (3, .long z), (5, .int n)]) hx hb dd_M_isNode_77 hl (by decide) rfl (fun ls hl => ?_)
      refine lv_iload hx hb dd_M_isNode_79 (lv_at hl 0 rfl) ?_
      refine lv_if_eq (tgt := 112) hx hb dd_M_isNode_81 (by decide) (fun _ => ?_) (fun z => absurd (by decide) z)
      refine lv_iconst (v := 0) hx hb dd_M_isNode_112 (by decide) ?_
      exact mr_i hx hb hr hlocks rfl (by simp [bI, m_isNode, k_isKind, c1, c2]) dd_M_isNode_113
    · refine lv_iconst (v := 1) hx hb dd_M_isNode_10 (by decide) ?_
      refine lv_goto (tgt := 15) hx hb dd_M_isNode_11 (by decide) ?_
      refine lv_istore (lv' := [(6, .int 1), (0, .int k), (1, .long f), (3, .long z), (5, .int n)]) hx hb dd_M_isNode_15 hl (by decide) rfl (fun ls hl => ?_)
      refine lv_iload hx hb dd_M_isNode_17 (lv_at hl 0 rfl) ?_
      refine lv_if_eq (tgt := 76) hx hb dd_M_isNode_19 (by decide) (fun z => absurd z (by decide)) (fun _ => ?_)
      refine lv_iload_n hx hb dd_M_isNode_22 rfl (lv_at hl 1 rfl) ?_
      refine mc_S (As := [.int k]) (rest := []) 1 (cc_M_hasFirst (k := k)) hx hb hml hown ht hM hK hl.1 lk_M_94 (by decide +kernel) (by decide) rfl rfl (Nat.le_of_ble_eq_true rfl) dd_M_isNode_23 ⟨Nat.zero_le _, Nat.zero_le _⟩ ?_
      refine lb_if_eq (tgt := 38) hx hb dd_M_isNode_26 (by decide) (fun c3 => ?_) (fun c3 => ?_)
      · refine lv_lload_n hx hb dd_M_isNode_38 rfl (lv_at hl 2 rfl) ?_
        refine lv_lconst (v := 0) hx hb dd_M_isNode_39 (by decide) ?_
        refine W.lcmp hx hb dd_M_isNode_40 ?_
        refine lc_if_ne (tgt := 76) hx hb dd_M_isNode_41 (by decide) (fun c4 => ?_) (fun c4 => ?_)
        · refine lv_iconst (v := 0) hx hb dd_M_isNode_76 (by decide) ?_
          refine lv_istore (lv' := [(6, .int 0), (0, .int k), (1, .long f), (3, .long z), (5, .int n)]) hx hb dd_M_isNode_77 hl (by decide) rfl (fun ls hl => ?_)
          refine lv_iload hx hb dd_M_isNode_79 (lv_at hl 0 rfl) ?_
          refine lv_if_eq (tgt := 112) hx hb dd_M_isNode_81 (by decide) (fun _ => ?_) (fun z => absurd (by decide) z)
          refine lv_iconst (v := 0) hx hb dd_M_isNode_112 (by decide) ?_
          exact mr_i hx hb hr hlocks rfl (by simp [bI, m_isNode, k_isKind, c1, c2, c3, c4]) dd_M_isNode_113
        · refine lv_iload_n hx hb dd_M_isNode_44 rfl (lv_at hl 1 rfl) ?_
          refine mc_S (As := [.int k]) (rest := []) 1 (cc_M_hasSecond (k := k)) hx hb hml hown ht hM hK hl.1 lk_M_98 (by decide +kernel) (by decide) rfl rfl (Nat.le_of_ble_eq_true rfl) dd_M_isNode_45 ⟨Nat.zero_le _, Nat.zero_le _⟩ ?_
          refine lb_if_eq (tgt := 66) hx hb dd_M_isNode_48 (by decide) (fun c5 => ?_) (fun c5 => ?_)
          · refine lv_lload_n hx hb dd_M_isNode_66 rfl (lv_at hl 3 rfl) ?_
            refine lv_lconst (v := 0) hx hb dd_M_isNode_67 (by decide) ?_
            refine W.lcmp hx hb dd_M_isNode_68 ?_
            refine lc_if_ne (tgt := 76) hx hb dd_M_isNode_69 (by decide) (fun c6 => ?_) (fun c6 => ?_)
            · refine lv_iconst (v := 0) hx hb dd_M_isNode_76 (by decide) ?_
              refine lv_istore (lv' := [(6, .int 0), (0, .int k), (1, .long f), (3, .long z), (5, .int n)]) hx hb dd_M_isNode_77 hl (by decide) rfl (fun ls hl => ?_)
              refine lv_iload hx hb dd_M_isNode_79 (lv_at hl 0 rfl) ?_
              refine lv_if_eq (tgt := 112) hx hb dd_M_isNode_81 (by decide) (fun _ => ?_) (fun z => absurd (by decide) z)
              refine lv_iconst (v := 0) hx hb dd_M_isNode_112 (by decide) ?_
              exact mr_i hx hb hr hlocks rfl (by simp [bI, m_isNode, k_isKind, c1, c2, c3, eq_true c4, c5, c6]) dd_M_isNode_113
            · refine lv_iconst (v := 1) hx hb dd_M_isNode_72 (by decide) ?_
              refine lv_goto (tgt := 77) hx hb dd_M_isNode_73 (by decide) ?_
              refine lv_istore (lv' := [(6, .int 1), (0, .int k), (1, .long f), (3, .long z), (5, .int n)]) hx hb dd_M_isNode_77 hl (by decide) rfl (fun ls hl => ?_)
              refine lv_iload hx hb dd_M_isNode_79 (lv_at hl 0 rfl) ?_
              refine lv_if_eq (tgt := 112) hx hb dd_M_isNode_81 (by decide) (fun z => absurd z (by decide)) (fun _ => ?_)
              refine lv_iload_n hx hb dd_M_isNode_84 rfl (lv_at hl 1 rfl) ?_
              refine mc_S (As := [.int k]) (rest := []) 1 (cc_M_due (k := k)) hx hb hml hown ht hM hK hl.1 lk_M_101 (by decide +kernel) (by decide) rfl rfl (Nat.le_of_ble_eq_true rfl) dd_M_isNode_85 ⟨Nat.zero_le _, Nat.zero_le _⟩ ?_
              refine lv_if_ge (tgt := 99) hx hb dd_M_isNode_88 (by decide) (fun c7 => ?_) (fun c7 => ?_)
              · refine lv_iload hx hb dd_M_isNode_99 (lv_at hl 4 rfl) ?_
                refine lv_iload_n hx hb dd_M_isNode_101 rfl (lv_at hl 1 rfl) ?_
                refine mc_S (As := [.int k]) (rest := [.int n]) 1 (cc_M_due (k := k)) hx hb hml hown ht hM hK hl.1 lk_M_101 (by decide +kernel) (by decide) rfl rfl (Nat.le_of_ble_eq_true rfl) dd_M_isNode_102 ⟨Nat.zero_le _, Nat.zero_le _⟩ ?_
                refine lv_icmp_ne (tgt := 112) hx hb dd_M_isNode_105 (by decide) (fun c8 => ?_) (fun c8 => ?_)
                · refine lv_iconst (v := 0) hx hb dd_M_isNode_112 (by decide) ?_
                  exact mr_i hx hb hr hlocks rfl (by simp [bI, m_isNode, k_isKind, c1, c2, c3, eq_true c4, c5, eq_true c6, c7, c8]) dd_M_isNode_113
                · refine lv_iconst (v := 1) hx hb dd_M_isNode_108 (by decide) ?_
                  refine lv_goto (tgt := 113) hx hb dd_M_isNode_109 (by decide) ?_
                  exact mr_i hx hb hr hlocks rfl (by simp [bI, m_isNode, k_isKind, c1, c2, c3, eq_true c4, c5, eq_true c6, c7, eq_true c8]) dd_M_isNode_113
              · refine lv_iload hx hb dd_M_isNode_91 (lv_at hl 4 rfl) ?_
                refine lv_if_lt (tgt := 112) hx hb dd_M_isNode_93 (by decide) (fun c9 => ?_) (fun c9 => ?_)
                · refine lv_iconst (v := 0) hx hb dd_M_isNode_112 (by decide) ?_
                  exact mr_i hx hb hr hlocks rfl (by simp [bI, m_isNode, k_isKind, c1, c2, c3, eq_true c4, c5, eq_true c6, c7, c9]) dd_M_isNode_113
                · refine lv_goto (tgt := 108) hx hb dd_M_isNode_96 (by decide) ?_
                  refine lv_iconst (v := 1) hx hb dd_M_isNode_108 (by decide) ?_
                  refine lv_goto (tgt := 113) hx hb dd_M_isNode_109 (by decide) ?_
                  exact mr_i hx hb hr hlocks rfl (by simp [bI, m_isNode, k_isKind, c1, c2, c3, eq_true c4, c5, eq_true c6, c7, c9]) dd_M_isNode_113
          · refine lv_lload_n hx hb dd_M_isNode_51 rfl (lv_at hl 3 rfl) ?_
            refine lv_lconst (v := 0) hx hb dd_M_isNode_52 (by decide) ?_
            refine W.lcmp hx hb dd_M_isNode_53 ?_
            refine lc_if_le (tgt := 76) hx hb dd_M_isNode_54 (by decide) (fun c10 => ?_) (fun c10 => ?_)
            · refine lv_iconst (v := 0) hx hb dd_M_isNode_76 (by decide) ?_
              refine lv_istore (lv' := [(6, .int 0), (0, .int k), (1, .long f), (3, .long z), (5, .int n)]) hx hb dd_M_isNode_77 hl (by decide) rfl (fun ls hl => ?_)
              refine lv_iload hx hb dd_M_isNode_79 (lv_at hl 0 rfl) ?_
              refine lv_if_eq (tgt := 112) hx hb dd_M_isNode_81 (by decide) (fun _ => ?_) (fun z => absurd (by decide) z)
              refine lv_iconst (v := 0) hx hb dd_M_isNode_112 (by decide) ?_
              exact mr_i hx hb hr hlocks rfl (by simp [bI, m_isNode, k_isKind, c1, c2, c3, eq_true c4, c5, c10]) dd_M_isNode_113
            · refine lv_lload_n hx hb dd_M_isNode_57 rfl (lv_at hl 3 rfl) ?_
              refine lv_lload_n hx hb dd_M_isNode_58 rfl (lv_at hl 2 rfl) ?_
              refine W.lcmp hx hb dd_M_isNode_59 ?_
              refine lc_if_eq (tgt := 76) hx hb dd_M_isNode_60 (by decide) (fun c11 => ?_) (fun c11 => ?_)
              · refine lv_iconst (v := 0) hx hb dd_M_isNode_76 (by decide) ?_
                refine lv_istore (lv' := [(6, .int 0), (0, .int k), (1, .long f), (3, .long z), (5, .int n)]) hx hb dd_M_isNode_77 hl (by decide) rfl (fun ls hl => ?_)
                refine lv_iload hx hb dd_M_isNode_79 (lv_at hl 0 rfl) ?_
                refine lv_if_eq (tgt := 112) hx hb dd_M_isNode_81 (by decide) (fun _ => ?_) (fun z => absurd (by decide) z)
                refine lv_iconst (v := 0) hx hb dd_M_isNode_112 (by decide) ?_
                exact mr_i hx hb hr hlocks rfl (by simp [bI, m_isNode, k_isKind, c1, c2, c3, eq_true c4, c5, c10, eq_true c11]) dd_M_isNode_113
              · refine lv_goto (tgt := 72) hx hb dd_M_isNode_63 (by decide) ?_
                refine lv_iconst (v := 1) hx hb dd_M_isNode_72 (by decide) ?_
                refine lv_goto (tgt := 77) hx hb dd_M_isNode_73 (by decide) ?_
                refine lv_istore (lv' := [(6, .int 1), (0, .int k), (1, .long f), (3, .long z), (5, .int n)]) hx hb dd_M_isNode_77 hl (by decide) rfl (fun ls hl => ?_)
                refine lv_iload hx hb dd_M_isNode_79 (lv_at hl 0 rfl) ?_
                refine lv_if_eq (tgt := 112) hx hb dd_M_isNode_81 (by decide) (fun z => absurd z (by decide)) (fun _ => ?_)
                refine lv_iload_n hx hb dd_M_isNode_84 rfl (lv_at hl 1 rfl) ?_
                refine mc_S (As := [.int k]) (rest := []) 1 (cc_M_due (k := k)) hx hb hml hown ht hM hK hl.1 lk_M_101 (by decide +kernel) (by decide) rfl rfl (Nat.le_of_ble_eq_true rfl) dd_M_isNode_85 ⟨Nat.zero_le _, Nat.zero_le _⟩ ?_
                refine lv_if_ge (tgt := 99) hx hb dd_M_isNode_88 (by decide) (fun c12 => ?_) (fun c12 => ?_)
                · refine lv_iload hx hb dd_M_isNode_99 (lv_at hl 4 rfl) ?_
                  refine lv_iload_n hx hb dd_M_isNode_101 rfl (lv_at hl 1 rfl) ?_
                  refine mc_S (As := [.int k]) (rest := [.int n]) 1 (cc_M_due (k := k)) hx hb hml hown ht hM hK hl.1 lk_M_101 (by decide +kernel) (by decide) rfl rfl (Nat.le_of_ble_eq_true rfl) dd_M_isNode_102 ⟨Nat.zero_le _, Nat.zero_le _⟩ ?_
                  refine lv_icmp_ne (tgt := 112) hx hb dd_M_isNode_105 (by decide) (fun c13 => ?_) (fun c13 => ?_)
                  · refine lv_iconst (v := 0) hx hb dd_M_isNode_112 (by decide) ?_
                    exact mr_i hx hb hr hlocks rfl (by simp [bI, m_isNode, k_isKind, c1, c2, c3, eq_true c4, c5, c10, c11, c12, c13]) dd_M_isNode_113
                  · refine lv_iconst (v := 1) hx hb dd_M_isNode_108 (by decide) ?_
                    refine lv_goto (tgt := 113) hx hb dd_M_isNode_109 (by decide) ?_
                    exact mr_i hx hb hr hlocks rfl (by simp [bI, m_isNode, k_isKind, c1, c2, c3, eq_true c4, c5, c10, c11, c12, eq_true c13]) dd_M_isNode_113
                · refine lv_iload hx hb dd_M_isNode_91 (lv_at hl 4 rfl) ?_
                  refine lv_if_lt (tgt := 112) hx hb dd_M_isNode_93 (by decide) (fun c14 => ?_) (fun c14 => ?_)
                  · refine lv_iconst (v := 0) hx hb dd_M_isNode_112 (by decide) ?_
                    exact mr_i hx hb hr hlocks rfl (by simp [bI, m_isNode, k_isKind, c1, c2, c3, eq_true c4, c5, c10, c11, c12, c14]) dd_M_isNode_113
                  · refine lv_goto (tgt := 108) hx hb dd_M_isNode_96 (by decide) ?_
                    refine lv_iconst (v := 1) hx hb dd_M_isNode_108 (by decide) ?_
                    refine lv_goto (tgt := 113) hx hb dd_M_isNode_109 (by decide) ?_
                    exact mr_i hx hb hr hlocks rfl (by simp [bI, m_isNode, k_isKind, c1, c2, c3, eq_true c4, c5, c10, c11, c12, c14]) dd_M_isNode_113
      · refine lv_lload_n hx hb dd_M_isNode_29 rfl (lv_at hl 2 rfl) ?_
        refine lv_lconst (v := 0) hx hb dd_M_isNode_30 (by decide) ?_
        refine W.lcmp hx hb dd_M_isNode_31 ?_
        refine lc_if_le (tgt := 76) hx hb dd_M_isNode_32 (by decide) (fun c15 => ?_) (fun c15 => ?_)
        · refine lv_iconst (v := 0) hx hb dd_M_isNode_76 (by decide) ?_
          refine lv_istore (lv' := [(6, .int 0), (0, .int k), (1, .long f), (3, .long z), (5, .int n)]) hx hb dd_M_isNode_77 hl (by decide) rfl (fun ls hl => ?_)
          refine lv_iload hx hb dd_M_isNode_79 (lv_at hl 0 rfl) ?_
          refine lv_if_eq (tgt := 112) hx hb dd_M_isNode_81 (by decide) (fun _ => ?_) (fun z => absurd (by decide) z)
          refine lv_iconst (v := 0) hx hb dd_M_isNode_112 (by decide) ?_
          exact mr_i hx hb hr hlocks rfl (by simp [bI, m_isNode, k_isKind, c1, c2, c3, c15]) dd_M_isNode_113
        · refine lv_goto (tgt := 44) hx hb dd_M_isNode_35 (by decide) ?_
          refine lv_iload_n hx hb dd_M_isNode_44 rfl (lv_at hl 1 rfl) ?_
          refine mc_S (As := [.int k]) (rest := []) 1 (cc_M_hasSecond (k := k)) hx hb hml hown ht hM hK hl.1 lk_M_98 (by decide +kernel) (by decide) rfl rfl (Nat.le_of_ble_eq_true rfl) dd_M_isNode_45 ⟨Nat.zero_le _, Nat.zero_le _⟩ ?_
          refine lb_if_eq (tgt := 66) hx hb dd_M_isNode_48 (by decide) (fun c16 => ?_) (fun c16 => ?_)
          · refine lv_lload_n hx hb dd_M_isNode_66 rfl (lv_at hl 3 rfl) ?_
            refine lv_lconst (v := 0) hx hb dd_M_isNode_67 (by decide) ?_
            refine W.lcmp hx hb dd_M_isNode_68 ?_
            refine lc_if_ne (tgt := 76) hx hb dd_M_isNode_69 (by decide) (fun c17 => ?_) (fun c17 => ?_)
            · refine lv_iconst (v := 0) hx hb dd_M_isNode_76 (by decide) ?_
              refine lv_istore (lv' := [(6, .int 0), (0, .int k), (1, .long f), (3, .long z), (5, .int n)]) hx hb dd_M_isNode_77 hl (by decide) rfl (fun ls hl => ?_)
              refine lv_iload hx hb dd_M_isNode_79 (lv_at hl 0 rfl) ?_
              refine lv_if_eq (tgt := 112) hx hb dd_M_isNode_81 (by decide) (fun _ => ?_) (fun z => absurd (by decide) z)
              refine lv_iconst (v := 0) hx hb dd_M_isNode_112 (by decide) ?_
              exact mr_i hx hb hr hlocks rfl (by simp [bI, m_isNode, k_isKind, c1, c2, c3, c15, c16, c17]) dd_M_isNode_113
            · refine lv_iconst (v := 1) hx hb dd_M_isNode_72 (by decide) ?_
              refine lv_goto (tgt := 77) hx hb dd_M_isNode_73 (by decide) ?_
              refine lv_istore (lv' := [(6, .int 1), (0, .int k), (1, .long f), (3, .long z), (5, .int n)]) hx hb dd_M_isNode_77 hl (by decide) rfl (fun ls hl => ?_)
              refine lv_iload hx hb dd_M_isNode_79 (lv_at hl 0 rfl) ?_
              refine lv_if_eq (tgt := 112) hx hb dd_M_isNode_81 (by decide) (fun z => absurd z (by decide)) (fun _ => ?_)
              refine lv_iload_n hx hb dd_M_isNode_84 rfl (lv_at hl 1 rfl) ?_
              refine mc_S (As := [.int k]) (rest := []) 1 (cc_M_due (k := k)) hx hb hml hown ht hM hK hl.1 lk_M_101 (by decide +kernel) (by decide) rfl rfl (Nat.le_of_ble_eq_true rfl) dd_M_isNode_85 ⟨Nat.zero_le _, Nat.zero_le _⟩ ?_
              refine lv_if_ge (tgt := 99) hx hb dd_M_isNode_88 (by decide) (fun c18 => ?_) (fun c18 => ?_)
              · refine lv_iload hx hb dd_M_isNode_99 (lv_at hl 4 rfl) ?_
                refine lv_iload_n hx hb dd_M_isNode_101 rfl (lv_at hl 1 rfl) ?_
                refine mc_S (As := [.int k]) (rest := [.int n]) 1 (cc_M_due (k := k)) hx hb hml hown ht hM hK hl.1 lk_M_101 (by decide +kernel) (by decide) rfl rfl (Nat.le_of_ble_eq_true rfl) dd_M_isNode_102 ⟨Nat.zero_le _, Nat.zero_le _⟩ ?_
                refine lv_icmp_ne (tgt := 112) hx hb dd_M_isNode_105 (by decide) (fun c19 => ?_) (fun c19 => ?_)
                · refine lv_iconst (v := 0) hx hb dd_M_isNode_112 (by decide) ?_
                  exact mr_i hx hb hr hlocks rfl (by simp [bI, m_isNode, k_isKind, c1, c2, c3, c15, c16, eq_true c17, c18, c19]) dd_M_isNode_113
                · refine lv_iconst (v := 1) hx hb dd_M_isNode_108 (by decide) ?_
                  refine lv_goto (tgt := 113) hx hb dd_M_isNode_109 (by decide) ?_
                  exact mr_i hx hb hr hlocks rfl (by simp [bI, m_isNode, k_isKind, c1, c2, c3, c15, c16, eq_true c17, c18, eq_true c19]) dd_M_isNode_113
              · refine lv_iload hx hb dd_M_isNode_91 (lv_at hl 4 rfl) ?_
                refine lv_if_lt (tgt := 112) hx hb dd_M_isNode_93 (by decide) (fun c20 => ?_) (fun c20 => ?_)
                · refine lv_iconst (v := 0) hx hb dd_M_isNode_112 (by decide) ?_
                  exact mr_i hx hb hr hlocks rfl (by simp [bI, m_isNode, k_isKind, c1, c2, c3, c15, c16, eq_true c17, c18, c20]) dd_M_isNode_113
                · refine lv_goto (tgt := 108) hx hb dd_M_isNode_96 (by decide) ?_
                  refine lv_iconst (v := 1) hx hb dd_M_isNode_108 (by decide) ?_
                  refine lv_goto (tgt := 113) hx hb dd_M_isNode_109 (by decide) ?_
                  exact mr_i hx hb hr hlocks rfl (by simp [bI, m_isNode, k_isKind, c1, c2, c3, c15, c16, eq_true c17, c18, c20]) dd_M_isNode_113
          · refine lv_lload_n hx hb dd_M_isNode_51 rfl (lv_at hl 3 rfl) ?_
            refine lv_lconst (v := 0) hx hb dd_M_isNode_52 (by decide) ?_
            refine W.lcmp hx hb dd_M_isNode_53 ?_
            refine lc_if_le (tgt := 76) hx hb dd_M_isNode_54 (by decide) (fun c21 => ?_) (fun c21 => ?_)
            · refine lv_iconst (v := 0) hx hb dd_M_isNode_76 (by decide) ?_
              refine lv_istore (lv' := [(6, .int 0), (0, .int k), (1, .long f), (3, .long z), (5, .int n)]) hx hb dd_M_isNode_77 hl (by decide) rfl (fun ls hl => ?_)
              refine lv_iload hx hb dd_M_isNode_79 (lv_at hl 0 rfl) ?_
              refine lv_if_eq (tgt := 112) hx hb dd_M_isNode_81 (by decide) (fun _ => ?_) (fun z => absurd (by decide) z)
              refine lv_iconst (v := 0) hx hb dd_M_isNode_112 (by decide) ?_
              exact mr_i hx hb hr hlocks rfl (by simp [bI, m_isNode, k_isKind, c1, c2, c3, c15, c16, c21]) dd_M_isNode_113
            · refine lv_lload_n hx hb dd_M_isNode_57 rfl (lv_at hl 3 rfl) ?_
              refine lv_lload_n hx hb dd_M_isNode_58 rfl (lv_at hl 2 rfl) ?_
              refine W.lcmp hx hb dd_M_isNode_59 ?_
              refine lc_if_eq (tgt := 76) hx hb dd_M_isNode_60 (by decide) (fun c22 => ?_) (fun c22 => ?_)
              · refine lv_iconst (v := 0) hx hb dd_M_isNode_76 (by decide) ?_
                refine lv_istore (lv' := [(6, .int 0), (0, .int k), (1, .long f), (3, .long z), (5, .int n)]) hx hb dd_M_isNode_77 hl (by decide) rfl (fun ls hl => ?_)
                refine lv_iload hx hb dd_M_isNode_79 (lv_at hl 0 rfl) ?_
                refine lv_if_eq (tgt := 112) hx hb dd_M_isNode_81 (by decide) (fun _ => ?_) (fun z => absurd (by decide) z)
                refine lv_iconst (v := 0) hx hb dd_M_isNode_112 (by decide) ?_
                exact mr_i hx hb hr hlocks rfl (by simp [bI, m_isNode, k_isKind, c1, c2, c3, c15, c16, c21, eq_true c22]) dd_M_isNode_113
              · refine lv_goto (tgt := 72) hx hb dd_M_isNode_63 (by decide) ?_
                refine lv_iconst (v := 1) hx hb dd_M_isNode_72 (by decide) ?_
                refine lv_goto (tgt := 77) hx hb dd_M_isNode_73 (by decide) ?_
                refine lv_istore (lv' := [(6, .int 1), (0, .int k), (1, .long f), (3, .long z), (5, .int n)]) hx hb dd_M_isNode_77 hl (by decide) rfl (fun ls hl => ?_)
                refine lv_iload hx hb dd_M_isNode_79 (lv_at hl 0 rfl) ?_
                refine lv_if_eq (tgt := 112) hx hb dd_M_isNode_81 (by decide) (fun z => absurd z (by decide)) (fun _ => ?_)
                refine lv_iload_n hx hb dd_M_isNode_84 rfl (lv_at hl 1 rfl) ?_
                refine mc_S (As := [.int k]) (rest := []) 1 (cc_M_due (k := k)) hx hb hml hown ht hM hK hl.1 lk_M_101 (by decide +kernel) (by decide) rfl rfl (Nat.le_of_ble_eq_true rfl) dd_M_isNode_85 ⟨Nat.zero_le _, Nat.zero_le _⟩ ?_
                refine lv_if_ge (tgt := 99) hx hb dd_M_isNode_88 (by decide) (fun c23 => ?_) (fun c23 => ?_)
                · refine lv_iload hx hb dd_M_isNode_99 (lv_at hl 4 rfl) ?_
                  refine lv_iload_n hx hb dd_M_isNode_101 rfl (lv_at hl 1 rfl) ?_
                  refine mc_S (As := [.int k]) (rest := [.int n]) 1 (cc_M_due (k := k)) hx hb hml hown ht hM hK hl.1 lk_M_101 (by decide +kernel) (by decide) rfl rfl (Nat.le_of_ble_eq_true rfl) dd_M_isNode_102 ⟨Nat.zero_le _, Nat.zero_le _⟩ ?_
                  refine lv_icmp_ne (tgt := 112) hx hb dd_M_isNode_105 (by decide) (fun c24 => ?_) (fun c24 => ?_)
                  · refine lv_iconst (v := 0) hx hb dd_M_isNode_112 (by decide) ?_
                    exact mr_i hx hb hr hlocks rfl (by simp [bI, m_isNode, k_isKind, c1, c2, c3, c15, c16, c21, c22, c23, c24]) dd_M_isNode_113
                  · refine lv_iconst (v := 1) hx hb dd_M_isNode_108 (by decide) ?_
                    refine lv_goto (tgt := 113) hx hb dd_M_isNode_109 (by decide) ?_
                    exact mr_i hx hb hr hlocks rfl (by simp [bI, m_isNode, k_isKind, c1, c2, c3, c15, c16, c21, c22, c23, eq_true c24]) dd_M_isNode_113
                · refine lv_iload hx hb dd_M_isNode_91 (lv_at hl 4 rfl) ?_
                  refine lv_if_lt (tgt := 112) hx hb dd_M_isNode_93 (by decide) (fun c25 => ?_) (fun c25 => ?_)
                  · refine lv_iconst (v := 0) hx hb dd_M_isNode_112 (by decide) ?_
                    exact mr_i hx hb hr hlocks rfl (by simp [bI, m_isNode, k_isKind, c1, c2, c3, c15, c16, c21, c22, c23, c25]) dd_M_isNode_113
                  · refine lv_goto (tgt := 108) hx hb dd_M_isNode_96 (by decide) ?_
                    refine lv_iconst (v := 1) hx hb dd_M_isNode_108 (by decide) ?_
                    refine lv_goto (tgt := 113) hx hb dd_M_isNode_109 (by decide) ?_
                    exact mr_i hx hb hr hlocks rfl (by simp [bI, m_isNode, k_isKind, c1, c2, c3, c15, c16, c21, c22, c23, c25]) dd_M_isNode_113

set_option maxHeartbeats 4000000 in
set_option maxRecDepth 100000 in
theorem cc_M_isKnown {l : Launch} {G : gC} {M : mC} {y b nd nn : Nat} {I : Nat → Nat → Int32} {J : Nat → Nat → Int64} {Z : Nat → Int32} {kn : Bool} {ft fn mo th : Int32} (hR : rm G M y b nd nn I J Z kn ft fn mo th) {k : Int32} : cR l yy_M_isKnown bb_M_isKnown 2 (some .boolean) 0 G M [.ref y, .int k] (.int (bI (m_known kn k nn))) := by
  refine me_R (by decide) (Nat.le_of_ble_eq_true rfl) ?_
  intro p e s m below meth c ls hx hb hr hlocks hml hown ht hM hK hl
  have hown : s.vm.findClass RR_M = some m.cls := hown
  have hl : lv_has ls 2 [(0, .ref y), (1, .int k)] := hl
  obtain ⟨hyb, my, hA9, hnd, hnn⟩ := id hR
  obtain ⟨a0, a1, a2, a3, a4, a5, a6, a7, a8, a9, a10, a11, a12, a13, a14, a15, a16, a17⟩ := id hA9
  refine lv_aload_n hx hb dd_M_isKnown_0 rfl (lv_at hl 0 rfl) ?_
  refine mg_get hx hb ht ii_M hown hK hM my rfl 21 (by decide) wd_2_234 (fun _ h => h) rfl dd_M_isKnown_1 ?_
  refine lb_if_eq (tgt := 23) hx hb dd_M_isKnown_4 (by decide) (fun c1 => ?_) (fun c1 => ?_)
  · refine lv_iconst (v := 0) hx hb dd_M_isKnown_23 (by decide) ?_
    exact mr_i hx hb hr hlocks rfl (by simp [bI, m_known, c1]) dd_M_isKnown_24
  · refine lv_iload_n hx hb dd_M_isKnown_7 rfl (lv_at hl 1 rfl) ?_
    refine lv_if_lt (tgt := 23) hx hb dd_M_isKnown_8 (by decide) (fun c2 => ?_) (fun c2 => ?_)
    · refine lv_iconst (v := 0) hx hb dd_M_isKnown_23 (by decide) ?_
      exact mr_i hx hb hr hlocks rfl (by simp [bI, m_known, c1, c2]) dd_M_isKnown_24
    · refine lv_iload_n hx hb dd_M_isKnown_11 rfl (lv_at hl 1 rfl) ?_
      refine lv_aload_n hx hb dd_M_isKnown_12 rfl (lv_at hl 0 rfl) ?_
      refine mg_get hx hb ht ii_M hown hK hM my rfl 9 (by decide) wd_2_222 (fun _ h => h) rfl dd_M_isKnown_13 ?_
      refine lv_icmp_ge (tgt := 23) hx hb dd_M_isKnown_16 (by decide) (fun c3 => ?_) (fun c3 => ?_)
      · refine lv_iconst (v := 0) hx hb dd_M_isKnown_23 (by decide) ?_
        exact mr_i hx hb hr hlocks rfl (by simp [bI, m_known, c1, c2, c3]) dd_M_isKnown_24
      · refine lv_iconst (v := 1) hx hb dd_M_isKnown_19 (by decide) ?_
        refine lv_goto (tgt := 24) hx hb dd_M_isKnown_20 (by decide) ?_
        exact mr_i hx hb hr hlocks rfl (by simp [bI, m_known, c1, c2, c3]) dd_M_isKnown_24

set_option maxHeartbeats 4000000 in
set_option maxRecDepth 100000 in
theorem cc_M_bindsIn {l : Launch} {G : gC} {M : mC} {y b nd nn : Nat} {I : Nat → Nat → Int32} {J : Nat → Nat → Int64} {Z : Nat → Int32} {kn : Bool} {ft fn mo th : Int32} (hR : rm G M y b nd nn I J Z kn ft fn mo th) {D : Nat → dR} {N : Nat → nR} {pn : Nat → Nat → Int64} {pt : Nat → Nat → Int32} {np bg ho : Nat → Nat} {pa : Nat → Option Nat} (hD : tD nd D pn pt np bg I J Z) (hN : tN nd nn N ho pa I J) {k : Nat} (hk : k < nn) {p9 : Int32} : cR l yy_M_bindsIn bb_M_bindsIn 4 (some .boolean) 1 G M [.ref y, .int (nI k), .int p9] (.int (bI (m_bIn (n_kd (N k)) p9))) := by
  refine me_R (by decide) (Nat.le_of_ble_eq_true rfl) ?_
  intro p e s m below meth c ls hx hb hr hlocks hml hown ht hM hK hl
  have hown : s.vm.findClass RR_M = some m.cls := hown
  have hl : lv_has ls 4 [(0, .ref y), (1, .int (nI k)), (2, .int p9)] := hl
  obtain ⟨hyb, my, hA9, hnd, hnn⟩ := id hR
  obtain ⟨a0, a1, a2, a3, a4, a5, a6, a7, a8, a9, a10, a11, a12, a13, a14, a15, a16, a17⟩ := id hA9
  refine lv_aload_n hx hb dd_M_bindsIn_0 rfl (lv_at hl 0 rfl) ?_
  refine mg_get hx hb ht ii_M hown hK hM my rfl 10 (by decide) wd_2_223 (fun _ h => h) rfl dd_M_bindsIn_1 ?_
  refine lv_iload_n hx hb dd_M_bindsIn_4 rfl (lv_at hl 1 rfl) ?_
  refine mg_iald hx hb hK hM a7 (vp_in_nI (show k < 4096 by omega) (by decide)) dd_M_bindsIn_5 ?_
  rw [nI_clamp (show k < 2 ^ 31 by omega)]
  rw [(hN k (show k < nn by omega)).1]
  refine lv_istore_n (lv' := [(3, .int (n_kd (N k))), (0, .ref y), (1, .int (nI k)), (2, .int p9)]) hx hb dd_M_bindsIn_6 rfl hl (by decide) rfl (fun ls hl => ?_)
  refine lv_iload_n hx hb dd_M_bindsIn_7 rfl (lv_at hl 0 rfl) ?_
  refine lv_bipush (v := 11) hx hb dd_M_bindsIn_8 (by decide) ?_
  refine lv_icmp_eq (tgt := 25) hx hb dd_M_bindsIn_10 (by decide) (fun c1 => ?_) (fun c1 => ?_)
  · refine lv_iload_n hx hb dd_M_bindsIn_25 rfl (lv_at hl 3 rfl) ?_
    refine lv_iconst (v := 1) hx hb dd_M_bindsIn_26 (by decide) ?_
    refine lv_icmp_eq (tgt := 42) hx hb dd_M_bindsIn_27 (by decide) (fun c2 => ?_) (fun c2 => ?_)
    · refine lv_iconst (v := 1) hx hb dd_M_bindsIn_42 (by decide) ?_
      refine lv_goto (tgt := 47) hx hb dd_M_bindsIn_43 (by decide) ?_
      exact mr_i hx hb hr hlocks rfl (by simp [bI, m_bIn, eq_true c1, eq_true c2]) dd_M_bindsIn_47
    · refine lv_iload_n hx hb dd_M_bindsIn_30 rfl (lv_at hl 0 rfl) ?_
      refine mc_S (As := [.int (n_kd (N k))]) (rest := []) 1 (cc_M_hasSecond (k := (n_kd (N k)))) hx hb hml hown ht hM hK hl.1 lk_M_98 (by decide +kernel) (by decide) rfl rfl (Nat.le_of_ble_eq_true rfl) dd_M_bindsIn_31 ⟨Nat.zero_le _, Nat.zero_le _⟩ ?_
      refine lb_if_eq (tgt := 46) hx hb dd_M_bindsIn_34 (by decide) (fun c3 => ?_) (fun c3 => ?_)
      · refine lv_iconst (v := 0) hx hb dd_M_bindsIn_46 (by decide) ?_
        exact mr_i hx hb hr hlocks rfl (by simp [bI, m_bIn, eq_true c1, c2, c3]) dd_M_bindsIn_47
      · refine lv_iload_n hx hb dd_M_bindsIn_37 rfl (lv_at hl 3 rfl) ?_
        refine lv_iconst (v := 2) hx hb dd_M_bindsIn_38 (by decide) ?_
        refine lv_icmp_ne (tgt := 46) hx hb dd_M_bindsIn_39 (by decide) (fun c4 => ?_) (fun c4 => ?_)
        · refine lv_iconst (v := 0) hx hb dd_M_bindsIn_46 (by decide) ?_
          exact mr_i hx hb hr hlocks rfl (by simp [bI, m_bIn, eq_true c1, c2, c3, c4]) dd_M_bindsIn_47
        · refine lv_iconst (v := 1) hx hb dd_M_bindsIn_42 (by decide) ?_
          refine lv_goto (tgt := 47) hx hb dd_M_bindsIn_43 (by decide) ?_
          exact mr_i hx hb hr hlocks rfl (by simp [bI, m_bIn, eq_true c1, c2, c3, eq_true c4]) dd_M_bindsIn_47
  · refine lv_iload_n hx hb dd_M_bindsIn_13 rfl (lv_at hl 0 rfl) ?_
    refine lv_bipush (v := 21) hx hb dd_M_bindsIn_14 (by decide) ?_
    refine lv_icmp_eq (tgt := 25) hx hb dd_M_bindsIn_16 (by decide) (fun c5 => ?_) (fun c5 => ?_)
    · refine lv_iload_n hx hb dd_M_bindsIn_25 rfl (lv_at hl 3 rfl) ?_
      refine lv_iconst (v := 1) hx hb dd_M_bindsIn_26 (by decide) ?_
      refine lv_icmp_eq (tgt := 42) hx hb dd_M_bindsIn_27 (by decide) (fun c6 => ?_) (fun c6 => ?_)
      · refine lv_iconst (v := 1) hx hb dd_M_bindsIn_42 (by decide) ?_
        refine lv_goto (tgt := 47) hx hb dd_M_bindsIn_43 (by decide) ?_
        exact mr_i hx hb hr hlocks rfl (by simp [bI, m_bIn, c1, eq_true c5, eq_true c6]) dd_M_bindsIn_47
      · refine lv_iload_n hx hb dd_M_bindsIn_30 rfl (lv_at hl 0 rfl) ?_
        refine mc_S (As := [.int (n_kd (N k))]) (rest := []) 1 (cc_M_hasSecond (k := (n_kd (N k)))) hx hb hml hown ht hM hK hl.1 lk_M_98 (by decide +kernel) (by decide) rfl rfl (Nat.le_of_ble_eq_true rfl) dd_M_bindsIn_31 ⟨Nat.zero_le _, Nat.zero_le _⟩ ?_
        refine lb_if_eq (tgt := 46) hx hb dd_M_bindsIn_34 (by decide) (fun c7 => ?_) (fun c7 => ?_)
        · refine lv_iconst (v := 0) hx hb dd_M_bindsIn_46 (by decide) ?_
          exact mr_i hx hb hr hlocks rfl (by simp [bI, m_bIn, c1, eq_true c5, c6, c7]) dd_M_bindsIn_47
        · refine lv_iload_n hx hb dd_M_bindsIn_37 rfl (lv_at hl 3 rfl) ?_
          refine lv_iconst (v := 2) hx hb dd_M_bindsIn_38 (by decide) ?_
          refine lv_icmp_ne (tgt := 46) hx hb dd_M_bindsIn_39 (by decide) (fun c8 => ?_) (fun c8 => ?_)
          · refine lv_iconst (v := 0) hx hb dd_M_bindsIn_46 (by decide) ?_
            exact mr_i hx hb hr hlocks rfl (by simp [bI, m_bIn, c1, eq_true c5, c6, c7, c8]) dd_M_bindsIn_47
          · refine lv_iconst (v := 1) hx hb dd_M_bindsIn_42 (by decide) ?_
            refine lv_goto (tgt := 47) hx hb dd_M_bindsIn_43 (by decide) ?_
            exact mr_i hx hb hr hlocks rfl (by simp [bI, m_bIn, c1, eq_true c5, c6, c7, eq_true c8]) dd_M_bindsIn_47
    · refine lv_iload_n hx hb dd_M_bindsIn_19 rfl (lv_at hl 0 rfl) ?_
      refine lv_bipush (v := 18) hx hb dd_M_bindsIn_20 (by decide) ?_
      refine lv_icmp_ne (tgt := 30) hx hb dd_M_bindsIn_22 (by decide) (fun c9 => ?_) (fun c9 => ?_)
      · refine lv_iload_n hx hb dd_M_bindsIn_30 rfl (lv_at hl 0 rfl) ?_
        refine mc_S (As := [.int (n_kd (N k))]) (rest := []) 1 (cc_M_hasSecond (k := (n_kd (N k)))) hx hb hml hown ht hM hK hl.1 lk_M_98 (by decide +kernel) (by decide) rfl rfl (Nat.le_of_ble_eq_true rfl) dd_M_bindsIn_31 ⟨Nat.zero_le _, Nat.zero_le _⟩ ?_
        refine lb_if_eq (tgt := 46) hx hb dd_M_bindsIn_34 (by decide) (fun c10 => ?_) (fun c10 => ?_)
        · refine lv_iconst (v := 0) hx hb dd_M_bindsIn_46 (by decide) ?_
          exact mr_i hx hb hr hlocks rfl (by simp [bI, m_bIn, c1, c5, c9, c10]) dd_M_bindsIn_47
        · refine lv_iload_n hx hb dd_M_bindsIn_37 rfl (lv_at hl 3 rfl) ?_
          refine lv_iconst (v := 2) hx hb dd_M_bindsIn_38 (by decide) ?_
          refine lv_icmp_ne (tgt := 46) hx hb dd_M_bindsIn_39 (by decide) (fun c11 => ?_) (fun c11 => ?_)
          · refine lv_iconst (v := 0) hx hb dd_M_bindsIn_46 (by decide) ?_
            exact mr_i hx hb hr hlocks rfl (by simp [bI, m_bIn, c1, c5, c9, c10, c11]) dd_M_bindsIn_47
          · refine lv_iconst (v := 1) hx hb dd_M_bindsIn_42 (by decide) ?_
            refine lv_goto (tgt := 47) hx hb dd_M_bindsIn_43 (by decide) ?_
            exact mr_i hx hb hr hlocks rfl (by simp [bI, m_bIn, c1, c5, c9, c10, eq_true c11]) dd_M_bindsIn_47
      · refine lv_iload_n hx hb dd_M_bindsIn_25 rfl (lv_at hl 3 rfl) ?_
        refine lv_iconst (v := 1) hx hb dd_M_bindsIn_26 (by decide) ?_
        refine lv_icmp_eq (tgt := 42) hx hb dd_M_bindsIn_27 (by decide) (fun c12 => ?_) (fun c12 => ?_)
        · refine lv_iconst (v := 1) hx hb dd_M_bindsIn_42 (by decide) ?_
          refine lv_goto (tgt := 47) hx hb dd_M_bindsIn_43 (by decide) ?_
          exact mr_i hx hb hr hlocks rfl (by simp [bI, m_bIn, c1, c5, eq_true c9, eq_true c12]) dd_M_bindsIn_47
        · refine lv_iload_n hx hb dd_M_bindsIn_30 rfl (lv_at hl 0 rfl) ?_
          refine mc_S (As := [.int (n_kd (N k))]) (rest := []) 1 (cc_M_hasSecond (k := (n_kd (N k)))) hx hb hml hown ht hM hK hl.1 lk_M_98 (by decide +kernel) (by decide) rfl rfl (Nat.le_of_ble_eq_true rfl) dd_M_bindsIn_31 ⟨Nat.zero_le _, Nat.zero_le _⟩ ?_
          refine lb_if_eq (tgt := 46) hx hb dd_M_bindsIn_34 (by decide) (fun c13 => ?_) (fun c13 => ?_)
          · refine lv_iconst (v := 0) hx hb dd_M_bindsIn_46 (by decide) ?_
            exact mr_i hx hb hr hlocks rfl (by simp [bI, m_bIn, c1, c5, eq_true c9, c12, c13]) dd_M_bindsIn_47
          · refine lv_iload_n hx hb dd_M_bindsIn_37 rfl (lv_at hl 3 rfl) ?_
            refine lv_iconst (v := 2) hx hb dd_M_bindsIn_38 (by decide) ?_
            refine lv_icmp_ne (tgt := 46) hx hb dd_M_bindsIn_39 (by decide) (fun c14 => ?_) (fun c14 => ?_)
            · refine lv_iconst (v := 0) hx hb dd_M_bindsIn_46 (by decide) ?_
              exact mr_i hx hb hr hlocks rfl (by simp [bI, m_bIn, c1, c5, eq_true c9, c12, c13, c14]) dd_M_bindsIn_47
            · refine lv_iconst (v := 1) hx hb dd_M_bindsIn_42 (by decide) ?_
              refine lv_goto (tgt := 47) hx hb dd_M_bindsIn_43 (by decide) ?_
              exact mr_i hx hb hr hlocks rfl (by simp [bI, m_bIn, c1, c5, eq_true c9, c12, c13, eq_true c14]) dd_M_bindsIn_47

set_option maxHeartbeats 4000000 in
set_option maxRecDepth 100000 in
theorem cc_M_isEnd {l : Launch} {G : gC} {M : mC} {y b nd nn : Nat} {I : Nat → Nat → Int32} {J : Nat → Nat → Int64} {Z : Nat → Int32} {kn : Bool} {ft fn mo th : Int32} (hR : rm G M y b nd nn I J Z kn ft fn mo th) {D : Nat → dR} {N : Nat → nR} {pn : Nat → Nat → Int64} {pt : Nat → Nat → Int32} {np bg ho : Nat → Nat} {pa : Nat → Option Nat} (hD : tD nd D pn pt np bg I J Z) (hN : tN nd nn N ho pa I J) {j k : Nat} (hj : j < nn) (hk : k < nn) : cR l yy_M_isEnd bb_M_isEnd 4 (some .boolean) 0 G M [.ref y, .int (nI j), .int (nI (k + 1)), .int (nI nn)] (.int (bI (m_isEnd nn pa j k))) := by
  refine me_R (by decide) (Nat.le_of_ble_eq_true rfl) ?_
  intro p e s m below meth c ls hx hb hr hlocks hml hown ht hM hK hl
  have hown : s.vm.findClass RR_M = some m.cls := hown
  have hl : lv_has ls 4 [(0, .ref y), (1, .int (nI j)), (2, .int (nI (k + 1))), (3, .int (nI nn))] := hl
  obtain ⟨hyb, my, hA9, hnd, hnn⟩ := id hR
  obtain ⟨a0, a1, a2, a3, a4, a5, a6, a7, a8, a9, a10, a11, a12, a13, a14, a15, a16, a17⟩ := id hA9
  refine lv_iload_n hx hb dd_M_isEnd_0 rfl (lv_at hl 2 rfl) ?_
  refine lv_iload_n hx hb dd_M_isEnd_1 rfl (lv_at hl 3 rfl) ?_
  refine lv_icmp_eq (tgt := 15) hx hb dd_M_isEnd_2 (by decide) (fun c1 => ?_) (fun c1 => ?_)
  · refine lv_iconst (v := 1) hx hb dd_M_isEnd_15 (by decide) ?_
    refine lv_goto (tgt := 20) hx hb dd_M_isEnd_16 (by decide) ?_
    exact mr_i hx hb hr hlocks rfl (by simp [bI, m_isEnd, eq_true c1]) dd_M_isEnd_20
  · have hk1 : k + 1 < nn := by have : k + 1 ≠ nn := fun z => c1 (by rw [z]); omega
    refine lv_aload_n hx hb dd_M_isEnd_5 rfl (lv_at hl 0 rfl) ?_
    refine mg_get hx hb ht ii_M hown hK hM my rfl 14 (by decide) wd_2_227 (fun _ h => h) rfl dd_M_isEnd_6 ?_
    refine lv_iload_n hx hb dd_M_isEnd_9 rfl (lv_at hl 2 rfl) ?_
    refine mg_iald hx hb hK hM a11 (vp_in_nI (show (k + 1) < 4096 by omega) (by decide)) dd_M_isEnd_10 ?_
    rw [nI_clamp (show (k + 1) < 2 ^ 31 by omega)]
    rw [(hN (k + 1) (show (k + 1) < nn by omega)).2.2.2.2.1]
    rcases hp2 : pa (k + 1) with _ | p2
    · rw [cn_none]
      refine lv_iload_n hx hb dd_M_isEnd_11 rfl (lv_at hl 1 rfl) ?_
      refine lv_icmp_ge (tgt := 19) hx hb dd_M_isEnd_12 (by decide) (fun z => absurd z (nI_nm1 (by omega))) (fun _ => ?_)
      refine lv_iconst (v := 1) hx hb dd_M_isEnd_15 (by decide) ?_
      refine lv_goto (tgt := 20) hx hb dd_M_isEnd_16 (by decide) ?_
      exact mr_i hx hb hr hlocks rfl (by simp [bI, m_isEnd, c1, hp2]) dd_M_isEnd_20
    · rw [cn_some]
      have hlp2 := (hN (k + 1) (show (k + 1) < nn by omega)).2.2.2.2.2.2.2.2.2 p2 hp2
      refine lv_iload_n hx hb dd_M_isEnd_11 rfl (lv_at hl 1 rfl) ?_
      refine lv_icmp_ge (tgt := 19) hx hb dd_M_isEnd_12 (by decide) (fun c3 => ?_) (fun c3 => ?_)
      · refine lv_iconst (v := 0) hx hb dd_M_isEnd_19 (by decide) ?_
        exact mr_i hx hb hr hlocks rfl (by simp [bI, m_isEnd, c1, hp2, c3]) dd_M_isEnd_20
      · refine lv_iconst (v := 1) hx hb dd_M_isEnd_15 (by decide) ?_
        refine lv_goto (tgt := 20) hx hb dd_M_isEnd_16 (by decide) ?_
        exact mr_i hx hb hr hlocks rfl (by simp [bI, m_isEnd, c1, hp2, c3]) dd_M_isEnd_20
