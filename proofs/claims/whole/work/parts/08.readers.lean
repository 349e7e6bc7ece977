set_option maxHeartbeats 4000000 in
set_option maxRecDepth 100000 in
theorem cc_K_isKind {l : Launch} {G : gC} {M : mC} {k : Int32} : cR l yy_K_isKind bb_K_isKind 1 (some .boolean) 0 G M [.int k] (.int (bI (k_isKind k))) := by
  refine me_R (by decide) (Nat.le_of_ble_eq_true rfl) ?_
  intro p e s m below meth c ls hx hb hr hlocks hml hown ht hM hK hl
  have hown : s.vm.findClass RR_K = some m.cls := hown
  have hl : lv_has ls 1 [(0, .int k)] := hl
  refine lv_iload_n hx hb dd_K_isKind_0 rfl (lv_at hl 0 rfl) ?_
  refine lv_if_lt (tgt := 14) hx hb dd_K_isKind_1 (by decide) (fun c1 => ?_) (fun c1 => ?_)
  · refine lv_iconst (v := 0) hx hb dd_K_isKind_14 (by decide) ?_
    exact mr_i hx hb hr hlocks rfl (by simp [bI, k_isKind, c1]) dd_K_isKind_15
  · refine lv_iload_n hx hb dd_K_isKind_4 rfl (lv_at hl 0 rfl) ?_
    refine lv_bipush (v := 23) hx hb dd_K_isKind_5 (by decide) ?_
    refine lv_icmp_gt (tgt := 14) hx hb dd_K_isKind_7 (by decide) (fun c2 => ?_) (fun c2 => ?_)
    · refine lv_iconst (v := 0) hx hb dd_K_isKind_14 (by decide) ?_
      exact mr_i hx hb hr hlocks rfl (by simp [bI, k_isKind, c1, c2]) dd_K_isKind_15
    · refine lv_iconst (v := 1) hx hb dd_K_isKind_10 (by decide) ?_
      refine lv_goto (tgt := 15) hx hb dd_K_isKind_11 (by decide) ?_
      exact mr_i hx hb hr hlocks rfl (by simp [bI, k_isKind, c1, c2]) dd_K_isKind_15

set_option maxHeartbeats 4000000 in
set_option maxRecDepth 100000 in
theorem cc_K_isChange {l : Launch} {G : gC} {M : mC} {k : Int32} : cR l yy_K_isChange bb_K_isChange 1 (some .boolean) 0 G M [.int k] (.int (bI (k_isChange k))) := by
  refine me_R (by decide) (Nat.le_of_ble_eq_true rfl) ?_
  intro p e s m below meth c ls hx hb hr hlocks hml hown ht hM hK hl
  have hown : s.vm.findClass RR_K = some m.cls := hown
  have hl : lv_has ls 1 [(0, .int k)] := hl
  refine lv_iload_n hx hb dd_K_isChange_0 rfl (lv_at hl 0 rfl) ?_
  refine lv_bipush (v := 18) hx hb dd_K_isChange_1 (by decide) ?_
  refine lv_icmp_lt (tgt := 10) hx hb dd_K_isChange_3 (by decide) (fun c1 => ?_) (fun c1 => ?_)
  · refine lv_iconst (v := 0) hx hb dd_K_isChange_10 (by decide) ?_
    exact mr_i hx hb hr hlocks rfl (by simp [bI, k_isChange, c1]) dd_K_isChange_11
  · refine lv_iconst (v := 1) hx hb dd_K_isChange_6 (by decide) ?_
    refine lv_goto (tgt := 11) hx hb dd_K_isChange_7 (by decide) ?_
    exact mr_i hx hb hr hlocks rfl (by simp [bI, k_isChange, c1]) dd_K_isChange_11

set_option maxHeartbeats 4000000 in
set_option maxRecDepth 100000 in
theorem cc_K_isCall {l : Launch} {G : gC} {M : mC} {k : Int32} : cR l yy_K_isCall bb_K_isCall 1 (some .boolean) 0 G M [.int k] (.int (bI (k_isCall k))) := by
  refine me_R (by decide) (Nat.le_of_ble_eq_true rfl) ?_
  intro p e s m below meth c ls hx hb hr hlocks hml hown ht hM hK hl
  have hown : s.vm.findClass RR_K = some m.cls := hown
  have hl : lv_has ls 1 [(0, .int k)] := hl
  refine lv_iload_n hx hb dd_K_isCall_0 rfl (lv_at hl 0 rfl) ?_
  refine lv_bipush (v := 14) hx hb dd_K_isCall_1 (by decide) ?_
  refine lv_icmp_eq (tgt := 18) hx hb dd_K_isCall_3 (by decide) (fun c1 => ?_) (fun c1 => ?_)
  · refine lv_iconst (v := 1) hx hb dd_K_isCall_18 (by decide) ?_
    refine lv_goto (tgt := 23) hx hb dd_K_isCall_19 (by decide) ?_
    exact mr_i hx hb hr hlocks rfl (by simp [bI, k_isCall, eq_true c1]) dd_K_isCall_23
  · refine lv_iload_n hx hb dd_K_isCall_6 rfl (lv_at hl 0 rfl) ?_
    refine lv_bipush (v := 15) hx hb dd_K_isCall_7 (by decide) ?_
    refine lv_icmp_eq (tgt := 18) hx hb dd_K_isCall_9 (by decide) (fun c2 => ?_) (fun c2 => ?_)
    · refine lv_iconst (v := 1) hx hb dd_K_isCall_18 (by decide) ?_
      refine lv_goto (tgt := 23) hx hb dd_K_isCall_19 (by decide) ?_
      exact mr_i hx hb hr hlocks rfl (by simp [bI, k_isCall, c1, eq_true c2]) dd_K_isCall_23
    · refine lv_iload_n hx hb dd_K_isCall_12 rfl (lv_at hl 0 rfl) ?_
      refine lv_bipush (v := 23) hx hb dd_K_isCall_13 (by decide) ?_
      refine lv_icmp_ne (tgt := 22) hx hb dd_K_isCall_15 (by decide) (fun c3 => ?_) (fun c3 => ?_)
      · refine lv_iconst (v := 0) hx hb dd_K_isCall_22 (by decide) ?_
        exact mr_i hx hb hr hlocks rfl (by simp [bI, k_isCall, c1, c2, c3]) dd_K_isCall_23
      · refine lv_iconst (v := 1) hx hb dd_K_isCall_18 (by decide) ?_
        refine lv_goto (tgt := 23) hx hb dd_K_isCall_19 (by decide) ?_
        exact mr_i hx hb hr hlocks rfl (by simp [bI, k_isCall, c1, c2, eq_true c3]) dd_K_isCall_23

set_option maxHeartbeats 4000000 in
set_option maxRecDepth 100000 in
theorem cc_K_isCase {l : Launch} {G : gC} {M : mC} {k : Int32} : cR l yy_K_isCase bb_K_isCase 1 (some .boolean) 0 G M [.int k] (.int (bI (k_isCase k))) := by
  refine me_R (by decide) (Nat.le_of_ble_eq_true rfl) ?_
  intro p e s m below meth c ls hx hb hr hlocks hml hown ht hM hK hl
  have hown : s.vm.findClass RR_K = some m.cls := hown
  have hl : lv_has ls 1 [(0, .int k)] := hl
  refine lv_iload_n hx hb dd_K_isCase_0 rfl (lv_at hl 0 rfl) ?_
  refine lv_bipush (v := 12) hx hb dd_K_isCase_1 (by decide) ?_
  refine lv_icmp_eq (tgt := 12) hx hb dd_K_isCase_3 (by decide) (fun c1 => ?_) (fun c1 => ?_)
  · refine lv_iconst (v := 1) hx hb dd_K_isCase_12 (by decide) ?_
    refine lv_goto (tgt := 17) hx hb dd_K_isCase_13 (by decide) ?_
    exact mr_i hx hb hr hlocks rfl (by simp [bI, k_isCase, eq_true c1]) dd_K_isCase_17
  · refine lv_iload_n hx hb dd_K_isCase_6 rfl (lv_at hl 0 rfl) ?_
    refine lv_bipush (v := 22) hx hb dd_K_isCase_7 (by decide) ?_
    refine lv_icmp_ne (tgt := 16) hx hb dd_K_isCase_9 (by decide) (fun c2 => ?_) (fun c2 => ?_)
    · refine lv_iconst (v := 0) hx hb dd_K_isCase_16 (by decide) ?_
      exact mr_i hx hb hr hlocks rfl (by simp [bI, k_isCase, c1, c2]) dd_K_isCase_17
    · refine lv_iconst (v := 1) hx hb dd_K_isCase_12 (by decide) ?_
      refine lv_goto (tgt := 17) hx hb dd_K_isCase_13 (by decide) ?_
      exact mr_i hx hb hr hlocks rfl (by simp [bI, k_isCase, c1, eq_true c2]) dd_K_isCase_17

set_option maxHeartbeats 4000000 in
set_option maxRecDepth 100000 in
theorem cc_K_isLet {l : Launch} {G : gC} {M : mC} {k : Int32} : cR l yy_K_isLet bb_K_isLet 1 (some .boolean) 0 G M [.int k] (.int (bI (k_isLet k))) := by
  refine me_R (by decide) (Nat.le_of_ble_eq_true rfl) ?_
  intro p e s m below meth c ls hx hb hr hlocks hml hown ht hM hK hl
  have hown : s.vm.findClass RR_K = some m.cls := hown
  have hl : lv_has ls 1 [(0, .int k)] := hl
  refine lv_iload_n hx hb dd_K_isLet_0 rfl (lv_at hl 0 rfl) ?_
  refine lv_bipush (v := 11) hx hb dd_K_isLet_1 (by decide) ?_
  refine lv_icmp_eq (tgt := 12) hx hb dd_K_isLet_3 (by decide) (fun c1 => ?_) (fun c1 => ?_)
  · refine lv_iconst (v := 1) hx hb dd_K_isLet_12 (by decide) ?_
    refine lv_goto (tgt := 17) hx hb dd_K_isLet_13 (by decide) ?_
    exact mr_i hx hb hr hlocks rfl (by simp [bI, k_isLet, eq_true c1]) dd_K_isLet_17
  · refine lv_iload_n hx hb dd_K_isLet_6 rfl (lv_at hl 0 rfl) ?_
    refine lv_bipush (v := 21) hx hb dd_K_isLet_7 (by decide) ?_
    refine lv_icmp_ne (tgt := 16) hx hb dd_K_isLet_9 (by decide) (fun c2 => ?_) (fun c2 => ?_)
    · refine lv_iconst (v := 0) hx hb dd_K_isLet_16 (by decide) ?_
      exact mr_i hx hb hr hlocks rfl (by simp [bI, k_isLet, c1, c2]) dd_K_isLet_17
    · refine lv_iconst (v := 1) hx hb dd_K_isLet_12 (by decide) ?_
      refine lv_goto (tgt := 17) hx hb dd_K_isLet_13 (by decide) ?_
      exact mr_i hx hb hr hlocks rfl (by simp [bI, k_isLet, c1, eq_true c2]) dd_K_isLet_17

set_option maxHeartbeats 4000000 in
set_option maxRecDepth 100000 in
theorem cc_K_isBinder {l : Launch} {G : gC} {M : mC} {k : Int32} : cR l yy_K_isBinder bb_K_isBinder 1 (some .boolean) 0 G M [.int k] (.int (bI (k_isBinder k))) := by
  refine me_R (by decide) (Nat.le_of_ble_eq_true rfl) ?_
  intro p e s m below meth c ls hx hb hr hlocks hml hown ht hM hK hl
  have hown : s.vm.findClass RR_K = some m.cls := hown
  have hl : lv_has ls 1 [(0, .int k)] := hl
  refine lv_iload_n hx hb dd_K_isBinder_0 rfl (lv_at hl 0 rfl) ?_
  refine lv_bipush (v := 11) hx hb dd_K_isBinder_1 (by decide) ?_
  refine lv_icmp_eq (tgt := 30) hx hb dd_K_isBinder_3 (by decide) (fun c1 => ?_) (fun c1 => ?_)
  · refine lv_iconst (v := 1) hx hb dd_K_isBinder_30 (by decide) ?_
    refine lv_goto (tgt := 35) hx hb dd_K_isBinder_31 (by decide) ?_
    exact mr_i hx hb hr hlocks rfl (by simp [bI, k_isBinder, eq_true c1]) dd_K_isBinder_35
  · refine lv_iload_n hx hb dd_K_isBinder_6 rfl (lv_at hl 0 rfl) ?_
    refine lv_bipush (v := 12) hx hb dd_K_isBinder_7 (by decide) ?_
    refine lv_icmp_eq (tgt := 30) hx hb dd_K_isBinder_9 (by decide) (fun c2 => ?_) (fun c2 => ?_)
    · refine lv_iconst (v := 1) hx hb dd_K_isBinder_30 (by decide) ?_
      refine lv_goto (tgt := 35) hx hb dd_K_isBinder_31 (by decide) ?_
      exact mr_i hx hb hr hlocks rfl (by simp [bI, k_isBinder, c1, eq_true c2]) dd_K_isBinder_35
    · refine lv_iload_n hx hb dd_K_isBinder_12 rfl (lv_at hl 0 rfl) ?_
      refine lv_bipush (v := 18) hx hb dd_K_isBinder_13 (by decide) ?_
      refine lv_icmp_eq (tgt := 30) hx hb dd_K_isBinder_15 (by decide) (fun c3 => ?_) (fun c3 => ?_)
      · refine lv_iconst (v := 1) hx hb dd_K_isBinder_30 (by decide) ?_
        refine lv_goto (tgt := 35) hx hb dd_K_isBinder_31 (by decide) ?_
        exact mr_i hx hb hr hlocks rfl (by simp [bI, k_isBinder, c1, c2, eq_true c3]) dd_K_isBinder_35
      · refine lv_iload_n hx hb dd_K_isBinder_18 rfl (lv_at hl 0 rfl) ?_
        refine lv_bipush (v := 21) hx hb dd_K_isBinder_19 (by decide) ?_
        refine lv_icmp_eq (tgt := 30) hx hb dd_K_isBinder_21 (by decide) (fun c4 => ?_) (fun c4 => ?_)
        · refine lv_iconst (v := 1) hx hb dd_K_isBinder_30 (by decide) ?_
          refine lv_goto (tgt := 35) hx hb dd_K_isBinder_31 (by decide) ?_
          exact mr_i hx hb hr hlocks rfl (by simp [bI, k_isBinder, c1, c2, c3, eq_true c4]) dd_K_isBinder_35
        · refine lv_iload_n hx hb dd_K_isBinder_24 rfl (lv_at hl 0 rfl) ?_
          refine lv_bipush (v := 22) hx hb dd_K_isBinder_25 (by decide) ?_
          refine lv_icmp_ne (tgt := 34) hx hb dd_K_isBinder_27 (by decide) (fun c5 => ?_) (fun c5 => ?_)
          · refine lv_iconst (v := 0) hx hb dd_K_isBinder_34 (by decide) ?_
            exact mr_i hx hb hr hlocks rfl (by simp [bI, k_isBinder, c1, c2, c3, c4, c5]) dd_K_isBinder_35
          · refine lv_iconst (v := 1) hx hb dd_K_isBinder_30 (by decide) ?_
            refine lv_goto (tgt := 35) hx hb dd_K_isBinder_31 (by decide) ?_
            exact mr_i hx hb hr hlocks rfl (by simp [bI, k_isBinder, c1, c2, c3, c4, eq_true c5]) dd_K_isBinder_35

set_option maxHeartbeats 4000000 in
set_option maxRecDepth 100000 in
theorem cc_K_isAsLastPart {l : Launch} {G : gC} {M : mC} {k : Int32} : cR l yy_K_isAsLastPart bb_K_isAsLastPart 1 (some .boolean) 0 G M [.int k] (.int (bI (k_isAsLast k))) := by
  refine me_R (by decide) (Nat.le_of_ble_eq_true rfl) ?_
  intro p e s m below meth c ls hx hb hr hlocks hml hown ht hM hK hl
  have hown : s.vm.findClass RR_K = some m.cls := hown
  have hl : lv_has ls 1 [(0, .int k)] := hl
  refine lv_iload_n hx hb dd_K_isAsLastPart_0 rfl (lv_at hl 0 rfl) ?_
  refine lv_bipush (v := 10) hx hb dd_K_isAsLastPart_1 (by decide) ?_
  refine lv_icmp_lt (tgt := 12) hx hb dd_K_isAsLastPart_3 (by decide) (fun c1 => ?_) (fun c1 => ?_)
  · refine lv_iload_n hx hb dd_K_isAsLastPart_12 rfl (lv_at hl 0 rfl) ?_
    refine lv_bipush (v := 18) hx hb dd_K_isAsLastPart_13 (by decide) ?_
    refine lv_icmp_lt (tgt := 28) hx hb dd_K_isAsLastPart_15 (by decide) (fun c2 => ?_) (fun c2 => ?_)
    · refine lv_iconst (v := 0) hx hb dd_K_isAsLastPart_28 (by decide) ?_
      exact mr_i hx hb hr hlocks rfl (by simp [bI, k_isAsLast, c1, c2]) dd_K_isAsLastPart_29
    · refine lv_iload_n hx hb dd_K_isAsLastPart_18 rfl (lv_at hl 0 rfl) ?_
      refine lv_bipush (v := 22) hx hb dd_K_isAsLastPart_19 (by decide) ?_
      refine lv_icmp_gt (tgt := 28) hx hb dd_K_isAsLastPart_21 (by decide) (fun c3 => ?_) (fun c3 => ?_)
      · refine lv_iconst (v := 0) hx hb dd_K_isAsLastPart_28 (by decide) ?_
        exact mr_i hx hb hr hlocks rfl (by simp [bI, k_isAsLast, c1, c2, c3]) dd_K_isAsLastPart_29
      · refine lv_iconst (v := 1) hx hb dd_K_isAsLastPart_24 (by decide) ?_
        refine lv_goto (tgt := 29) hx hb dd_K_isAsLastPart_25 (by decide) ?_
        exact mr_i hx hb hr hlocks rfl (by simp [bI, k_isAsLast, c1, c2, c3]) dd_K_isAsLastPart_29
  · refine lv_iload_n hx hb dd_K_isAsLastPart_6 rfl (lv_at hl 0 rfl) ?_
    refine lv_bipush (v := 12) hx hb dd_K_isAsLastPart_7 (by decide) ?_
    refine lv_icmp_le (tgt := 24) hx hb dd_K_isAsLastPart_9 (by decide) (fun c4 => ?_) (fun c4 => ?_)
    · refine lv_iconst (v := 1) hx hb dd_K_isAsLastPart_24 (by decide) ?_
      refine lv_goto (tgt := 29) hx hb dd_K_isAsLastPart_25 (by decide) ?_
      exact mr_i hx hb hr hlocks rfl (by simp [bI, k_isAsLast, c1, c4]) dd_K_isAsLastPart_29
    · refine lv_iload_n hx hb dd_K_isAsLastPart_12 rfl (lv_at hl 0 rfl) ?_
      refine lv_bipush (v := 18) hx hb dd_K_isAsLastPart_13 (by decide) ?_
      refine lv_icmp_lt (tgt := 28) hx hb dd_K_isAsLastPart_15 (by decide) (fun c5 => ?_) (fun c5 => ?_)
      · refine lv_iconst (v := 0) hx hb dd_K_isAsLastPart_28 (by decide) ?_
        exact mr_i hx hb hr hlocks rfl (by simp [bI, k_isAsLast, c1, c4, c5]) dd_K_isAsLastPart_29
      · refine lv_iload_n hx hb dd_K_isAsLastPart_18 rfl (lv_at hl 0 rfl) ?_
        refine lv_bipush (v := 22) hx hb dd_K_isAsLastPart_19 (by decide) ?_
        refine lv_icmp_gt (tgt := 28) hx hb dd_K_isAsLastPart_21 (by decide) (fun c6 => ?_) (fun c6 => ?_)
        · refine lv_iconst (v := 0) hx hb dd_K_isAsLastPart_28 (by decide) ?_
          exact mr_i hx hb hr hlocks rfl (by simp [bI, k_isAsLast, c1, c4, c5, c6]) dd_K_isAsLastPart_29
        · refine lv_iconst (v := 1) hx hb dd_K_isAsLastPart_24 (by decide) ?_
          refine lv_goto (tgt := 29) hx hb dd_K_isAsLastPart_25 (by decide) ?_
          exact mr_i hx hb hr hlocks rfl (by simp [bI, k_isAsLast, c1, c4, c5, c6]) dd_K_isAsLastPart_29

set_option maxHeartbeats 4000000 in
set_option maxRecDepth 100000 in
theorem cc_T_isType {l : Launch} {G : gC} {M : mC} {k : Int32} : cR l yy_T_isType bb_T_isType 1 (some .boolean) 0 G M [.int k] (.int (bI (k_isType k))) := by
  refine me_R (by decide) (Nat.le_of_ble_eq_true rfl) ?_
  intro p e s m below meth c ls hx hb hr hlocks hml hown ht hM hK hl
  have hown : s.vm.findClass RR_T = some m.cls := hown
  have hl : lv_has ls 1 [(0, .int k)] := hl
  refine lv_iload_n hx hb dd_T_isType_0 rfl (lv_at hl 0 rfl) ?_
  refine lv_if_lt (tgt := 13) hx hb dd_T_isType_1 (by decide) (fun c1 => ?_) (fun c1 => ?_)
  · refine lv_iconst (v := 0) hx hb dd_T_isType_13 (by decide) ?_
    exact mr_i hx hb hr hlocks rfl (by simp [bI, k_isType, c1]) dd_T_isType_14
  · refine lv_iload_n hx hb dd_T_isType_4 rfl (lv_at hl 0 rfl) ?_
    refine lv_iconst (v := 3) hx hb dd_T_isType_5 (by decide) ?_
    refine lv_icmp_gt (tgt := 13) hx hb dd_T_isType_6 (by decide) (fun c2 => ?_) (fun c2 => ?_)
    · refine lv_iconst (v := 0) hx hb dd_T_isType_13 (by decide) ?_
      exact mr_i hx hb hr hlocks rfl (by simp [bI, k_isType, c1, c2]) dd_T_isType_14
    · refine lv_iconst (v := 1) hx hb dd_T_isType_9 (by decide) ?_
      refine lv_goto (tgt := 14) hx hb dd_T_isType_10 (by decide) ?_
      exact mr_i hx hb hr hlocks rfl (by simp [bI, k_isType, c1, c2]) dd_T_isType_14

set_option maxHeartbeats 4000000 in
set_option maxRecDepth 100000 in
theorem cc_T_isWritten {l : Launch} {G : gC} {M : mC} {k : Int32} : cR l yy_T_isWritten bb_T_isWritten 1 (some .boolean) 0 G M [.int k] (.int (bI (k_isWritten k))) := by
  refine me_R (by decide) (Nat.le_of_ble_eq_true rfl) ?_
  intro p e s m below meth c ls hx hb hr hlocks hml hown ht hM hK hl
  have hown : s.vm.findClass RR_T = some m.cls := hown
  have hl : lv_has ls 1 [(0, .int k)] := hl
  refine lv_iload_n hx hb dd_T_isWritten_0 rfl (lv_at hl 0 rfl) ?_
  refine lv_if_eq (tgt := 9) hx hb dd_T_isWritten_1 (by decide) (fun c1 => ?_) (fun c1 => ?_)
  · refine lv_iconst (v := 1) hx hb dd_T_isWritten_9 (by decide) ?_
    refine lv_goto (tgt := 14) hx hb dd_T_isWritten_10 (by decide) ?_
    exact mr_i hx hb hr hlocks rfl (by simp [bI, k_isWritten, eq_true c1]) dd_T_isWritten_14
  · refine lv_iload_n hx hb dd_T_isWritten_4 rfl (lv_at hl 0 rfl) ?_
    refine lv_iconst (v := 1) hx hb dd_T_isWritten_5 (by decide) ?_
    refine lv_icmp_ne (tgt := 13) hx hb dd_T_isWritten_6 (by decide) (fun c2 => ?_) (fun c2 => ?_)
    · refine lv_iconst (v := 0) hx hb dd_T_isWritten_13 (by decide) ?_
      exact mr_i hx hb hr hlocks rfl (by simp [bI, k_isWritten, c1, c2]) dd_T_isWritten_14
    · refine lv_iconst (v := 1) hx hb dd_T_isWritten_9 (by decide) ?_
      refine lv_goto (tgt := 14) hx hb dd_T_isWritten_10 (by decide) ?_
      exact mr_i hx hb hr hlocks rfl (by simp [bI, k_isWritten, c1, eq_true c2]) dd_T_isWritten_14

set_option maxHeartbeats 4000000 in
set_option maxRecDepth 100000 in
theorem cc_K_wantsChange {l : Launch} {G : gC} {M : mC} {k pl : Int32} : cR l yy_K_wantsChange bb_K_wantsChange 2 (some .boolean) 0 G M [.int k, .int pl] (.int (bI (k_wants k pl))) := by
  refine me_R (by decide) (Nat.le_of_ble_eq_true rfl) ?_
  intro p e s m below meth c ls hx hb hr hlocks hml hown ht hM hK hl
  have hown : s.vm.findClass RR_K = some m.cls := hown
  have hl : lv_has ls 2 [(0, .int k), (1, .int pl)] := hl
  refine lv_iload_n hx hb dd_K_wantsChange_0 rfl (lv_at hl 0 rfl) ?_
  by_cases c2 : k = 16
  · refine lv_tableIn (tgt := 44) hx hb dd_K_wantsChange_1 (by rw [c2]; decide) (by rw [c2]; decide) (by rw [c2]; rfl) (by decide) ?_
    refine lv_iconst (v := 1) hx hb dd_K_wantsChange_44 (by decide) ?_
    exact mr_i hx hb hr hlocks rfl (by simp [bI, k_wants, eq_true c2]) dd_K_wantsChange_45
  by_cases c3 : k = 17
  · refine lv_tableIn (tgt := 44) hx hb dd_K_wantsChange_1 (by rw [c3]; decide) (by rw [c3]; decide) (by rw [c3]; rfl) (by decide) ?_
    refine lv_iconst (v := 1) hx hb dd_K_wantsChange_44 (by decide) ?_
    exact mr_i hx hb hr hlocks rfl (by simp [bI, k_wants, c2, eq_true c3]) dd_K_wantsChange_45
  by_cases c4 : k = 18
  · refine lv_tableIn (tgt := 46) hx hb dd_K_wantsChange_1 (by rw [c4]; decide) (by rw [c4]; decide) (by rw [c4]; rfl) (by decide) ?_
    refine lv_iload_n hx hb dd_K_wantsChange_46 rfl (lv_at hl 1 rfl) ?_
    refine lv_if_le (tgt := 54) hx hb dd_K_wantsChange_47 (by decide) (fun c5 => ?_) (fun c5 => ?_)
    · refine lv_iconst (v := 0) hx hb dd_K_wantsChange_54 (by decide) ?_
      exact mr_i hx hb hr hlocks rfl (by simp [bI, k_wants, c2, c3, eq_true c4, c5]) dd_K_wantsChange_55
    · refine lv_iconst (v := 1) hx hb dd_K_wantsChange_50 (by decide) ?_
      refine lv_goto (tgt := 55) hx hb dd_K_wantsChange_51 (by decide) ?_
      exact mr_i hx hb hr hlocks rfl (by simp [bI, k_wants, c2, c3, eq_true c4, c5]) dd_K_wantsChange_55
  by_cases c6 : k = 20
  · refine lv_tableIn (tgt := 46) hx hb dd_K_wantsChange_1 (by rw [c6]; decide) (by rw [c6]; decide) (by rw [c6]; rfl) (by decide) ?_
    refine lv_iload_n hx hb dd_K_wantsChange_46 rfl (lv_at hl 1 rfl) ?_
    refine lv_if_le (tgt := 54) hx hb dd_K_wantsChange_47 (by decide) (fun c7 => ?_) (fun c7 => ?_)
    · refine lv_iconst (v := 0) hx hb dd_K_wantsChange_54 (by decide) ?_
      exact mr_i hx hb hr hlocks rfl (by simp [bI, k_wants, c2, c3, c4, eq_true c6, c7]) dd_K_wantsChange_55
    · refine lv_iconst (v := 1) hx hb dd_K_wantsChange_50 (by decide) ?_
      refine lv_goto (tgt := 55) hx hb dd_K_wantsChange_51 (by decide) ?_
      exact mr_i hx hb hr hlocks rfl (by simp [bI, k_wants, c2, c3, c4, eq_true c6, c7]) dd_K_wantsChange_55
  by_cases c8 : k = 21
  · refine lv_tableIn (tgt := 46) hx hb dd_K_wantsChange_1 (by rw [c8]; decide) (by rw [c8]; decide) (by rw [c8]; rfl) (by decide) ?_
    refine lv_iload_n hx hb dd_K_wantsChange_46 rfl (lv_at hl 1 rfl) ?_
    refine lv_if_le (tgt := 54) hx hb dd_K_wantsChange_47 (by decide) (fun c9 => ?_) (fun c9 => ?_)
    · refine lv_iconst (v := 0) hx hb dd_K_wantsChange_54 (by decide) ?_
      exact mr_i hx hb hr hlocks rfl (by simp [bI, k_wants, c2, c3, c4, c6, eq_true c8, c9]) dd_K_wantsChange_55
    · refine lv_iconst (v := 1) hx hb dd_K_wantsChange_50 (by decide) ?_
      refine lv_goto (tgt := 55) hx hb dd_K_wantsChange_51 (by decide) ?_
      exact mr_i hx hb hr hlocks rfl (by simp [bI, k_wants, c2, c3, c4, c6, eq_true c8, c9]) dd_K_wantsChange_55
  by_cases c10 : k = 22
  · refine lv_tableIn (tgt := 46) hx hb dd_K_wantsChange_1 (by rw [c10]; decide) (by rw [c10]; decide) (by rw [c10]; rfl) (by decide) ?_
    refine lv_iload_n hx hb dd_K_wantsChange_46 rfl (lv_at hl 1 rfl) ?_
    refine lv_if_le (tgt := 54) hx hb dd_K_wantsChange_47 (by decide) (fun c11 => ?_) (fun c11 => ?_)
    · refine lv_iconst (v := 0) hx hb dd_K_wantsChange_54 (by decide) ?_
      exact mr_i hx hb hr hlocks rfl (by simp [bI, k_wants, c2, c3, c4, c6, c8, eq_true c10, c11]) dd_K_wantsChange_55
    · refine lv_iconst (v := 1) hx hb dd_K_wantsChange_50 (by decide) ?_
      refine lv_goto (tgt := 55) hx hb dd_K_wantsChange_51 (by decide) ?_
      exact mr_i hx hb hr hlocks rfl (by simp [bI, k_wants, c2, c3, c4, c6, c8, eq_true c10, c11]) dd_K_wantsChange_55
  by_cases c12 : k = 19
  · refine lv_tableIn (tgt := 56) hx hb dd_K_wantsChange_1 (by rw [c12]; decide) (by rw [c12]; decide) (by rw [c12]; rfl) (by decide) ?_
    refine lv_iconst (v := 0) hx hb dd_K_wantsChange_56 (by decide) ?_
    exact mr_i hx hb hr hlocks rfl (by simp [bI, k_wants, c2, c3, c4, c6, c8, c10, eq_true c12]) dd_K_wantsChange_57
  have c13 : (k : Int32).toInt < 16 ∨ 22 < (k : Int32).toInt := by (have z0 := lv_neT (a := 16) c2 (by decide); have z1 := lv_neT (a := 17) c3 (by decide); have z2 := lv_neT (a := 18) c4 (by decide); have z3 := lv_neT (a := 20) c6 (by decide); have z4 := lv_neT (a := 21) c8 (by decide); have z5 := lv_neT (a := 22) c10 (by decide); have z6 := lv_neT (a := 19) c12 (by decide); omega)
  refine lv_tableOut (tgt := 56) hx hb dd_K_wantsChange_1 c13 (by decide) ?_
  refine lv_iconst (v := 0) hx hb dd_K_wantsChange_56 (by decide) ?_
  exact mr_i hx hb hr hlocks rfl (by simp [bI, k_wants, c2, c3, c4, c6, c8, c10, c12]) dd_K_wantsChange_57

set_option maxHeartbeats 4000000 in
set_option maxRecDepth 100000 in
theorem cc_K_namesFit {l : Launch} {G : gC} {M : mC} {k : Int32} {f z : Int64} : cR l yy_K_namesFit bb_K_namesFit 8 (some .boolean) 1 G M [.int k, .long f, .long z] (.int (bI (k_namesFit k f z))) := by
  refine me_R (by decide) (Nat.le_of_ble_eq_true rfl) ?_
  intro p e s m below meth c ls hx hb hr hlocks hml hown ht hM hK hl
  have hown : s.vm.findClass RR_K = some m.cls := hown
  have hl : lv_has ls 8 [(0, .int k), (1, .long f), (3, .long z)] := hl
  refine lv_iload_n hx hb dd_K_namesFit_0 rfl (lv_at hl 0 rfl) ?_
  refine lv_iconst (v := 1) hx hb dd_K_namesFit_1 (by decide) ?_
  refine lv_icmp_eq (tgt := 19) hx hb dd_K_namesFit_2 (by decide) (fun c1 => ?_) (fun c1 => ?_)
  · refine lv_iconst (v := 1) hx hb dd_K_namesFit_19 (by decide) ?_
    refine lv_goto (tgt := 24) hx hb dd_K_namesFit_20 (by decide) ?_
    refine lv_istore (lv' := [(5, .int 1), (0, .int k), (1, .long f), (3, .long z)]) hx hb dd_K_namesFit_24 hl (by decide) rfl (fun ls hl => ?_)
    refine lv_iload hx hb dd_K_namesFit_26 (lv_at hl 0 rfl) ?_
    refine lv_if_eq (tgt := 45) hx hb dd_K_namesFit_28 (by decide) (fun z => absurd z (by decide)) (fun _ => ?_)
    refine lv_lload_n hx hb dd_K_namesFit_31 rfl (lv_at hl 2 rfl) ?_
    refine lv_lconst (v := 0) hx hb dd_K_namesFit_32 (by decide) ?_
    refine W.lcmp hx hb dd_K_namesFit_33 ?_
    refine lc_if_le (tgt := 41) hx hb dd_K_namesFit_34 (by decide) (fun c2 => ?_) (fun c2 => ?_)
    · refine lv_iconst (v := 0) hx hb dd_K_namesFit_41 (by decide) ?_
      refine lv_goto (tgt := 56) hx hb dd_K_namesFit_42 (by decide) ?_
      refine lv_istore (lv' := [(6, .int 0), (5, .int 1), (0, .int k), (1, .long f), (3, .long z)]) hx hb dd_K_namesFit_56 hl (by decide) rfl (fun ls hl => ?_)
      refine lv_iload_n hx hb dd_K_namesFit_58 rfl (lv_at hl 2 rfl) ?_
      refine mc_S (As := [.int k]) (rest := []) 1 (cc_K_isCase (k := k)) hx hb hml hown ht hM hK hl.1 lk_K_25 (by decide +kernel) (by decide) rfl rfl (Nat.le_of_ble_eq_true rfl) dd_K_namesFit_59 ⟨Nat.zero_le _, Nat.zero_le _⟩ ?_
      refine lb_if_eq (tgt := 85) hx hb dd_K_namesFit_62 (by decide) (fun c3 => ?_) (fun c3 => ?_)
      · refine lv_lload_n hx hb dd_K_namesFit_85 rfl (lv_at hl 4 rfl) ?_
        refine lv_lconst (v := 0) hx hb dd_K_namesFit_86 (by decide) ?_
        refine W.lcmp hx hb dd_K_namesFit_87 ?_
        refine lc_if_ne (tgt := 95) hx hb dd_K_namesFit_88 (by decide) (fun c4 => ?_) (fun c4 => ?_)
        · refine lv_iconst (v := 0) hx hb dd_K_namesFit_95 (by decide) ?_
          refine lv_istore (lv' := [(7, .int 0), (6, .int 0), (5, .int 1), (0, .int k), (1, .long f), (3, .long z)]) hx hb dd_K_namesFit_96 hl (by decide) rfl (fun ls hl => ?_)
          refine lv_iload hx hb dd_K_namesFit_98 (lv_at hl 1 rfl) ?_
          refine lv_if_eq (tgt := 112) hx hb dd_K_namesFit_100 (by decide) (fun _ => ?_) (fun z => absurd (by decide) z)
          refine lv_iconst (v := 0) hx hb dd_K_namesFit_112 (by decide) ?_
          exact mr_i hx hb hr hlocks rfl (by simp [bI, k_namesFit, k_hasFirst, eq_true c1, c2, c3, c4]) dd_K_namesFit_113
        · refine lv_iconst (v := 1) hx hb dd_K_namesFit_91 (by decide) ?_
          refine lv_goto (tgt := 96) hx hb dd_K_namesFit_92 (by decide) ?_
          refine lv_istore (lv' := [(7, .int 1), (6, .int 0), (5, .int 1), (0, .int k), (1, .long f), (3, .long z)]) hx hb dd_K_namesFit_96 hl (by decide) rfl (fun ls hl => ?_)
          refine lv_iload hx hb dd_K_namesFit_98 (lv_at hl 1 rfl) ?_
          refine lv_if_eq (tgt := 112) hx hb dd_K_namesFit_100 (by decide) (fun _ => ?_) (fun z => absurd (by decide) z)
          refine lv_iconst (v := 0) hx hb dd_K_namesFit_112 (by decide) ?_
          exact mr_i hx hb hr hlocks rfl (by simp [bI, k_namesFit, k_hasFirst, eq_true c1, c2, c3, eq_true c4]) dd_K_namesFit_113
      · refine lv_lload_n hx hb dd_K_namesFit_65 rfl (lv_at hl 4 rfl) ?_
        refine lv_lconst (v := 0) hx hb dd_K_namesFit_66 (by decide) ?_
        refine W.lcmp hx hb dd_K_namesFit_67 ?_
        refine lc_if_le (tgt := 81) hx hb dd_K_namesFit_68 (by decide) (fun c5 => ?_) (fun c5 => ?_)
        · refine lv_iconst (v := 0) hx hb dd_K_namesFit_81 (by decide) ?_
          refine lv_goto (tgt := 96) hx hb dd_K_namesFit_82 (by decide) ?_
          refine lv_istore (lv' := [(7, .int 0), (6, .int 0), (5, .int 1), (0, .int k), (1, .long f), (3, .long z)]) hx hb dd_K_namesFit_96 hl (by decide) rfl (fun ls hl => ?_)
          refine lv_iload hx hb dd_K_namesFit_98 (lv_at hl 1 rfl) ?_
          refine lv_if_eq (tgt := 112) hx hb dd_K_namesFit_100 (by decide) (fun _ => ?_) (fun z => absurd (by decide) z)
          refine lv_iconst (v := 0) hx hb dd_K_namesFit_112 (by decide) ?_
          exact mr_i hx hb hr hlocks rfl (by simp [bI, k_namesFit, k_hasFirst, eq_true c1, c2, c3, c5]) dd_K_namesFit_113
        · refine lv_lload_n hx hb dd_K_namesFit_71 rfl (lv_at hl 4 rfl) ?_
          refine lv_lload_n hx hb dd_K_namesFit_72 rfl (lv_at hl 3 rfl) ?_
          refine W.lcmp hx hb dd_K_namesFit_73 ?_
          refine lc_if_eq (tgt := 81) hx hb dd_K_namesFit_74 (by decide) (fun c6 => ?_) (fun c6 => ?_)
          · refine lv_iconst (v := 0) hx hb dd_K_namesFit_81 (by decide) ?_
            refine lv_goto (tgt := 96) hx hb dd_K_namesFit_82 (by decide) ?_
            refine lv_istore (lv' := [(7, .int 0), (6, .int 0), (5, .int 1), (0, .int k), (1, .long f), (3, .long z)]) hx hb dd_K_namesFit_96 hl (by decide) rfl (fun ls hl => ?_)
            refine lv_iload hx hb dd_K_namesFit_98 (lv_at hl 1 rfl) ?_
            refine lv_if_eq (tgt := 112) hx hb dd_K_namesFit_100 (by decide) (fun _ => ?_) (fun z => absurd (by decide) z)
            refine lv_iconst (v := 0) hx hb dd_K_namesFit_112 (by decide) ?_
            exact mr_i hx hb hr hlocks rfl (by simp [bI, k_namesFit, k_hasFirst, eq_true c1, c2, c3, c5, eq_true c6]) dd_K_namesFit_113
          · refine lv_iconst (v := 1) hx hb dd_K_namesFit_77 (by decide) ?_
            refine lv_goto (tgt := 96) hx hb dd_K_namesFit_78 (by decide) ?_
            refine lv_istore (lv' := [(7, .int 1), (6, .int 0), (5, .int 1), (0, .int k), (1, .long f), (3, .long z)]) hx hb dd_K_namesFit_96 hl (by decide) rfl (fun ls hl => ?_)
            refine lv_iload hx hb dd_K_namesFit_98 (lv_at hl 1 rfl) ?_
            refine lv_if_eq (tgt := 112) hx hb dd_K_namesFit_100 (by decide) (fun _ => ?_) (fun z => absurd (by decide) z)
            refine lv_iconst (v := 0) hx hb dd_K_namesFit_112 (by decide) ?_
            exact mr_i hx hb hr hlocks rfl (by simp [bI, k_namesFit, k_hasFirst, eq_true c1, c2, c3, c5, c6]) dd_K_namesFit_113
    · refine lv_iconst (v := 1) hx hb dd_K_namesFit_37 (by decide) ?_
      refine lv_goto (tgt := 56) hx hb dd_K_namesFit_38 (by decide) ?_
      refine lv_istore (lv' := [(6, .int 1), (5, .int 1), (0, .int k), (1, .long f), (3, .long z)]) hx hb dd_K_namesFit_56 hl (by decide) rfl (fun ls hl => ?_)
      refine lv_iload_n hx hb dd_K_namesFit_58 rfl (lv_at hl 2 rfl) ?_
      refine mc_S (As := [.int k]) (rest := []) 1 (cc_K_isCase (k := k)) hx hb hml hown ht hM hK hl.1 lk_K_25 (by decide +kernel) (by decide) rfl rfl (Nat.le_of_ble_eq_true rfl) dd_K_namesFit_59 ⟨Nat.zero_le _, Nat.zero_le _⟩ ?_
      refine lb_if_eq (tgt := 85) hx hb dd_K_namesFit_62 (by decide) (fun c7 => ?_) (fun c7 => ?_)
      · refine lv_lload_n hx hb dd_K_namesFit_85 rfl (lv_at hl 4 rfl) ?_
        refine lv_lconst (v := 0) hx hb dd_K_namesFit_86 (by decide) ?_
        refine W.lcmp hx hb dd_K_namesFit_87 ?_
        refine lc_if_ne (tgt := 95) hx hb dd_K_namesFit_88 (by decide) (fun c8 => ?_) (fun c8 => ?_)
        · refine lv_iconst (v := 0) hx hb dd_K_namesFit_95 (by decide) ?_
          refine lv_istore (lv' := [(7, .int 0), (6, .int 1), (5, .int 1), (0, .int k), (1, .long f), (3, .long z)]) hx hb dd_K_namesFit_96 hl (by decide) rfl (fun ls hl => ?_)
          refine lv_iload hx hb dd_K_namesFit_98 (lv_at hl 1 rfl) ?_
          refine lv_if_eq (tgt := 112) hx hb dd_K_namesFit_100 (by decide) (fun z => absurd z (by decide)) (fun _ => ?_)
          refine lv_iload hx hb dd_K_namesFit_103 (lv_at hl 0 rfl) ?_
          refine lv_if_eq (tgt := 112) hx hb dd_K_namesFit_105 (by decide) (fun _ => ?_) (fun z => absurd (by decide) z)
          refine lv_iconst (v := 0) hx hb dd_K_namesFit_112 (by decide) ?_
          exact mr_i hx hb hr hlocks rfl (by simp [bI, k_namesFit, k_hasFirst, eq_true c1, c2, c7, c8]) dd_K_namesFit_113
        · refine lv_iconst (v := 1) hx hb dd_K_namesFit_91 (by decide) ?_
          refine lv_goto (tgt := 96) hx hb dd_K_namesFit_92 (by decide) ?_
          refine lv_istore (lv' := [(7, .int 1), (6, .int 1), (5, .int 1), (0, .int k), (1, .long f), (3, .long z)]) hx hb dd_K_namesFit_96 hl (by decide) rfl (fun ls hl => ?_)
          refine lv_iload hx hb dd_K_namesFit_98 (lv_at hl 1 rfl) ?_
          refine lv_if_eq (tgt := 112) hx hb dd_K_namesFit_100 (by decide) (fun z => absurd z (by decide)) (fun _ => ?_)
          refine lv_iload hx hb dd_K_namesFit_103 (lv_at hl 0 rfl) ?_
          refine lv_if_eq (tgt := 112) hx hb dd_K_namesFit_105 (by decide) (fun z => absurd z (by decide)) (fun _ => ?_)
          refine lv_iconst (v := 1) hx hb dd_K_namesFit_108 (by decide) ?_
          refine lv_goto (tgt := 113) hx hb dd_K_namesFit_109 (by decide) ?_
          exact mr_i hx hb hr hlocks rfl (by simp [bI, k_namesFit, k_hasFirst, eq_true c1, c2, c7, eq_true c8]) dd_K_namesFit_113
      · refine lv_lload_n hx hb dd_K_namesFit_65 rfl (lv_at hl 4 rfl) ?_
        refine lv_lconst (v := 0) hx hb dd_K_namesFit_66 (by decide) ?_
        refine W.lcmp hx hb dd_K_namesFit_67 ?_
        refine lc_if_le (tgt := 81) hx hb dd_K_namesFit_68 (by decide) (fun c9 => ?_) (fun c9 => ?_)
        · refine lv_iconst (v := 0) hx hb dd_K_namesFit_81 (by decide) ?_
          refine lv_goto (tgt := 96) hx hb dd_K_namesFit_82 (by decide) ?_
          refine lv_istore (lv' := [(7, .int 0), (6, .int 1), (5, .int 1), (0, .int k), (1, .long f), (3, .long z)]) hx hb dd_K_namesFit_96 hl (by decide) rfl (fun ls hl => ?_)
          refine lv_iload hx hb dd_K_namesFit_98 (lv_at hl 1 rfl) ?_
          refine lv_if_eq (tgt := 112) hx hb dd_K_namesFit_100 (by decide) (fun z => absurd z (by decide)) (fun _ => ?_)
          refine lv_iload hx hb dd_K_namesFit_103 (lv_at hl 0 rfl) ?_
          refine lv_if_eq (tgt := 112) hx hb dd_K_namesFit_105 (by decide) (fun _ => ?_) (fun z => absurd (by decide) z)
          refine lv_iconst (v := 0) hx hb dd_K_namesFit_112 (by decide) ?_
          exact mr_i hx hb hr hlocks rfl (by simp [bI, k_namesFit, k_hasFirst, eq_true c1, c2, c7, c9]) dd_K_namesFit_113
        · refine lv_lload_n hx hb dd_K_namesFit_71 rfl (lv_at hl 4 rfl) ?_
          refine lv_lload_n hx hb dd_K_namesFit_72 rfl (lv_at hl 3 rfl) ?_
          refine W.lcmp hx hb dd_K_namesFit_73 ?_
          refine lc_if_eq (tgt := 81) hx hb dd_K_namesFit_74 (by decide) (fun c10 => ?_) (fun c10 => ?_)
          · refine lv_iconst (v := 0) hx hb dd_K_namesFit_81 (by decide) ?_
            refine lv_goto (tgt := 96) hx hb dd_K_namesFit_82 (by decide) ?_
            refine lv_istore (lv' := [(7, .int 0), (6, .int 1), (5, .int 1), (0, .int k), (1, .long f), (3, .long z)]) hx hb dd_K_namesFit_96 hl (by decide) rfl (fun ls hl => ?_)
            refine lv_iload hx hb dd_K_namesFit_98 (lv_at hl 1 rfl) ?_
            refine lv_if_eq (tgt := 112) hx hb dd_K_namesFit_100 (by decide) (fun z => absurd z (by decide)) (fun _ => ?_)
            refine lv_iload hx hb dd_K_namesFit_103 (lv_at hl 0 rfl) ?_
            refine lv_if_eq (tgt := 112) hx hb dd_K_namesFit_105 (by decide) (fun _ => ?_) (fun z => absurd (by decide) z)
            refine lv_iconst (v := 0) hx hb dd_K_namesFit_112 (by decide) ?_
            exact mr_i hx hb hr hlocks rfl (by simp [bI, k_namesFit, k_hasFirst, eq_true c1, c2, c7, c9, eq_true c10]) dd_K_namesFit_113
          · refine lv_iconst (v := 1) hx hb dd_K_namesFit_77 (by decide) ?_
            refine lv_goto (tgt := 96) hx hb dd_K_namesFit_78 (by decide) ?_
            refine lv_istore (lv' := [(7, .int 1), (6, .int 1), (5, .int 1), (0, .int k), (1, .long f), (3, .long z)]) hx hb dd_K_namesFit_96 hl (by decide) rfl (fun ls hl => ?_)
            refine lv_iload hx hb dd_K_namesFit_98 (lv_at hl 1 rfl) ?_
            refine lv_if_eq (tgt := 112) hx hb dd_K_namesFit_100 (by decide) (fun z => absurd z (by decide)) (fun _ => ?_)
            refine lv_iload hx hb dd_K_namesFit_103 (lv_at hl 0 rfl) ?_
            refine lv_if_eq (tgt := 112) hx hb dd_K_namesFit_105 (by decide) (fun z => absurd z (by decide)) (fun _ => ?_)
            refine lv_iconst (v := 1) hx hb dd_K_namesFit_108 (by decide) ?_
            refine lv_goto (tgt := 113) hx hb dd_K_namesFit_109 (by decide) ?_
            exact mr_i hx hb hr hlocks rfl (by simp [bI, k_namesFit, k_hasFirst, eq_true c1, c2, c7, c9, c10]) dd_K_namesFit_113
  · refine lv_iload_n hx hb dd_K_namesFit_5 rfl (lv_at hl 0 rfl) ?_
    refine mc_S (As := [.int k]) (rest := []) 1 (cc_K_isBinder (k := k)) hx hb hml hown ht hM hK hl.1 lk_K_19 (by decide +kernel) (by decide) rfl rfl (Nat.le_of_ble_eq_true rfl) dd_K_namesFit_6 ⟨Nat.zero_le _, Nat.zero_le _⟩ ?_
    refine lb_if_ne (tgt := 19) hx hb dd_K_namesFit_9 (by decide) (fun c11 => ?_) (fun c11 => ?_)
    · refine lv_iconst (v := 1) hx hb dd_K_namesFit_19 (by decide) ?_
      refine lv_goto (tgt := 24) hx hb dd_K_namesFit_20 (by decide) ?_
      refine lv_istore (lv' := [(5, .int 1), (0, .int k), (1, .long f), (3, .long z)]) hx hb dd_K_namesFit_24 hl (by decide) rfl (fun ls hl => ?_)
      refine lv_iload hx hb dd_K_namesFit_26 (lv_at hl 0 rfl) ?_
      refine lv_if_eq (tgt := 45) hx hb dd_K_namesFit_28 (by decide) (fun z => absurd z (by decide)) (fun _ => ?_)
      refine lv_lload_n hx hb dd_K_namesFit_31 rfl (lv_at hl 2 rfl) ?_
      refine lv_lconst (v := 0) hx hb dd_K_namesFit_32 (by decide) ?_
      refine W.lcmp hx hb dd_K_namesFit_33 ?_
      refine lc_if_le (tgt := 41) hx hb dd_K_namesFit_34 (by decide) (fun c12 => ?_) (fun c12 => ?_)
      · refine lv_iconst (v := 0) hx hb dd_K_namesFit_41 (by decide) ?_
        refine lv_goto (tgt := 56) hx hb dd_K_namesFit_42 (by decide) ?_
        refine lv_istore (lv' := [(6, .int 0), (5, .int 1), (0, .int k), (1, .long f), (3, .long z)]) hx hb dd_K_namesFit_56 hl (by decide) rfl (fun ls hl => ?_)
        refine lv_iload_n hx hb dd_K_namesFit_58 rfl (lv_at hl 2 rfl) ?_
        refine mc_S (As := [.int k]) (rest := []) 1 (cc_K_isCase (k := k)) hx hb hml hown ht hM hK hl.1 lk_K_25 (by decide +kernel) (by decide) rfl rfl (Nat.le_of_ble_eq_true rfl) dd_K_namesFit_59 ⟨Nat.zero_le _, Nat.zero_le _⟩ ?_
        refine lb_if_eq (tgt := 85) hx hb dd_K_namesFit_62 (by decide) (fun c13 => ?_) (fun c13 => ?_)
        · refine lv_lload_n hx hb dd_K_namesFit_85 rfl (lv_at hl 4 rfl) ?_
          refine lv_lconst (v := 0) hx hb dd_K_namesFit_86 (by decide) ?_
          refine W.lcmp hx hb dd_K_namesFit_87 ?_
          refine lc_if_ne (tgt := 95) hx hb dd_K_namesFit_88 (by decide) (fun c14 => ?_) (fun c14 => ?_)
          · refine lv_iconst (v := 0) hx hb dd_K_namesFit_95 (by decide) ?_
            refine lv_istore (lv' := [(7, .int 0), (6, .int 0), (5, .int 1), (0, .int k), (1, .long f), (3, .long z)]) hx hb dd_K_namesFit_96 hl (by decide) rfl (fun ls hl => ?_)
            refine lv_iload hx hb dd_K_namesFit_98 (lv_at hl 1 rfl) ?_
            refine lv_if_eq (tgt := 112) hx hb dd_K_namesFit_100 (by decide) (fun _ => ?_) (fun z => absurd (by decide) z)
            refine lv_iconst (v := 0) hx hb dd_K_namesFit_112 (by decide) ?_
            exact mr_i hx hb hr hlocks rfl (by simp [bI, k_namesFit, k_hasFirst, c1, c11, c12, c13, c14]) dd_K_namesFit_113
          · refine lv_iconst (v := 1) hx hb dd_K_namesFit_91 (by decide) ?_
            refine lv_goto (tgt := 96) hx hb dd_K_namesFit_92 (by decide) ?_
            refine lv_istore (lv' := [(7, .int 1), (6, .int 0), (5, .int 1), (0, .int k), (1, .long f), (3, .long z)]) hx hb dd_K_namesFit_96 hl (by decide) rfl (fun ls hl => ?_)
            refine lv_iload hx hb dd_K_namesFit_98 (lv_at hl 1 rfl) ?_
            refine lv_if_eq (tgt := 112) hx hb dd_K_namesFit_100 (by decide) (fun _ => ?_) (fun z => absurd (by decide) z)
            refine lv_iconst (v := 0) hx hb dd_K_namesFit_112 (by decide) ?_
            exact mr_i hx hb hr hlocks rfl (by simp [bI, k_namesFit, k_hasFirst, c1, c11, c12, c13, eq_true c14]) dd_K_namesFit_113
        · refine lv_lload_n hx hb dd_K_namesFit_65 rfl (lv_at hl 4 rfl) ?_
          refine lv_lconst (v := 0) hx hb dd_K_namesFit_66 (by decide) ?_
          refine W.lcmp hx hb dd_K_namesFit_67 ?_
          refine lc_if_le (tgt := 81) hx hb dd_K_namesFit_68 (by decide) (fun c15 => ?_) (fun c15 => ?_)
          · refine lv_iconst (v := 0) hx hb dd_K_namesFit_81 (by decide) ?_
            refine lv_goto (tgt := 96) hx hb dd_K_namesFit_82 (by decide) ?_
            refine lv_istore (lv' := [(7, .int 0), (6, .int 0), (5, .int 1), (0, .int k), (1, .long f), (3, .long z)]) hx hb dd_K_namesFit_96 hl (by decide) rfl (fun ls hl => ?_)
            refine lv_iload hx hb dd_K_namesFit_98 (lv_at hl 1 rfl) ?_
            refine lv_if_eq (tgt := 112) hx hb dd_K_namesFit_100 (by decide) (fun _ => ?_) (fun z => absurd (by decide) z)
            refine lv_iconst (v := 0) hx hb dd_K_namesFit_112 (by decide) ?_
            exact mr_i hx hb hr hlocks rfl (by simp [bI, k_namesFit, k_hasFirst, c1, c11, c12, c13, c15]) dd_K_namesFit_113
          · refine lv_lload_n hx hb dd_K_namesFit_71 rfl (lv_at hl 4 rfl) ?_
            refine lv_lload_n hx hb dd_K_namesFit_72 rfl (lv_at hl 3 rfl) ?_
            refine W.lcmp hx hb dd_K_namesFit_73 ?_
            refine lc_if_eq (tgt := 81) hx hb dd_K_namesFit_74 (by decide) (fun c16 => ?_) (fun c16 => ?_)
            · refine lv_iconst (v := 0) hx hb dd_K_namesFit_81 (by decide) ?_
              refine lv_goto (tgt := 96) hx hb dd_K_namesFit_82 (by decide) ?_
              refine lv_istore (lv' := [(7, .int 0), (6, .int 0), (5, .int 1), (0, .int k), (1, .long f), (3, .long z)]) hx hb dd_K_namesFit_96 hl (by decide) rfl (fun ls hl => ?_)
              refine lv_iload hx hb dd_K_namesFit_98 (lv_at hl 1 rfl) ?_
              refine lv_if_eq (tgt := 112) hx hb dd_K_namesFit_100 (by decide) (fun _ => ?_) (fun z => absurd (by decide) z)
              refine lv_iconst (v := 0) hx hb dd_K_namesFit_112 (by decide) ?_
              exact mr_i hx hb hr hlocks rfl (by simp [bI, k_namesFit, k_hasFirst, c1, c11, c12, c13, c15, eq_true c16]) dd_K_namesFit_113
            · refine lv_iconst (v := 1) hx hb dd_K_namesFit_77 (by decide) ?_
              refine lv_goto (tgt := 96) hx hb dd_K_namesFit_78 (by decide) ?_
              refine lv_istore (lv' := [(7, .int 1), (6, .int 0), (5, .int 1), (0, .int k), (1, .long f), (3, .long z)]) hx hb dd_K_namesFit_96 hl (by decide) rfl (fun ls hl => ?_)
              refine lv_iload hx hb dd_K_namesFit_98 (lv_at hl 1 rfl) ?_
              refine lv_if_eq (tgt := 112) hx hb dd_K_namesFit_100 (by decide) (fun _ => ?_) (fun z => absurd (by decide) z)
              refine lv_iconst (v := 0) hx hb dd_K_namesFit_112 (by decide) ?_
              exact mr_i hx hb hr hlocks rfl (by simp [bI, k_namesFit, k_hasFirst, c1, c11, c12, c13, c15, c16]) dd_K_namesFit_113
      · refine lv_iconst (v := 1) hx hb dd_K_namesFit_37 (by decide) ?_
        refine lv_goto (tgt := 56) hx hb dd_K_namesFit_38 (by decide) ?_
        refine lv_istore (lv' := [(6, .int 1), (5, .int 1), (0, .int k), (1, .long f), (3, .long z)]) hx hb dd_K_namesFit_56 hl (by decide) rfl (fun ls hl => ?_)
        refine lv_iload_n hx hb dd_K_namesFit_58 rfl (lv_at hl 2 rfl) ?_
        refine mc_S (As := [.int k]) (rest := []) 1 (cc_K_isCase (k := k)) hx hb hml hown ht hM hK hl.1 lk_K_25 (by decide +kernel) (by decide) rfl rfl (Nat.le_of_ble_eq_true rfl) dd_K_namesFit_59 ⟨Nat.zero_le _, Nat.zero_le _⟩ ?_
        refine lb_if_eq (tgt := 85) hx hb dd_K_namesFit_62 (by decide) (fun c17 => ?_) (fun c17 => ?_)
        · refine lv_lload_n hx hb dd_K_namesFit_85 rfl (lv_at hl 4 rfl) ?_
          refine lv_lconst (v := 0) hx hb dd_K_namesFit_86 (by decide) ?_
          refine W.lcmp hx hb dd_K_namesFit_87 ?_
          refine lc_if_ne (tgt := 95) hx hb dd_K_namesFit_88 (by decide) (fun c18 => ?_) (fun c18 => ?_)
          · refine lv_iconst (v := 0) hx hb dd_K_namesFit_95 (by decide) ?_
            refine lv_istore (lv' := [(7, .int 0), (6, .int 1), (5, .int 1), (0, .int k), (1, .long f), (3, .long z)]) hx hb dd_K_namesFit_96 hl (by decide) rfl (fun ls hl => ?_)
            refine lv_iload hx hb dd_K_namesFit_98 (lv_at hl 1 rfl) ?_
            refine lv_if_eq (tgt := 112) hx hb dd_K_namesFit_100 (by decide) (fun z => absurd z (by decide)) (fun _ => ?_)
            refine lv_iload hx hb dd_K_namesFit_103 (lv_at hl 0 rfl) ?_
            refine lv_if_eq (tgt := 112) hx hb dd_K_namesFit_105 (by decide) (fun _ => ?_) (fun z => absurd (by decide) z)
            refine lv_iconst (v := 0) hx hb dd_K_namesFit_112 (by decide) ?_
            exact mr_i hx hb hr hlocks rfl (by simp [bI, k_namesFit, k_hasFirst, c1, c11, c12, c17, c18]) dd_K_namesFit_113
          · refine lv_iconst (v := 1) hx hb dd_K_namesFit_91 (by decide) ?_
            refine lv_goto (tgt := 96) hx hb dd_K_namesFit_92 (by decide) ?_
            refine lv_istore (lv' := [(7, .int 1), (6, .int 1), (5, .int 1), (0, .int k), (1, .long f), (3, .long z)]) hx hb dd_K_namesFit_96 hl (by decide) rfl (fun ls hl => ?_)
            refine lv_iload hx hb dd_K_namesFit_98 (lv_at hl 1 rfl) ?_
            refine lv_if_eq (tgt := 112) hx hb dd_K_namesFit_100 (by decide) (fun z => absurd z (by decide)) (fun _ => ?_)
            refine lv_iload hx hb dd_K_namesFit_103 (lv_at hl 0 rfl) ?_
            refine lv_if_eq (tgt := 112) hx hb dd_K_namesFit_105 (by decide) (fun z => absurd z (by decide)) (fun _ => ?_)
            refine lv_iconst (v := 1) hx hb dd_K_namesFit_108 (by decide) ?_
            refine lv_goto (tgt := 113) hx hb dd_K_namesFit_109 (by decide) ?_
            exact mr_i hx hb hr hlocks rfl (by simp [bI, k_namesFit, k_hasFirst, c1, c11, c12, c17, eq_true c18]) dd_K_namesFit_113
        · refine lv_lload_n hx hb dd_K_namesFit_65 rfl (lv_at hl 4 rfl) ?_
          refine lv_lconst (v := 0) hx hb dd_K_namesFit_66 (by decide) ?_
          refine W.lcmp hx hb dd_K_namesFit_67 ?_
          refine lc_if_le (tgt := 81) hx hb dd_K_namesFit_68 (by decide) (fun c19 => ?_) (fun c19 => ?_)
          · refine lv_iconst (v := 0) hx hb dd_K_namesFit_81 (by decide) ?_
            refine lv_goto (tgt := 96) hx hb dd_K_namesFit_82 (by decide) ?_
            refine lv_istore (lv' := [(7, .int 0), (6, .int 1), (5, .int 1), (0, .int k), (1, .long f), (3, .long z)]) hx hb dd_K_namesFit_96 hl (by decide) rfl (fun ls hl => ?_)
            refine lv_iload hx hb dd_K_namesFit_98 (lv_at hl 1 rfl) ?_
            refine lv_if_eq (tgt := 112) hx hb dd_K_namesFit_100 (by decide) (fun z => absurd z (by decide)) (fun _ => ?_)
            refine lv_iload hx hb dd_K_namesFit_103 (lv_at hl 0 rfl) ?_
            refine lv_if_eq (tgt := 112) hx hb dd_K_namesFit_105 (by decide) (fun _ => ?_) (fun z => absurd (by decide) z)
            refine lv_iconst (v := 0) hx hb dd_K_namesFit_112 (by decide) ?_
            exact mr_i hx hb hr hlocks rfl (by simp [bI, k_namesFit, k_hasFirst, c1, c11, c12, c17, c19]) dd_K_namesFit_113
          · refine lv_lload_n hx hb dd_K_namesFit_71 rfl (lv_at hl 4 rfl) ?_
            refine lv_lload_n hx hb dd_K_namesFit_72 rfl (lv_at hl 3 rfl) ?_
            refine W.lcmp hx hb dd_K_namesFit_73 ?_
            refine lc_if_eq (tgt := 81) hx hb dd_K_namesFit_74 (by decide) (fun c20 => ?_) (fun c20 => ?_)
            · refine lv_iconst (v := 0) hx hb dd_K_namesFit_81 (by decide) ?_
              refine lv_goto (tgt := 96) hx hb dd_K_namesFit_82 (by decide) ?_
              refine lv_istore (lv' := [(7, .int 0), (6, .int 1), (5, .int 1), (0, .int k), (1, .long f), (3, .long z)]) hx hb dd_K_namesFit_96 hl (by decide) rfl (fun ls hl => ?_)
              refine lv_iload hx hb dd_K_namesFit_98 (lv_at hl 1 rfl) ?_
              refine lv_if_eq (tgt := 112) hx hb dd_K_namesFit_100 (by decide) (fun z => absurd z (by decide)) (fun _ => ?_)
              refine lv_iload hx hb dd_K_namesFit_103 (lv_at hl 0 rfl) ?_
              refine lv_if_eq (tgt := 112) hx hb dd_K_namesFit_105 (by decide) (fun _ => ?_) (fun z => absurd (by decide) z)
              refine lv_iconst (v := 0) hx hb dd_K_namesFit_112 (by decide) ?_
              exact mr_i hx hb hr hlocks rfl (by simp [bI, k_namesFit, k_hasFirst, c1, c11, c12, c17, c19, eq_true c20]) dd_K_namesFit_113
            · refine lv_iconst (v := 1) hx hb dd_K_namesFit_77 (by decide) ?_
              refine lv_goto (tgt := 96) hx hb dd_K_namesFit_78 (by decide) ?_
              refine lv_istore (lv' := [(7, .int 1), (6, .int 1), (5, .int 1), (0, .int k), (1, .long f), (3, .long z)]) hx hb dd_K_namesFit_96 hl (by decide) rfl (fun ls hl => ?_)
              refine lv_iload hx hb dd_K_namesFit_98 (lv_at hl 1 rfl) ?_
              refine lv_if_eq (tgt := 112) hx hb dd_K_namesFit_100 (by decide) (fun z => absurd z (by decide)) (fun _ => ?_)
              refine lv_iload hx hb dd_K_namesFit_103 (lv_at hl 0 rfl) ?_
              refine lv_if_eq (tgt := 112) hx hb dd_K_namesFit_105 (by decide) (fun z => absurd z (by decide)) (fun _ => ?_)
              refine lv_iconst (v := 1) hx hb dd_K_namesFit_108 (by decide) ?_
              refine lv_goto (tgt := 113) hx hb dd_K_namesFit_109 (by decide) ?_
              exact mr_i hx hb hr hlocks rfl (by simp [bI, k_namesFit, k_hasFirst, c1, c11, c12, c17, c19, c20]) dd_K_namesFit_113
    · refine lv_iload_n hx hb dd_K_namesFit_12 rfl (lv_at hl 0 rfl) ?_
      refine mc_S (As := [.int k]) (rest := []) 1 (cc_K_isCall (k := k)) hx hb hml hown ht hM hK hl.1 lk_K_22 (by decide +kernel) (by decide) rfl rfl (Nat.le_of_ble_eq_true rfl) dd_K_namesFit_13 ⟨Nat.zero_le _, Nat.zero_le _⟩ ?_
      refine lb_if_eq (tgt := 23) hx hb dd_K_namesFit_16 (by decide) (fun c21 => ?_) (fun c21 => ?_)
      · refine lv_iconst (v := 0) hx hb dd_K_namesFit_23 (by decide) ?_
        refine lv_istore (lv' := [(5, .int 0), (0, .int k), (1, .long f), (3, .long z)]) hx hb dd_K_namesFit_24 hl (by decide) rfl (fun ls hl => ?_)
        refine lv_iload hx hb dd_K_namesFit_26 (lv_at hl 0 rfl) ?_
        refine lv_if_eq (tgt := 45) hx hb dd_K_namesFit_28 (by decide) (fun _ => ?_) (fun z => absurd (by decide) z)
        refine lv_lload_n hx hb dd_K_namesFit_45 rfl (lv_at hl 2 rfl) ?_
        refine lv_lconst (v := 0) hx hb dd_K_namesFit_46 (by decide) ?_
        refine W.lcmp hx hb dd_K_namesFit_47 ?_
        refine lc_if_ne (tgt := 55) hx hb dd_K_namesFit_48 (by decide) (fun c22 => ?_) (fun c22 => ?_)
        · refine lv_iconst (v := 0) hx hb dd_K_namesFit_55 (by decide) ?_
          refine lv_istore (lv' := [(6, .int 0), (5, .int 0), (0, .int k), (1, .long f), (3, .long z)]) hx hb dd_K_namesFit_56 hl (by decide) rfl (fun ls hl => ?_)
          refine lv_iload_n hx hb dd_K_namesFit_58 rfl (lv_at hl 2 rfl) ?_
          refine mc_S (As := [.int k]) (rest := []) 1 (cc_K_isCase (k := k)) hx hb hml hown ht hM hK hl.1 lk_K_25 (by decide +kernel) (by decide) rfl rfl (Nat.le_of_ble_eq_true rfl) dd_K_namesFit_59 ⟨Nat.zero_le _, Nat.zero_le _⟩ ?_
          refine lb_if_eq (tgt := 85) hx hb dd_K_namesFit_62 (by decide) (fun c23 => ?_) (fun c23 => ?_)
          · refine lv_lload_n hx hb dd_K_namesFit_85 rfl (lv_at hl 4 rfl) ?_
            refine lv_lconst (v := 0) hx hb dd_K_namesFit_86 (by decide) ?_
            refine W.lcmp hx hb dd_K_namesFit_87 ?_
            refine lc_if_ne (tgt := 95) hx hb dd_K_namesFit_88 (by decide) (fun c24 => ?_) (fun c24 => ?_)
            · refine lv_iconst (v := 0) hx hb dd_K_namesFit_95 (by decide) ?_
              refine lv_istore (lv' := [(7, .int 0), (6, .int 0), (5, .int 0), (0, .int k), (1, .long f), (3, .long z)]) hx hb dd_K_namesFit_96 hl (by decide) rfl (fun ls hl => ?_)
              refine lv_iload hx hb dd_K_namesFit_98 (lv_at hl 1 rfl) ?_
              refine lv_if_eq (tgt := 112) hx hb dd_K_namesFit_100 (by decide) (fun _ => ?_) (fun z => absurd (by decide) z)
              refine lv_iconst (v := 0) hx hb dd_K_namesFit_112 (by decide) ?_
              exact mr_i hx hb hr hlocks rfl (by simp [bI, k_namesFit, k_hasFirst, c1, c11, c21, c22, c23, c24]) dd_K_namesFit_113
            · refine lv_iconst (v := 1) hx hb dd_K_namesFit_91 (by decide) ?_
              refine lv_goto (tgt := 96) hx hb dd_K_namesFit_92 (by decide) ?_
              refine lv_istore (lv' := [(7, .int 1), (6, .int 0), (5, .int 0), (0, .int k), (1, .long f), (3, .long z)]) hx hb dd_K_namesFit_96 hl (by decide) rfl (fun ls hl => ?_)
              refine lv_iload hx hb dd_K_namesFit_98 (lv_at hl 1 rfl) ?_
              refine lv_if_eq (tgt := 112) hx hb dd_K_namesFit_100 (by decide) (fun _ => ?_) (fun z => absurd (by decide) z)
              refine lv_iconst (v := 0) hx hb dd_K_namesFit_112 (by decide) ?_
              exact mr_i hx hb hr hlocks rfl (by simp [bI, k_namesFit, k_hasFirst, c1, c11, c21, c22, c23, eq_true c24]) dd_K_namesFit_113
          · refine lv_lload_n hx hb dd_K_namesFit_65 rfl (lv_at hl 4 rfl) ?_
            refine lv_lconst (v := 0) hx hb dd_K_namesFit_66 (by decide) ?_
            refine W.lcmp hx hb dd_K_namesFit_67 ?_
            refine lc_if_le (tgt := 81) hx hb dd_K_namesFit_68 (by decide) (fun c25 => ?_) (fun c25 => ?_)
            · refine lv_iconst (v := 0) hx hb dd_K_namesFit_81 (by decide) ?_
              refine lv_goto (tgt := 96) hx hb dd_K_namesFit_82 (by decide) ?_
              refine lv_istore (lv' := [(7, .int 0), (6, .int 0), (5, .int 0), (0, .int k), (1, .long f), (3, .long z)]) hx hb dd_K_namesFit_96 hl (by decide) rfl (fun ls hl => ?_)
              refine lv_iload hx hb dd_K_namesFit_98 (lv_at hl 1 rfl) ?_
              refine lv_if_eq (tgt := 112) hx hb dd_K_namesFit_100 (by decide) (fun _ => ?_) (fun z => absurd (by decide) z)
              refine lv_iconst (v := 0) hx hb dd_K_namesFit_112 (by decide) ?_
              exact mr_i hx hb hr hlocks rfl (by simp [bI, k_namesFit, k_hasFirst, c1, c11, c21, c22, c23, c25]) dd_K_namesFit_113
            · refine lv_lload_n hx hb dd_K_namesFit_71 rfl (lv_at hl 4 rfl) ?_
              refine lv_lload_n hx hb dd_K_namesFit_72 rfl (lv_at hl 3 rfl) ?_
              refine W.lcmp hx hb dd_K_namesFit_73 ?_
              refine lc_if_eq (tgt := 81) hx hb dd_K_namesFit_74 (by decide) (fun c26 => ?_) (fun c26 => ?_)
              · refine lv_iconst (v := 0) hx hb dd_K_namesFit_81 (by decide) ?_
                refine lv_goto (tgt := 96) hx hb dd_K_namesFit_82 (by decide) ?_
                refine lv_istore (lv' := [(7, .int 0), (6, .int 0), (5, .int 0), (0, .int k), (1, .long f), (3, .long z)]) hx hb dd_K_namesFit_96 hl (by decide) rfl (fun ls hl => ?_)
                refine lv_iload hx hb dd_K_namesFit_98 (lv_at hl 1 rfl) ?_
                refine lv_if_eq (tgt := 112) hx hb dd_K_namesFit_100 (by decide) (fun _ => ?_) (fun z => absurd (by decide) z)
                refine lv_iconst (v := 0) hx hb dd_K_namesFit_112 (by decide) ?_
                exact mr_i hx hb hr hlocks rfl (by simp [bI, k_namesFit, k_hasFirst, c1, c11, c21, c22, c23, c25, eq_true c26]) dd_K_namesFit_113
              · refine lv_iconst (v := 1) hx hb dd_K_namesFit_77 (by decide) ?_
                refine lv_goto (tgt := 96) hx hb dd_K_namesFit_78 (by decide) ?_
                refine lv_istore (lv' := [(7, .int 1), (6, .int 0), (5, .int 0), (0, .int k), (1, .long f), (3, .long z)]) hx hb dd_K_namesFit_96 hl (by decide) rfl (fun ls hl => ?_)
                refine lv_iload hx hb dd_K_namesFit_98 (lv_at hl 1 rfl) ?_
                refine lv_if_eq (tgt := 112) hx hb dd_K_namesFit_100 (by decide) (fun _ => ?_) (fun z => absurd (by decide) z)
                refine lv_iconst (v := 0) hx hb dd_K_namesFit_112 (by decide) ?_
                exact mr_i hx hb hr hlocks rfl (by simp [bI, k_namesFit, k_hasFirst, c1, c11, c21, c22, c23, c25, c26]) dd_K_namesFit_113
        · refine lv_iconst (v := 1) hx hb dd_K_namesFit_51 (by decide) ?_
          refine lv_goto (tgt := 56) hx hb dd_K_namesFit_52 (by decide) ?_
          refine lv_istore (lv' := [(6, .int 1), (5, .int 0), (0, .int k), (1, .long f), (3, .long z)]) hx hb dd_K_namesFit_56 hl (by decide) rfl (fun ls hl => ?_)
          refine lv_iload_n hx hb dd_K_namesFit_58 rfl (lv_at hl 2 rfl) ?_
          refine mc_S (As := [.int k]) (rest := []) 1 (cc_K_isCase (k := k)) hx hb hml hown ht hM hK hl.1 lk_K_25 (by decide +kernel) (by decide) rfl rfl (Nat.le_of_ble_eq_true rfl) dd_K_namesFit_59 ⟨Nat.zero_le _, Nat.zero_le _⟩ ?_
          refine lb_if_eq (tgt := 85) hx hb dd_K_namesFit_62 (by decide) (fun c27 => ?_) (fun c27 => ?_)
          · refine lv_lload_n hx hb dd_K_namesFit_85 rfl (lv_at hl 4 rfl) ?_
            refine lv_lconst (v := 0) hx hb dd_K_namesFit_86 (by decide) ?_
            refine W.lcmp hx hb dd_K_namesFit_87 ?_
            refine lc_if_ne (tgt := 95) hx hb dd_K_namesFit_88 (by decide) (fun c28 => ?_) (fun c28 => ?_)
            · refine lv_iconst (v := 0) hx hb dd_K_namesFit_95 (by decide) ?_
              refine lv_istore (lv' := [(7, .int 0), (6, .int 1), (5, .int 0), (0, .int k), (1, .long f), (3, .long z)]) hx hb dd_K_namesFit_96 hl (by decide) rfl (fun ls hl => ?_)
              refine lv_iload hx hb dd_K_namesFit_98 (lv_at hl 1 rfl) ?_
              refine lv_if_eq (tgt := 112) hx hb dd_K_namesFit_100 (by decide) (fun z => absurd z (by decide)) (fun _ => ?_)
              refine lv_iload hx hb dd_K_namesFit_103 (lv_at hl 0 rfl) ?_
              refine lv_if_eq (tgt := 112) hx hb dd_K_namesFit_105 (by decide) (fun _ => ?_) (fun z => absurd (by decide) z)
              refine lv_iconst (v := 0) hx hb dd_K_namesFit_112 (by decide) ?_
              exact mr_i hx hb hr hlocks rfl (by simp [bI, k_namesFit, k_hasFirst, c1, c11, c21, eq_true c22, c27, c28]) dd_K_namesFit_113
            · refine lv_iconst (v := 1) hx hb dd_K_namesFit_91 (by decide) ?_
              refine lv_goto (tgt := 96) hx hb dd_K_namesFit_92 (by decide) ?_
              refine lv_istore (lv' := [(7, .int 1), (6, .int 1), (5, .int 0), (0, .int k), (1, .long f), (3, .long z)]) hx hb dd_K_namesFit_96 hl (by decide) rfl (fun ls hl => ?_)
              refine lv_iload hx hb dd_K_namesFit_98 (lv_at hl 1 rfl) ?_
              refine lv_if_eq (tgt := 112) hx hb dd_K_namesFit_100 (by decide) (fun z => absurd z (by decide)) (fun _ => ?_)
              refine lv_iload hx hb dd_K_namesFit_103 (lv_at hl 0 rfl) ?_
              refine lv_if_eq (tgt := 112) hx hb dd_K_namesFit_105 (by decide) (fun z => absurd z (by decide)) (fun _ => ?_)
              refine lv_iconst (v := 1) hx hb dd_K_namesFit_108 (by decide) ?_
              refine lv_goto (tgt := 113) hx hb dd_K_namesFit_109 (by decide) ?_
              exact mr_i hx hb hr hlocks rfl (by simp [bI, k_namesFit, k_hasFirst, c1, c11, c21, eq_true c22, c27, eq_true c28]) dd_K_namesFit_113
          · refine lv_lload_n hx hb dd_K_namesFit_65 rfl (lv_at hl 4 rfl) ?_
            refine lv_lconst (v := 0) hx hb dd_K_namesFit_66 (by decide) ?_
            refine W.lcmp hx hb dd_K_namesFit_67 ?_
            refine lc_if_le (tgt := 81) hx hb dd_K_namesFit_68 (by decide) (fun c29 => ?_) (fun c29 => ?_)
            · refine lv_iconst (v := 0) hx hb dd_K_namesFit_81 (by decide) ?_
              refine lv_goto (tgt := 96) hx hb dd_K_namesFit_82 (by decide) ?_
              refine lv_istore (lv' := [(7, .int 0), (6, .int 1), (5, .int 0), (0, .int k), (1, .long f), (3, .long z)]) hx hb dd_K_namesFit_96 hl (by decide) rfl (fun ls hl => ?_)
              refine lv_iload hx hb dd_K_namesFit_98 (lv_at hl 1 rfl) ?_
              refine lv_if_eq (tgt := 112) hx hb dd_K_namesFit_100 (by decide) (fun z => absurd z (by decide)) (fun _ => ?_)
              refine lv_iload hx hb dd_K_namesFit_103 (lv_at hl 0 rfl) ?_
              refine lv_if_eq (tgt := 112) hx hb dd_K_namesFit_105 (by decide) (fun _ => ?_) (fun z => absurd (by decide) z)
              refine lv_iconst (v := 0) hx hb dd_K_namesFit_112 (by decide) ?_
              exact mr_i hx hb hr hlocks rfl (by simp [bI, k_namesFit, k_hasFirst, c1, c11, c21, eq_true c22, c27, c29]) dd_K_namesFit_113
            · refine lv_lload_n hx hb dd_K_namesFit_71 rfl (lv_at hl 4 rfl) ?_
              refine lv_lload_n hx hb dd_K_namesFit_72 rfl (lv_at hl 3 rfl) ?_
              refine W.lcmp hx hb dd_K_namesFit_73 ?_
              refine lc_if_eq (tgt := 81) hx hb dd_K_namesFit_74 (by decide) (fun c30 => ?_) (fun c30 => ?_)
              · refine lv_iconst (v := 0) hx hb dd_K_namesFit_81 (by decide) ?_
                refine lv_goto (tgt := 96) hx hb dd_K_namesFit_82 (by decide) ?_
                refine lv_istore (lv' := [(7, .int 0), (6, .int 1), (5, .int 0), (0, .int k), (1, .long f), (3, .long z)]) hx hb dd_K_namesFit_96 hl (by decide) rfl (fun ls hl => ?_)
                refine lv_iload hx hb dd_K_namesFit_98 (lv_at hl 1 rfl) ?_
                refine lv_if_eq (tgt := 112) hx hb dd_K_namesFit_100 (by decide) (fun z => absurd z (by decide)) (fun _ => ?_)
                refine lv_iload hx hb dd_K_namesFit_103 (lv_at hl 0 rfl) ?_
                refine lv_if_eq (tgt := 112) hx hb dd_K_namesFit_105 (by decide) (fun _ => ?_) (fun z => absurd (by decide) z)
                refine lv_iconst (v := 0) hx hb dd_K_namesFit_112 (by decide) ?_
                exact mr_i hx hb hr hlocks rfl (by simp [bI, k_namesFit, k_hasFirst, c1, c11, c21, eq_true c22, c27, c29, eq_true c30]) dd_K_namesFit_113
              · refine lv_iconst (v := 1) hx hb dd_K_namesFit_77 (by decide) ?_
                refine lv_goto (tgt := 96) hx hb dd_K_namesFit_78 (by decide) ?_
                refine lv_istore (lv' := [(7, .int 1), (6, .int 1), (5, .int 0), (0, .int k), (1, .long f), (3, .long z)]) hx hb dd_K_namesFit_96 hl (by decide) rfl (fun ls hl => ?_)
                refine lv_iload hx hb dd_K_namesFit_98 (lv_at hl 1 rfl) ?_
                refine lv_if_eq (tgt := 112) hx hb dd_K_namesFit_100 (by decide) (fun z => absurd z (by decide)) (fun _ => ?_)
                refine lv_iload hx hb dd_K_namesFit_103 (lv_at hl 0 rfl) ?_
                refine lv_if_eq (tgt := 112) hx hb dd_K_namesFit_105 (by decide) (fun z => absurd z (by decide)) (fun _ => ?_)
                refine lv_iconst (v := 1) hx hb dd_K_namesFit_108 (by decide) ?_
                refine lv_goto (tgt := 113) hx hb dd_K_namesFit_109 (by decide) ?_
                exact mr_i hx hb hr hlocks rfl (by simp [bI, k_namesFit, k_hasFirst, c1, c11, c21, eq_true c22, c27, c29, c30]) dd_K_namesFit_113
      · refine lv_iconst (v := 1) hx hb dd_K_namesFit_19 (by decide) ?_
        refine lv_goto (tgt := 24) hx hb dd_K_namesFit_20 (by decide) ?_
        refine lv_istore (lv' := [(5, .int 1), (0, .int k), (1, .long f), (3, .long z)]) hx hb dd_K_namesFit_24 hl (by decide) rfl (fun ls hl => ?_)
        refine lv_iload hx hb dd_K_namesFit_26 (lv_at hl 0 rfl) ?_
        refine lv_if_eq (tgt := 45) hx hb dd_K_namesFit_28 (by decide) (fun z => absurd z (by decide)) (fun _ => ?_)
        refine lv_lload_n hx hb dd_K_namesFit_31 rfl (lv_at hl 2 rfl) ?_
        refine lv_lconst (v := 0) hx hb dd_K_namesFit_32 (by decide) ?_
        refine W.lcmp hx hb dd_K_namesFit_33 ?_
        refine lc_if_le (tgt := 41) hx hb dd_K_namesFit_34 (by decide) (fun c31 => ?_) (fun c31 => ?_)
        · refine lv_iconst (v := 0) hx hb dd_K_namesFit_41 (by decide) ?_
          refine lv_goto (tgt := 56) hx hb dd_K_namesFit_42 (by decide) ?_
          refine lv_istore (lv' := [(6, .int 0), (5, .int 1), (0, .int k), (1, .long f), (3, .long z)]) hx hb dd_K_namesFit_56 hl (by decide) rfl (fun ls hl => ?_)
          refine lv_iload_n hx hb dd_K_namesFit_58 rfl (lv_at hl 2 rfl) ?_
          refine mc_S (As := [.int k]) (rest := []) 1 (cc_K_isCase (k := k)) hx hb hml hown ht hM hK hl.1 lk_K_25 (by decide +kernel) (by decide) rfl rfl (Nat.le_of_ble_eq_true rfl) dd_K_namesFit_59 ⟨Nat.zero_le _, Nat.zero_le _⟩ ?_
          refine lb_if_eq (tgt := 85) hx hb dd_K_namesFit_62 (by decide) (fun c32 => ?_) (fun c32 => ?_)
          · refine lv_lload_n hx hb dd_K_namesFit_85 rfl (lv_at hl 4 rfl) ?_
            refine lv_lconst (v := 0) hx hb dd_K_namesFit_86 (by decide) ?_
            refine W.lcmp hx hb dd_K_namesFit_87 ?_
            refine lc_if_ne (tgt := 95) hx hb dd_K_namesFit_88 (by decide) (fun c33 => ?_) (fun c33 => ?_)
            · refine lv_iconst (v := 0) hx hb dd_K_namesFit_95 (by decide) ?_
              refine lv_istore (lv' := [(7, .int 0), (6, .int 0), (5, .int 1), (0, .int k), (1, .long f), (3, .long z)]) hx hb dd_K_namesFit_96 hl (by decide) rfl (fun ls hl => ?_)
              refine lv_iload hx hb dd_K_namesFit_98 (lv_at hl 1 rfl) ?_
              refine lv_if_eq (tgt := 112) hx hb dd_K_namesFit_100 (by decide) (fun _ => ?_) (fun z => absurd (by decide) z)
              refine lv_iconst (v := 0) hx hb dd_K_namesFit_112 (by decide) ?_
              exact mr_i hx hb hr hlocks rfl (by simp [bI, k_namesFit, k_hasFirst, c1, c11, c21, c31, c32, c33]) dd_K_namesFit_113
            · refine lv_iconst (v := 1) hx hb dd_K_namesFit_91 (by decide) ?_
              refine lv_goto (tgt := 96) hx hb dd_K_namesFit_92 (by decide) ?_
              refine lv_istore (lv' := [(7, .int 1), (6, .int 0), (5, .int 1), (0, .int k), (1, .long f), (3, .long z)]) hx hb dd_K_namesFit_96 hl (by decide) rfl (fun ls hl => ?_)
              refine lv_iload hx hb dd_K_namesFit_98 (lv_at hl 1 rfl) ?_
              refine lv_if_eq (tgt := 112) hx hb dd_K_namesFit_100 (by decide) (fun _ => ?_) (fun z => absurd (by decide) z)
              refine lv_iconst (v := 0) hx hb dd_K_namesFit_112 (by decide) ?_
              exact mr_i hx hb hr hlocks rfl (by simp [bI, k_namesFit, k_hasFirst, c1, c11, c21, c31, c32, eq_true c33]) dd_K_namesFit_113
          · refine lv_lload_n hx hb dd_K_namesFit_65 rfl (lv_at hl 4 rfl) ?_
            refine lv_lconst (v := 0) hx hb dd_K_namesFit_66 (by decide) ?_
            refine W.lcmp hx hb dd_K_namesFit_67 ?_
            refine lc_if_le (tgt := 81) hx hb dd_K_namesFit_68 (by decide) (fun c34 => ?_) (fun c34 => ?_)
            · refine lv_iconst (v := 0) hx hb dd_K_namesFit_81 (by decide) ?_
              refine lv_goto (tgt := 96) hx hb dd_K_namesFit_82 (by decide) ?_
              refine lv_istore (lv' := [(7, .int 0), (6, .int 0), (5, .int 1), (0, .int k), (1, .long f), (3, .long z)]) hx hb dd_K_namesFit_96 hl (by decide) rfl (fun ls hl => ?_)
              refine lv_iload hx hb dd_K_namesFit_98 (lv_at hl 1 rfl) ?_
              refine lv_if_eq (tgt := 112) hx hb dd_K_namesFit_100 (by decide) (fun _ => ?_) (fun z => absurd (by decide) z)
              refine lv_iconst (v := 0) hx hb dd_K_namesFit_112 (by decide) ?_
              exact mr_i hx hb hr hlocks rfl (by simp [bI, k_namesFit, k_hasFirst, c1, c11, c21, c31, c32, c34]) dd_K_namesFit_113
            · refine lv_lload_n hx hb dd_K_namesFit_71 rfl (lv_at hl 4 rfl) ?_
              refine lv_lload_n hx hb dd_K_namesFit_72 rfl (lv_at hl 3 rfl) ?_
              refine W.lcmp hx hb dd_K_namesFit_73 ?_
              refine lc_if_eq (tgt := 81) hx hb dd_K_namesFit_74 (by decide) (fun c35 => ?_) (fun c35 => ?_)
              · refine lv_iconst (v := 0) hx hb dd_K_namesFit_81 (by decide) ?_
                refine lv_goto (tgt := 96) hx hb dd_K_namesFit_82 (by decide) ?_
                refine lv_istore (lv' := [(7, .int 0), (6, .int 0), (5, .int 1), (0, .int k), (1, .long f), (3, .long z)]) hx hb dd_K_namesFit_96 hl (by decide) rfl (fun ls hl => ?_)
                refine lv_iload hx hb dd_K_namesFit_98 (lv_at hl 1 rfl) ?_
                refine lv_if_eq (tgt := 112) hx hb dd_K_namesFit_100 (by decide) (fun _ => ?_) (fun z => absurd (by decide) z)
                refine lv_iconst (v := 0) hx hb dd_K_namesFit_112 (by decide) ?_
                exact mr_i hx hb hr hlocks rfl (by simp [bI, k_namesFit, k_hasFirst, c1, c11, c21, c31, c32, c34, eq_true c35]) dd_K_namesFit_113
              · refine lv_iconst (v := 1) hx hb dd_K_namesFit_77 (by decide) ?_
                refine lv_goto (tgt := 96) hx hb dd_K_namesFit_78 (by decide) ?_
                refine lv_istore (lv' := [(7, .int 1), (6, .int 0), (5, .int 1), (0, .int k), (1, .long f), (3, .long z)]) hx hb dd_K_namesFit_96 hl (by decide) rfl (fun ls hl => ?_)
                refine lv_iload hx hb dd_K_namesFit_98 (lv_at hl 1 rfl) ?_
                refine lv_if_eq (tgt := 112) hx hb dd_K_namesFit_100 (by decide) (fun _ => ?_) (fun z => absurd (by decide) z)
                refine lv_iconst (v := 0) hx hb dd_K_namesFit_112 (by decide) ?_
                exact mr_i hx hb hr hlocks rfl (by simp [bI, k_namesFit, k_hasFirst, c1, c11, c21, c31, c32, c34, c35]) dd_K_namesFit_113
        · refine lv_iconst (v := 1) hx hb dd_K_namesFit_37 (by decide) ?_
          refine lv_goto (tgt := 56) hx hb dd_K_namesFit_38 (by decide) ?_
          refine lv_istore (lv' := [(6, .int 1), (5, .int 1), (0, .int k), (1, .long f), (3, .long z)]) hx hb dd_K_namesFit_56 hl (by decide) rfl (fun ls hl => ?_)
          refine lv_iload_n hx hb dd_K_namesFit_58 rfl (lv_at hl 2 rfl) ?_
          refine mc_S (As := [.int k]) (rest := []) 1 (cc_K_isCase (k := k)) hx hb hml hown ht hM hK hl.1 lk_K_25 (by decide +kernel) (by decide) rfl rfl (Nat.le_of_ble_eq_true rfl) dd_K_namesFit_59 ⟨Nat.zero_le _, Nat.zero_le _⟩ ?_
          refine lb_if_eq (tgt := 85) hx hb dd_K_namesFit_62 (by decide) (fun c36 => ?_) (fun c36 => ?_)
          · refine lv_lload_n hx hb dd_K_namesFit_85 rfl (lv_at hl 4 rfl) ?_
            refine lv_lconst (v := 0) hx hb dd_K_namesFit_86 (by decide) ?_
            refine W.lcmp hx hb dd_K_namesFit_87 ?_
            refine lc_if_ne (tgt := 95) hx hb dd_K_namesFit_88 (by decide) (fun c37 => ?_) (fun c37 => ?_)
            · refine lv_iconst (v := 0) hx hb dd_K_namesFit_95 (by decide) ?_
              refine lv_istore (lv' := [(7, .int 0), (6, .int 1), (5, .int 1), (0, .int k), (1, .long f), (3, .long z)]) hx hb dd_K_namesFit_96 hl (by decide) rfl (fun ls hl => ?_)
              refine lv_iload hx hb dd_K_namesFit_98 (lv_at hl 1 rfl) ?_
              refine lv_if_eq (tgt := 112) hx hb dd_K_namesFit_100 (by decide) (fun z => absurd z (by decide)) (fun _ => ?_)
              refine lv_iload hx hb dd_K_namesFit_103 (lv_at hl 0 rfl) ?_
              refine lv_if_eq (tgt := 112) hx hb dd_K_namesFit_105 (by decide) (fun _ => ?_) (fun z => absurd (by decide) z)
              refine lv_iconst (v := 0) hx hb dd_K_namesFit_112 (by decide) ?_
              exact mr_i hx hb hr hlocks rfl (by simp [bI, k_namesFit, k_hasFirst, c1, c11, c21, c31, c36, c37]) dd_K_namesFit_113
            · refine lv_iconst (v := 1) hx hb dd_K_namesFit_91 (by decide) ?_
              refine lv_goto (tgt := 96) hx hb dd_K_namesFit_92 (by decide) ?_
              refine lv_istore (lv' := [(7, .int 1), (6, .int 1), (5, .int 1), (0, .int k), (1, .long f), (3, .long z)]) hx hb dd_K_namesFit_96 hl (by decide) rfl (fun ls hl => ?_)
              refine lv_iload hx hb dd_K_namesFit_98 (lv_at hl 1 rfl) ?_
              refine lv_if_eq (tgt := 112) hx hb dd_K_namesFit_100 (by decide) (fun z => absurd z (by decide)) (fun _ => ?_)
              refine lv_iload hx hb dd_K_namesFit_103 (lv_at hl 0 rfl) ?_
              refine lv_if_eq (tgt := 112) hx hb dd_K_namesFit_105 (by decide) (fun z => absurd z (by decide)) (fun _ => ?_)
              refine lv_iconst (v := 1) hx hb dd_K_namesFit_108 (by decide) ?_
              refine lv_goto (tgt := 113) hx hb dd_K_namesFit_109 (by decide) ?_
              exact mr_i hx hb hr hlocks rfl (by simp [bI, k_namesFit, k_hasFirst, c1, c11, c21, c31, c36, eq_true c37]) dd_K_namesFit_113
          · refine lv_lload_n hx hb dd_K_namesFit_65 rfl (lv_at hl 4 rfl) ?_
            refine lv_lconst (v := 0) hx hb dd_K_namesFit_66 (by decide) ?_
            refine W.lcmp hx hb dd_K_namesFit_67 ?_
            refine lc_if_le (tgt := 81) hx hb dd_K_namesFit_68 (by decide) (fun c38 => ?_) (fun c38 => ?_)
            · refine lv_iconst (v := 0) hx hb dd_K_namesFit_81 (by decide) ?_
              refine lv_goto (tgt := 96) hx hb dd_K_namesFit_82 (by decide) ?_
              refine lv_istore (lv' := [(7, .int 0), (6, .int 1), (5, .int 1), (0, .int k), (1, .long f), (3, .long z)]) hx hb dd_K_namesFit_96 hl (by decide) rfl (fun ls hl => ?_)
              refine lv_iload hx hb dd_K_namesFit_98 (lv_at hl 1 rfl) ?_
              refine lv_if_eq (tgt := 112) hx hb dd_K_namesFit_100 (by decide) (fun z => absurd z (by decide)) (fun _ => ?_)
              refine lv_iload hx hb dd_K_namesFit_103 (lv_at hl 0 rfl) ?_
              refine lv_if_eq (tgt := 112) hx hb dd_K_namesFit_105 (by decide) (fun _ => ?_) (fun z => absurd (by decide) z)
              refine lv_iconst (v := 0) hx hb dd_K_namesFit_112 (by decide) ?_
              exact mr_i hx hb hr hlocks rfl (by simp [bI, k_namesFit, k_hasFirst, c1, c11, c21, c31, c36, c38]) dd_K_namesFit_113
            · refine lv_lload_n hx hb dd_K_namesFit_71 rfl (lv_at hl 4 rfl) ?_
              refine lv_lload_n hx hb dd_K_namesFit_72 rfl (lv_at hl 3 rfl) ?_
              refine W.lcmp hx hb dd_K_namesFit_73 ?_
              refine lc_if_eq (tgt := 81) hx hb dd_K_namesFit_74 (by decide) (fun c39 => ?_) (fun c39 => ?_)
              · refine lv_iconst (v := 0) hx hb dd_K_namesFit_81 (by decide) ?_
                refine lv_goto (tgt := 96) hx hb dd_K_namesFit_82 (by decide) ?_
                refine lv_istore (lv' := [(7, .int 0), (6, .int 1), (5, .int 1), (0, .int k), (1, .long f), (3, .long z)]) hx hb dd_K_namesFit_96 hl (by decide) rfl (fun ls hl => ?_)
                refine lv_iload hx hb dd_K_namesFit_98 (lv_at hl 1 rfl) ?_
                refine lv_if_eq (tgt := 112) hx hb dd_K_namesFit_100 (by decide) (fun z => absurd z (by decide)) (fun _ => ?_)
                refine lv_iload hx hb dd_K_namesFit_103 (lv_at hl 0 rfl) ?_
                refine lv_if_eq (tgt := 112) hx hb dd_K_namesFit_105 (by decide) (fun _ => ?_) (fun z => absurd (by decide) z)
                refine lv_iconst (v := 0) hx hb dd_K_namesFit_112 (by decide) ?_
                exact mr_i hx hb hr hlocks rfl (by simp [bI, k_namesFit, k_hasFirst, c1, c11, c21, c31, c36, c38, eq_true c39]) dd_K_namesFit_113
              · refine lv_iconst (v := 1) hx hb dd_K_namesFit_77 (by decide) ?_
                refine lv_goto (tgt := 96) hx hb dd_K_namesFit_78 (by decide) ?_
                refine lv_istore (lv' := [(7, .int 1), (6, .int 1), (5, .int 1), (0, .int k), (1, .long f), (3, .long z)]) hx hb dd_K_namesFit_96 hl (by decide) rfl (fun ls hl => ?_)
                refine lv_iload hx hb dd_K_namesFit_98 (lv_at hl 1 rfl) ?_
                refine lv_if_eq (tgt := 112) hx hb dd_K_namesFit_100 (by decide) (fun z => absurd z (by decide)) (fun _ => ?_)
                refine lv_iload hx hb dd_K_namesFit_103 (lv_at hl 0 rfl) ?_
                refine lv_if_eq (tgt := 112) hx hb dd_K_namesFit_105 (by decide) (fun z => absurd z (by decide)) (fun _ => ?_)
                refine lv_iconst (v := 1) hx hb dd_K_namesFit_108 (by decide) ?_
                refine lv_goto (tgt := 113) hx hb dd_K_namesFit_109 (by decide) ?_
                exact mr_i hx hb hr hlocks rfl (by simp [bI, k_namesFit, k_hasFirst, c1, c11, c21, c31, c36, c38, c39]) dd_K_namesFit_113

set_option maxHeartbeats 4000000 in
set_option maxRecDepth 100000 in
theorem cc_K_ownType {l : Launch} {G : gC} {M : mC} {k : Int32} : cR l yy_K_ownType bb_K_ownType 1 (some .int) 0 G M [.int k] (.int (k_ownType k)) := by
  refine me_R (by decide) (Nat.le_of_ble_eq_true rfl) ?_
  intro p e s m below meth c ls hx hb hr hlocks hml hown ht hM hK hl
  have hown : s.vm.findClass RR_K = some m.cls := hown
  have hl : lv_has ls 1 [(0, .int k)] := hl
  refine lv_iload_n hx hb dd_K_ownType_0 rfl (lv_at hl 0 rfl) ?_
  refine lv_if_eq (tgt := 15) hx hb dd_K_ownType_1 (by decide) (fun c1 => ?_) (fun c1 => ?_)
  · refine lv_iconst (v := 0) hx hb dd_K_ownType_15 (by decide) ?_
    exact mr_i hx hb hr hlocks rfl (by simp [bI, k_ownType, k_ownSw, eq_true c1]) dd_K_ownType_16
  · refine lv_iload_n hx hb dd_K_ownType_4 rfl (lv_at hl 0 rfl) ?_
    refine lv_iconst (v := 3) hx hb dd_K_ownType_5 (by decide) ?_
    refine lv_icmp_lt (tgt := 17) hx hb dd_K_ownType_6 (by decide) (fun c2 => ?_) (fun c2 => ?_)
    · refine lv_iload_n hx hb dd_K_ownType_17 rfl (lv_at hl 0 rfl) ?_
      by_cases c3 : k = 2
      · refine lv_lookup (tgt := 60) (off := 42) hx hb dd_K_ownType_18 (by decide) (by rw [c3]; decide) (by decide) ?_
        refine lv_iconst (v := 1) hx hb dd_K_ownType_60 (by decide) ?_
        exact mr_i hx hb hr hlocks rfl (by simp [bI, k_ownType, k_ownSw, c1, c2, eq_true c3]) dd_K_ownType_61
      by_cases c4 : k = 13
      · refine lv_lookup (tgt := 60) (off := 42) hx hb dd_K_ownType_18 (by decide) (by rw [c4]; decide) (by decide) ?_
        refine lv_iconst (v := 1) hx hb dd_K_ownType_60 (by decide) ?_
        exact mr_i hx hb hr hlocks rfl (by simp [bI, k_ownType, k_ownSw, c1, c2, c3, eq_true c4]) dd_K_ownType_61
      by_cases c5 : k = 16
      · refine lv_lookup (tgt := 62) (off := 44) hx hb dd_K_ownType_18 (by decide) (by rw [c5]; decide) (by decide) ?_
        refine lv_iconst (v := 2) hx hb dd_K_ownType_62 (by decide) ?_
        exact mr_i hx hb hr hlocks rfl (by simp [bI, k_ownType, k_ownSw, c1, c2, c3, c4, eq_true c5]) dd_K_ownType_63
      by_cases c6 : k = 17
      · refine lv_lookup (tgt := 64) (off := 46) hx hb dd_K_ownType_18 (by decide) (by rw [c6]; decide) (by decide) ?_
        refine lv_iconst (v := 3) hx hb dd_K_ownType_64 (by decide) ?_
        exact mr_i hx hb hr hlocks rfl (by simp [bI, k_ownType, k_ownSw, c1, c2, c3, c4, c5, eq_true c6]) dd_K_ownType_65
      refine lv_lookup (tgt := 66) (off := 48) hx hb dd_K_ownType_18 (by decide) (by refine (lv_osw c3 (by decide)).trans ?_; refine (lv_osw c4 (by decide)).trans ?_; refine (lv_osw c5 (by decide)).trans ?_; refine (lv_osw c6 (by decide)).trans ?_; rfl) (by decide) ?_
      refine lv_iconst (v := -1) hx hb dd_K_ownType_66 (by decide) ?_
      exact mr_i hx hb hr hlocks rfl (by simp [bI, k_ownType, k_ownSw, c1, c2, c3, c4, c5, c6]) dd_K_ownType_67
    · refine lv_iload_n hx hb dd_K_ownType_9 rfl (lv_at hl 0 rfl) ?_
      refine lv_bipush (v := 9) hx hb dd_K_ownType_10 (by decide) ?_
      refine lv_icmp_gt (tgt := 17) hx hb dd_K_ownType_12 (by decide) (fun c7 => ?_) (fun c7 => ?_)
      · refine lv_iload_n hx hb dd_K_ownType_17 rfl (lv_at hl 0 rfl) ?_
        by_cases c8 : k = 2
        · refine lv_lookup (tgt := 60) (off := 42) hx hb dd_K_ownType_18 (by decide) (by rw [c8]; decide) (by decide) ?_
          refine lv_iconst (v := 1) hx hb dd_K_ownType_60 (by decide) ?_
          exact mr_i hx hb hr hlocks rfl (by simp [bI, k_ownType, k_ownSw, c1, c2, c7, eq_true c8]) dd_K_ownType_61
        by_cases c9 : k = 13
        · refine lv_lookup (tgt := 60) (off := 42) hx hb dd_K_ownType_18 (by decide) (by rw [c9]; decide) (by decide) ?_
          refine lv_iconst (v := 1) hx hb dd_K_ownType_60 (by decide) ?_
          exact mr_i hx hb hr hlocks rfl (by simp [bI, k_ownType, k_ownSw, c1, c2, c7, c8, eq_true c9]) dd_K_ownType_61
        by_cases c10 : k = 16
        · refine lv_lookup (tgt := 62) (off := 44) hx hb dd_K_ownType_18 (by decide) (by rw [c10]; decide) (by decide) ?_
          refine lv_iconst (v := 2) hx hb dd_K_ownType_62 (by decide) ?_
          exact mr_i hx hb hr hlocks rfl (by simp [bI, k_ownType, k_ownSw, c1, c2, c7, c8, c9, eq_true c10]) dd_K_ownType_63
        by_cases c11 : k = 17
        · refine lv_lookup (tgt := 64) (off := 46) hx hb dd_K_ownType_18 (by decide) (by rw [c11]; decide) (by decide) ?_
          refine lv_iconst (v := 3) hx hb dd_K_ownType_64 (by decide) ?_
          exact mr_i hx hb hr hlocks rfl (by simp [bI, k_ownType, k_ownSw, c1, c2, c7, c8, c9, c10, eq_true c11]) dd_K_ownType_65
        refine lv_lookup (tgt := 66) (off := 48) hx hb dd_K_ownType_18 (by decide) (by refine (lv_osw c8 (by decide)).trans ?_; refine (lv_osw c9 (by decide)).trans ?_; refine (lv_osw c10 (by decide)).trans ?_; refine (lv_osw c11 (by decide)).trans ?_; rfl) (by decide) ?_
        refine lv_iconst (v := -1) hx hb dd_K_ownType_66 (by decide) ?_
        exact mr_i hx hb hr hlocks rfl (by simp [bI, k_ownType, k_ownSw, c1, c2, c7, c8, c9, c10, c11]) dd_K_ownType_67
      · refine lv_iconst (v := 0) hx hb dd_K_ownType_15 (by decide) ?_
        exact mr_i hx hb hr hlocks rfl (by simp [bI, k_ownType, k_ownSw, c1, c2, c7]) dd_K_ownType_16

set_option maxHeartbeats 4000000 in
set_option maxRecDepth 100000 in
theorem cc_N_variablesOfLastPart {l : Launch} {G : gC} {M : mC} {h0 : Nat} {r : nR} (m0 : M h0 = some (nC r)) : cR l yy_N_variablesOfLastPart bb_N_variablesOfLastPart 1 (some .int) 1 G M [.ref h0] (.int (n_varsLast r)) := by
  refine me_R (by decide) (Nat.le_of_ble_eq_true rfl) ?_
  intro p e s m below meth c ls hx hb hr hlocks hml hown ht hM hK hl
  have hown : s.vm.findClass RR_N = some m.cls := hown
  have hl : lv_has ls 1 [(0, .ref h0)] := hl
  refine lv_aload_n hx hb dd_N_variablesOfLastPart_0 rfl (lv_at hl 0 rfl) ?_
  refine mg_get hx hb ht ii_N hown hK hM m0 rfl 4 (by decide) wd_2_41 (fun _ h => h) rfl dd_N_variablesOfLastPart_1 ?_
  refine mc_S (As := [.int (n_kd r)]) (rest := []) 1 (cc_K_isBinder (k := (n_kd r))) hx hb hml hown ht hM hK hl.1 lk_N_73 (by decide +kernel) (by decide) rfl rfl (Nat.le_of_ble_eq_true rfl) dd_N_variablesOfLastPart_4 ⟨Nat.zero_le _, Nat.zero_le _⟩ ?_
  refine lb_if_ne (tgt := 12) hx hb dd_N_variablesOfLastPart_7 (by decide) (fun c1 => ?_) (fun c1 => ?_)
  · refine lv_aload_n hx hb dd_N_variablesOfLastPart_12 rfl (lv_at hl 0 rfl) ?_
    refine mg_get hx hb ht ii_N hown hK hM m0 rfl 4 (by decide) wd_2_41 (fun _ h => h) rfl dd_N_variablesOfLastPart_13 ?_
    refine mc_S (As := [.int (n_kd r)]) (rest := []) 1 (cc_K_isCase (k := (n_kd r))) hx hb hml hown ht hM hK hl.1 lk_N_79 (by decide +kernel) (by decide) rfl rfl (Nat.le_of_ble_eq_true rfl) dd_N_variablesOfLastPart_16 ⟨Nat.zero_le _, Nat.zero_le _⟩ ?_
    refine lb_if_eq (tgt := 26) hx hb dd_N_variablesOfLastPart_19 (by decide) (fun c2 => ?_) (fun c2 => ?_)
    · refine lv_iconst (v := 1) hx hb dd_N_variablesOfLastPart_26 (by decide) ?_
      exact mr_i hx hb hr hlocks rfl (by simp [bI, n_varsLast, c1, c2]) dd_N_variablesOfLastPart_27
    · refine lv_iconst (v := 2) hx hb dd_N_variablesOfLastPart_22 (by decide) ?_
      refine lv_goto (tgt := 27) hx hb dd_N_variablesOfLastPart_23 (by decide) ?_
      exact mr_i hx hb hr hlocks rfl (by simp [bI, n_varsLast, c1, c2]) dd_N_variablesOfLastPart_27
  · refine lv_iconst (v := 0) hx hb dd_N_variablesOfLastPart_10 (by decide) ?_
    exact mr_i hx hb hr hlocks rfl (by simp [bI, n_varsLast, c1]) dd_N_variablesOfLastPart_11

set_option maxHeartbeats 4000000 in
set_option maxRecDepth 100000 in
theorem cc_N_bindsInLastPart {l : Launch} {G : gC} {M : mC} {h0 : Nat} {r : nR} (m0 : M h0 = some (nC r)) {x : Int64} : cR l yy_N_bindsInLastPart bb_N_bindsInLastPart 3 (some .boolean) 1 G M [.ref h0, .long x] (.int (bI (n_binds r x))) := by
  refine me_R (by decide) (Nat.le_of_ble_eq_true rfl) ?_
  intro p e s m below meth c ls hx hb hr hlocks hml hown ht hM hK hl
  have hown : s.vm.findClass RR_N = some m.cls := hown
  have hl : lv_has ls 3 [(0, .ref h0), (1, .long x)] := hl
  refine lv_aload_n hx hb dd_N_bindsInLastPart_0 rfl (lv_at hl 0 rfl) ?_
  refine mg_get hx hb ht ii_N hown hK hM m0 rfl 4 (by decide) wd_2_41 (fun _ h => h) rfl dd_N_bindsInLastPart_1 ?_
  refine mc_S (As := [.int (n_kd r)]) (rest := []) 1 (cc_K_isBinder (k := (n_kd r))) hx hb hml hown ht hM hK hl.1 lk_N_73 (by decide +kernel) (by decide) rfl rfl (Nat.le_of_ble_eq_true rfl) dd_N_bindsInLastPart_4 ⟨Nat.zero_le _, Nat.zero_le _⟩ ?_
  refine lb_if_eq (tgt := 32) hx hb dd_N_bindsInLastPart_7 (by decide) (fun c1 => ?_) (fun c1 => ?_)
  · refine lv_iconst (v := 0) hx hb dd_N_bindsInLastPart_32 (by decide) ?_
    exact mr_i hx hb hr hlocks rfl (by simp [bI, n_binds, c1]) dd_N_bindsInLastPart_33
  · refine lv_aload_n hx hb dd_N_bindsInLastPart_10 rfl (lv_at hl 0 rfl) ?_
    refine mg_get hx hb ht ii_N hown hK hM m0 rfl 5 (by decide) wd_2_44 (fun _ h => h) rfl dd_N_bindsInLastPart_11 ?_
    refine lv_lload_n hx hb dd_N_bindsInLastPart_14 rfl (lv_at hl 1 rfl) ?_
    refine W.lcmp hx hb dd_N_bindsInLastPart_15 ?_
    refine lc_if_eq (tgt := 28) hx hb dd_N_bindsInLastPart_16 (by decide) (fun c2 => ?_) (fun c2 => ?_)
    · refine lv_iconst (v := 1) hx hb dd_N_bindsInLastPart_28 (by decide) ?_
      refine lv_goto (tgt := 33) hx hb dd_N_bindsInLastPart_29 (by decide) ?_
      exact mr_i hx hb hr hlocks rfl (by simp [bI, n_binds, c1, eq_true c2]) dd_N_bindsInLastPart_33
    · refine lv_aload_n hx hb dd_N_bindsInLastPart_19 rfl (lv_at hl 0 rfl) ?_
      refine mg_get hx hb ht ii_N hown hK hM m0 rfl 6 (by decide) wd_2_46 (fun _ h => h) rfl dd_N_bindsInLastPart_20 ?_
      refine lv_lload_n hx hb dd_N_bindsInLastPart_23 rfl (lv_at hl 1 rfl) ?_
      refine W.lcmp hx hb dd_N_bindsInLastPart_24 ?_
      refine lc_if_ne (tgt := 32) hx hb dd_N_bindsInLastPart_25 (by decide) (fun c3 => ?_) (fun c3 => ?_)
      · refine lv_iconst (v := 0) hx hb dd_N_bindsInLastPart_32 (by decide) ?_
        exact mr_i hx hb hr hlocks rfl (by simp [bI, n_binds, c1, c2, c3]) dd_N_bindsInLastPart_33
      · refine lv_iconst (v := 1) hx hb dd_N_bindsInLastPart_28 (by decide) ?_
        refine lv_goto (tgt := 33) hx hb dd_N_bindsInLastPart_29 (by decide) ?_
        exact mr_i hx hb hr hlocks rfl (by simp [bI, n_binds, c1, c2, eq_true c3]) dd_N_bindsInLastPart_33

set_option maxHeartbeats 4000000 in
set_option maxRecDepth 100000 in
theorem cc_N_typeOfXAfter {l : Launch} {G : gC} {M : mC} {h0 : Nat} {r : nR} (m0 : M h0 = some (nC r)) {t : Int32} : cR l yy_N_typeOfXAfter bb_N_typeOfXAfter 2 (some .int) 1 G M [.ref h0, .int t] (.int (n_txAfter r t)) := by
  refine me_R (by decide) (Nat.le_of_ble_eq_true rfl) ?_
  intro p e s m below meth c ls hx hb hr hlocks hml hown ht hM hK hl
  have hown : s.vm.findClass RR_N = some m.cls := hown
  have hl : lv_has ls 2 [(0, .ref h0), (1, .int t)] := hl
  refine lv_aload_n hx hb dd_N_typeOfXAfter_0 rfl (lv_at hl 0 rfl) ?_
  refine mg_get hx hb ht ii_N hown hK hM m0 rfl 4 (by decide) wd_2_41 (fun _ h => h) rfl dd_N_typeOfXAfter_1 ?_
  refine mc_S (As := [.int (n_kd r)]) (rest := []) 1 (cc_K_isLet (k := (n_kd r))) hx hb hml hown ht hM hK hl.1 lk_N_114 (by decide +kernel) (by decide) rfl rfl (Nat.le_of_ble_eq_true rfl) dd_N_typeOfXAfter_4 ⟨Nat.zero_le _, Nat.zero_le _⟩ ?_
  refine lb_if_eq (tgt := 12) hx hb dd_N_typeOfXAfter_7 (by decide) (fun c1 => ?_) (fun c1 => ?_)
  · refine lv_aload_n hx hb dd_N_typeOfXAfter_12 rfl (lv_at hl 0 rfl) ?_
    refine mg_get hx hb ht ii_N hown hK hM m0 rfl 4 (by decide) wd_2_41 (fun _ h => h) rfl dd_N_typeOfXAfter_13 ?_
    refine lv_bipush (v := 18) hx hb dd_N_typeOfXAfter_16 (by decide) ?_
    refine lv_icmp_ne (tgt := 30) hx hb dd_N_typeOfXAfter_18 (by decide) (fun c2 => ?_) (fun c2 => ?_)
    · refine lv_iconst (v := 0) hx hb dd_N_typeOfXAfter_30 (by decide) ?_
      exact mr_i hx hb hr hlocks rfl (by simp [bI, n_txAfter, c1, c2]) dd_N_typeOfXAfter_31
    · refine lv_iload_n hx hb dd_N_typeOfXAfter_21 rfl (lv_at hl 1 rfl) ?_
      refine lv_iconst (v := 3) hx hb dd_N_typeOfXAfter_22 (by decide) ?_
      refine lv_icmp_ne (tgt := 30) hx hb dd_N_typeOfXAfter_23 (by decide) (fun c3 => ?_) (fun c3 => ?_)
      · refine lv_iconst (v := 0) hx hb dd_N_typeOfXAfter_30 (by decide) ?_
        exact mr_i hx hb hr hlocks rfl (by simp [bI, n_txAfter, c1, eq_true c2, c3]) dd_N_typeOfXAfter_31
      · refine lv_iconst (v := 1) hx hb dd_N_typeOfXAfter_26 (by decide) ?_
        refine lv_goto (tgt := 31) hx hb dd_N_typeOfXAfter_27 (by decide) ?_
        exact mr_i hx hb hr hlocks rfl (by simp [bI, n_txAfter, c1, eq_true c2, eq_true c3]) dd_N_typeOfXAfter_31
  · refine lv_iload_n hx hb dd_N_typeOfXAfter_10 rfl (lv_at hl 1 rfl) ?_
    exact mr_i hx hb hr hlocks rfl (by simp [bI, n_txAfter, c1]) dd_N_typeOfXAfter_11

set_option maxHeartbeats 4000000 in
set_option maxRecDepth 100000 in
theorem cc_N_isLastPart {l : Launch} {G : gC} {M : mC} {h0 : Nat} {r : nR} (m0 : M h0 = some (nC r)) {q : nR} (mp : ∀ y, n_pa r = some y → M y = some (nC q)) : cR l yy_N_isLastPart bb_N_isLastPart 1 (some .boolean) 0 G M [.ref h0] (.int (bI (n_isLast r q))) := by
  refine me_R (by decide) (Nat.le_of_ble_eq_true rfl) ?_
  intro p e s m below meth c ls hx hb hr hlocks hml hown ht hM hK hl
  have hown : s.vm.findClass RR_N = some m.cls := hown
  have hl : lv_has ls 1 [(0, .ref h0)] := hl
  refine lv_aload_n hx hb dd_N_isLastPart_0 rfl (lv_at hl 0 rfl) ?_
  refine mg_get hx hb ht ii_N hown hK hM m0 rfl 2 (by decide) wd_2_36 (fun _ h => h) rfl dd_N_isLastPart_1 ?_
  refine lr_ifnull (tgt := 27) hx hb dd_N_isLastPart_4 (by decide) (fun ey1 => ?_) (fun y1 ey1 => ?_)
  · refine lv_iconst (v := 0) hx hb dd_N_isLastPart_27 (by decide) ?_
    exact mr_i hx hb hr hlocks rfl (by simp [bI, n_isLast, ey1]) dd_N_isLastPart_28
  · have my1 := mp y1 ey1
    refine lv_aload_n hx hb dd_N_isLastPart_7 rfl (lv_at hl 0 rfl) ?_
    refine mg_get hx hb ht ii_N hown hK hM m0 rfl 3 (by decide) wd_2_39 (fun _ h => h) rfl dd_N_isLastPart_8 ?_
    refine lv_aload_n hx hb dd_N_isLastPart_11 rfl (lv_at hl 0 rfl) ?_
    refine mg_get (v := .ref y1) hx hb ht ii_N hown hK hM m0 rfl 2 (by decide) wd_2_36 (fun _ h => h) (congrArg (fun z => some (va_rf z)) ey1) dd_N_isLastPart_12 ?_
    refine mg_get hx hb ht ii_N hown hK hM my1 rfl 7 (by decide) wd_2_47 (fun _ h => h) rfl dd_N_isLastPart_15 ?_
    refine lv_iconst (v := 1) hx hb dd_N_isLastPart_18 (by decide) ?_
    refine lv_isub hx hb dd_N_isLastPart_19 ?_
    refine lv_icmp_ne (tgt := 27) hx hb dd_N_isLastPart_20 (by decide) (fun c2 => ?_) (fun c2 => ?_)
    · refine lv_iconst (v := 0) hx hb dd_N_isLastPart_27 (by decide) ?_
      exact mr_i hx hb hr hlocks rfl (by simp [bI, n_isLast, ey1, c2]) dd_N_isLastPart_28
    · refine lv_iconst (v := 1) hx hb dd_N_isLastPart_23 (by decide) ?_
      refine lv_goto (tgt := 28) hx hb dd_N_isLastPart_24 (by decide) ?_
      exact mr_i hx hb hr hlocks rfl (by simp [bI, n_isLast, ey1, eq_true c2]) dd_N_isLastPart_28

set_option maxHeartbeats 4000000 in
set_option maxRecDepth 100000 in
theorem cc_D_isWhole {l : Launch} {G : gC} {M : mC} {h0 : Nat} {r : dR} (m0 : M h0 = some (dC r)) : cR l yy_D_isWhole bb_D_isWhole 1 (some .boolean) 0 G M [.ref h0] (.int (bI (d_whole r))) := by
  refine me_R (by decide) (Nat.le_of_ble_eq_true rfl) ?_
  intro p e s m below meth c ls hx hb hr hlocks hml hown ht hM hK hl
  have hown : s.vm.findClass RR_D = some m.cls := hown
  have hl : lv_has ls 1 [(0, .ref h0)] := hl
  refine lv_aload_n hx hb dd_D_isWhole_0 rfl (lv_at hl 0 rfl) ?_
  refine mg_get hx hb ht ii_D hown hK hM m0 rfl 7 (by decide) wd_1_142 (fun _ h => h) rfl dd_D_isWhole_1 ?_
  refine lb_if_eq (tgt := 18) hx hb dd_D_isWhole_4 (by decide) (fun c1 => ?_) (fun c1 => ?_)
  · refine lv_iconst (v := 0) hx hb dd_D_isWhole_18 (by decide) ?_
    exact mr_i hx hb hr hlocks rfl (by simp [bI, d_whole, c1]) dd_D_isWhole_19
  · refine lv_aload_n hx hb dd_D_isWhole_7 rfl (lv_at hl 0 rfl) ?_
    refine mg_get hx hb ht ii_D hown hK hM m0 rfl 8 (by decide) wd_1_144 (fun _ h => h) rfl dd_D_isWhole_8 ?_
    refine lr_ifnonnull (tgt := 18) hx hb dd_D_isWhole_11 (by decide) (fun y2 ey2 => ?_) (fun ey2 => ?_)
    · refine lv_iconst (v := 0) hx hb dd_D_isWhole_18 (by decide) ?_
      exact mr_i hx hb hr hlocks rfl (by simp [bI, d_whole, c1, ey2]) dd_D_isWhole_19
    · refine lv_iconst (v := 1) hx hb dd_D_isWhole_14 (by decide) ?_
      refine lv_goto (tgt := 19) hx hb dd_D_isWhole_15 (by decide) ?_
      exact mr_i hx hb hr hlocks rfl (by simp [bI, d_whole, c1, ey2]) dd_D_isWhole_19

set_option maxHeartbeats 4000000 in
set_option maxRecDepth 100000 in
theorem cc_D_wantsChange {l : Launch} {G : gC} {M : mC} {h0 : Nat} {r : dR} (m0 : M h0 = some (dC r)) {q : nR} (mp : ∀ y, d_op r = some y → M y = some (nC q)) : cR l yy_D_wantsChange bb_D_wantsChange 1 (some .boolean) 1 G M [.ref h0] (.int (bI (d_wants r q))) := by
  refine me_R (by decide) (Nat.le_of_ble_eq_true rfl) ?_
  intro p e s m below meth c ls hx hb hr hlocks hml hown ht hM hK hl
  have hown : s.vm.findClass RR_D = some m.cls := hown
  have hl : lv_has ls 1 [(0, .ref h0)] := hl
  refine lv_aload_n hx hb dd_D_wantsChange_0 rfl (lv_at hl 0 rfl) ?_
  refine mg_get hx hb ht ii_D hown hK hM m0 rfl 8 (by decide) wd_1_144 (fun _ h => h) rfl dd_D_wantsChange_1 ?_
  refine lr_ifnonnull (tgt := 14) hx hb dd_D_wantsChange_4 (by decide) (fun y1 ey1 => ?_) (fun ey1 => ?_)
  · have my1 := mp y1 ey1
    refine lv_aload_n hx hb dd_D_wantsChange_14 rfl (lv_at hl 0 rfl) ?_
    refine mg_get (v := .ref y1) hx hb ht ii_D hown hK hM m0 rfl 8 (by decide) wd_1_144 (fun _ h => h) (congrArg (fun z => some (va_rf z)) ey1) dd_D_wantsChange_15 ?_
    refine mg_get hx hb ht ii_N hown hK hM my1 rfl 4 (by decide) wd_2_42 (fun _ h => h) rfl dd_D_wantsChange_18 ?_
    refine lv_aload_n hx hb dd_D_wantsChange_21 rfl (lv_at hl 0 rfl) ?_
    refine mg_get (v := .ref y1) hx hb ht ii_D hown hK hM m0 rfl 8 (by decide) wd_1_144 (fun _ h => h) (congrArg (fun z => some (va_rf z)) ey1) dd_D_wantsChange_22 ?_
    refine mg_get hx hb ht ii_N hown hK hM my1 rfl 8 (by decide) wd_2_51 (fun _ h => h) rfl dd_D_wantsChange_25 ?_
    refine mc_S (As := [.int (n_kd q), .int (n_fl q)]) (rest := []) 2 (cc_K_wantsChange (k := (n_kd q)) (pl := (n_fl q))) hx hb hml hown ht hM hK hl.1 lk_D_52 (by decide +kernel) (by decide) rfl rfl (Nat.le_of_ble_eq_true rfl) dd_D_wantsChange_28 ⟨Nat.zero_le _, Nat.zero_le _⟩ ?_
    exact mr_i hx hb hr hlocks bI_z (by simp [bI, d_wants, ey1]) dd_D_wantsChange_31
  · refine lv_aload_n hx hb dd_D_wantsChange_7 rfl (lv_at hl 0 rfl) ?_
    refine mg_get hx hb ht ii_D hown hK hM m0 rfl 1 (by decide) wd_1_129 (fun _ h => h) rfl dd_D_wantsChange_8 ?_
    refine lv_goto (tgt := 31) hx hb dd_D_wantsChange_11 (by decide) ?_
    exact mr_i hx hb hr hlocks bI_z (by simp [bI, d_wants, ey1]) dd_D_wantsChange_31

set_option maxHeartbeats 4000000 in
set_option maxRecDepth 100000 in
theorem cc_D_parameterType {l : Launch} {G : gC} {M : mC} {h0 : Nat} {r : dR} (m0 : M h0 = some (dC r)) {pt : Nat → Int32} (mt : M (d_apt r) = some (iA G 8 pt)) {i : Int32} : cR l yy_D_parameterType bb_D_parameterType 2 (some .int) 0 G M [.ref h0, .int i] (.int (d_ptype r pt i)) := by
  refine me_R (by decide) (Nat.le_of_ble_eq_true rfl) ?_
  intro p e s m below meth c ls hx hb hr hlocks hml hown ht hM hK hl
  have hown : s.vm.findClass RR_D = some m.cls := hown
  have hl : lv_has ls 2 [(0, .ref h0), (1, .int i)] := hl
  refine lv_iload_n hx hb dd_D_parameterType_0 rfl (lv_at hl 1 rfl) ?_
  refine lv_if_lt (tgt := 18) hx hb dd_D_parameterType_1 (by decide) (fun c1 => ?_) (fun c1 => ?_)
  · refine lv_iconst (v := -1) hx hb dd_D_parameterType_18 (by decide) ?_
    refine lv_goto (tgt := 28) hx hb dd_D_parameterType_19 (by decide) ?_
    exact mr_i hx hb hr hlocks rfl (by simp [bI, d_ptype, c1]) dd_D_parameterType_28
  · refine lv_iload_n hx hb dd_D_parameterType_4 rfl (lv_at hl 1 rfl) ?_
    refine lv_aload_n hx hb dd_D_parameterType_5 rfl (lv_at hl 0 rfl) ?_
    refine mg_get hx hb ht ii_D hown hK hM m0 rfl 6 (by decide) wd_1_139 (fun _ h => h) rfl dd_D_parameterType_6 ?_
    refine lv_icmp_ge (tgt := 18) hx hb dd_D_parameterType_9 (by decide) (fun c2 => ?_) (fun c2 => ?_)
    · refine lv_iconst (v := -1) hx hb dd_D_parameterType_18 (by decide) ?_
      refine lv_goto (tgt := 28) hx hb dd_D_parameterType_19 (by decide) ?_
      exact mr_i hx hb hr hlocks rfl (by simp [bI, d_ptype, c1, c2]) dd_D_parameterType_28
    · refine lv_iload_n hx hb dd_D_parameterType_12 rfl (lv_at hl 1 rfl) ?_
      refine lv_bipush (v := 8) hx hb dd_D_parameterType_13 (by decide) ?_
      refine lv_icmp_lt (tgt := 22) hx hb dd_D_parameterType_15 (by decide) (fun c3 => ?_) (fun c3 => ?_)
      · refine lv_aload_n hx hb dd_D_parameterType_22 rfl (lv_at hl 0 rfl) ?_
        refine mg_get hx hb ht ii_D hown hK hM m0 rfl 5 (by decide) wd_1_138 (fun _ h => h) rfl dd_D_parameterType_23 ?_
        refine lv_iload_n hx hb dd_D_parameterType_26 rfl (lv_at hl 1 rfl) ?_
        refine mg_iald hx hb hK hM mt (vp_8 c1 c3) dd_D_parameterType_27 ?_
        exact mr_i hx hb hr hlocks rfl (by simp [bI, d_ptype, c1, c2, c3]) dd_D_parameterType_28
      · refine lv_iconst (v := -1) hx hb dd_D_parameterType_18 (by decide) ?_
        refine lv_goto (tgt := 28) hx hb dd_D_parameterType_19 (by decide) ?_
        exact mr_i hx hb hr hlocks rfl (by simp [bI, d_ptype, c1, c2, c3]) dd_D_parameterType_28

set_option maxHeartbeats 4000000 in
set_option maxRecDepth 100000 in
theorem cc_N_admits {l : Launch} {G : gC} {M : mC} {h0 : Nat} {r : nR} (m0 : M h0 = some (nC r)) {d : dR} {pt : Nat → Int32} (mp : ∀ y, n_ca r = some y → M y = some (dC d)) (mt : n_ca r ≠ none → M (d_apt d) = some (iA G 8 pt)) {k t : Int32} : cR l yy_N_admits bb_N_admits 3 (some .boolean) 1 G M [.ref h0, .int k, .int t] (.int (bI (n_admits r d pt k t))) := by
  refine me_R (by decide) (Nat.le_of_ble_eq_true rfl) ?_
  intro p e s m below meth c ls hx hb hr hlocks hml hown ht hM hK hl
  have hown : s.vm.findClass RR_N = some m.cls := hown
  have hl : lv_has ls 3 [(0, .ref h0), (1, .int k), (2, .int t)] := hl
  refine lv_aload_n hx hb dd_N_admits_0 rfl (lv_at hl 0 rfl) ?_
  refine mg_get hx hb ht ii_N hown hK hM m0 rfl 4 (by decide) wd_2_41 (fun _ h => h) rfl dd_N_admits_1 ?_
  by_cases c2 : (n_kd r) = 10
  · refine lv_tableIn (tgt := 76) hx hb dd_N_admits_4 (by rw [c2]; decide) (by rw [c2]; decide) (by rw [c2]; rfl) (by decide) ?_
    refine lv_iload_n hx hb dd_N_admits_76 rfl (lv_at hl 1 rfl) ?_
    refine lv_if_ne (tgt := 92) hx hb dd_N_admits_77 (by decide) (fun c3 => ?_) (fun c3 => ?_)
    · refine lv_iload_n hx hb dd_N_admits_92 rfl (lv_at hl 1 rfl) ?_
      refine lv_iconst (v := 1) hx hb dd_N_admits_93 (by decide) ?_
      refine lv_icmp_eq (tgt := 105) hx hb dd_N_admits_94 (by decide) (fun c4 => ?_) (fun c4 => ?_)
      · refine lv_iconst (v := 1) hx hb dd_N_admits_105 (by decide) ?_
        refine lv_goto (tgt := 110) hx hb dd_N_admits_106 (by decide) ?_
        exact mr_i hx hb hr hlocks rfl (by simp [bI, n_admits, eq_true c2, c3, eq_true c4]) dd_N_admits_110
      · refine lv_iload_n hx hb dd_N_admits_97 rfl (lv_at hl 2 rfl) ?_
        refine lv_aload_n hx hb dd_N_admits_98 rfl (lv_at hl 0 rfl) ?_
        refine mg_get hx hb ht ii_N hown hK hM m0 rfl 9 (by decide) wd_2_52 (fun _ h => h) rfl dd_N_admits_99 ?_
        refine lv_icmp_ne (tgt := 109) hx hb dd_N_admits_102 (by decide) (fun c5 => ?_) (fun c5 => ?_)
        · refine lv_iconst (v := 0) hx hb dd_N_admits_109 (by decide) ?_
          exact mr_i hx hb hr hlocks rfl (by simp [bI, n_admits, eq_true c2, c3, c4, c5]) dd_N_admits_110
        · refine lv_iconst (v := 1) hx hb dd_N_admits_105 (by decide) ?_
          refine lv_goto (tgt := 110) hx hb dd_N_admits_106 (by decide) ?_
          exact mr_i hx hb hr hlocks rfl (by simp [bI, n_admits, eq_true c2, c3, c4, eq_true c5]) dd_N_admits_110
    · refine lv_iload_n hx hb dd_N_admits_80 rfl (lv_at hl 2 rfl) ?_
      refine lv_if_ne (tgt := 88) hx hb dd_N_admits_81 (by decide) (fun c6 => ?_) (fun c6 => ?_)
      · refine lv_iconst (v := 0) hx hb dd_N_admits_88 (by decide) ?_
        refine lv_goto (tgt := 110) hx hb dd_N_admits_89 (by decide) ?_
        exact mr_i hx hb hr hlocks rfl (by simp [bI, n_admits, eq_true c2, eq_true c3, c6]) dd_N_admits_110
      · refine lv_iconst (v := 1) hx hb dd_N_admits_84 (by decide) ?_
        refine lv_goto (tgt := 110) hx hb dd_N_admits_85 (by decide) ?_
        exact mr_i hx hb hr hlocks rfl (by simp [bI, n_admits, eq_true c2, eq_true c3, eq_true c6]) dd_N_admits_110
  by_cases c7 : (n_kd r) = 11
  · refine lv_tableIn (tgt := 147) hx hb dd_N_admits_4 (by rw [c7]; decide) (by rw [c7]; decide) (by rw [c7]; rfl) (by decide) ?_
    refine lv_iconst (v := 1) hx hb dd_N_admits_147 (by decide) ?_
    exact mr_i hx hb hr hlocks rfl (by simp [bI, n_admits, c2, eq_true c7]) dd_N_admits_148
  by_cases c8 : (n_kd r) = 12
  · refine lv_tableIn (tgt := 111) hx hb dd_N_admits_4 (by rw [c8]; decide) (by rw [c8]; decide) (by rw [c8]; rfl) (by decide) ?_
    refine lv_iload_n hx hb dd_N_admits_111 rfl (lv_at hl 1 rfl) ?_
    refine lv_if_ne (tgt := 128) hx hb dd_N_admits_112 (by decide) (fun c9 => ?_) (fun c9 => ?_)
    · refine lv_iload_n hx hb dd_N_admits_128 rfl (lv_at hl 1 rfl) ?_
      refine lv_iconst (v := 1) hx hb dd_N_admits_129 (by decide) ?_
      refine lv_icmp_eq (tgt := 141) hx hb dd_N_admits_130 (by decide) (fun c10 => ?_) (fun c10 => ?_)
      · refine lv_iconst (v := 1) hx hb dd_N_admits_141 (by decide) ?_
        refine lv_goto (tgt := 146) hx hb dd_N_admits_142 (by decide) ?_
        exact mr_i hx hb hr hlocks rfl (by simp [bI, n_admits, c2, c7, eq_true c8, c9, eq_true c10]) dd_N_admits_146
      · refine lv_iload_n hx hb dd_N_admits_133 rfl (lv_at hl 2 rfl) ?_
        refine lv_aload_n hx hb dd_N_admits_134 rfl (lv_at hl 0 rfl) ?_
        refine mg_get hx hb ht ii_N hown hK hM m0 rfl 9 (by decide) wd_2_52 (fun _ h => h) rfl dd_N_admits_135 ?_
        refine lv_icmp_ne (tgt := 145) hx hb dd_N_admits_138 (by decide) (fun c11 => ?_) (fun c11 => ?_)
        · refine lv_iconst (v := 0) hx hb dd_N_admits_145 (by decide) ?_
          exact mr_i hx hb hr hlocks rfl (by simp [bI, n_admits, c2, c7, eq_true c8, c9, c10, c11]) dd_N_admits_146
        · refine lv_iconst (v := 1) hx hb dd_N_admits_141 (by decide) ?_
          refine lv_goto (tgt := 146) hx hb dd_N_admits_142 (by decide) ?_
          exact mr_i hx hb hr hlocks rfl (by simp [bI, n_admits, c2, c7, eq_true c8, c9, c10, eq_true c11]) dd_N_admits_146
    · refine lv_iload_n hx hb dd_N_admits_115 rfl (lv_at hl 2 rfl) ?_
      refine lv_iconst (v := 1) hx hb dd_N_admits_116 (by decide) ?_
      refine lv_icmp_ne (tgt := 124) hx hb dd_N_admits_117 (by decide) (fun c12 => ?_) (fun c12 => ?_)
      · refine lv_iconst (v := 0) hx hb dd_N_admits_124 (by decide) ?_
        refine lv_goto (tgt := 146) hx hb dd_N_admits_125 (by decide) ?_
        exact mr_i hx hb hr hlocks rfl (by simp [bI, n_admits, c2, c7, eq_true c8, eq_true c9, c12]) dd_N_admits_146
      · refine lv_iconst (v := 1) hx hb dd_N_admits_120 (by decide) ?_
        refine lv_goto (tgt := 146) hx hb dd_N_admits_121 (by decide) ?_
        exact mr_i hx hb hr hlocks rfl (by simp [bI, n_admits, c2, c7, eq_true c8, eq_true c9, eq_true c12]) dd_N_admits_146
  by_cases c13 : (n_kd r) = 13
  · refine lv_tableIn (tgt := 149) hx hb dd_N_admits_4 (by rw [c13]; decide) (by rw [c13]; decide) (by rw [c13]; rfl) (by decide) ?_
    refine lv_iload_n hx hb dd_N_admits_149 rfl (lv_at hl 2 rfl) ?_
    refine lv_iload_n hx hb dd_N_admits_150 rfl (lv_at hl 1 rfl) ?_
    refine lv_if_ne (tgt := 158) hx hb dd_N_admits_151 (by decide) (fun c14 => ?_) (fun c14 => ?_)
    · refine lv_iconst (v := 3) hx hb dd_N_admits_158 (by decide) ?_
      refine lv_icmp_ne (tgt := 166) hx hb dd_N_admits_159 (by decide) (fun c15 => ?_) (fun c15 => ?_)
      · refine lv_iconst (v := 0) hx hb dd_N_admits_166 (by decide) ?_
        exact mr_i hx hb hr hlocks rfl (by simp [bI, n_admits, c2, c7, c8, eq_true c13, c14, c15]) dd_N_admits_167
      · refine lv_iconst (v := 1) hx hb dd_N_admits_162 (by decide) ?_
        refine lv_goto (tgt := 167) hx hb dd_N_admits_163 (by decide) ?_
        exact mr_i hx hb hr hlocks rfl (by simp [bI, n_admits, c2, c7, c8, eq_true c13, c14, eq_true c15]) dd_N_admits_167
    · refine lv_iconst (v := 0) hx hb dd_N_admits_154 (by decide) ?_
      refine lv_goto (tgt := 159) hx hb dd_N_admits_155 (by decide) ?_
      refine lv_icmp_ne (tgt := 166) hx hb dd_N_admits_159 (by decide) (fun c16 => ?_) (fun c16 => ?_)
      · refine lv_iconst (v := 0) hx hb dd_N_admits_166 (by decide) ?_
        exact mr_i hx hb hr hlocks rfl (by simp [bI, n_admits, c2, c7, c8, eq_true c13, eq_true c14, c16]) dd_N_admits_167
      · refine lv_iconst (v := 1) hx hb dd_N_admits_162 (by decide) ?_
        refine lv_goto (tgt := 167) hx hb dd_N_admits_163 (by decide) ?_
        exact mr_i hx hb hr hlocks rfl (by simp [bI, n_admits, c2, c7, c8, eq_true c13, eq_true c14, eq_true c16]) dd_N_admits_167
  by_cases c17 : (n_kd r) = 14
  · refine lv_tableIn (tgt := 168) hx hb dd_N_admits_4 (by rw [c17]; decide) (by rw [c17]; decide) (by rw [c17]; rfl) (by decide) ?_
    refine lv_aload_n hx hb dd_N_admits_168 rfl (lv_at hl 0 rfl) ?_
    refine mg_get hx hb ht ii_N hown hK hM m0 rfl 12 (by decide) wd_2_57 (fun _ h => h) rfl dd_N_admits_169 ?_
    refine lr_ifnull (tgt := 191) hx hb dd_N_admits_172 (by decide) (fun ey18 => ?_) (fun y18 ey18 => ?_)
    · refine lv_iconst (v := 0) hx hb dd_N_admits_191 (by decide) ?_
      exact mr_i hx hb hr hlocks rfl (by simp [bI, n_admits, c2, c7, c8, c13, eq_true c17, ey18]) dd_N_admits_192
    · have my18 := mp y18 ey18
      refine lv_iload_n hx hb dd_N_admits_175 rfl (lv_at hl 2 rfl) ?_
      refine lv_aload_n hx hb dd_N_admits_176 rfl (lv_at hl 0 rfl) ?_
      refine mg_get (v := .ref y18) hx hb ht ii_N hown hK hM m0 rfl 12 (by decide) wd_2_57 (fun _ h => h) (congrArg (fun z => some (va_rf z)) ey18) dd_N_admits_177 ?_
      refine lv_iload_n hx hb dd_N_admits_180 rfl (lv_at hl 1 rfl) ?_
      refine mc_V (As := [.int k]) (rest := [.int t]) 1 (cc_D_parameterType (i := k) my18 (mt (by rw [ey18]; exact Option.some_ne_none _))) hx hb hml hown ht hM hK hl.1 lk_N_92 (by decide +kernel) (by decide) my18 rfl rfl rfl (Nat.le_of_ble_eq_true rfl) dd_N_admits_181 ⟨Nat.zero_le _, Nat.zero_le _⟩ ?_
      refine lv_icmp_ne (tgt := 191) hx hb dd_N_admits_184 (by decide) (fun c19 => ?_) (fun c19 => ?_)
      · refine lv_iconst (v := 0) hx hb dd_N_admits_191 (by decide) ?_
        exact mr_i hx hb hr hlocks rfl (by simp [bI, n_admits, c2, c7, c8, c13, eq_true c17, ey18, c19]) dd_N_admits_192
      · refine lv_iconst (v := 1) hx hb dd_N_admits_187 (by decide) ?_
        refine lv_goto (tgt := 192) hx hb dd_N_admits_188 (by decide) ?_
        exact mr_i hx hb hr hlocks rfl (by simp [bI, n_admits, c2, c7, c8, c13, eq_true c17, ey18, eq_true c19]) dd_N_admits_192
  by_cases c20 : (n_kd r) = 15
  · refine lv_tableIn (tgt := 168) hx hb dd_N_admits_4 (by rw [c20]; decide) (by rw [c20]; decide) (by rw [c20]; rfl) (by decide) ?_
    refine lv_aload_n hx hb dd_N_admits_168 rfl (lv_at hl 0 rfl) ?_
    refine mg_get hx hb ht ii_N hown hK hM m0 rfl 12 (by decide) wd_2_57 (fun _ h => h) rfl dd_N_admits_169 ?_
    refine lr_ifnull (tgt := 191) hx hb dd_N_admits_172 (by decide) (fun ey21 => ?_) (fun y21 ey21 => ?_)
    · refine lv_iconst (v := 0) hx hb dd_N_admits_191 (by decide) ?_
      exact mr_i hx hb hr hlocks rfl (by simp [bI, n_admits, c2, c7, c8, c13, c17, eq_true c20, ey21]) dd_N_admits_192
    · have my21 := mp y21 ey21
      refine lv_iload_n hx hb dd_N_admits_175 rfl (lv_at hl 2 rfl) ?_
      refine lv_aload_n hx hb dd_N_admits_176 rfl (lv_at hl 0 rfl) ?_
      refine mg_get (v := .ref y21) hx hb ht ii_N hown hK hM m0 rfl 12 (by decide) wd_2_57 (fun _ h => h) (congrArg (fun z => some (va_rf z)) ey21) dd_N_admits_177 ?_
      refine lv_iload_n hx hb dd_N_admits_180 rfl (lv_at hl 1 rfl) ?_
      refine mc_V (As := [.int k]) (rest := [.int t]) 1 (cc_D_parameterType (i := k) my21 (mt (by rw [ey21]; exact Option.some_ne_none _))) hx hb hml hown ht hM hK hl.1 lk_N_92 (by decide +kernel) (by decide) my21 rfl rfl rfl (Nat.le_of_ble_eq_true rfl) dd_N_admits_181 ⟨Nat.zero_le _, Nat.zero_le _⟩ ?_
      refine lv_icmp_ne (tgt := 191) hx hb dd_N_admits_184 (by decide) (fun c22 => ?_) (fun c22 => ?_)
      · refine lv_iconst (v := 0) hx hb dd_N_admits_191 (by decide) ?_
        exact mr_i hx hb hr hlocks rfl (by simp [bI, n_admits, c2, c7, c8, c13, c17, eq_true c20, ey21, c22]) dd_N_admits_192
      · refine lv_iconst (v := 1) hx hb dd_N_admits_187 (by decide) ?_
        refine lv_goto (tgt := 192) hx hb dd_N_admits_188 (by decide) ?_
        exact mr_i hx hb hr hlocks rfl (by simp [bI, n_admits, c2, c7, c8, c13, c17, eq_true c20, ey21, eq_true c22]) dd_N_admits_192
  by_cases c23 : (n_kd r) = 17
  · refine lv_tableIn (tgt := 193) hx hb dd_N_admits_4 (by rw [c23]; decide) (by rw [c23]; decide) (by rw [c23]; rfl) (by decide) ?_
    refine lv_iload_n hx hb dd_N_admits_193 rfl (lv_at hl 2 rfl) ?_
    refine lv_iconst (v := 1) hx hb dd_N_admits_194 (by decide) ?_
    refine lv_icmp_ne (tgt := 202) hx hb dd_N_admits_195 (by decide) (fun c24 => ?_) (fun c24 => ?_)
    · refine lv_iconst (v := 0) hx hb dd_N_admits_202 (by decide) ?_
      exact mr_i hx hb hr hlocks rfl (by simp [bI, n_admits, c2, c7, c8, c13, c17, c20, eq_true c23, c24]) dd_N_admits_203
    · refine lv_iconst (v := 1) hx hb dd_N_admits_198 (by decide) ?_
      refine lv_goto (tgt := 203) hx hb dd_N_admits_199 (by decide) ?_
      exact mr_i hx hb hr hlocks rfl (by simp [bI, n_admits, c2, c7, c8, c13, c17, c20, eq_true c23, eq_true c24]) dd_N_admits_203
  by_cases c25 : (n_kd r) = 18
  · refine lv_tableIn (tgt := 204) hx hb dd_N_admits_4 (by rw [c25]; decide) (by rw [c25]; decide) (by rw [c25]; rfl) (by decide) ?_
    refine lv_iload_n hx hb dd_N_admits_204 rfl (lv_at hl 1 rfl) ?_
    refine lv_if_gt (tgt := 218) hx hb dd_N_admits_205 (by decide) (fun c26 => ?_) (fun c26 => ?_)
    · refine lv_iconst (v := 1) hx hb dd_N_admits_218 (by decide) ?_
      refine lv_goto (tgt := 223) hx hb dd_N_admits_219 (by decide) ?_
      exact mr_i hx hb hr hlocks rfl (by simp [bI, n_admits, c2, c7, c8, c13, c17, c20, c23, eq_true c25, c26]) dd_N_admits_223
    · refine lv_iload_n hx hb dd_N_admits_208 rfl (lv_at hl 2 rfl) ?_
      refine lv_iconst (v := 2) hx hb dd_N_admits_209 (by decide) ?_
      refine lv_icmp_eq (tgt := 218) hx hb dd_N_admits_210 (by decide) (fun c27 => ?_) (fun c27 => ?_)
      · refine lv_iconst (v := 1) hx hb dd_N_admits_218 (by decide) ?_
        refine lv_goto (tgt := 223) hx hb dd_N_admits_219 (by decide) ?_
        exact mr_i hx hb hr hlocks rfl (by simp [bI, n_admits, c2, c7, c8, c13, c17, c20, c23, eq_true c25, c26, eq_true c27]) dd_N_admits_223
      · refine lv_iload_n hx hb dd_N_admits_213 rfl (lv_at hl 2 rfl) ?_
        refine lv_iconst (v := 3) hx hb dd_N_admits_214 (by decide) ?_
        refine lv_icmp_ne (tgt := 222) hx hb dd_N_admits_215 (by decide) (fun c28 => ?_) (fun c28 => ?_)
        · refine lv_iconst (v := 0) hx hb dd_N_admits_222 (by decide) ?_
          exact mr_i hx hb hr hlocks rfl (by simp [bI, n_admits, c2, c7, c8, c13, c17, c20, c23, eq_true c25, c26, c27, c28]) dd_N_admits_223
        · refine lv_iconst (v := 1) hx hb dd_N_admits_218 (by decide) ?_
          refine lv_goto (tgt := 223) hx hb dd_N_admits_219 (by decide) ?_
          exact mr_i hx hb hr hlocks rfl (by simp [bI, n_admits, c2, c7, c8, c13, c17, c20, c23, eq_true c25, c26, c27, eq_true c28]) dd_N_admits_223
  by_cases c29 : (n_kd r) = 19
  · refine lv_tableIn (tgt := 224) hx hb dd_N_admits_4 (by rw [c29]; decide) (by rw [c29]; decide) (by rw [c29]; rfl) (by decide) ?_
    refine lv_iload_n hx hb dd_N_admits_224 rfl (lv_at hl 2 rfl) ?_
    refine mc_S (As := [.int t]) (rest := []) 1 (cc_T_isWritten (k := t)) hx hb hml hown ht hM hK hl.1 lk_N_105 (by decide +kernel) (by decide) rfl rfl (Nat.le_of_ble_eq_true rfl) dd_N_admits_225 ⟨Nat.zero_le _, Nat.zero_le _⟩ ?_
    exact mr_i hx hb hr hlocks bI_z (by simp [bI, n_admits, c2, c7, c8, c13, c17, c20, c23, c25, eq_true c29]) dd_N_admits_228
  by_cases c30 : (n_kd r) = 20
  · refine lv_tableIn (tgt := 76) hx hb dd_N_admits_4 (by rw [c30]; decide) (by rw [c30]; decide) (by rw [c30]; rfl) (by decide) ?_
    refine lv_iload_n hx hb dd_N_admits_76 rfl (lv_at hl 1 rfl) ?_
    refine lv_if_ne (tgt := 92) hx hb dd_N_admits_77 (by decide) (fun c31 => ?_) (fun c31 => ?_)
    · refine lv_iload_n hx hb dd_N_admits_92 rfl (lv_at hl 1 rfl) ?_
      refine lv_iconst (v := 1) hx hb dd_N_admits_93 (by decide) ?_
      refine lv_icmp_eq (tgt := 105) hx hb dd_N_admits_94 (by decide) (fun c32 => ?_) (fun c32 => ?_)
      · refine lv_iconst (v := 1) hx hb dd_N_admits_105 (by decide) ?_
        refine lv_goto (tgt := 110) hx hb dd_N_admits_106 (by decide) ?_
        exact mr_i hx hb hr hlocks rfl (by simp [bI, n_admits, c2, c7, c8, c13, c17, c20, c23, c25, c29, eq_true c30, c31, eq_true c32]) dd_N_admits_110
      · refine lv_iload_n hx hb dd_N_admits_97 rfl (lv_at hl 2 rfl) ?_
        refine lv_aload_n hx hb dd_N_admits_98 rfl (lv_at hl 0 rfl) ?_
        refine mg_get hx hb ht ii_N hown hK hM m0 rfl 9 (by decide) wd_2_52 (fun _ h => h) rfl dd_N_admits_99 ?_
        refine lv_icmp_ne (tgt := 109) hx hb dd_N_admits_102 (by decide) (fun c33 => ?_) (fun c33 => ?_)
        · refine lv_iconst (v := 0) hx hb dd_N_admits_109 (by decide) ?_
          exact mr_i hx hb hr hlocks rfl (by simp [bI, n_admits, c2, c7, c8, c13, c17, c20, c23, c25, c29, eq_true c30, c31, c32, c33]) dd_N_admits_110
        · refine lv_iconst (v := 1) hx hb dd_N_admits_105 (by decide) ?_
          refine lv_goto (tgt := 110) hx hb dd_N_admits_106 (by decide) ?_
          exact mr_i hx hb hr hlocks rfl (by simp [bI, n_admits, c2, c7, c8, c13, c17, c20, c23, c25, c29, eq_true c30, c31, c32, eq_true c33]) dd_N_admits_110
    · refine lv_iload_n hx hb dd_N_admits_80 rfl (lv_at hl 2 rfl) ?_
      refine lv_if_ne (tgt := 88) hx hb dd_N_admits_81 (by decide) (fun c34 => ?_) (fun c34 => ?_)
      · refine lv_iconst (v := 0) hx hb dd_N_admits_88 (by decide) ?_
        refine lv_goto (tgt := 110) hx hb dd_N_admits_89 (by decide) ?_
        exact mr_i hx hb hr hlocks rfl (by simp [bI, n_admits, c2, c7, c8, c13, c17, c20, c23, c25, c29, eq_true c30, eq_true c31, c34]) dd_N_admits_110
      · refine lv_iconst (v := 1) hx hb dd_N_admits_84 (by decide) ?_
        refine lv_goto (tgt := 110) hx hb dd_N_admits_85 (by decide) ?_
        exact mr_i hx hb hr hlocks rfl (by simp [bI, n_admits, c2, c7, c8, c13, c17, c20, c23, c25, c29, eq_true c30, eq_true c31, eq_true c34]) dd_N_admits_110
  by_cases c35 : (n_kd r) = 21
  · refine lv_tableIn (tgt := 147) hx hb dd_N_admits_4 (by rw [c35]; decide) (by rw [c35]; decide) (by rw [c35]; rfl) (by decide) ?_
    refine lv_iconst (v := 1) hx hb dd_N_admits_147 (by decide) ?_
    exact mr_i hx hb hr hlocks rfl (by simp [bI, n_admits, c2, c7, c8, c13, c17, c20, c23, c25, c29, c30, eq_true c35]) dd_N_admits_148
  by_cases c36 : (n_kd r) = 22
  · refine lv_tableIn (tgt := 111) hx hb dd_N_admits_4 (by rw [c36]; decide) (by rw [c36]; decide) (by rw [c36]; rfl) (by decide) ?_
    refine lv_iload_n hx hb dd_N_admits_111 rfl (lv_at hl 1 rfl) ?_
    refine lv_if_ne (tgt := 128) hx hb dd_N_admits_112 (by decide) (fun c37 => ?_) (fun c37 => ?_)
    · refine lv_iload_n hx hb dd_N_admits_128 rfl (lv_at hl 1 rfl) ?_
      refine lv_iconst (v := 1) hx hb dd_N_admits_129 (by decide) ?_
      refine lv_icmp_eq (tgt := 141) hx hb dd_N_admits_130 (by decide) (fun c38 => ?_) (fun c38 => ?_)
      · refine lv_iconst (v := 1) hx hb dd_N_admits_141 (by decide) ?_
        refine lv_goto (tgt := 146) hx hb dd_N_admits_142 (by decide) ?_
        exact mr_i hx hb hr hlocks rfl (by simp [bI, n_admits, c2, c7, c8, c13, c17, c20, c23, c25, c29, c30, c35, eq_true c36, c37, eq_true c38]) dd_N_admits_146
      · refine lv_iload_n hx hb dd_N_admits_133 rfl (lv_at hl 2 rfl) ?_
        refine lv_aload_n hx hb dd_N_admits_134 rfl (lv_at hl 0 rfl) ?_
        refine mg_get hx hb ht ii_N hown hK hM m0 rfl 9 (by decide) wd_2_52 (fun _ h => h) rfl dd_N_admits_135 ?_
        refine lv_icmp_ne (tgt := 145) hx hb dd_N_admits_138 (by decide) (fun c39 => ?_) (fun c39 => ?_)
        · refine lv_iconst (v := 0) hx hb dd_N_admits_145 (by decide) ?_
          exact mr_i hx hb hr hlocks rfl (by simp [bI, n_admits, c2, c7, c8, c13, c17, c20, c23, c25, c29, c30, c35, eq_true c36, c37, c38, c39]) dd_N_admits_146
        · refine lv_iconst (v := 1) hx hb dd_N_admits_141 (by decide) ?_
          refine lv_goto (tgt := 146) hx hb dd_N_admits_142 (by decide) ?_
          exact mr_i hx hb hr hlocks rfl (by simp [bI, n_admits, c2, c7, c8, c13, c17, c20, c23, c25, c29, c30, c35, eq_true c36, c37, c38, eq_true c39]) dd_N_admits_146
    · refine lv_iload_n hx hb dd_N_admits_115 rfl (lv_at hl 2 rfl) ?_
      refine lv_iconst (v := 1) hx hb dd_N_admits_116 (by decide) ?_
      refine lv_icmp_ne (tgt := 124) hx hb dd_N_admits_117 (by decide) (fun c40 => ?_) (fun c40 => ?_)
      · refine lv_iconst (v := 0) hx hb dd_N_admits_124 (by decide) ?_
        refine lv_goto (tgt := 146) hx hb dd_N_admits_125 (by decide) ?_
        exact mr_i hx hb hr hlocks rfl (by simp [bI, n_admits, c2, c7, c8, c13, c17, c20, c23, c25, c29, c30, c35, eq_true c36, eq_true c37, c40]) dd_N_admits_146
      · refine lv_iconst (v := 1) hx hb dd_N_admits_120 (by decide) ?_
        refine lv_goto (tgt := 146) hx hb dd_N_admits_121 (by decide) ?_
        exact mr_i hx hb hr hlocks rfl (by simp [bI, n_admits, c2, c7, c8, c13, c17, c20, c23, c25, c29, c30, c35, eq_true c36, eq_true c37, eq_true c40]) dd_N_admits_146
  by_cases c41 : (n_kd r) = 23
  · refine lv_tableIn (tgt := 168) hx hb dd_N_admits_4 (by rw [c41]; decide) (by rw [c41]; decide) (by rw [c41]; rfl) (by decide) ?_
    refine lv_aload_n hx hb dd_N_admits_168 rfl (lv_at hl 0 rfl) ?_
    refine mg_get hx hb ht ii_N hown hK hM m0 rfl 12 (by decide) wd_2_57 (fun _ h => h) rfl dd_N_admits_169 ?_
    refine lr_ifnull (tgt := 191) hx hb dd_N_admits_172 (by decide) (fun ey42 => ?_) (fun y42 ey42 => ?_)
    · refine lv_iconst (v := 0) hx hb dd_N_admits_191 (by decide) ?_
      exact mr_i hx hb hr hlocks rfl (by simp [bI, n_admits, c2, c7, c8, c13, c17, c20, c23, c25, c29, c30, c35, c36, eq_true c41, ey42]) dd_N_admits_192
    · have my42 := mp y42 ey42
      refine lv_iload_n hx hb dd_N_admits_175 rfl (lv_at hl 2 rfl) ?_
      refine lv_aload_n hx hb dd_N_admits_176 rfl (lv_at hl 0 rfl) ?_
      refine mg_get (v := .ref y42) hx hb ht ii_N hown hK hM m0 rfl 12 (by decide) wd_2_57 (fun _ h => h) (congrArg (fun z => some (va_rf z)) ey42) dd_N_admits_177 ?_
      refine lv_iload_n hx hb dd_N_admits_180 rfl (lv_at hl 1 rfl) ?_
      refine mc_V (As := [.int k]) (rest := [.int t]) 1 (cc_D_parameterType (i := k) my42 (mt (by rw [ey42]; exact Option.some_ne_none _))) hx hb hml hown ht hM hK hl.1 lk_N_92 (by decide +kernel) (by decide) my42 rfl rfl rfl (Nat.le_of_ble_eq_true rfl) dd_N_admits_181 ⟨Nat.zero_le _, Nat.zero_le _⟩ ?_
      refine lv_icmp_ne (tgt := 191) hx hb dd_N_admits_184 (by decide) (fun c43 => ?_) (fun c43 => ?_)
      · refine lv_iconst (v := 0) hx hb dd_N_admits_191 (by decide) ?_
        exact mr_i hx hb hr hlocks rfl (by simp [bI, n_admits, c2, c7, c8, c13, c17, c20, c23, c25, c29, c30, c35, c36, eq_true c41, ey42, c43]) dd_N_admits_192
      · refine lv_iconst (v := 1) hx hb dd_N_admits_187 (by decide) ?_
        refine lv_goto (tgt := 192) hx hb dd_N_admits_188 (by decide) ?_
        exact mr_i hx hb hr hlocks rfl (by simp [bI, n_admits, c2, c7, c8, c13, c17, c20, c23, c25, c29, c30, c35, c36, eq_true c41, ey42, eq_true c43]) dd_N_admits_192
  by_cases c44 : (n_kd r) = 16
  · refine lv_tableIn (tgt := 229) hx hb dd_N_admits_4 (by rw [c44]; decide) (by rw [c44]; decide) (by rw [c44]; rfl) (by decide) ?_
    refine lv_iload_n hx hb dd_N_admits_229 rfl (lv_at hl 2 rfl) ?_
    refine lv_if_ne (tgt := 237) hx hb dd_N_admits_230 (by decide) (fun c45 => ?_) (fun c45 => ?_)
    · refine lv_iconst (v := 0) hx hb dd_N_admits_237 (by decide) ?_
      exact mr_i hx hb hr hlocks rfl (by simp [bI, n_admits, c2, c7, c8, c13, c17, c20, c23, c25, c29, c30, c35, c36, c41, eq_true c44, c45]) dd_N_admits_238
    · refine lv_iconst (v := 1) hx hb dd_N_admits_233 (by decide) ?_
      refine lv_goto (tgt := 238) hx hb dd_N_admits_234 (by decide) ?_
      exact mr_i hx hb hr hlocks rfl (by simp [bI, n_admits, c2, c7, c8, c13, c17, c20, c23, c25, c29, c30, c35, c36, c41, eq_true c44, eq_true c45]) dd_N_admits_238
  have c46 : ((n_kd r) : Int32).toInt < 10 ∨ 23 < ((n_kd r) : Int32).toInt := by (have z0 := lv_neT (a := 10) c2 (by decide); have z1 := lv_neT (a := 11) c7 (by decide); have z2 := lv_neT (a := 12) c8 (by decide); have z3 := lv_neT (a := 13) c13 (by decide); have z4 := lv_neT (a := 14) c17 (by decide); have z5 := lv_neT (a := 15) c20 (by decide); have z6 := lv_neT (a := 17) c23 (by decide); have z7 := lv_neT (a := 18) c25 (by decide); have z8 := lv_neT (a := 19) c29 (by decide); have z9 := lv_neT (a := 20) c30 (by decide); have z10 := lv_neT (a := 21) c35 (by decide); have z11 := lv_neT (a := 22) c36 (by decide); have z12 := lv_neT (a := 23) c41 (by decide); have z13 := lv_neT (a := 16) c44 (by decide); omega)
  refine lv_tableOut (tgt := 229) hx hb dd_N_admits_4 c46 (by decide) ?_
  refine lv_iload_n hx hb dd_N_admits_229 rfl (lv_at hl 2 rfl) ?_
  refine lv_if_ne (tgt := 237) hx hb dd_N_admits_230 (by decide) (fun c47 => ?_) (fun c47 => ?_)
  · refine lv_iconst (v := 0) hx hb dd_N_admits_237 (by decide) ?_
    exact mr_i hx hb hr hlocks rfl (by simp [bI, n_admits, c2, c7, c8, c13, c17, c20, c23, c25, c29, c30, c35, c36, c41, c44, c47]) dd_N_admits_238
  · refine lv_iconst (v := 1) hx hb dd_N_admits_233 (by decide) ?_
    refine lv_goto (tgt := 238) hx hb dd_N_admits_234 (by decide) ?_
    exact mr_i hx hb hr hlocks rfl (by simp [bI, n_admits, c2, c7, c8, c13, c17, c20, c23, c25, c29, c30, c35, c36, c41, c44, eq_true c47]) dd_N_admits_238
set_option maxHeartbeats 4000000 in
set_option maxRecDepth 100000 in
theorem cc_D_indexOfParameter {l : Launch} {G : gC} {M : mC} {h0 : Nat} {r : dR} (m0 : M h0 = some (dC r)) {pn : Nat → Int64} (mn : M (d_apn r) = some (lA G 8 pn)) {x : Int64} : cR l yy_D_indexOfParameter bb_D_indexOfParameter 4 (some .int) 0 G M [.ref h0, .long x] (.int (d_index r pn x)) := by
  refine me_R (by decide) (Nat.le_of_ble_eq_true rfl) ?_
  intro p e s m below meth c ls hx hb hr hlocks hml hown ht hM hK hl
  have hown : s.vm.findClass RR_D = some m.cls := hown
  have hl : lv_has ls 4 [(0, .ref h0), (1, .long x)] := hl
  have loop : ∀ (k i : Nat) (ls : Array Slot), i + k = 8 → lv_has ls 4 [(3, .int (nI i)), (0, .ref h0), (1, .long x)] → d_idx (d_np r) pn x k i = d_index r pn x → W p l e (rd 0 0 0) s m ([.ref h0, .long x] : List Value).toArray below meth c s.heap [] 0 0 (MQ below (k2_QcV (.int (d_index r pn x))) ([.ref h0, .long x] : List Value).toArray s 0 0 (fun _ => False)) (F0 m 2 ls []) := by
    intro k
    induction k with
    | zero =>
      intro i ls hik hl hres
      refine lv_iload_n hx hb dd_D_indexOfParameter_2 rfl (lv_at hl 0 rfl) ?_
      refine lv_aload_n hx hb dd_D_indexOfParameter_3 rfl (lv_at hl 1 rfl) ?_
      refine mg_get hx hb ht ii_D hown hK hM m0 rfl 6 (by decide) wd_1_139 (fun _ h => h) rfl dd_D_indexOfParameter_4 ?_
      refine lv_icmp_ge (tgt := 35) hx hb dd_D_indexOfParameter_7 (by decide) (fun c1 => ?_) (fun c1 => ?_)
      · refine lv_iconst (v := -1) hx hb dd_D_indexOfParameter_35 (by decide) ?_
        exact mr_i hx hb hr hlocks rfl (by rw [← hres]; simp [d_idx, c1]) dd_D_indexOfParameter_36
      · refine lv_iload_n hx hb dd_D_indexOfParameter_10 rfl (lv_at hl 0 rfl) ?_
        refine lv_bipush (v := 8) hx hb dd_D_indexOfParameter_11 (by decide) ?_
        refine lv_icmp_ge (tgt := 35) hx hb dd_D_indexOfParameter_13 (by decide) (fun c9 => ?_) (fun z => absurd (by rw [show i = 8 by omega]; decide) z)
        refine lv_iconst (v := -1) hx hb dd_D_indexOfParameter_35 (by decide) ?_
        exact mr_i hx hb hr hlocks rfl (by rw [← hres]; simp [d_idx, c1]) dd_D_indexOfParameter_36
    | succ k ih =>
      intro i ls hik hl hres
      refine lv_iload_n hx hb dd_D_indexOfParameter_2 rfl (lv_at hl 0 rfl) ?_
      refine lv_aload_n hx hb dd_D_indexOfParameter_3 rfl (lv_at hl 1 rfl) ?_
      refine mg_get hx hb ht ii_D hown hK hM m0 rfl 6 (by decide) wd_1_139 (fun _ h => h) rfl dd_D_indexOfParameter_4 ?_
      refine lv_icmp_ge (tgt := 35) hx hb dd_D_indexOfParameter_7 (by decide) (fun c1 => ?_) (fun c1 => ?_)
      · refine lv_iconst (v := -1) hx hb dd_D_indexOfParameter_35 (by decide) ?_
        exact mr_i hx hb hr hlocks rfl (by rw [← hres]; simp [d_idx, c1]) dd_D_indexOfParameter_36
      · refine lv_iload_n hx hb dd_D_indexOfParameter_10 rfl (lv_at hl 0 rfl) ?_
        refine lv_bipush (v := 8) hx hb dd_D_indexOfParameter_11 (by decide) ?_
        refine lv_icmp_ge (tgt := 35) hx hb dd_D_indexOfParameter_13 (by decide) (fun z => absurd z (i8_ge (by omega))) (fun _ => ?_)
        refine lv_aload_n hx hb dd_D_indexOfParameter_16 rfl (lv_at hl 1 rfl) ?_
        refine mg_get hx hb ht ii_D hown hK hM m0 rfl 4 (by decide) wd_1_137 (fun _ h => h) rfl dd_D_indexOfParameter_17 ?_
        refine lv_iload_n hx hb dd_D_indexOfParameter_20 rfl (lv_at hl 0 rfl) ?_
        refine mg_lald hx hb hK hM mn (vp_in_nI (show i < 8 by omega) (by decide)) dd_D_indexOfParameter_21 ?_
        rw [nI_clamp (show i < 2 ^ 31 by omega)]
        refine lv_lload_n hx hb dd_D_indexOfParameter_22 rfl (lv_at hl 2 rfl) ?_
        refine W.lcmp hx hb dd_D_indexOfParameter_23 ?_
        refine lc_if_ne (tgt := 29) hx hb dd_D_indexOfParameter_24 (by decide) (fun c2 => ?_) (fun c2 => ?_)
        · obtain ⟨x3, ex3⟩ : ∃ y : Int32, y = (nI i) + 1 := ⟨_, rfl⟩
          refine lv_iinc (v := x3) (lv' := [(3, .int x3), (0, .ref h0), (1, .long x)]) hx hb dd_D_indexOfParameter_29 hl (k := 0) rfl (by rw [ex3]; rfl) (by decide) rfl (fun ls hl => ?_)
          refine lv_goto (tgt := 2) hx hb dd_D_indexOfParameter_32 (by decide) ?_
          rw [ex3, nI_1] at hl
          exact ih (i + 1) ls (by omega) hl (by rw [← hres]; simp [d_idx, c1, c2])
        · refine lv_iload_n hx hb dd_D_indexOfParameter_27 rfl (lv_at hl 0 rfl) ?_
          exact mr_i hx hb hr hlocks rfl (by rw [← hres]; simp [d_idx, c1, eq_true c2]) dd_D_indexOfParameter_28
  refine lv_iconst (v := 0) hx hb dd_D_indexOfParameter_0 (by decide) ?_
  refine lv_istore_n (lv' := [(3, .int 0), (0, .ref h0), (1, .long x)]) hx hb dd_D_indexOfParameter_1 rfl hl (by decide) rfl (fun ls hl => ?_)
  exact loop 8 0 ls rfl (by rw [nI_0]; exact hl) rfl
