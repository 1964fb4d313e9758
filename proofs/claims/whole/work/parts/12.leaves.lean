set_option maxHeartbeats 2000000 in
set_option maxRecDepth 10000 in
theorem c_Kinds_gain {G : ex_G} {M : ex_M} {k w : Int32} {b : Bool} : Con G Y_Kinds_gain 0 0 0 0 [.int k, .int w, .int (bi b)] (ce G M) (some (.int (gainC k w b))) (ce G (M)) := by
  refine Con.ofF (plainFor_of_name (by decide +kernel)) (Nat.le_of_ble_eq_true rfl) (fun C hC hR => ?_)
  show Ev G C Y_Kinds_gain 0 [some (.int k), some (.int w), some (.int (bi b))] [] 0 0 (ce G M)
  refine ev_iload_n rfl hC d_Kinds_gain_0 ?_
  refine ev_istore_n (by decide) hC d_Kinds_gain_1 ?_
  refine ev_iload_n rfl hC d_Kinds_gain_2 ?_
  refine ev_iconst (v := 2) rfl hC d_Kinds_gain_3 ?_
  refine ev_idiv (by decide) hC d_Kinds_gain_4 ?_
  refine ev_istore (by decide) hC d_Kinds_gain_5 ?_
  refine ev_iload_n rfl hC d_Kinds_gain_7 ?_
  refine ev_iload_n rfl hC d_Kinds_gain_8 ?_
  refine ev_iconst (v := 2) rfl hC d_Kinds_gain_9 ?_
  refine ev_idiv (by decide) hC d_Kinds_gain_10 ?_
  refine ev_iadd hC d_Kinds_gain_11 ?_
  refine ev_istore (by decide) hC d_Kinds_gain_12 ?_
  refine ev_iload rfl hC d_Kinds_gain_14 ?_
  refine ev_iconst (v := 3) rfl hC d_Kinds_gain_16 ?_
  refine ev_iadd hC d_Kinds_gain_17 ?_
  refine ev_istore (by decide) hC d_Kinds_gain_18 ?_
  refine ev_iload_n rfl hC d_Kinds_gain_20 ?_
  refine eb_eq 51 hC d_Kinds_gain_21 rfl (fun h_21 => ?_) (fun h_21 => ?_)
  · refine ev_iload_n rfl hC d_Kinds_gain_51 ?_
    refine sx_Kinds_gain_52 hC (fun h_52 => ?_) (fun h_52 => ?_) (fun h_52 => ?_) (fun h_52 => ?_) (fun h_52 => ?_) (fun h_52 => ?_)
    · refine ev_iload_n rfl hC d_Kinds_gain_97 ?_
      exact ev_iret hC hR d_Kinds_gain_98 rfl (by subst h_21; first | (subst h_52; first | rfl | (simp only [gainC, if_pos h_25]; rfl) | (simp only [gainC, if_neg h_25]; rfl)) | (have e1 := sw_ne h_52 1 (by decide) (by decide); have e2 := sw_ne h_52 2 (by decide) (by decide); have e5 := sw_ne h_52 5 (by decide) (by decide); first | (simp [gainC, e1, e2, e5]; done) | (simp [gainC, e1, e2, e5, h_25]; done))) (rfl)
    · refine ev_iload rfl hC d_Kinds_gain_88 ?_
      exact ev_iret hC hR d_Kinds_gain_90 rfl (by subst h_21; first | (subst h_52; first | rfl | (simp only [gainC, if_pos h_25]; rfl) | (simp only [gainC, if_neg h_25]; rfl)) | (have e1 := sw_ne h_52 1 (by decide) (by decide); have e2 := sw_ne h_52 2 (by decide) (by decide); have e5 := sw_ne h_52 5 (by decide) (by decide); first | (simp [gainC, e1, e2, e5]; done) | (simp [gainC, e1, e2, e5, h_25]; done))) (rfl)
    · refine ev_iload rfl hC d_Kinds_gain_91 ?_
      exact ev_iret hC hR d_Kinds_gain_93 rfl (by subst h_21; first | (subst h_52; first | rfl | (simp only [gainC, if_pos h_25]; rfl) | (simp only [gainC, if_neg h_25]; rfl)) | (have e1 := sw_ne h_52 1 (by decide) (by decide); have e2 := sw_ne h_52 2 (by decide) (by decide); have e5 := sw_ne h_52 5 (by decide) (by decide); first | (simp [gainC, e1, e2, e5]; done) | (simp [gainC, e1, e2, e5, h_25]; done))) (rfl)
    · refine ev_iload_n rfl hC d_Kinds_gain_97 ?_
      exact ev_iret hC hR d_Kinds_gain_98 rfl (by subst h_21; first | (subst h_52; first | rfl | (simp only [gainC, if_pos h_25]; rfl) | (simp only [gainC, if_neg h_25]; rfl)) | (have e1 := sw_ne h_52 1 (by decide) (by decide); have e2 := sw_ne h_52 2 (by decide) (by decide); have e5 := sw_ne h_52 5 (by decide) (by decide); first | (simp [gainC, e1, e2, e5]; done) | (simp [gainC, e1, e2, e5, h_25]; done))) (rfl)
    · refine ev_iload_n rfl hC d_Kinds_gain_97 ?_
      exact ev_iret hC hR d_Kinds_gain_98 rfl (by subst h_21; first | (subst h_52; first | rfl | (simp only [gainC, if_pos h_25]; rfl) | (simp only [gainC, if_neg h_25]; rfl)) | (have e1 := sw_ne h_52 1 (by decide) (by decide); have e2 := sw_ne h_52 2 (by decide) (by decide); have e5 := sw_ne h_52 5 (by decide) (by decide); first | (simp [gainC, e1, e2, e5]; done) | (simp [gainC, e1, e2, e5, h_25]; done))) (rfl)
    · refine ev_iload rfl hC d_Kinds_gain_94 ?_
      exact ev_iret hC hR d_Kinds_gain_96 rfl (by subst h_21; first | (subst h_52; first | rfl | (simp only [gainC, if_pos h_25]; rfl) | (simp only [gainC, if_neg h_25]; rfl)) | (have e1 := sw_ne h_52 1 (by decide) (by decide); have e2 := sw_ne h_52 2 (by decide) (by decide); have e5 := sw_ne h_52 5 (by decide) (by decide); first | (simp [gainC, e1, e2, e5]; done) | (simp [gainC, e1, e2, e5, h_25]; done))) (rfl)
  · refine ev_iload_n rfl hC d_Kinds_gain_24 ?_
    refine ev_if_le 34 hC d_Kinds_gain_25 rfl (fun h_25 => ?_) (fun h_25 => ?_)
    · refine ev_iconst (v := 0) rfl hC d_Kinds_gain_34 ?_
      refine ev_istore_n (by decide) hC d_Kinds_gain_35 ?_
      refine ev_iload_n rfl hC d_Kinds_gain_36 ?_
      refine ev_iconst (v := 1) rfl hC d_Kinds_gain_37 ?_
      refine ev_isub hC d_Kinds_gain_38 ?_
      refine ev_istore (by decide) hC d_Kinds_gain_39 ?_
      refine ev_iload_n rfl hC d_Kinds_gain_41 ?_
      refine ev_istore (by decide) hC d_Kinds_gain_42 ?_
      refine ev_iload rfl hC d_Kinds_gain_44 ?_
      refine ev_bipush (v := 10) rfl hC d_Kinds_gain_46 ?_
      refine ev_iadd hC d_Kinds_gain_48 ?_
      refine ev_istore (by decide) hC d_Kinds_gain_49 ?_
      refine ev_iload_n rfl hC d_Kinds_gain_51 ?_
      refine sx_Kinds_gain_52 hC (fun h_52 => ?_) (fun h_52 => ?_) (fun h_52 => ?_) (fun h_52 => ?_) (fun h_52 => ?_) (fun h_52 => ?_)
      · refine ev_iload_n rfl hC d_Kinds_gain_97 ?_
        exact ev_iret hC hR d_Kinds_gain_98 rfl (by subst h_21; first | (subst h_52; first | rfl | (simp only [gainC, if_pos h_25]; rfl) | (simp only [gainC, if_neg h_25]; rfl)) | (have e1 := sw_ne h_52 1 (by decide) (by decide); have e2 := sw_ne h_52 2 (by decide) (by decide); have e5 := sw_ne h_52 5 (by decide) (by decide); first | (simp [gainC, e1, e2, e5]; done) | (simp [gainC, e1, e2, e5, h_25]; done))) (rfl)
      · refine ev_iload rfl hC d_Kinds_gain_88 ?_
        exact ev_iret hC hR d_Kinds_gain_90 rfl (by subst h_21; first | (subst h_52; first | rfl | (simp only [gainC, if_pos h_25]; rfl) | (simp only [gainC, if_neg h_25]; rfl)) | (have e1 := sw_ne h_52 1 (by decide) (by decide); have e2 := sw_ne h_52 2 (by decide) (by decide); have e5 := sw_ne h_52 5 (by decide) (by decide); first | (simp [gainC, e1, e2, e5]; done) | (simp [gainC, e1, e2, e5, h_25]; done))) (rfl)
      · refine ev_iload rfl hC d_Kinds_gain_91 ?_
        exact ev_iret hC hR d_Kinds_gain_93 rfl (by subst h_21; first | (subst h_52; first | rfl | (simp only [gainC, if_pos h_25]; rfl) | (simp only [gainC, if_neg h_25]; rfl)) | (have e1 := sw_ne h_52 1 (by decide) (by decide); have e2 := sw_ne h_52 2 (by decide) (by decide); have e5 := sw_ne h_52 5 (by decide) (by decide); first | (simp [gainC, e1, e2, e5]; done) | (simp [gainC, e1, e2, e5, h_25]; done))) (rfl)
      · refine ev_iload_n rfl hC d_Kinds_gain_97 ?_
        exact ev_iret hC hR d_Kinds_gain_98 rfl (by subst h_21; first | (subst h_52; first | rfl | (simp only [gainC, if_pos h_25]; rfl) | (simp only [gainC, if_neg h_25]; rfl)) | (have e1 := sw_ne h_52 1 (by decide) (by decide); have e2 := sw_ne h_52 2 (by decide) (by decide); have e5 := sw_ne h_52 5 (by decide) (by decide); first | (simp [gainC, e1, e2, e5]; done) | (simp [gainC, e1, e2, e5, h_25]; done))) (rfl)
      · refine ev_iload_n rfl hC d_Kinds_gain_97 ?_
        exact ev_iret hC hR d_Kinds_gain_98 rfl (by subst h_21; first | (subst h_52; first | rfl | (simp only [gainC, if_pos h_25]; rfl) | (simp only [gainC, if_neg h_25]; rfl)) | (have e1 := sw_ne h_52 1 (by decide) (by decide); have e2 := sw_ne h_52 2 (by decide) (by decide); have e5 := sw_ne h_52 5 (by decide) (by decide); first | (simp [gainC, e1, e2, e5]; done) | (simp [gainC, e1, e2, e5, h_25]; done))) (rfl)
      · refine ev_iload rfl hC d_Kinds_gain_94 ?_
        exact ev_iret hC hR d_Kinds_gain_96 rfl (by subst h_21; first | (subst h_52; first | rfl | (simp only [gainC, if_pos h_25]; rfl) | (simp only [gainC, if_neg h_25]; rfl)) | (have e1 := sw_ne h_52 1 (by decide) (by decide); have e2 := sw_ne h_52 2 (by decide) (by decide); have e5 := sw_ne h_52 5 (by decide) (by decide); first | (simp [gainC, e1, e2, e5]; done) | (simp [gainC, e1, e2, e5, h_25]; done))) (rfl)
    · refine ev_iconst (v := 2) rfl hC d_Kinds_gain_28 ?_
      refine ev_iload_n rfl hC d_Kinds_gain_29 ?_
      refine ev_imul hC d_Kinds_gain_30 ?_
      refine ev_goto 35 hC d_Kinds_gain_31 rfl ?_
      refine ev_istore_n (by decide) hC d_Kinds_gain_35 ?_
      refine ev_iload_n rfl hC d_Kinds_gain_36 ?_
      refine ev_iconst (v := 1) rfl hC d_Kinds_gain_37 ?_
      refine ev_isub hC d_Kinds_gain_38 ?_
      refine ev_istore (by decide) hC d_Kinds_gain_39 ?_
      refine ev_iload_n rfl hC d_Kinds_gain_41 ?_
      refine ev_istore (by decide) hC d_Kinds_gain_42 ?_
      refine ev_iload rfl hC d_Kinds_gain_44 ?_
      refine ev_bipush (v := 10) rfl hC d_Kinds_gain_46 ?_
      refine ev_iadd hC d_Kinds_gain_48 ?_
      refine ev_istore (by decide) hC d_Kinds_gain_49 ?_
      refine ev_iload_n rfl hC d_Kinds_gain_51 ?_
      refine sx_Kinds_gain_52 hC (fun h_52 => ?_) (fun h_52 => ?_) (fun h_52 => ?_) (fun h_52 => ?_) (fun h_52 => ?_) (fun h_52 => ?_)
      · refine ev_iload_n rfl hC d_Kinds_gain_97 ?_
        exact ev_iret hC hR d_Kinds_gain_98 rfl (by subst h_21; first | (subst h_52; first | rfl | (simp only [gainC, if_pos h_25]; rfl) | (simp only [gainC, if_neg h_25]; rfl)) | (have e1 := sw_ne h_52 1 (by decide) (by decide); have e2 := sw_ne h_52 2 (by decide) (by decide); have e5 := sw_ne h_52 5 (by decide) (by decide); first | (simp [gainC, e1, e2, e5]; done) | (simp [gainC, e1, e2, e5, h_25]; done))) (rfl)
      · refine ev_iload rfl hC d_Kinds_gain_88 ?_
        exact ev_iret hC hR d_Kinds_gain_90 rfl (by subst h_21; first | (subst h_52; first | rfl | (simp only [gainC, if_pos h_25]; rfl) | (simp only [gainC, if_neg h_25]; rfl)) | (have e1 := sw_ne h_52 1 (by decide) (by decide); have e2 := sw_ne h_52 2 (by decide) (by decide); have e5 := sw_ne h_52 5 (by decide) (by decide); first | (simp [gainC, e1, e2, e5]; done) | (simp [gainC, e1, e2, e5, h_25]; done))) (rfl)
      · refine ev_iload rfl hC d_Kinds_gain_91 ?_
        exact ev_iret hC hR d_Kinds_gain_93 rfl (by subst h_21; first | (subst h_52; first | rfl | (simp only [gainC, if_pos h_25]; rfl) | (simp only [gainC, if_neg h_25]; rfl)) | (have e1 := sw_ne h_52 1 (by decide) (by decide); have e2 := sw_ne h_52 2 (by decide) (by decide); have e5 := sw_ne h_52 5 (by decide) (by decide); first | (simp [gainC, e1, e2, e5]; done) | (simp [gainC, e1, e2, e5, h_25]; done))) (rfl)
      · refine ev_iload_n rfl hC d_Kinds_gain_97 ?_
        exact ev_iret hC hR d_Kinds_gain_98 rfl (by subst h_21; first | (subst h_52; first | rfl | (simp only [gainC, if_pos h_25]; rfl) | (simp only [gainC, if_neg h_25]; rfl)) | (have e1 := sw_ne h_52 1 (by decide) (by decide); have e2 := sw_ne h_52 2 (by decide) (by decide); have e5 := sw_ne h_52 5 (by decide) (by decide); first | (simp [gainC, e1, e2, e5]; done) | (simp [gainC, e1, e2, e5, h_25]; done))) (rfl)
      · refine ev_iload_n rfl hC d_Kinds_gain_97 ?_
        exact ev_iret hC hR d_Kinds_gain_98 rfl (by subst h_21; first | (subst h_52; first | rfl | (simp only [gainC, if_pos h_25]; rfl) | (simp only [gainC, if_neg h_25]; rfl)) | (have e1 := sw_ne h_52 1 (by decide) (by decide); have e2 := sw_ne h_52 2 (by decide) (by decide); have e5 := sw_ne h_52 5 (by decide) (by decide); first | (simp [gainC, e1, e2, e5]; done) | (simp [gainC, e1, e2, e5, h_25]; done))) (rfl)
      · refine ev_iload rfl hC d_Kinds_gain_94 ?_
        exact ev_iret hC hR d_Kinds_gain_96 rfl (by subst h_21; first | (subst h_52; first | rfl | (simp only [gainC, if_pos h_25]; rfl) | (simp only [gainC, if_neg h_25]; rfl)) | (have e1 := sw_ne h_52 1 (by decide) (by decide); have e2 := sw_ne h_52 2 (by decide) (by decide); have e5 := sw_ne h_52 5 (by decide) (by decide); first | (simp [gainC, e1, e2, e5]; done) | (simp [gainC, e1, e2, e5, h_25]; done))) (rfl)

set_option maxHeartbeats 2000000 in
set_option maxRecDepth 10000 in
theorem c_One_begin {G : ex_G} {M : ex_M} {r i : Nat} {k b : Int32} (hr : r < 3) (hi : i < 8) : Con G Y_One_begin 0 0 0 0 [.ref (ex_b G + aO r i), .int k, .int b] (ce G M) (none) (ce G (mI M r (oBeg (M.1 r) i k b))) := by
  refine Con.ofF (plainFor_of_name (by decide +kernel)) (Nat.le_of_ble_eq_true rfl) (fun C hC hR => ?_)
  show Ev G C Y_One_begin 0 [some (.ref (ex_b G + aO r i)), some (.int k), some (.int b)] [] 0 0 (ce G M)
  refine ev_aload_n rfl hC d_One_begin_0 ?_
  refine ev_iload_n rfl hC d_One_begin_1 ?_
  refine pv_One_kind hC d_One_begin_2 fl_One_9 (by first | assumption | decide) (by first | assumption | omega) ?_
  refine ev_aload_n rfl hC d_One_begin_5 ?_
  refine ev_iload_n rfl hC d_One_begin_6 ?_
  refine pv_One_bank hC d_One_begin_7 fl_One_15 (by first | assumption | decide) (by first | assumption | omega) ?_
  refine ev_aload_n rfl hC d_One_begin_10 ?_
  refine ev_bipush (v := 50) rfl hC d_One_begin_11 ?_
  refine pv_One_purse hC d_One_begin_13 fl_One_18 (by first | assumption | decide) (by first | assumption | omega) ?_
  refine ev_aload_n rfl hC d_One_begin_16 ?_
  refine ev_iconst (v := -1) rfl hC d_One_begin_17 ?_
  refine pv_One_goes hC d_One_begin_18 fl_One_21 (by first | assumption | decide) (by first | assumption | omega) ?_
  refine ev_aload_n rfl hC d_One_begin_21 ?_
  refine ev_iconst (v := -1) rfl hC d_One_begin_22 ?_
  refine pv_One_comes hC d_One_begin_23 fl_One_24 (by first | assumption | decide) (by first | assumption | omega) ?_
  refine ev_aload_n rfl hC d_One_begin_26 ?_
  refine ev_iconst (v := 0) rfl hC d_One_begin_27 ?_
  refine pv_One_crossed hC d_One_begin_28 fl_One_27 (by first | assumption | decide) (by first | assumption | omega) ?_
  refine ev_aload_n rfl hC d_One_begin_31 ?_
  refine ev_iconst (v := 0) rfl hC d_One_begin_32 ?_
  refine pv_One_knows hC d_One_begin_33 fl_One_30 (by first | assumption | decide) (by first | assumption | omega) ?_
  exact ev_vret hC hR d_One_begin_36 rfl rfl (by simp only [mI, mJ, wr_wr, wr_s, oBeg])

set_option maxHeartbeats 2000000 in
set_option maxRecDepth 10000 in
theorem c_One_wantsOver {G : ex_G} {M : ex_M} {r i : Nat} {c : Int32} (hr : r < 3) (hi : i < 8) : Con G Y_One_wantsOver 0 0 0 0 [.ref (ex_b G + aO r i), .int c] (ce G M) (some (.int (bi (decide ((if (M.1 r (28 + 7 * i + 1)) = 0 then (M.1 r (28 + 7 * i + 3)) else (M.1 r (28 + 7 * i + 4))) = c))))) (ce G (M)) := by
  refine Con.ofF (plainFor_of_name (by decide +kernel)) (Nat.le_of_ble_eq_true rfl) (fun C hC hR => ?_)
  show Ev G C Y_One_wantsOver 0 [some (.ref (ex_b G + aO r i)), some (.int c)] [] 0 0 (ce G M)
  refine ev_aload_n rfl hC d_One_wantsOver_0 ?_
  refine gv_One_bank hC d_One_wantsOver_1 fl_One_15 (by first | assumption | decide) (by first | assumption | omega) ?_
  refine ev_if_ne 14 hC d_One_wantsOver_4 rfl (fun h_4 => ?_) (fun h_4 => ?_)
  · refine ev_aload_n rfl hC d_One_wantsOver_14 ?_
    refine gv_One_comes hC d_One_wantsOver_15 fl_One_24 (by first | assumption | decide) (by first | assumption | omega) ?_
    refine ev_iload_n rfl hC d_One_wantsOver_18 ?_
    refine ev_icmp_ne 26 hC d_One_wantsOver_19 rfl (fun h_19 => ?_) (fun h_19 => ?_)
    · refine ev_iconst (v := 0) rfl hC d_One_wantsOver_26 ?_
      exact ev_zret hC hR d_One_wantsOver_27 rfl (by first | exact bi_nar _ | decide) (by simp_all [bi]) (rfl)
    · refine ev_iconst (v := 1) rfl hC d_One_wantsOver_22 ?_
      refine ev_goto 27 hC d_One_wantsOver_23 rfl ?_
      exact ev_zret hC hR d_One_wantsOver_27 rfl (by first | exact bi_nar _ | decide) (by simp_all [bi]) (rfl)
  · refine ev_aload_n rfl hC d_One_wantsOver_7 ?_
    refine gv_One_goes hC d_One_wantsOver_8 fl_One_21 (by first | assumption | decide) (by first | assumption | omega) ?_
    refine ev_goto 18 hC d_One_wantsOver_11 rfl ?_
    refine ev_iload_n rfl hC d_One_wantsOver_18 ?_
    refine ev_icmp_ne 26 hC d_One_wantsOver_19 rfl (fun h_19 => ?_) (fun h_19 => ?_)
    · refine ev_iconst (v := 0) rfl hC d_One_wantsOver_26 ?_
      exact ev_zret hC hR d_One_wantsOver_27 rfl (by first | exact bi_nar _ | decide) (by simp_all [bi]) (rfl)
    · refine ev_iconst (v := 1) rfl hC d_One_wantsOver_22 ?_
      refine ev_goto 27 hC d_One_wantsOver_23 rfl ?_
      exact ev_zret hC hR d_One_wantsOver_27 rfl (by first | exact bi_nar _ | decide) (by simp_all [bi]) (rfl)

set_option maxHeartbeats 2000000 in
set_option maxRecDepth 10000 in
theorem c_One_canPay {G : ex_G} {M : ex_M} {r i : Nat} {t : Int32} (hr : r < 3) (hi : i < 8) : Con G Y_One_canPay 0 0 0 0 [.ref (ex_b G + aO r i), .int t] (ce G M) (some (.int (bi (!decide ((M.1 r (28 + 7 * i + 2)) < t))))) (ce G (M)) := by
  refine Con.ofF (plainFor_of_name (by decide +kernel)) (Nat.le_of_ble_eq_true rfl) (fun C hC hR => ?_)
  show Ev G C Y_One_canPay 0 [some (.ref (ex_b G + aO r i)), some (.int t)] [] 0 0 (ce G M)
  refine ev_aload_n rfl hC d_One_canPay_0 ?_
  refine gv_One_purse hC d_One_canPay_1 fl_One_18 (by first | assumption | decide) (by first | assumption | omega) ?_
  refine ev_iload_n rfl hC d_One_canPay_4 ?_
  refine ev_icmp_lt 12 hC d_One_canPay_5 rfl (fun h_5 => ?_) (fun h_5 => ?_)
  · refine ev_iconst (v := 0) rfl hC d_One_canPay_12 ?_
    exact ev_zret hC hR d_One_canPay_13 rfl (by first | exact bi_nar _ | decide) (by simp_all [bi]) (rfl)
  · refine ev_iconst (v := 1) rfl hC d_One_canPay_8 ?_
    refine ev_goto 13 hC d_One_canPay_9 rfl ?_
    exact ev_zret hC hR d_One_canPay_13 rfl (by first | exact bi_nar _ | decide) (by simp_all [bi]) (rfl)

set_option maxHeartbeats 2000000 in
set_option maxRecDepth 10000 in
theorem c_One_goOver {G : ex_G} {M : ex_M} {r i : Nat} {t : Int32} (hr : r < 3) (hi : i < 8) : Con G Y_One_goOver 0 0 0 0 [.ref (ex_b G + aO r i), .int t] (ce G M) (none) (ce G (mI M r (oOver (M.1 r) i t))) := by
  refine Con.ofF (plainFor_of_name (by decide +kernel)) (Nat.le_of_ble_eq_true rfl) (fun C hC hR => ?_)
  show Ev G C Y_One_goOver 0 [some (.ref (ex_b G + aO r i)), some (.int t)] [] 0 0 (ce G M)
  refine ev_aload_n rfl hC d_One_goOver_0 ?_
  refine ev_dup rfl hC d_One_goOver_1 ?_
  refine gv_One_purse hC d_One_goOver_2 fl_One_18 (by first | assumption | decide) (by first | assumption | omega) ?_
  refine ev_iload_n rfl hC d_One_goOver_5 ?_
  refine ev_isub hC d_One_goOver_6 ?_
  refine pv_One_purse hC d_One_goOver_7 fl_One_18 (by first | assumption | decide) (by first | assumption | omega) ?_
  refine ev_aload_n rfl hC d_One_goOver_10 ?_
  refine ev_aload_n rfl hC d_One_goOver_11 ?_
  refine gv_One_bank hC d_One_goOver_12 fl_One_15 (by first | assumption | decide) (by first | assumption | omega) ?_
  refine ev_if_ne 22 hC d_One_goOver_15 rfl (fun h_15 => ?_) (fun h_15 => ?_)
  · refine ev_iconst (v := 0) rfl hC d_One_goOver_22 ?_
    refine pv_One_bank hC d_One_goOver_23 fl_One_15 (by first | assumption | decide) (by first | assumption | omega) ?_
    refine ev_aload_n rfl hC d_One_goOver_26 ?_
    refine ev_dup rfl hC d_One_goOver_27 ?_
    refine gv_One_crossed hC d_One_goOver_28 fl_One_27 (by first | assumption | decide) (by first | assumption | omega) ?_
    refine ev_iconst (v := 1) rfl hC d_One_goOver_31 ?_
    refine ev_iadd hC d_One_goOver_32 ?_
    refine pv_One_crossed hC d_One_goOver_33 fl_One_27 (by first | assumption | decide) (by first | assumption | omega) ?_
    exact ev_vret hC hR d_One_goOver_36 rfl rfl (by simp [mI, mJ, wr_s, upd] at h_15; simp [mI, mJ, wr_wr, wr_s, oOver, upd, h_15])
  · refine ev_iconst (v := 1) rfl hC d_One_goOver_18 ?_
    refine ev_goto 23 hC d_One_goOver_19 rfl ?_
    refine pv_One_bank hC d_One_goOver_23 fl_One_15 (by first | assumption | decide) (by first | assumption | omega) ?_
    refine ev_aload_n rfl hC d_One_goOver_26 ?_
    refine ev_dup rfl hC d_One_goOver_27 ?_
    refine gv_One_crossed hC d_One_goOver_28 fl_One_27 (by first | assumption | decide) (by first | assumption | omega) ?_
    refine ev_iconst (v := 1) rfl hC d_One_goOver_31 ?_
    refine ev_iadd hC d_One_goOver_32 ?_
    refine pv_One_crossed hC d_One_goOver_33 fl_One_27 (by first | assumption | decide) (by first | assumption | omega) ?_
    exact ev_vret hC hR d_One_goOver_36 rfl rfl (by simp [mI, mJ, wr_s, upd] at h_15; simp [mI, mJ, wr_wr, wr_s, oOver, upd, h_15])

set_option maxHeartbeats 2000000 in
set_option maxRecDepth 10000 in
theorem c_One_hasHeard {G : ex_G} {M : ex_M} {r i : Nat} {e : Int32} (hr : r < 3) (hi : i < 8) : Con G Y_One_hasHeard 0 0 0 0 [.ref (ex_b G + aO r i), .int e] (ce G M) (some (.int (bi (hb (M.1 r (28 + 7 * i + 6)) e)))) (ce G (M)) := by
  refine Con.ofF (plainFor_of_name (by decide +kernel)) (Nat.le_of_ble_eq_true rfl) (fun C hC hR => ?_)
  show Ev G C Y_One_hasHeard 0 [some (.ref (ex_b G + aO r i)), some (.int e)] [] 0 0 (ce G M)
  refine ev_aload_n rfl hC d_One_hasHeard_0 ?_
  refine gv_One_knows hC d_One_hasHeard_1 fl_One_30 (by first | assumption | decide) (by first | assumption | omega) ?_
  refine ev_iload_n rfl hC d_One_hasHeard_4 ?_
  refine ev_ishr hC d_One_hasHeard_5 ?_
  refine ev_iconst (v := 1) rfl hC d_One_hasHeard_6 ?_
  refine ev_iand hC d_One_hasHeard_7 ?_
  refine ev_if_eq 15 hC d_One_hasHeard_8 rfl (fun h_8 => ?_) (fun h_8 => ?_)
  · refine ev_iconst (v := 0) rfl hC d_One_hasHeard_15 ?_
    exact ev_zret hC hR d_One_hasHeard_16 rfl (by first | exact bi_nar _ | decide) (by simp_all [bi, hb]) (rfl)
  · refine ev_iconst (v := 1) rfl hC d_One_hasHeard_11 ?_
    refine ev_goto 16 hC d_One_hasHeard_12 rfl ?_
    exact ev_zret hC hR d_One_hasHeard_16 rfl (by first | exact bi_nar _ | decide) (by simp_all [bi, hb]) (rfl)

set_option maxHeartbeats 2000000 in
set_option maxRecDepth 10000 in
theorem c_One_hear {G : ex_G} {M : ex_M} {r i : Nat} {h : Int32} (hr : r < 3) (hi : i < 8) : Con G Y_One_hear 0 0 0 0 [.ref (ex_b G + aO r i), .int h] (ce G M) (none) (ce G (mI M r (oHear (M.1 r) i h))) := by
  refine Con.ofF (plainFor_of_name (by decide +kernel)) (Nat.le_of_ble_eq_true rfl) (fun C hC hR => ?_)
  show Ev G C Y_One_hear 0 [some (.ref (ex_b G + aO r i)), some (.int h)] [] 0 0 (ce G M)
  refine ev_aload_n rfl hC d_One_hear_0 ?_
  refine ev_dup rfl hC d_One_hear_1 ?_
  refine gv_One_knows hC d_One_hear_2 fl_One_30 (by first | assumption | decide) (by first | assumption | omega) ?_
  refine ev_iload_n rfl hC d_One_hear_5 ?_
  refine ev_ior hC d_One_hear_6 ?_
  refine pv_One_knows hC d_One_hear_7 fl_One_30 (by first | assumption | decide) (by first | assumption | omega) ?_
  exact ev_vret hC hR d_One_hear_10 rfl rfl (by simp only [mI, mJ, wr_wr, wr_s, oHear])

set_option maxHeartbeats 2000000 in
set_option maxRecDepth 10000 in
theorem c_One_isTeller {G : ex_G} {M : ex_M} {r i : Nat} (hr : r < 3) (hi : i < 8) : Con G Y_One_isTeller 0 0 0 0 [.ref (ex_b G + aO r i)] (ce G M) (some (.int (bi (decide ((M.1 r (28 + 7 * i + 0)) = 3) || decide ((M.1 r (28 + 7 * i + 0)) = 4))))) (ce G (M)) := by
  refine Con.ofF (plainFor_of_name (by decide +kernel)) (Nat.le_of_ble_eq_true rfl) (fun C hC hR => ?_)
  show Ev G C Y_One_isTeller 0 [some (.ref (ex_b G + aO r i))] [] 0 0 (ce G M)
  refine ev_aload_n rfl hC d_One_isTeller_0 ?_
  refine gv_One_kind hC d_One_isTeller_1 fl_One_9 (by first | assumption | decide) (by first | assumption | omega) ?_
  refine ev_iconst (v := 3) rfl hC d_One_isTeller_4 ?_
  refine ev_icmp_eq 16 hC d_One_isTeller_5 rfl (fun h_5 => ?_) (fun h_5 => ?_)
  · refine ev_iconst (v := 1) rfl hC d_One_isTeller_16 ?_
    refine ev_goto 21 hC d_One_isTeller_17 rfl ?_
    exact ev_zret hC hR d_One_isTeller_21 rfl (by first | exact bi_nar _ | decide) (by simp_all [bi]) (rfl)
  · refine ev_aload_n rfl hC d_One_isTeller_8 ?_
    refine gv_One_kind hC d_One_isTeller_9 fl_One_9 (by first | assumption | decide) (by first | assumption | omega) ?_
    refine ev_iconst (v := 4) rfl hC d_One_isTeller_12 ?_
    refine ev_icmp_ne 20 hC d_One_isTeller_13 rfl (fun h_13 => ?_) (fun h_13 => ?_)
    · refine ev_iconst (v := 0) rfl hC d_One_isTeller_20 ?_
      exact ev_zret hC hR d_One_isTeller_21 rfl (by first | exact bi_nar _ | decide) (by simp_all [bi]) (rfl)
    · refine ev_iconst (v := 1) rfl hC d_One_isTeller_16 ?_
      refine ev_goto 21 hC d_One_isTeller_17 rfl ?_
      exact ev_zret hC hR d_One_isTeller_21 rfl (by first | exact bi_nar _ | decide) (by simp_all [bi]) (rfl)

set_option maxHeartbeats 2000000 in
set_option maxRecDepth 10000 in
theorem c_One_live {G : ex_G} {M : ex_M} {r i : Nat} {e w : Int32} (hr : r < 3) (hi : i < 8) : Con G Y_One_live 1 26 0 0 [.ref (ex_b G + aO r i), .int e, .int w] (ce G M) (none) (ce G (mI M r (oLive (M.1 r) i e w))) := by
  refine Con.ofF (plainFor_of_name (by decide +kernel)) (Nat.le_of_ble_eq_true rfl) (fun C hC hR => ?_)
  show Ev G C Y_One_live 0 [some (.ref (ex_b G + aO r i)), some (.int e), some (.int w)] [] 0 0 (ce G M)
  refine ev_aload_n rfl hC d_One_live_0 ?_
  refine gv_One_purse hC d_One_live_1 fl_One_18 (by first | assumption | decide) (by first | assumption | omega) ?_
  refine ev_aload_n rfl hC d_One_live_4 ?_
  refine gv_One_kind hC d_One_live_5 fl_One_9 (by first | assumption | decide) (by first | assumption | omega) ?_
  refine ev_iload_n rfl hC d_One_live_8 ?_
  refine ev_aload_n rfl hC d_One_live_9 ?_
  refine ev_iload_n rfl hC d_One_live_10 ?_
  refine cv_One1 hC d_One_live_11 (c_One_hasHeard (by first | assumption | omega) (by first | assumption | omega)) mi_One_hasHeard ml_One_33 im_One_hasHeard se_One_hasHeard rfl ⟨Nat.le_of_ble_eq_true rfl, Nat.le_of_ble_eq_true rfl⟩ ⟨Nat.le_of_ble_eq_true rfl, Nat.le_of_ble_eq_true rfl⟩ rfl rfl (Nat.le_of_ble_eq_true rfl) (by first | assumption | decide) (by first | assumption | omega) ?_
  refine cs_1 hC d_One_live_14 (c_Kinds_gain ) mi_Kinds_gain ml_One_37 sm_Kinds_gain ⟨Nat.le_of_ble_eq_true rfl, Nat.le_of_ble_eq_true rfl⟩ ⟨Nat.le_of_ble_eq_true rfl, Nat.le_of_ble_eq_true rfl⟩ rfl rfl (Nat.le_of_ble_eq_true rfl) ?_
  refine ev_iadd hC d_One_live_17 ?_
  refine ev_istore_n (by decide) hC d_One_live_18 ?_
  refine ev_aload_n rfl hC d_One_live_19 ?_
  refine ev_iconst (v := 0) rfl hC d_One_live_20 ?_
  refine ev_sipush (v := 9999) rfl hC d_One_live_21 ?_
  refine ev_iload_n rfl hC d_One_live_24 ?_
  refine cs_1 hC d_One_live_25 (c_Math_min ) mi_Math_min ml_One_43 sm_Math_min ⟨Nat.le_of_ble_eq_true rfl, Nat.le_of_ble_eq_true rfl⟩ ⟨Nat.le_of_ble_eq_true rfl, Nat.le_of_ble_eq_true rfl⟩ rfl rfl (Nat.le_of_ble_eq_true rfl) ?_
  refine cs_1 hC d_One_live_28 (c_Math_max ) mi_Math_max ml_One_49 sm_Math_max ⟨Nat.le_of_ble_eq_true rfl, Nat.le_of_ble_eq_true rfl⟩ ⟨Nat.le_of_ble_eq_true rfl, Nat.le_of_ble_eq_true rfl⟩ rfl rfl (Nat.le_of_ble_eq_true rfl) ?_
  refine pv_One_purse hC d_One_live_31 fl_One_18 (by first | assumption | decide) (by first | assumption | omega) ?_
  refine ev_aload_n rfl hC d_One_live_34 ?_
  refine ev_iconst (v := 1) rfl hC d_One_live_35 ?_
  refine ev_iload_n rfl hC d_One_live_36 ?_
  refine ev_ishl hC d_One_live_37 ?_
  refine cv_One0 hC d_One_live_38 (c_One_hear (by first | assumption | omega) (by first | assumption | omega)) mi_One_hear ml_One_52 im_One_hear se_One_hear rfl ⟨Nat.le_of_ble_eq_true rfl, Nat.le_of_ble_eq_true rfl⟩ ⟨Nat.le_of_ble_eq_true rfl, Nat.le_of_ble_eq_true rfl⟩ rfl rfl (Nat.le_of_ble_eq_true rfl) (by first | assumption | decide) (by first | assumption | omega) ?_
  exact ev_vret hC hR d_One_live_41 rfl rfl (by simp [mI, mJ, wr_wr, wr_s, oLive, oHear, upd, cut])

set_option maxHeartbeats 2000000 in
set_option maxRecDepth 10000 in
theorem c_Event_begin {G : ex_G} {M : ex_M} {r i : Nat} {h w : Int32} (hr : r < 3) (hi : i < 8) : Con G Y_Event_begin 0 0 0 0 [.ref (ex_b G + aE r i), .int h, .int w] (ce G M) (none) (ce G (mI M r (eBeg (M.1 r) i h w))) := by
  refine Con.ofF (plainFor_of_name (by decide +kernel)) (Nat.le_of_ble_eq_true rfl) (fun C hC hR => ?_)
  show Ev G C Y_Event_begin 0 [some (.ref (ex_b G + aE r i)), some (.int h), some (.int w)] [] 0 0 (ce G M)
  refine ev_aload_n rfl hC d_Event_begin_0 ?_
  refine ev_iload_n rfl hC d_Event_begin_1 ?_
  refine pv_Event_hour hC d_Event_begin_2 fl_Event_9 (by first | assumption | decide) (by first | assumption | omega) ?_
  refine ev_aload_n rfl hC d_Event_begin_5 ?_
  refine ev_iload_n rfl hC d_Event_begin_6 ?_
  refine pv_Event_worth hC d_Event_begin_7 fl_Event_15 (by first | assumption | decide) (by first | assumption | omega) ?_
  refine ev_aload_n rfl hC d_Event_begin_10 ?_
  refine ev_iconst (v := 0) rfl hC d_Event_begin_11 ?_
  refine pv_Event_met (by first | exact Or.inl rfl | exact Or.inr rfl | exact bi_or _ | assumption) hC d_Event_begin_12 fl_Event_18 (by first | assumption | decide) (by first | assumption | omega) ?_
  exact ev_vret hC hR d_Event_begin_15 rfl rfl (by simp only [mI, mJ, wr_wr, wr_s, eBeg])

set_option maxHeartbeats 2000000 in
set_option maxRecDepth 10000 in
theorem c_Event_hoursToRight {G : ex_G} {M : ex_M} {r i : Nat} {t : Int32} (hr : r < 3) (hi : i < 8) : Con G Y_Event_hoursToRight 1 21 0 0 [.ref (ex_b G + aE r i), .int t] (ce G M) (some (.int (if (M.1 r (4 + 3 * i + 0)) - t < -1 then -1 else (M.1 r (4 + 3 * i + 0)) - t))) (ce G (M)) := by
  refine Con.ofF (plainFor_of_name (by decide +kernel)) (Nat.le_of_ble_eq_true rfl) (fun C hC hR => ?_)
  show Ev G C Y_Event_hoursToRight 0 [some (.ref (ex_b G + aE r i)), some (.int t)] [] 0 0 (ce G M)
  refine ev_aload_n rfl hC d_Event_hoursToRight_0 ?_
  refine gv_Event_hour hC d_Event_hoursToRight_1 fl_Event_9 (by first | assumption | decide) (by first | assumption | omega) ?_
  refine ev_iload_n rfl hC d_Event_hoursToRight_4 ?_
  refine ev_isub hC d_Event_hoursToRight_5 ?_
  refine ev_iconst (v := -1) rfl hC d_Event_hoursToRight_6 ?_
  refine cs_1 hC d_Event_hoursToRight_7 (c_Math_max ) mi_Math_max ml_Event_22 sm_Math_max ⟨Nat.le_of_ble_eq_true rfl, Nat.le_of_ble_eq_true rfl⟩ ⟨Nat.le_of_ble_eq_true rfl, Nat.le_of_ble_eq_true rfl⟩ rfl rfl (Nat.le_of_ble_eq_true rfl) ?_
  exact ev_iret hC hR d_Event_hoursToRight_10 rfl (rfl) (rfl)

set_option maxHeartbeats 2000000 in
set_option maxRecDepth 10000 in
theorem c_Event_hoursToLeft {G : ex_G} {M : ex_M} {r i : Nat} {t : Int32} (hb : (M.1 r (4 + 3 * i + 2)) = 0 ∨ (M.1 r (4 + 3 * i + 2)) = 1) (hr : r < 3) (hi : i < 8) : Con G Y_Event_hoursToLeft 1 21 0 0 [.ref (ex_b G + aE r i), .int t] (ce G M) (some (.int (if (M.1 r (4 + 3 * i + 2)) = 0 then (if (M.1 r (4 + 3 * i + 0)) + 24 - t < -1 then -1 else (M.1 r (4 + 3 * i + 0)) + 24 - t) else -1))) (ce G (M)) := by
  refine Con.ofF (plainFor_of_name (by decide +kernel)) (Nat.le_of_ble_eq_true rfl) (fun C hC hR => ?_)
  show Ev G C Y_Event_hoursToLeft 0 [some (.ref (ex_b G + aE r i)), some (.int t)] [] 0 0 (ce G M)
  refine ev_aload_n rfl hC d_Event_hoursToLeft_0 ?_
  refine gv_Event_met hC d_Event_hoursToLeft_1 fl_Event_18 (by first | assumption | decide) (by first | assumption | omega) ?_
  refine ev_if_eq 11 hC d_Event_hoursToLeft_4 rfl (fun h_4 => ?_) (fun h_4 => ?_)
  · refine ev_aload_n rfl hC d_Event_hoursToLeft_11 ?_
    refine gv_Event_hour hC d_Event_hoursToLeft_12 fl_Event_9 (by first | assumption | decide) (by first | assumption | omega) ?_
    refine ev_bipush (v := 24) rfl hC d_Event_hoursToLeft_15 ?_
    refine ev_iadd hC d_Event_hoursToLeft_17 ?_
    refine ev_iload_n rfl hC d_Event_hoursToLeft_18 ?_
    refine ev_isub hC d_Event_hoursToLeft_19 ?_
    refine ev_iconst (v := -1) rfl hC d_Event_hoursToLeft_20 ?_
    refine cs_1 hC d_Event_hoursToLeft_21 (c_Math_max ) mi_Math_max ml_Event_22 sm_Math_max ⟨Nat.le_of_ble_eq_true rfl, Nat.le_of_ble_eq_true rfl⟩ ⟨Nat.le_of_ble_eq_true rfl, Nat.le_of_ble_eq_true rfl⟩ rfl rfl (Nat.le_of_ble_eq_true rfl) ?_
    exact ev_iret hC hR d_Event_hoursToLeft_24 rfl (by first | rw [if_pos (by assumption)] | rw [if_neg (by assumption)]) (rfl)
  · refine ev_iconst (v := -1) rfl hC d_Event_hoursToLeft_7 ?_
    refine ev_goto 24 hC d_Event_hoursToLeft_8 rfl ?_
    exact ev_iret hC hR d_Event_hoursToLeft_24 rfl (by first | rw [if_pos (by assumption)] | rw [if_neg (by assumption)]) (rfl)

set_option maxHeartbeats 2000000 in
set_option maxRecDepth 10000 in
theorem c_Event_canBeMet {G : ex_G} {M : ex_M} {r i : Nat} {t : Int32} (hr : r < 3) (hi : i < 8) : Con G Y_Event_canBeMet 0 0 0 0 [.ref (ex_b G + aE r i), .int t] (ce G M) (some (.int (bi (!decide (0 ≤ (M.1 r (4 + 3 * i + 1))) && !decide ((M.1 r (4 + 3 * i + 0)) + 24 < t))))) (ce G (M)) := by
  refine Con.ofF (plainFor_of_name (by decide +kernel)) (Nat.le_of_ble_eq_true rfl) (fun C hC hR => ?_)
  show Ev G C Y_Event_canBeMet 0 [some (.ref (ex_b G + aE r i)), some (.int t)] [] 0 0 (ce G M)
  refine ev_aload_n rfl hC d_Event_canBeMet_0 ?_
  refine gv_Event_worth hC d_Event_canBeMet_1 fl_Event_15 (by first | assumption | decide) (by first | assumption | omega) ?_
  refine ev_if_ge 22 hC d_Event_canBeMet_4 rfl (fun h_4 => ?_) (fun h_4 => ?_)
  · refine ev_iconst (v := 0) rfl hC d_Event_canBeMet_22 ?_
    exact ev_zret hC hR d_Event_canBeMet_23 rfl (by first | exact bi_nar _ | decide) (by simp_all [bi]) (rfl)
  · refine ev_aload_n rfl hC d_Event_canBeMet_7 ?_
    refine gv_Event_hour hC d_Event_canBeMet_8 fl_Event_9 (by first | assumption | decide) (by first | assumption | omega) ?_
    refine ev_bipush (v := 24) rfl hC d_Event_canBeMet_11 ?_
    refine ev_iadd hC d_Event_canBeMet_13 ?_
    refine ev_iload_n rfl hC d_Event_canBeMet_14 ?_
    refine ev_icmp_lt 22 hC d_Event_canBeMet_15 rfl (fun h_15 => ?_) (fun h_15 => ?_)
    · refine ev_iconst (v := 0) rfl hC d_Event_canBeMet_22 ?_
      exact ev_zret hC hR d_Event_canBeMet_23 rfl (by first | exact bi_nar _ | decide) (by simp_all [bi]) (rfl)
    · refine ev_iconst (v := 1) rfl hC d_Event_canBeMet_18 ?_
      refine ev_goto 23 hC d_Event_canBeMet_19 rfl ?_
      exact ev_zret hC hR d_Event_canBeMet_23 rfl (by first | exact bi_nar _ | decide) (by simp_all [bi]) (rfl)

set_option maxHeartbeats 2000000 in
set_option maxRecDepth 10000 in
theorem c_Best_begin {G : ex_G} {M : ex_M} {f : Int32} : Con G Y_Best_begin 0 0 0 0 [.ref (ex_b G + 58), .int f] (ce G M) (none) (ce G (mI M 3 (upd (upd (M.1 3) 1 (-1000000004)) 2 f))) := by
  refine Con.ofF (plainFor_of_name (by decide +kernel)) (Nat.le_of_ble_eq_true rfl) (fun C hC hR => ?_)
  show Ev G C Y_Best_begin 0 [some (.ref (ex_b G + 58)), some (.int f)] [] 0 0 (ce G M)
  refine ev_aload_n rfl hC d_Best_begin_0 ?_
  refine ev_ldc kc_Best_9 hC d_Best_begin_1 ?_
  refine pv_Best_choice hC d_Best_begin_3 fl_Best_10  ?_
  refine ev_aload_n rfl hC d_Best_begin_6 ?_
  refine ev_iload_n rfl hC d_Best_begin_7 ?_
  refine pv_Best_amount hC d_Best_begin_8 fl_Best_16  ?_
  exact ev_vret hC hR d_Best_begin_11 rfl rfl (by simp only [mI, mJ, wr_wr, wr_s, mI])

set_option maxHeartbeats 2000000 in
set_option maxRecDepth 10000 in
theorem c_Best_offer {G : ex_G} {M : ex_M} {c b : Int32} : Con G Y_Best_offer 0 0 0 0 [.ref (ex_b G + 58), .int c, .int b] (ce G M) (none) (ce G (if b ≤ M.1 3 2 then M else mI M 3 (upd (upd (M.1 3) 1 c) 2 b))) := by
  refine Con.ofF (plainFor_of_name (by decide +kernel)) (Nat.le_of_ble_eq_true rfl) (fun C hC hR => ?_)
  show Ev G C Y_Best_offer 0 [some (.ref (ex_b G + 58)), some (.int c), some (.int b)] [] 0 0 (ce G M)
  refine ev_iload_n rfl hC d_Best_offer_0 ?_
  refine ev_aload_n rfl hC d_Best_offer_1 ?_
  refine gv_Best_amount hC d_Best_offer_2 fl_Best_16  ?_
  refine ev_icmp_le 18 hC d_Best_offer_5 rfl (fun h_5 => ?_) (fun h_5 => ?_)
  · exact ev_vret hC hR d_Best_offer_18 rfl rfl (by first | rw [if_pos (by assumption)] | (rw [if_neg (by assumption)]; simp only [mI, mJ, wr_wr, wr_s]))
  · refine ev_aload_n rfl hC d_Best_offer_8 ?_
    refine ev_iload_n rfl hC d_Best_offer_9 ?_
    refine pv_Best_choice hC d_Best_offer_10 fl_Best_10  ?_
    refine ev_aload_n rfl hC d_Best_offer_13 ?_
    refine ev_iload_n rfl hC d_Best_offer_14 ?_
    refine pv_Best_amount hC d_Best_offer_15 fl_Best_16  ?_
    exact ev_vret hC hR d_Best_offer_18 rfl rfl (by first | rw [if_pos (by assumption)] | (rw [if_neg (by assumption)]; simp only [mI, mJ, wr_wr, wr_s]))

set_option maxHeartbeats 2000000 in
set_option maxRecDepth 10000 in
theorem c_Sheet_isMissing {G : ex_G} {M : ex_M} {i : Nat} (hi : i < 4) : Con G Y_Sheet_isMissing 0 0 0 0 [.ref (ex_b G + aS i)] (ce G M) (some (.int (bi (decide (M.1 6 (2 * i + 0) = 0))))) (ce G (M)) := by
  refine Con.ofF (plainFor_of_name (by decide +kernel)) (Nat.le_of_ble_eq_true rfl) (fun C hC hR => ?_)
  show Ev G C Y_Sheet_isMissing 0 [some (.ref (ex_b G + aS i))] [] 0 0 (ce G M)
  refine ev_aload_n rfl hC d_Sheet_isMissing_0 ?_
  refine gv_Sheet_bits hC d_Sheet_isMissing_1 fl_Sheet_9 (by first | assumption | omega) ?_
  refine ev_if_ne 11 hC d_Sheet_isMissing_4 rfl (fun h_4 => ?_) (fun h_4 => ?_)
  · refine ev_iconst (v := 0) rfl hC d_Sheet_isMissing_11 ?_
    exact ev_zret hC hR d_Sheet_isMissing_12 rfl (by first | exact bi_nar _ | decide) (by simp_all [bi]) (rfl)
  · refine ev_iconst (v := 1) rfl hC d_Sheet_isMissing_7 ?_
    refine ev_goto 12 hC d_Sheet_isMissing_8 rfl ?_
    exact ev_zret hC hR d_Sheet_isMissing_12 rfl (by first | exact bi_nar _ | decide) (by simp_all [bi]) (rfl)

set_option maxHeartbeats 2000000 in
set_option maxRecDepth 10000 in
theorem c_Sheet_holds {G : ex_G} {M : ex_M} {i : Nat} {f n : Int32} (hi : i < 4) : Con G Y_Sheet_holds 0 0 0 0 [.ref (ex_b G + aS i), .int f, .int n] (ce G M) (some (.int (bi (!decide (f < 0) && (!decide (n < 0) && (!decide (M.1 6 (2 * i + 1) < n) && !decide (M.1 6 (2 * i + 1) - n < f))))))) (ce G (M)) := by
  refine Con.ofF (plainFor_of_name (by decide +kernel)) (Nat.le_of_ble_eq_true rfl) (fun C hC hR => ?_)
  show Ev G C Y_Sheet_holds 0 [some (.ref (ex_b G + aS i)), some (.int f), some (.int n)] [] 0 0 (ce G M)
  refine ev_iload_n rfl hC d_Sheet_holds_0 ?_
  refine ev_if_lt 30 hC d_Sheet_holds_1 rfl (fun h_1 => ?_) (fun h_1 => ?_)
  · refine ev_iconst (v := 0) rfl hC d_Sheet_holds_30 ?_
    exact ev_zret hC hR d_Sheet_holds_31 rfl (by first | exact bi_nar _ | decide) (by simp_all [bi]) (rfl)
  · refine ev_iload_n rfl hC d_Sheet_holds_4 ?_
    refine ev_if_lt 30 hC d_Sheet_holds_5 rfl (fun h_5 => ?_) (fun h_5 => ?_)
    · refine ev_iconst (v := 0) rfl hC d_Sheet_holds_30 ?_
      exact ev_zret hC hR d_Sheet_holds_31 rfl (by first | exact bi_nar _ | decide) (by simp_all [bi]) (rfl)
    · refine ev_iload_n rfl hC d_Sheet_holds_8 ?_
      refine ev_aload_n rfl hC d_Sheet_holds_9 ?_
      refine gv_Sheet_length hC d_Sheet_holds_10 fl_Sheet_15 (by first | assumption | omega) ?_
      refine ev_icmp_gt 30 hC d_Sheet_holds_13 rfl (fun h_13 => ?_) (fun h_13 => ?_)
      · refine ev_iconst (v := 0) rfl hC d_Sheet_holds_30 ?_
        exact ev_zret hC hR d_Sheet_holds_31 rfl (by first | exact bi_nar _ | decide) (by simp_all [bi]) (rfl)
      · refine ev_iload_n rfl hC d_Sheet_holds_16 ?_
        refine ev_aload_n rfl hC d_Sheet_holds_17 ?_
        refine gv_Sheet_length hC d_Sheet_holds_18 fl_Sheet_15 (by first | assumption | omega) ?_
        refine ev_iload_n rfl hC d_Sheet_holds_21 ?_
        refine ev_isub hC d_Sheet_holds_22 ?_
        refine ev_icmp_gt 30 hC d_Sheet_holds_23 rfl (fun h_23 => ?_) (fun h_23 => ?_)
        · refine ev_iconst (v := 0) rfl hC d_Sheet_holds_30 ?_
          exact ev_zret hC hR d_Sheet_holds_31 rfl (by first | exact bi_nar _ | decide) (by simp_all [bi]) (rfl)
        · refine ev_iconst (v := 1) rfl hC d_Sheet_holds_26 ?_
          refine ev_goto 31 hC d_Sheet_holds_27 rfl ?_
          exact ev_zret hC hR d_Sheet_holds_31 rfl (by first | exact bi_nar _ | decide) (by simp_all [bi]) (rfl)
