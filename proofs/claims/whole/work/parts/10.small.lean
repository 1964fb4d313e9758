set_option maxHeartbeats 2000000 in
set_option maxRecDepth 10000 in
theorem c_Math_max {G : ex_G} {M : ex_M} {x y : Int32} : Con G Y_Math_max 0 0 0 0 [.int x, .int y] (ce G M) (some (.int (if x < y then y else x))) (ce G (M)) := by
  refine Con.ofF (by decide +kernel) (Nat.le_of_ble_eq_true rfl) (fun C hC hR => ?_)
  show Ev G C Y_Math_max 0 [some (.int x), some (.int y)] [] 0 0 (ce G M)
  refine ev_iload_n rfl hC d_Math_max_0 ?_
  refine ev_iload_n rfl hC d_Math_max_1 ?_
  refine ev_icmp_lt 9 hC d_Math_max_2 rfl (fun h_2 => ?_) (fun h_2 => ?_)
  · refine ev_iload_n rfl hC d_Math_max_9 ?_
    exact ev_iret hC hR d_Math_max_10 rfl (by first | rw [if_pos (by assumption)] | rw [if_neg (by assumption)]) (rfl)
  · refine ev_iload_n rfl hC d_Math_max_5 ?_
    refine ev_goto 10 hC d_Math_max_6 rfl ?_
    exact ev_iret hC hR d_Math_max_10 rfl (by first | rw [if_pos (by assumption)] | rw [if_neg (by assumption)]) (rfl)

set_option maxHeartbeats 2000000 in
set_option maxRecDepth 10000 in
theorem c_Math_min {G : ex_G} {M : ex_M} {x y : Int32} : Con G Y_Math_min 0 0 0 0 [.int x, .int y] (ce G M) (some (.int (if y < x then y else x))) (ce G (M)) := by
  refine Con.ofF (by decide +kernel) (Nat.le_of_ble_eq_true rfl) (fun C hC hR => ?_)
  show Ev G C Y_Math_min 0 [some (.int x), some (.int y)] [] 0 0 (ce G M)
  refine ev_iload_n rfl hC d_Math_min_0 ?_
  refine ev_iload_n rfl hC d_Math_min_1 ?_
  refine ev_icmp_gt 9 hC d_Math_min_2 rfl (fun h_2 => ?_) (fun h_2 => ?_)
  · refine ev_iload_n rfl hC d_Math_min_9 ?_
    exact ev_iret hC hR d_Math_min_10 rfl (by first | rw [if_pos (by assumption)] | rw [if_neg (by assumption)]) (rfl)
  · refine ev_iload_n rfl hC d_Math_min_5 ?_
    refine ev_goto 10 hC d_Math_min_6 rfl ?_
    exact ev_iret hC hR d_Math_min_10 rfl (by first | rw [if_pos (by assumption)] | rw [if_neg (by assumption)]) (rfl)

def out (v lo hi : Int32) : Bool := decide (v < lo) || decide (hi < v)

set_option maxHeartbeats 2000000 in
set_option maxRecDepth 10000 in
theorem c_Day_outside {G : ex_G} {M : ex_M} {v lo hi : Int32} : Con G Y_Day_outside 0 0 0 0 [.int v, .int lo, .int hi] (ce G M) (some (.int (bi (out v lo hi)))) (ce G (M)) := by
  refine Con.ofF (plainFor_of_name (by decide +kernel)) (Nat.le_of_ble_eq_true rfl) (fun C hC hR => ?_)
  show Ev G C Y_Day_outside 0 [some (.int v), some (.int lo), some (.int hi)] [] 0 0 (ce G M)
  refine ev_iload_n rfl hC d_Day_outside_0 ?_
  refine ev_iload_n rfl hC d_Day_outside_1 ?_
  refine ev_icmp_lt 10 hC d_Day_outside_2 rfl (fun h_2 => ?_) (fun h_2 => ?_)
  · refine ev_iconst (v := 1) rfl hC d_Day_outside_10 ?_
    refine ev_goto 15 hC d_Day_outside_11 rfl ?_
    exact ev_zret hC hR d_Day_outside_15 rfl (by first | exact bi_nar _ | decide) (by simp_all [out, bi]) (rfl)
  · refine ev_iload_n rfl hC d_Day_outside_5 ?_
    refine ev_iload_n rfl hC d_Day_outside_6 ?_
    refine ev_icmp_le 14 hC d_Day_outside_7 rfl (fun h_7 => ?_) (fun h_7 => ?_)
    · refine ev_iconst (v := 0) rfl hC d_Day_outside_14 ?_
      exact ev_zret hC hR d_Day_outside_15 rfl (by first | exact bi_nar _ | decide) (by simp_all [out, bi]) (rfl)
    · refine ev_iconst (v := 1) rfl hC d_Day_outside_10 ?_
      refine ev_goto 15 hC d_Day_outside_11 rfl ?_
      exact ev_zret hC hR d_Day_outside_15 rfl (by first | exact bi_nar _ | decide) (by simp_all [out, bi]) (rfl)

set_option maxHeartbeats 2000000 in
set_option maxRecDepth 10000 in
theorem c_Mod_within {G : ex_G} {M : ex_M} {v lo hi : Int32} : Con G Y_Mod_within 0 0 0 0 [.int v, .int lo, .int hi] (ce G M) (some (.int (bi (!(out v lo hi))))) (ce G (M)) := by
  refine Con.ofF (plainFor_of_name (by decide +kernel)) (Nat.le_of_ble_eq_true rfl) (fun C hC hR => ?_)
  show Ev G C Y_Mod_within 0 [some (.int v), some (.int lo), some (.int hi)] [] 0 0 (ce G M)
  refine ev_iload_n rfl hC d_Mod_within_0 ?_
  refine ev_iload_n rfl hC d_Mod_within_1 ?_
  refine ev_icmp_lt 14 hC d_Mod_within_2 rfl (fun h_2 => ?_) (fun h_2 => ?_)
  · refine ev_iconst (v := 0) rfl hC d_Mod_within_14 ?_
    exact ev_zret hC hR d_Mod_within_15 rfl (by first | exact bi_nar _ | decide) (by simp_all [out, bi]) (rfl)
  · refine ev_iload_n rfl hC d_Mod_within_5 ?_
    refine ev_iload_n rfl hC d_Mod_within_6 ?_
    refine ev_icmp_gt 14 hC d_Mod_within_7 rfl (fun h_7 => ?_) (fun h_7 => ?_)
    · refine ev_iconst (v := 0) rfl hC d_Mod_within_14 ?_
      exact ev_zret hC hR d_Mod_within_15 rfl (by first | exact bi_nar _ | decide) (by simp_all [out, bi]) (rfl)
    · refine ev_iconst (v := 1) rfl hC d_Mod_within_10 ?_
      refine ev_goto 15 hC d_Mod_within_11 rfl ?_
      exact ev_zret hC hR d_Mod_within_15 rfl (by first | exact bi_nar _ | decide) (by simp_all [out, bi]) (rfl)

set_option maxHeartbeats 2000000 in
set_option maxRecDepth 10000 in
theorem c_Mod_at {G : ex_G} {M : ex_M} {p f : Nat} : Con G Y_Mod_at 0 0 0 0 [.int (nI p), .int (nI f)] (ce G M) (some (.int (nI (28 + 7 * p + f)))) (ce G (M)) := by
  refine Con.ofF (plainFor_of_name (by decide +kernel)) (Nat.le_of_ble_eq_true rfl) (fun C hC hR => ?_)
  show Ev G C Y_Mod_at 0 [some (.int (nI p)), some (.int (nI f))] [] 0 0 (ce G M)
  refine ev_bipush (v := nI 28) rfl hC d_Mod_at_0 ?_
  refine ev_bipush (v := nI 7) rfl hC d_Mod_at_2 ?_
  refine ev_iload_n rfl hC d_Mod_at_4 ?_
  refine ev_imul hC d_Mod_at_5 ?_
  refine ev_iadd hC d_Mod_at_6 ?_
  refine ev_iload_n rfl hC d_Mod_at_7 ?_
  refine ev_iadd hC d_Mod_at_8 ?_
  exact ev_iret hC hR d_Mod_at_9 rfl (by rw [pk_mul, nI_add, nI_add]) (rfl)

set_option maxHeartbeats 2000000 in
set_option maxRecDepth 10000 in
theorem c_Mod_atEvent {G : ex_G} {M : ex_M} {p f : Nat} : Con G Y_Mod_atEvent 0 0 0 0 [.int (nI p), .int (nI f)] (ce G M) (some (.int (nI (4 + 3 * p + f)))) (ce G (M)) := by
  refine Con.ofF (plainFor_of_name (by decide +kernel)) (Nat.le_of_ble_eq_true rfl) (fun C hC hR => ?_)
  show Ev G C Y_Mod_atEvent 0 [some (.int (nI p)), some (.int (nI f))] [] 0 0 (ce G M)
  refine ev_iconst (v := nI 4) rfl hC d_Mod_atEvent_0 ?_
  refine ev_iconst (v := nI 3) rfl hC d_Mod_atEvent_1 ?_
  refine ev_iload_n rfl hC d_Mod_atEvent_2 ?_
  refine ev_imul hC d_Mod_atEvent_3 ?_
  refine ev_iadd hC d_Mod_atEvent_4 ?_
  refine ev_iload_n rfl hC d_Mod_atEvent_5 ?_
  refine ev_iadd hC d_Mod_atEvent_6 ?_
  exact ev_iret hC hR d_Mod_atEvent_7 rfl (by rw [pk_mul, nI_add, nI_add]) (rfl)

set_option maxHeartbeats 2000000 in
set_option maxRecDepth 10000 in
theorem c_Mod_oneIs {G : ex_G} {M : ex_M} {p f : Nat} (hp : p < 8) (hf : f < 7) : Con G Y_Mod_oneIs 1 21 0 0 [.ref (ex_b G + 71), .int (nI p), .int (nI f)] (ce G M) (some (.int (M.1 10 (28 + 7 * p + f)))) (ce G (M)) := by
  refine Con.ofF (plainFor_of_name (by decide +kernel)) (Nat.le_of_ble_eq_true rfl) (fun C hC hR => ?_)
  show Ev G C Y_Mod_oneIs 0 [some (.ref (ex_b G + 71)), some (.int (nI p)), some (.int (nI f))] [] 0 0 (ce G M)
  refine ev_aload_n rfl hC d_Mod_oneIs_0 ?_
  refine gv_Mod_now hC d_Mod_oneIs_1 fl_Mod_9  ?_
  refine ev_iload_n rfl hC d_Mod_oneIs_4 ?_
  refine ev_iload_n rfl hC d_Mod_oneIs_5 ?_
  refine cs_1 hC d_Mod_oneIs_6 (c_Mod_at ) mi_Mod_at ml_Mod_76 sm_Mod_at ⟨Nat.le_of_ble_eq_true rfl, Nat.le_of_ble_eq_true rfl⟩ ⟨Nat.le_of_ble_eq_true rfl, Nat.le_of_ble_eq_true rfl⟩ rfl rfl (Nat.le_of_ble_eq_true rfl) ?_
  refine ga_now hC d_Mod_oneIs_9 (by first | assumption | omega) ?_
  exact ev_iret hC hR d_Mod_oneIs_10 rfl (rfl) (rfl)

set_option maxHeartbeats 2000000 in
set_option maxRecDepth 10000 in
theorem c_Mod_eventIs {G : ex_G} {M : ex_M} {p f : Nat} (hp : p < 8) (hf : f < 3) : Con G Y_Mod_eventIs 1 21 0 0 [.ref (ex_b G + 71), .int (nI p), .int (nI f)] (ce G M) (some (.int (M.1 10 (4 + 3 * p + f)))) (ce G (M)) := by
  refine Con.ofF (plainFor_of_name (by decide +kernel)) (Nat.le_of_ble_eq_true rfl) (fun C hC hR => ?_)
  show Ev G C Y_Mod_eventIs 0 [some (.ref (ex_b G + 71)), some (.int (nI p)), some (.int (nI f))] [] 0 0 (ce G M)
  refine ev_aload_n rfl hC d_Mod_eventIs_0 ?_
  refine gv_Mod_now hC d_Mod_eventIs_1 fl_Mod_9  ?_
  refine ev_iload_n rfl hC d_Mod_eventIs_4 ?_
  refine ev_iload_n rfl hC d_Mod_eventIs_5 ?_
  refine cs_1 hC d_Mod_eventIs_6 (c_Mod_atEvent ) mi_Mod_atEvent ml_Mod_72 sm_Mod_atEvent ⟨Nat.le_of_ble_eq_true rfl, Nat.le_of_ble_eq_true rfl⟩ ⟨Nat.le_of_ble_eq_true rfl, Nat.le_of_ble_eq_true rfl⟩ rfl rfl (Nat.le_of_ble_eq_true rfl) ?_
  refine ga_now hC d_Mod_eventIs_9 (by first | assumption | omega) ?_
  exact ev_iret hC hR d_Mod_eventIs_10 rfl (rfl) (rfl)

set_option maxHeartbeats 2000000 in
set_option maxRecDepth 10000 in
theorem c_Mod_isWorth {G : ex_G} {M : ex_M} {v : Int32} : Con G Y_Mod_isWorth 1 22 0 0 [.int v] (ce G M) (some (.int (bi (!(out v (-99) 99))))) (ce G (M)) := by
  refine Con.ofF (plainFor_of_name (by decide +kernel)) (Nat.le_of_ble_eq_true rfl) (fun C hC hR => ?_)
  show Ev G C Y_Mod_isWorth 0 [some (.int v)] [] 0 0 (ce G M)
  refine ev_iload_n rfl hC d_Mod_isWorth_0 ?_
  refine ev_bipush (v := -99) rfl hC d_Mod_isWorth_1 ?_
  refine ev_bipush (v := 99) rfl hC d_Mod_isWorth_3 ?_
  refine cs_1 hC d_Mod_isWorth_5 (c_Mod_within ) mi_Mod_within ml_Mod_68 sm_Mod_within ⟨Nat.le_of_ble_eq_true rfl, Nat.le_of_ble_eq_true rfl⟩ ⟨Nat.le_of_ble_eq_true rfl, Nat.le_of_ble_eq_true rfl⟩ rfl rfl (Nat.le_of_ble_eq_true rfl) ?_
  exact ev_zret hC hR d_Mod_isWorth_8 rfl (by first | exact bi_nar _ | decide) (rfl) (rfl)

set_option maxHeartbeats 2000000 in
set_option maxRecDepth 10000 in
theorem c_Mod_isKind {G : ex_G} {M : ex_M} {v : Int32} : Con G Y_Mod_isKind 1 22 0 0 [.int v] (ce G M) (some (.int (bi (!(out v 0 5))))) (ce G (M)) := by
  refine Con.ofF (plainFor_of_name (by decide +kernel)) (Nat.le_of_ble_eq_true rfl) (fun C hC hR => ?_)
  show Ev G C Y_Mod_isKind 0 [some (.int v)] [] 0 0 (ce G M)
  refine ev_iload_n rfl hC d_Mod_isKind_0 ?_
  refine ev_iconst (v := 0) rfl hC d_Mod_isKind_1 ?_
  refine ev_iconst (v := 5) rfl hC d_Mod_isKind_2 ?_
  refine cs_1 hC d_Mod_isKind_3 (c_Mod_within ) mi_Mod_within ml_Mod_68 sm_Mod_within ⟨Nat.le_of_ble_eq_true rfl, Nat.le_of_ble_eq_true rfl⟩ ⟨Nat.le_of_ble_eq_true rfl, Nat.le_of_ble_eq_true rfl⟩ rfl rfl (Nat.le_of_ble_eq_true rfl) ?_
  exact ev_zret hC hR d_Mod_isKind_6 rfl (by first | exact bi_nar _ | decide) (rfl) (rfl)

set_option maxHeartbeats 2000000 in
set_option maxRecDepth 10000 in
theorem c_Mod_isSheet {G : ex_G} {M : ex_M} {v : Int32} : Con G Y_Mod_isSheet 1 22 0 0 [.int v] (ce G M) (some (.int (bi (!(out v 0 3))))) (ce G (M)) := by
  refine Con.ofF (plainFor_of_name (by decide +kernel)) (Nat.le_of_ble_eq_true rfl) (fun C hC hR => ?_)
  show Ev G C Y_Mod_isSheet 0 [some (.int v)] [] 0 0 (ce G M)
  refine ev_iload_n rfl hC d_Mod_isSheet_0 ?_
  refine ev_iconst (v := 0) rfl hC d_Mod_isSheet_1 ?_
  refine ev_iconst (v := 3) rfl hC d_Mod_isSheet_2 ?_
  refine cs_1 hC d_Mod_isSheet_3 (c_Mod_within ) mi_Mod_within ml_Mod_68 sm_Mod_within ⟨Nat.le_of_ble_eq_true rfl, Nat.le_of_ble_eq_true rfl⟩ ⟨Nat.le_of_ble_eq_true rfl, Nat.le_of_ble_eq_true rfl⟩ rfl rfl (Nat.le_of_ble_eq_true rfl) ?_
  exact ev_zret hC hR d_Mod_isSheet_6 rfl (by first | exact bi_nar _ | decide) (rfl) (rfl)

set_option maxHeartbeats 2000000 in
set_option maxRecDepth 10000 in
theorem c_Day_noSheet {G : ex_G} {M : ex_M} {v : Int32} : Con G Y_Day_noSheet 1 22 0 0 [.int v] (ce G M) (some (.int (bi (out v 0 3)))) (ce G (M)) := by
  refine Con.ofF (plainFor_of_name (by decide +kernel)) (Nat.le_of_ble_eq_true rfl) (fun C hC hR => ?_)
  show Ev G C Y_Day_noSheet 0 [some (.int v)] [] 0 0 (ce G M)
  refine ev_iload_n rfl hC d_Day_noSheet_0 ?_
  refine ev_iconst (v := 0) rfl hC d_Day_noSheet_1 ?_
  refine ev_iconst (v := 3) rfl hC d_Day_noSheet_2 ?_
  refine cs_1 hC d_Day_noSheet_3 (c_Day_outside ) mi_Day_outside ml_Day_51 sm_Day_outside ⟨Nat.le_of_ble_eq_true rfl, Nat.le_of_ble_eq_true rfl⟩ ⟨Nat.le_of_ble_eq_true rfl, Nat.le_of_ble_eq_true rfl⟩ rfl rfl (Nat.le_of_ble_eq_true rfl) ?_
  exact ev_zret hC hR d_Day_noSheet_6 rfl (by first | exact bi_nar _ | decide) (rfl) (rfl)

set_option maxHeartbeats 2000000 in
set_option maxRecDepth 10000 in
theorem c_Mod_isOne {G : ex_G} {M : ex_M} {v : Int32} : Con G Y_Mod_isOne 1 22 0 0 [.ref (ex_b G + 71), .int v] (ce G M) (some (.int (bi (!(out v 0 (M.1 10 3 - 1)))))) (ce G (M)) := by
  refine Con.ofF (plainFor_of_name (by decide +kernel)) (Nat.le_of_ble_eq_true rfl) (fun C hC hR => ?_)
  show Ev G C Y_Mod_isOne 0 [some (.ref (ex_b G + 71)), some (.int v)] [] 0 0 (ce G M)
  refine ev_iload_n rfl hC d_Mod_isOne_0 ?_
  refine ev_iconst (v := 0) rfl hC d_Mod_isOne_1 ?_
  refine ev_aload_n rfl hC d_Mod_isOne_2 ?_
  refine gv_Mod_now hC d_Mod_isOne_3 fl_Mod_9  ?_
  refine ev_iconst (v := nI 3) rfl hC d_Mod_isOne_6 ?_
  refine ga_now hC d_Mod_isOne_7 (by first | assumption | omega) ?_
  refine ev_iconst (v := 1) rfl hC d_Mod_isOne_8 ?_
  refine ev_isub hC d_Mod_isOne_9 ?_
  refine cs_1 hC d_Mod_isOne_10 (c_Mod_within ) mi_Mod_within ml_Mod_68 sm_Mod_within ⟨Nat.le_of_ble_eq_true rfl, Nat.le_of_ble_eq_true rfl⟩ ⟨Nat.le_of_ble_eq_true rfl, Nat.le_of_ble_eq_true rfl⟩ rfl rfl (Nat.le_of_ble_eq_true rfl) ?_
  exact ev_zret hC hR d_Mod_isOne_13 rfl (by first | exact bi_nar _ | decide) (rfl) (rfl)

set_option maxHeartbeats 2000000 in
set_option maxRecDepth 10000 in
theorem c_Mod_isEvent {G : ex_G} {M : ex_M} {v : Int32} : Con G Y_Mod_isEvent 1 22 0 0 [.ref (ex_b G + 71), .int v] (ce G M) (some (.int (bi (!(out v 0 (M.1 10 2 - 1)))))) (ce G (M)) := by
  refine Con.ofF (plainFor_of_name (by decide +kernel)) (Nat.le_of_ble_eq_true rfl) (fun C hC hR => ?_)
  show Ev G C Y_Mod_isEvent 0 [some (.ref (ex_b G + 71)), some (.int v)] [] 0 0 (ce G M)
  refine ev_iload_n rfl hC d_Mod_isEvent_0 ?_
  refine ev_iconst (v := 0) rfl hC d_Mod_isEvent_1 ?_
  refine ev_aload_n rfl hC d_Mod_isEvent_2 ?_
  refine gv_Mod_now hC d_Mod_isEvent_3 fl_Mod_9  ?_
  refine ev_iconst (v := nI 2) rfl hC d_Mod_isEvent_6 ?_
  refine ga_now hC d_Mod_isEvent_7 (by first | assumption | omega) ?_
  refine ev_iconst (v := 1) rfl hC d_Mod_isEvent_8 ?_
  refine ev_isub hC d_Mod_isEvent_9 ?_
  refine cs_1 hC d_Mod_isEvent_10 (c_Mod_within ) mi_Mod_within ml_Mod_68 sm_Mod_within ⟨Nat.le_of_ble_eq_true rfl, Nat.le_of_ble_eq_true rfl⟩ ⟨Nat.le_of_ble_eq_true rfl, Nat.le_of_ble_eq_true rfl⟩ rfl rfl (Nat.le_of_ble_eq_true rfl) ?_
  exact ev_zret hC hR d_Mod_isEvent_13 rfl (by first | exact bi_nar _ | decide) (rfl) (rfl)

set_option maxHeartbeats 2000000 in
set_option maxRecDepth 10000 in
theorem c_Day_noOne {G : ex_G} {M : ex_M} {v : Int32} : Con G Y_Day_noOne 1 22 0 0 [.ref (ex_b G + 0), .int v] (ce G M) (some (.int (bi (out v 0 (M.1 0 3 - 1))))) (ce G (M)) := by
  refine Con.ofF (plainFor_of_name (by decide +kernel)) (Nat.le_of_ble_eq_true rfl) (fun C hC hR => ?_)
  show Ev G C Y_Day_noOne 0 [some (.ref (ex_b G + 0)), some (.int v)] [] 0 0 (ce G M)
  refine ev_iload_n rfl hC d_Day_noOne_0 ?_
  refine ev_iconst (v := 0) rfl hC d_Day_noOne_1 ?_
  refine ev_aload_n rfl hC d_Day_noOne_2 ?_
  refine gv_Day_present hC d_Day_noOne_3 fl_Day_12  ?_
  refine gn_River_peopleCount hC d_Day_noOne_6 fl_Day_223 (by first | assumption | decide) ?_
  refine ev_iconst (v := 1) rfl hC d_Day_noOne_9 ?_
  refine ev_isub hC d_Day_noOne_10 ?_
  refine cs_1 hC d_Day_noOne_11 (c_Day_outside ) mi_Day_outside ml_Day_51 sm_Day_outside ⟨Nat.le_of_ble_eq_true rfl, Nat.le_of_ble_eq_true rfl⟩ ⟨Nat.le_of_ble_eq_true rfl, Nat.le_of_ble_eq_true rfl⟩ rfl rfl (Nat.le_of_ble_eq_true rfl) ?_
  exact ev_zret hC hR d_Day_noOne_14 rfl (by first | exact bi_nar _ | decide) (rfl) (rfl)

set_option maxHeartbeats 2000000 in
set_option maxRecDepth 10000 in
theorem c_Day_noEvent {G : ex_G} {M : ex_M} {v : Int32} : Con G Y_Day_noEvent 1 22 0 0 [.ref (ex_b G + 0), .int v] (ce G M) (some (.int (bi (out v 0 (M.1 0 2 - 1))))) (ce G (M)) := by
  refine Con.ofF (plainFor_of_name (by decide +kernel)) (Nat.le_of_ble_eq_true rfl) (fun C hC hR => ?_)
  show Ev G C Y_Day_noEvent 0 [some (.ref (ex_b G + 0)), some (.int v)] [] 0 0 (ce G M)
  refine ev_iload_n rfl hC d_Day_noEvent_0 ?_
  refine ev_iconst (v := 0) rfl hC d_Day_noEvent_1 ?_
  refine ev_aload_n rfl hC d_Day_noEvent_2 ?_
  refine gv_Day_present hC d_Day_noEvent_3 fl_Day_12  ?_
  refine gn_River_eventCount hC d_Day_noEvent_6 fl_Day_214 (by first | assumption | decide) ?_
  refine ev_iconst (v := 1) rfl hC d_Day_noEvent_9 ?_
  refine ev_isub hC d_Day_noEvent_10 ?_
  refine cs_1 hC d_Day_noEvent_11 (c_Day_outside ) mi_Day_outside ml_Day_51 sm_Day_outside ⟨Nat.le_of_ble_eq_true rfl, Nat.le_of_ble_eq_true rfl⟩ ⟨Nat.le_of_ble_eq_true rfl, Nat.le_of_ble_eq_true rfl⟩ rfl rfl (Nat.le_of_ble_eq_true rfl) ?_
  exact ev_zret hC hR d_Day_noEvent_14 rfl (by first | exact bi_nar _ | decide) (rfl) (rfl)
