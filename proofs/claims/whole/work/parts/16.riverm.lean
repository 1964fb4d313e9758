set_option maxHeartbeats 2000000 in
set_option maxRecDepth 10000 in
theorem c_One_become_x {G : ex_G} {M : ex_M} {r r2 i j : Nat} (hr : r < 3) (hi : i < 8) (hr2 : r2 < 3) (hj : j < 8) (hne : r2 ≠ r) : Con G Y_One_become 0 0 0 0 [.ref (ex_b G + aO r i), .ref (ex_b G + aO r2 j)] (ce G M) (none) (ce G (mI M r (oCpy (M.1 r) i (M.1 r2) j))) := by
  refine Con.ofF (plainFor_of_name (by decide +kernel)) (Nat.le_of_ble_eq_true rfl) (fun C hC hR => ?_)
  show Ev G C Y_One_become 0 [some (.ref (ex_b G + aO r i)), some (.ref (ex_b G + aO r2 j))] [] 0 0 (ce G M)
  refine ev_aload_n rfl hC d_One_become_0 ?_
  refine ev_aload_n rfl hC d_One_become_1 ?_
  refine gv_One_kind hC d_One_become_2 fl_One_9 (by first | assumption | decide) (by first | assumption | omega) ?_
  refine pv_One_kind hC d_One_become_5 fl_One_9 (by first | assumption | decide) (by first | assumption | omega) ?_
  refine ev_aload_n rfl hC d_One_become_8 ?_
  refine ev_aload_n rfl hC d_One_become_9 ?_
  refine gv_One_bank hC d_One_become_10 fl_One_15 (by first | assumption | decide) (by first | assumption | omega) ?_
  refine pv_One_bank hC d_One_become_13 fl_One_15 (by first | assumption | decide) (by first | assumption | omega) ?_
  refine ev_aload_n rfl hC d_One_become_16 ?_
  refine ev_aload_n rfl hC d_One_become_17 ?_
  refine gv_One_purse hC d_One_become_18 fl_One_18 (by first | assumption | decide) (by first | assumption | omega) ?_
  refine pv_One_purse hC d_One_become_21 fl_One_18 (by first | assumption | decide) (by first | assumption | omega) ?_
  refine ev_aload_n rfl hC d_One_become_24 ?_
  refine ev_aload_n rfl hC d_One_become_25 ?_
  refine gv_One_goes hC d_One_become_26 fl_One_21 (by first | assumption | decide) (by first | assumption | omega) ?_
  refine pv_One_goes hC d_One_become_29 fl_One_21 (by first | assumption | decide) (by first | assumption | omega) ?_
  refine ev_aload_n rfl hC d_One_become_32 ?_
  refine ev_aload_n rfl hC d_One_become_33 ?_
  refine gv_One_comes hC d_One_become_34 fl_One_24 (by first | assumption | decide) (by first | assumption | omega) ?_
  refine pv_One_comes hC d_One_become_37 fl_One_24 (by first | assumption | decide) (by first | assumption | omega) ?_
  refine ev_aload_n rfl hC d_One_become_40 ?_
  refine ev_aload_n rfl hC d_One_become_41 ?_
  refine gv_One_crossed hC d_One_become_42 fl_One_27 (by first | assumption | decide) (by first | assumption | omega) ?_
  refine pv_One_crossed hC d_One_become_45 fl_One_27 (by first | assumption | decide) (by first | assumption | omega) ?_
  refine ev_aload_n rfl hC d_One_become_48 ?_
  refine ev_aload_n rfl hC d_One_become_49 ?_
  refine gv_One_knows hC d_One_become_50 fl_One_30 (by first | assumption | decide) (by first | assumption | omega) ?_
  refine pv_One_knows hC d_One_become_53 fl_One_30 (by first | assumption | decide) (by first | assumption | omega) ?_
  exact ev_vret hC hR d_One_become_56 rfl rfl (by simp only [mI, mJ, wr_wr, wr_s, wr_n hne, oCpy])

set_option maxHeartbeats 2000000 in
set_option maxRecDepth 10000 in
theorem c_One_become_s {G : ex_G} {M : ex_M} {r i j : Nat} (hr : r < 3) (hi : i < 8) (hj : j < 8) (hne : j ≠ i) : Con G Y_One_become 0 0 0 0 [.ref (ex_b G + aO r i), .ref (ex_b G + aO r j)] (ce G M) (none) (ce G (mI M r (oCpy (M.1 r) i (M.1 r) j))) := by
  refine Con.ofF (plainFor_of_name (by decide +kernel)) (Nat.le_of_ble_eq_true rfl) (fun C hC hR => ?_)
  show Ev G C Y_One_become 0 [some (.ref (ex_b G + aO r i)), some (.ref (ex_b G + aO r j))] [] 0 0 (ce G M)
  have ee : ∀ (a : Nat → Int32) (v : Int32) (f g : Nat), f < 7 → g < 7 → upd a (28 + 7 * i + f) v (28 + 7 * j + g) = a (28 + 7 * j + g) := fun a v f g hf hg => ud_n (by omega)
  refine ev_aload_n rfl hC d_One_become_0 ?_
  refine ev_aload_n rfl hC d_One_become_1 ?_
  refine gv_One_kind hC d_One_become_2 fl_One_9 (by first | assumption | decide) (by first | assumption | omega) ?_
  refine pv_One_kind hC d_One_become_5 fl_One_9 (by first | assumption | decide) (by first | assumption | omega) ?_
  refine ev_aload_n rfl hC d_One_become_8 ?_
  refine ev_aload_n rfl hC d_One_become_9 ?_
  refine gv_One_bank hC d_One_become_10 fl_One_15 (by first | assumption | decide) (by first | assumption | omega) ?_
  refine pv_One_bank hC d_One_become_13 fl_One_15 (by first | assumption | decide) (by first | assumption | omega) ?_
  refine ev_aload_n rfl hC d_One_become_16 ?_
  refine ev_aload_n rfl hC d_One_become_17 ?_
  refine gv_One_purse hC d_One_become_18 fl_One_18 (by first | assumption | decide) (by first | assumption | omega) ?_
  refine pv_One_purse hC d_One_become_21 fl_One_18 (by first | assumption | decide) (by first | assumption | omega) ?_
  refine ev_aload_n rfl hC d_One_become_24 ?_
  refine ev_aload_n rfl hC d_One_become_25 ?_
  refine gv_One_goes hC d_One_become_26 fl_One_21 (by first | assumption | decide) (by first | assumption | omega) ?_
  refine pv_One_goes hC d_One_become_29 fl_One_21 (by first | assumption | decide) (by first | assumption | omega) ?_
  refine ev_aload_n rfl hC d_One_become_32 ?_
  refine ev_aload_n rfl hC d_One_become_33 ?_
  refine gv_One_comes hC d_One_become_34 fl_One_24 (by first | assumption | decide) (by first | assumption | omega) ?_
  refine pv_One_comes hC d_One_become_37 fl_One_24 (by first | assumption | decide) (by first | assumption | omega) ?_
  refine ev_aload_n rfl hC d_One_become_40 ?_
  refine ev_aload_n rfl hC d_One_become_41 ?_
  refine gv_One_crossed hC d_One_become_42 fl_One_27 (by first | assumption | decide) (by first | assumption | omega) ?_
  refine pv_One_crossed hC d_One_become_45 fl_One_27 (by first | assumption | decide) (by first | assumption | omega) ?_
  refine ev_aload_n rfl hC d_One_become_48 ?_
  refine ev_aload_n rfl hC d_One_become_49 ?_
  refine gv_One_knows hC d_One_become_50 fl_One_30 (by first | assumption | decide) (by first | assumption | omega) ?_
  refine pv_One_knows hC d_One_become_53 fl_One_30 (by first | assumption | decide) (by first | assumption | omega) ?_
  exact ev_vret hC hR d_One_become_56 rfl rfl (by simp only [mI, mJ, wr_wr, wr_s, oCpy, ee, Nat.reduceLT])

set_option maxHeartbeats 2000000 in
set_option maxRecDepth 10000 in
theorem c_Event_become {G : ex_G} {M : ex_M} {r r2 i j : Nat} (hr : r < 3) (hi : i < 8) (hr2 : r2 < 3) (hj : j < 8) (hne : r2 ≠ r) (hm : M.1 r2 (4 + 3 * j + 2) = 0 ∨ M.1 r2 (4 + 3 * j + 2) = 1) : Con G Y_Event_become 0 0 0 0 [.ref (ex_b G + aE r i), .ref (ex_b G + aE r2 j)] (ce G M) (none) (ce G (mI M r (eCpy (M.1 r) i (M.1 r2) j))) := by
  refine Con.ofF (plainFor_of_name (by decide +kernel)) (Nat.le_of_ble_eq_true rfl) (fun C hC hR => ?_)
  show Ev G C Y_Event_become 0 [some (.ref (ex_b G + aE r i)), some (.ref (ex_b G + aE r2 j))] [] 0 0 (ce G M)
  refine ev_aload_n rfl hC d_Event_become_0 ?_
  refine ev_aload_n rfl hC d_Event_become_1 ?_
  refine gv_Event_hour hC d_Event_become_2 fl_Event_9 (by first | assumption | decide) (by first | assumption | omega) ?_
  refine pv_Event_hour hC d_Event_become_5 fl_Event_9 (by first | assumption | decide) (by first | assumption | omega) ?_
  refine ev_aload_n rfl hC d_Event_become_8 ?_
  refine ev_aload_n rfl hC d_Event_become_9 ?_
  refine gv_Event_worth hC d_Event_become_10 fl_Event_15 (by first | assumption | decide) (by first | assumption | omega) ?_
  refine pv_Event_worth hC d_Event_become_13 fl_Event_15 (by first | assumption | decide) (by first | assumption | omega) ?_
  refine ev_aload_n rfl hC d_Event_become_16 ?_
  refine ev_aload_n rfl hC d_Event_become_17 ?_
  refine gv_Event_met hC d_Event_become_18 fl_Event_18 (by first | assumption | decide) (by first | assumption | omega) ?_
  have hm2 : (mJ (mJ M r (4 + 3 * i + 0) (M.1 r2 (4 + 3 * j + 0))) r (4 + 3 * i + 1) ((mJ M r (4 + 3 * i + 0) (M.1 r2 (4 + 3 * j + 0))).1 r2 (4 + 3 * j + 1))).1 r2 (4 + 3 * j + 2) = 0 ∨ (mJ (mJ M r (4 + 3 * i + 0) (M.1 r2 (4 + 3 * j + 0))) r (4 + 3 * i + 1) ((mJ M r (4 + 3 * i + 0) (M.1 r2 (4 + 3 * j + 0))).1 r2 (4 + 3 * j + 1))).1 r2 (4 + 3 * j + 2) = 1 := by simp only [mJ, wr_n hne]; exact hm
  refine pv_Event_met (by first | exact Or.inl rfl | exact Or.inr rfl | exact bi_or _ | assumption) hC d_Event_become_21 fl_Event_18 (by first | assumption | decide) (by first | assumption | omega) ?_
  exact ev_vret hC hR d_Event_become_24 rfl rfl (by simp only [mI, mJ, wr_wr, wr_s, wr_n hne, eCpy])

set_option maxHeartbeats 2000000 in
set_option maxRecDepth 10000 in
theorem c_River_hasAllPeople {G : ex_G} {M : ex_M} {r : Nat} (hr : r < 3) : Con G Y_River_hasAllPeople 0 0 0 0 [.ref (ex_b G + aR r)] (ce G M) (some (.int (bi (!decide (M.1 r 3 < 8))))) (ce G (M)) := by
  refine Con.ofF (plainFor_of_name (by decide +kernel)) (Nat.le_of_ble_eq_true rfl) (fun C hC hR => ?_)
  show Ev G C Y_River_hasAllPeople 0 [some (.ref (ex_b G + aR r))] [] 0 0 (ce G M)
  refine ev_aload_n rfl hC d_River_hasAllPeople_0 ?_
  refine gv_River_peopleCount hC d_River_hasAllPeople_1 fl_River_18 (by first | assumption | decide) ?_
  refine ev_bipush (v := 8) rfl hC d_River_hasAllPeople_4 ?_
  refine ev_icmp_lt 13 hC d_River_hasAllPeople_6 rfl (fun h_6 => ?_) (fun h_6 => ?_)
  · refine ev_iconst (v := 0) rfl hC d_River_hasAllPeople_13 ?_
    exact ev_zret hC hR d_River_hasAllPeople_14 rfl (by first | exact bi_nar _ | decide) (by simp_all [bi]) (rfl)
  · refine ev_iconst (v := 1) rfl hC d_River_hasAllPeople_9 ?_
    refine ev_goto 14 hC d_River_hasAllPeople_10 rfl ?_
    exact ev_zret hC hR d_River_hasAllPeople_14 rfl (by first | exact bi_nar _ | decide) (by simp_all [bi]) (rfl)

set_option maxHeartbeats 2000000 in
set_option maxRecDepth 10000 in
theorem c_River_hasAllEvents {G : ex_G} {M : ex_M} {r : Nat} (hr : r < 3) : Con G Y_River_hasAllEvents 0 0 0 0 [.ref (ex_b G + aR r)] (ce G M) (some (.int (bi (!decide (M.1 r 2 < 8))))) (ce G (M)) := by
  refine Con.ofF (plainFor_of_name (by decide +kernel)) (Nat.le_of_ble_eq_true rfl) (fun C hC hR => ?_)
  show Ev G C Y_River_hasAllEvents 0 [some (.ref (ex_b G + aR r))] [] 0 0 (ce G M)
  refine ev_aload_n rfl hC d_River_hasAllEvents_0 ?_
  refine gv_River_eventCount hC d_River_hasAllEvents_1 fl_River_21 (by first | assumption | decide) ?_
  refine ev_bipush (v := 8) rfl hC d_River_hasAllEvents_4 ?_
  refine ev_icmp_lt 13 hC d_River_hasAllEvents_6 rfl (fun h_6 => ?_) (fun h_6 => ?_)
  · refine ev_iconst (v := 0) rfl hC d_River_hasAllEvents_13 ?_
    exact ev_zret hC hR d_River_hasAllEvents_14 rfl (by first | exact bi_nar _ | decide) (by simp_all [bi]) (rfl)
  · refine ev_iconst (v := 1) rfl hC d_River_hasAllEvents_9 ?_
    refine ev_goto 14 hC d_River_hasAllEvents_10 rfl ?_
    exact ev_zret hC hR d_River_hasAllEvents_14 rfl (by first | exact bi_nar _ | decide) (by simp_all [bi]) (rfl)

set_option maxHeartbeats 2000000 in
set_option maxRecDepth 10000 in
theorem c_River_addOne {G : ex_G} {M : ex_M} {r n : Nat} {k b : Int32} (hr : r < 3) (hn : n < 8) (hc : M.1 r 3 = nI n) : Con G Y_River_addOne 1 22 0 0 [.ref (ex_b G + aR r), .int k, .int b] (ce G M) (some (.int (nI n))) (ce G (mI M r (upd (oBeg (M.1 r) n k b) 3 (nI (n + 1))))) := by
  refine Con.ofF (plainFor_of_name (by decide +kernel)) (Nat.le_of_ble_eq_true rfl) (fun C hC hR => ?_)
  show Ev G C Y_River_addOne 0 [some (.ref (ex_b G + aR r)), some (.int k), some (.int b)] [] 0 0 (ce G M)
  refine ev_aload_n rfl hC d_River_addOne_0 ?_
  refine gv_River_people hC d_River_addOne_1 fl_River_26 (by first | assumption | decide) ?_
  refine ev_aload_n rfl hC d_River_addOne_4 ?_
  refine gv_River_peopleCount hC d_River_addOne_5 fl_River_18 (by first | assumption | decide) ?_
  rw [hc]
  refine gr_people hC d_River_addOne_8 (by first | assumption | decide) (by first | assumption | omega) ?_
  refine ev_iload_n rfl hC d_River_addOne_9 ?_
  refine ev_iload_n rfl hC d_River_addOne_10 ?_
  refine cv_One0 hC d_River_addOne_11 (c_One_begin (by first | assumption | omega) (by first | assumption | omega)) mi_One_begin ml_River_45 im_One_begin se_One_begin rfl ⟨Nat.le_of_ble_eq_true rfl, Nat.le_of_ble_eq_true rfl⟩ ⟨Nat.le_of_ble_eq_true rfl, Nat.le_of_ble_eq_true rfl⟩ rfl rfl (Nat.le_of_ble_eq_true rfl) (by first | assumption | decide) (by first | assumption | omega) ?_
  refine ev_aload_n rfl hC d_River_addOne_14 ?_
  refine ev_dup rfl hC d_River_addOne_15 ?_
  refine gv_River_peopleCount hC d_River_addOne_16 fl_River_18 (by first | assumption | decide) ?_
  refine ev_iconst (v := 1) rfl hC d_River_addOne_19 ?_
  refine ev_iadd hC d_River_addOne_20 ?_
  refine pv_River_peopleCount hC d_River_addOne_21 fl_River_18 (by first | assumption | decide) ?_
  refine ev_aload_n rfl hC d_River_addOne_24 ?_
  refine gv_River_peopleCount hC d_River_addOne_25 fl_River_18 (by first | assumption | decide) ?_
  refine ev_iconst (v := 1) rfl hC d_River_addOne_28 ?_
  refine ev_isub hC d_River_addOne_29 ?_
  exact ev_iret hC hR d_River_addOne_30 rfl (by simp [mI, mJ, wr_s, ud_s, oBeg_lo, hc, nI_1, nI_pred]) (by simp [mI, mJ, wr_wr, wr_s, oBeg_lo, hc, nI_1])

set_option maxHeartbeats 2000000 in
set_option maxRecDepth 10000 in
theorem c_River_addEvent {G : ex_G} {M : ex_M} {r n : Nat} {h w : Int32} (hr : r < 3) (hn : n < 8) (hc : M.1 r 2 = nI n) : Con G Y_River_addEvent 1 22 0 0 [.ref (ex_b G + aR r), .int h, .int w] (ce G M) (some (.int (nI n))) (ce G (mI M r (upd (eBeg (M.1 r) n h w) 2 (nI (n + 1))))) := by
  refine Con.ofF (plainFor_of_name (by decide +kernel)) (Nat.le_of_ble_eq_true rfl) (fun C hC hR => ?_)
  show Ev G C Y_River_addEvent 0 [some (.ref (ex_b G + aR r)), some (.int h), some (.int w)] [] 0 0 (ce G M)
  refine ev_aload_n rfl hC d_River_addEvent_0 ?_
  refine gv_River_events hC d_River_addEvent_1 fl_River_33 (by first | assumption | decide) ?_
  refine ev_aload_n rfl hC d_River_addEvent_4 ?_
  refine gv_River_eventCount hC d_River_addEvent_5 fl_River_21 (by first | assumption | decide) ?_
  rw [hc]
  refine gr_events hC d_River_addEvent_8 (by first | assumption | decide) (by first | assumption | omega) ?_
  refine ev_iload_n rfl hC d_River_addEvent_9 ?_
  refine ev_iload_n rfl hC d_River_addEvent_10 ?_
  refine cv_Event0 hC d_River_addEvent_11 (c_Event_begin (by first | assumption | omega) (by first | assumption | omega)) mi_Event_begin ml_River_49 im_Event_begin se_Event_begin rfl ⟨Nat.le_of_ble_eq_true rfl, Nat.le_of_ble_eq_true rfl⟩ ⟨Nat.le_of_ble_eq_true rfl, Nat.le_of_ble_eq_true rfl⟩ rfl rfl (Nat.le_of_ble_eq_true rfl) (by first | assumption | decide) (by first | assumption | omega) ?_
  refine ev_aload_n rfl hC d_River_addEvent_14 ?_
  refine ev_dup rfl hC d_River_addEvent_15 ?_
  refine gv_River_eventCount hC d_River_addEvent_16 fl_River_21 (by first | assumption | decide) ?_
  refine ev_iconst (v := 1) rfl hC d_River_addEvent_19 ?_
  refine ev_iadd hC d_River_addEvent_20 ?_
  refine pv_River_eventCount hC d_River_addEvent_21 fl_River_21 (by first | assumption | decide) ?_
  refine ev_aload_n rfl hC d_River_addEvent_24 ?_
  refine gv_River_eventCount hC d_River_addEvent_25 fl_River_21 (by first | assumption | decide) ?_
  refine ev_iconst (v := 1) rfl hC d_River_addEvent_28 ?_
  refine ev_isub hC d_River_addEvent_29 ?_
  exact ev_iret hC hR d_River_addEvent_30 rfl (by simp [mI, mJ, wr_s, ud_s, eBeg_lo, hc, nI_1, nI_pred]) (by simp [mI, mJ, wr_wr, wr_s, eBeg_lo, hc, nI_1])

set_option maxHeartbeats 4000000 in
set_option maxRecDepth 10000 in
theorem lp_River_letCross {G : ex_G} {C : ex_C} {ee : List va_E} {r n : Nat} {c : Int32} (hn : n ≤ 8) (hr : r < 3) (hC : Cx G C Y_River_letCross { frames := 1, cells := 0, slots := 0, locals := 21 }) (hR : Cr G C Y_River_letCross 0 0 none ee) :
    ∀ (m i : Nat) (M : ex_M), i + m = n → M.1 r 3 = nI n → ee = ce G (mI M r (rp (fCross c) m i (M.1 r))) → Ev G C Y_River_letCross 2 [some (.ref (ex_b G + aR r)), some (.int c), some (.int (nI i))] [] 0 0 (ce G (M)) := by
  intro m
  induction m with
  | zero =>
    intro i M hm hc he
    refine ev_iload_n rfl hC d_River_letCross_2 ?_
    refine ev_aload_n rfl hC d_River_letCross_3 ?_
    refine gv_River_peopleCount hC d_River_letCross_4 fl_River_18 (by first | assumption | decide) ?_
    refine ev_icmp_ge 58 hC d_River_letCross_7 rfl (fun _ => ?_) (fun h => absurd (by rw [hc]; exact nI_le (by omega) (by omega)) h)
    exact ev_vret hC hR d_River_letCross_58 rfl rfl (by rw [he, rp, mI_id])
  | succ m ih =>
    intro i M hm hc he
    have hi : i < 8 := by omega
    refine ev_iload_n rfl hC d_River_letCross_2 ?_
    refine ev_aload_n rfl hC d_River_letCross_3 ?_
    refine gv_River_peopleCount hC d_River_letCross_4 fl_River_18 (by first | assumption | decide) ?_
    refine ev_icmp_ge 58 hC d_River_letCross_7 rfl (fun h => absurd h (by rw [hc]; exact nI_ge (by omega) (by omega))) (fun _ => ?_)
    refine ev_aload_n rfl hC d_River_letCross_10 ?_
    refine gv_River_people hC d_River_letCross_11 fl_River_26 (by first | assumption | decide) ?_
    refine ev_iload_n rfl hC d_River_letCross_14 ?_
    refine gr_people hC d_River_letCross_15 (by first | assumption | decide) (by first | assumption | omega) ?_
    refine ev_iload_n rfl hC d_River_letCross_16 ?_
    refine cv_One1 hC d_River_letCross_17 (c_One_wantsOver (by first | assumption | omega) (by first | assumption | omega)) mi_One_wantsOver ml_River_71 im_One_wantsOver se_One_wantsOver rfl ⟨Nat.le_of_ble_eq_true rfl, Nat.le_of_ble_eq_true rfl⟩ ⟨Nat.le_of_ble_eq_true rfl, Nat.le_of_ble_eq_true rfl⟩ rfl rfl (Nat.le_of_ble_eq_true rfl) (by first | assumption | decide) (by first | assumption | omega) ?_
    refine eb_eq 52 hC d_River_letCross_20 rfl (fun h_20 => ?_) (fun h_20 => ?_)
    · refine ev_iinc rfl (by decide) (nI_1 _) hC d_River_letCross_52 ?_
      refine ev_goto 2 hC d_River_letCross_55 rfl ?_
      exact ih (i + 1) _ (by omega) (by exact hc) (by rw [he, rp, show fCross c i (M.1 r) = M.1 r by simp [fCross, wants, pays, h_20]])
    · refine ev_aload_n rfl hC d_River_letCross_23 ?_
      refine gv_River_people hC d_River_letCross_24 fl_River_26 (by first | assumption | decide) ?_
      refine ev_iload_n rfl hC d_River_letCross_27 ?_
      refine gr_people hC d_River_letCross_28 (by first | assumption | decide) (by first | assumption | omega) ?_
      refine ev_aload_n rfl hC d_River_letCross_29 ?_
      refine gv_River_toll hC d_River_letCross_30 fl_River_15 (by first | assumption | decide) ?_
      refine cv_One1 hC d_River_letCross_33 (c_One_canPay (by first | assumption | omega) (by first | assumption | omega)) mi_One_canPay ml_River_75 im_One_canPay se_One_canPay rfl ⟨Nat.le_of_ble_eq_true rfl, Nat.le_of_ble_eq_true rfl⟩ ⟨Nat.le_of_ble_eq_true rfl, Nat.le_of_ble_eq_true rfl⟩ rfl rfl (Nat.le_of_ble_eq_true rfl) (by first | assumption | decide) (by first | assumption | omega) ?_
      refine eb_eq 52 hC d_River_letCross_36 rfl (fun h_36 => ?_) (fun h_36 => ?_)
      · refine ev_iinc rfl (by decide) (nI_1 _) hC d_River_letCross_52 ?_
        refine ev_goto 2 hC d_River_letCross_55 rfl ?_
        exact ih (i + 1) _ (by omega) (by exact hc) (by rw [he, rp, show fCross c i (M.1 r) = M.1 r by simp [fCross, wants, pays, h_36]])
      · refine ev_aload_n rfl hC d_River_letCross_39 ?_
        refine gv_River_people hC d_River_letCross_40 fl_River_26 (by first | assumption | decide) ?_
        refine ev_iload_n rfl hC d_River_letCross_43 ?_
        refine gr_people hC d_River_letCross_44 (by first | assumption | decide) (by first | assumption | omega) ?_
        refine ev_aload_n rfl hC d_River_letCross_45 ?_
        refine gv_River_toll hC d_River_letCross_46 fl_River_15 (by first | assumption | decide) ?_
        refine cv_One0 hC d_River_letCross_49 (c_One_goOver (by first | assumption | omega) (by first | assumption | omega)) mi_One_goOver ml_River_78 im_One_goOver se_One_goOver rfl ⟨Nat.le_of_ble_eq_true rfl, Nat.le_of_ble_eq_true rfl⟩ ⟨Nat.le_of_ble_eq_true rfl, Nat.le_of_ble_eq_true rfl⟩ rfl rfl (Nat.le_of_ble_eq_true rfl) (by first | assumption | decide) (by first | assumption | omega) ?_
        refine ev_iinc rfl (by decide) (nI_1 _) hC d_River_letCross_52 ?_
        refine ev_goto 2 hC d_River_letCross_55 rfl ?_
        exact ih (i + 1) _ (by omega) (by simp only [mI, wr_s]; rw [oOver_lo (by omega)]; exact hc) (by rw [he, rp, show fCross c i (M.1 r) = oOver (M.1 r) i (M.1 r 1) by simp [fCross, wants, pays, h_20, h_36]]; simp only [mI, wr_wr, wr_s])

set_option maxHeartbeats 2000000 in
set_option maxRecDepth 10000 in
theorem c_River_letCross {G : ex_G} {M : ex_M} {r n : Nat} {c : Int32} (hn : n ≤ 8) (hr : r < 3) (hc : M.1 r 3 = nI n) : Con G Y_River_letCross 1 21 0 0 [.ref (ex_b G + aR r), .int c] (ce G M) (none) (ce G (mI M r (rp (fCross c) n 0 (M.1 r)))) := by
  refine Con.ofF (plainFor_of_name (by decide +kernel)) (Nat.le_of_ble_eq_true rfl) (fun C hC hR => ?_)
  show Ev G C Y_River_letCross 0 [some (.ref (ex_b G + aR r)), some (.int c)] [] 0 0 (ce G M)
  refine ev_iconst (v := nI 0) rfl hC d_River_letCross_0 ?_
  refine ev_istore_n (by decide) hC d_River_letCross_1 ?_
  exact lp_River_letCross hn hr hC hR n 0 M (by omega) hc rfl

set_option maxHeartbeats 4000000 in
set_option maxRecDepth 10000 in
theorem lp_River_befall {G : ex_G} {C : ex_C} {ee : List va_E} {r n e : Nat} {k : Int32} (hn : n ≤ 8) (he8 : e < 8) (hr : r < 3) (hC : Cx G C Y_River_befall { frames := 2, cells := 0, slots := 0, locals := 49 }) (hR : Cr G C Y_River_befall 0 0 none ee) :
    ∀ (m i : Nat) (M : ex_M), i + m = n → M.1 r 3 = nI n → ee = ce G (mI M r (rp (fBef e k) m i (M.1 r))) → Ev G C Y_River_befall 2 [some (.ref (ex_b G + aR r)), some (.int (nI e)), some (.int k), some (.int (nI i))] [] 0 0 (ce G (M)) := by
  intro m
  induction m with
  | zero =>
    intro i M hm hc he
    refine ev_iload_n rfl hC d_River_befall_2 ?_
    refine ev_aload_n rfl hC d_River_befall_3 ?_
    refine gv_River_peopleCount hC d_River_befall_4 fl_River_18 (by first | assumption | decide) ?_
    refine ev_icmp_ge 48 hC d_River_befall_7 rfl (fun _ => ?_) (fun h => absurd (by rw [hc]; exact nI_le (by omega) (by omega)) h)
    exact ev_vret hC hR d_River_befall_48 rfl rfl (by rw [he, rp, mI_id])
  | succ m ih =>
    intro i M hm hc he
    have hi : i < 8 := by omega
    refine ev_iload_n rfl hC d_River_befall_2 ?_
    refine ev_aload_n rfl hC d_River_befall_3 ?_
    refine gv_River_peopleCount hC d_River_befall_4 fl_River_18 (by first | assumption | decide) ?_
    refine ev_icmp_ge 48 hC d_River_befall_7 rfl (fun h => absurd h (by rw [hc]; exact nI_ge (by omega) (by omega))) (fun _ => ?_)
    refine ev_aload_n rfl hC d_River_befall_10 ?_
    refine gv_River_people hC d_River_befall_11 fl_River_26 (by first | assumption | decide) ?_
    refine ev_iload_n rfl hC d_River_befall_14 ?_
    refine gr_people hC d_River_befall_15 (by first | assumption | decide) (by first | assumption | omega) ?_
    refine gn_One_bank hC d_River_befall_16 fl_River_81 (by first | assumption | decide) (by first | assumption | omega) ?_
    refine ev_iload_n rfl hC d_River_befall_19 ?_
    refine ev_icmp_ne 42 hC d_River_befall_20 rfl (fun h_20 => ?_) (fun h_20 => ?_)
    · refine ev_iinc rfl (by decide) (nI_1 _) hC d_River_befall_42 ?_
      refine ev_goto 2 hC d_River_befall_45 rfl ?_
      exact ih (i + 1) _ (by omega) (by exact hc) (by rw [he, rp, show fBef e k i (M.1 r) = M.1 r by simp only [fBef, if_neg h_20]])
    · refine ev_aload_n rfl hC d_River_befall_23 ?_
      refine gv_River_people hC d_River_befall_24 fl_River_26 (by first | assumption | decide) ?_
      refine ev_iload_n rfl hC d_River_befall_27 ?_
      refine gr_people hC d_River_befall_28 (by first | assumption | decide) (by first | assumption | omega) ?_
      refine ev_iload_n rfl hC d_River_befall_29 ?_
      refine ev_aload_n rfl hC d_River_befall_30 ?_
      refine gv_River_events hC d_River_befall_31 fl_River_33 (by first | assumption | decide) ?_
      refine ev_iload_n rfl hC d_River_befall_34 ?_
      refine gr_events hC d_River_befall_35 (by first | assumption | decide) (by first | assumption | omega) ?_
      refine gn_Event_worth hC d_River_befall_36 fl_River_106 (by first | assumption | decide) (by first | assumption | omega) ?_
      refine cv_One0 hC d_River_befall_39 (c_One_live (by first | assumption | omega) (by first | assumption | omega)) mi_One_live ml_River_109 im_One_live se_One_live rfl ⟨Nat.le_of_ble_eq_true rfl, Nat.le_of_ble_eq_true rfl⟩ ⟨Nat.le_of_ble_eq_true rfl, Nat.le_of_ble_eq_true rfl⟩ rfl rfl (Nat.le_of_ble_eq_true rfl) (by first | assumption | decide) (by first | assumption | omega) ?_
      refine ev_iinc rfl (by decide) (nI_1 _) hC d_River_befall_42 ?_
      refine ev_goto 2 hC d_River_befall_45 rfl ?_
      exact ih (i + 1) _ (by omega) (by simp only [mI, wr_s]; rw [oLive_lo (by omega)]; exact hc) (by rw [he, rp, show fBef e k i (M.1 r) = oLive (M.1 r) i (nI e) (M.1 r (4 + 3 * e + 1)) by simp only [fBef, if_pos h_20]]; simp only [mI, wr_wr, wr_s])

set_option maxHeartbeats 2000000 in
set_option maxRecDepth 10000 in
theorem c_River_befall {G : ex_G} {M : ex_M} {r n e : Nat} {k : Int32} (hn : n ≤ 8) (he8 : e < 8) (hr : r < 3) (hc : M.1 r 3 = nI n) : Con G Y_River_befall 2 49 0 0 [.ref (ex_b G + aR r), .int (nI e), .int k] (ce G M) (none) (ce G (mI M r (rp (fBef e k) n 0 (M.1 r)))) := by
  refine Con.ofF (plainFor_of_name (by decide +kernel)) (Nat.le_of_ble_eq_true rfl) (fun C hC hR => ?_)
  show Ev G C Y_River_befall 0 [some (.ref (ex_b G + aR r)), some (.int (nI e)), some (.int k)] [] 0 0 (ce G M)
  refine ev_iconst (v := nI 0) rfl hC d_River_befall_0 ?_
  refine ev_istore_n (by decide) hC d_River_befall_1 ?_
  exact lp_River_befall hn he8 hr hC hR n 0 M (by omega) hc rfl

set_option maxHeartbeats 4000000 in
set_option maxRecDepth 10000 in
theorem lp_River_meetWhatIsKnownTo {G : ex_G} {C : ex_C} {ee : List va_E} {r n j : Nat} (hn : n ≤ 8) (hj : j < 8) (hr : r < 3) (hC : Cx G C Y_River_meetWhatIsKnownTo { frames := 1, cells := 0, slots := 0, locals := 21 }) (hR : Cr G C Y_River_meetWhatIsKnownTo 0 0 none ee) :
    ∀ (m i : Nat) (M : ex_M), i + m = n → M.1 r 2 = nI n → ee = ce G (mI M r (rp (fMeetE j) m i (M.1 r))) → Ev G C Y_River_meetWhatIsKnownTo 2 [some (.ref (ex_b G + aR r)), some (.ref (ex_b G + aO r j)), some (.int (nI i))] [] 0 0 (ce G (M)) := by
  intro m
  induction m with
  | zero =>
    intro i M hm hc he
    refine ev_iload_n rfl hC d_River_meetWhatIsKnownTo_2 ?_
    refine ev_aload_n rfl hC d_River_meetWhatIsKnownTo_3 ?_
    refine gv_River_eventCount hC d_River_meetWhatIsKnownTo_4 fl_River_21 (by first | assumption | decide) ?_
    refine ev_icmp_ge 50 hC d_River_meetWhatIsKnownTo_7 rfl (fun _ => ?_) (fun h => absurd (by rw [hc]; exact nI_le (by omega) (by omega)) h)
    exact ev_vret hC hR d_River_meetWhatIsKnownTo_50 rfl rfl (by rw [he, rp, mI_id])
  | succ m ih =>
    intro i M hm hc he
    have hi : i < 8 := by omega
    refine ev_iload_n rfl hC d_River_meetWhatIsKnownTo_2 ?_
    refine ev_aload_n rfl hC d_River_meetWhatIsKnownTo_3 ?_
    refine gv_River_eventCount hC d_River_meetWhatIsKnownTo_4 fl_River_21 (by first | assumption | decide) ?_
    refine ev_icmp_ge 50 hC d_River_meetWhatIsKnownTo_7 rfl (fun h => absurd h (by rw [hc]; exact nI_ge (by omega) (by omega))) (fun _ => ?_)
    refine ev_aload_n rfl hC d_River_meetWhatIsKnownTo_10 ?_
    refine ev_iload_n rfl hC d_River_meetWhatIsKnownTo_11 ?_
    refine cv_One1 hC d_River_meetWhatIsKnownTo_12 (c_One_hasHeard (by first | assumption | omega) (by first | assumption | omega)) mi_One_hasHeard ml_River_100 im_One_hasHeard se_One_hasHeard rfl ⟨Nat.le_of_ble_eq_true rfl, Nat.le_of_ble_eq_true rfl⟩ ⟨Nat.le_of_ble_eq_true rfl, Nat.le_of_ble_eq_true rfl⟩ rfl rfl (Nat.le_of_ble_eq_true rfl) (by first | assumption | decide) (by first | assumption | omega) ?_
    refine eb_eq 44 hC d_River_meetWhatIsKnownTo_15 rfl (fun h_15 => ?_) (fun h_15 => ?_)
    · refine ev_iinc rfl (by decide) (nI_1 _) hC d_River_meetWhatIsKnownTo_44 ?_
      refine ev_goto 2 hC d_River_meetWhatIsKnownTo_47 rfl ?_
      exact ih (i + 1) _ (by omega) (by exact hc) (by rw [he, rp, show fMeetE j i (M.1 r) = M.1 r by simp only [fMeetE, h_15, Bool.false_and, Bool.false_eq_true, if_false]])
    · refine ev_aload_n rfl hC d_River_meetWhatIsKnownTo_18 ?_
      refine gv_River_events hC d_River_meetWhatIsKnownTo_19 fl_River_33 (by first | assumption | decide) ?_
      refine ev_iload_n rfl hC d_River_meetWhatIsKnownTo_22 ?_
      refine gr_events hC d_River_meetWhatIsKnownTo_23 (by first | assumption | decide) (by first | assumption | omega) ?_
      refine ev_aload_n rfl hC d_River_meetWhatIsKnownTo_24 ?_
      refine gv_River_hour hC d_River_meetWhatIsKnownTo_25 fl_River_9 (by first | assumption | decide) ?_
      refine cv_Event1 hC d_River_meetWhatIsKnownTo_28 (c_Event_canBeMet (by first | assumption | omega) (by first | assumption | omega)) mi_Event_canBeMet ml_River_103 im_Event_canBeMet se_Event_canBeMet rfl ⟨Nat.le_of_ble_eq_true rfl, Nat.le_of_ble_eq_true rfl⟩ ⟨Nat.le_of_ble_eq_true rfl, Nat.le_of_ble_eq_true rfl⟩ rfl rfl (Nat.le_of_ble_eq_true rfl) (by first | assumption | decide) (by first | assumption | omega) ?_
      refine eb_eq 44 hC d_River_meetWhatIsKnownTo_31 rfl (fun h_31 => ?_) (fun h_31 => ?_)
      · refine ev_iinc rfl (by decide) (nI_1 _) hC d_River_meetWhatIsKnownTo_44 ?_
        refine ev_goto 2 hC d_River_meetWhatIsKnownTo_47 rfl ?_
        exact ih (i + 1) _ (by omega) (by exact hc) (by rw [he, rp, show fMeetE j i (M.1 r) = M.1 r by simp only [fMeetE, cbm, h_15, h_31, Bool.and_false, Bool.false_eq_true, if_false]])
      · refine ev_aload_n rfl hC d_River_meetWhatIsKnownTo_34 ?_
        refine gv_River_events hC d_River_meetWhatIsKnownTo_35 fl_River_33 (by first | assumption | decide) ?_
        refine ev_iload_n rfl hC d_River_meetWhatIsKnownTo_38 ?_
        refine gr_events hC d_River_meetWhatIsKnownTo_39 (by first | assumption | decide) (by first | assumption | omega) ?_
        refine ev_iconst (v := 1) rfl hC d_River_meetWhatIsKnownTo_40 ?_
        refine pn_Event_met (by first | exact Or.inl rfl | exact Or.inr rfl | exact bi_or _ | assumption) hC d_River_meetWhatIsKnownTo_41 fl_River_67 (by first | assumption | decide) (by first | assumption | omega) ?_
        refine ev_iinc rfl (by decide) (nI_1 _) hC d_River_meetWhatIsKnownTo_44 ?_
        refine ev_goto 2 hC d_River_meetWhatIsKnownTo_47 rfl ?_
        exact ih (i + 1) _ (by omega) (by simp only [mI, wr_s]; rw [ud_n (by omega)]; exact hc) (by rw [he, rp, show fMeetE j i (M.1 r) = upd (M.1 r) (4 + 3 * i + 2) 1 by simp only [fMeetE, cbm, h_15, h_31, Bool.and_self, if_true]]; simp only [mI, wr_wr, wr_s])

set_option maxHeartbeats 2000000 in
set_option maxRecDepth 10000 in
theorem c_River_meetWhatIsKnownTo {G : ex_G} {M : ex_M} {r n j : Nat} (hn : n ≤ 8) (hj : j < 8) (hr : r < 3) (hc : M.1 r 2 = nI n) : Con G Y_River_meetWhatIsKnownTo 1 21 0 0 [.ref (ex_b G + aR r), .ref (ex_b G + aO r j)] (ce G M) (none) (ce G (mI M r (rp (fMeetE j) n 0 (M.1 r)))) := by
  refine Con.ofF (plainFor_of_name (by decide +kernel)) (Nat.le_of_ble_eq_true rfl) (fun C hC hR => ?_)
  show Ev G C Y_River_meetWhatIsKnownTo 0 [some (.ref (ex_b G + aR r)), some (.ref (ex_b G + aO r j))] [] 0 0 (ce G M)
  refine ev_iconst (v := nI 0) rfl hC d_River_meetWhatIsKnownTo_0 ?_
  refine ev_istore_n (by decide) hC d_River_meetWhatIsKnownTo_1 ?_
  exact lp_River_meetWhatIsKnownTo hn hj hr hC hR n 0 M (by omega) hc rfl

theorem rpMeetE_lo {j n q : Nat} {b : Nat → Int32} (hn : n ≤ 8) (h : q < 4 ∨ 28 ≤ q) : rp (fMeetE j) n 0 b q = b q := by
  have key : ∀ m i b, i + m ≤ 8 → rp (fMeetE j) m i b q = b q := by
    intro m
    induction m with
    | zero => intros; rfl
    | succ m ih => intro i b hm; rw [rp, ih (i + 1) _ (by omega), fMeetE_4 h (by omega)]
  exact key n 0 b (by omega)

set_option maxHeartbeats 4000000 in
set_option maxRecDepth 10000 in
theorem lp_River_meet {G : ex_G} {C : ex_C} {ee : List va_E} {r n ne : Nat} (hn : n ≤ 8) (hne : ne ≤ 8) (hr : r < 3) (hC : Cx G C Y_River_meet { frames := 2, cells := 0, slots := 0, locals := 43 }) (hR : Cr G C Y_River_meet 0 0 none ee) :
    ∀ (m i : Nat) (M : ex_M), i + m = n → M.1 r 3 = nI n ∧ M.1 r 2 = nI ne → ee = ce G (mI M r (rp (fMeet ne) m i (M.1 r))) → Ev G C Y_River_meet 2 [some (.ref (ex_b G + aR r)), some (.int (nI i))] [] 0 0 (ce G (M)) := by
  intro m
  induction m with
  | zero =>
    intro i M hm hc he
    refine ev_iload_n rfl hC d_River_meet_2 ?_
    refine ev_aload_n rfl hC d_River_meet_3 ?_
    refine gv_River_peopleCount hC d_River_meet_4 fl_River_18 (by first | assumption | decide) ?_
    refine ev_icmp_ge 52 hC d_River_meet_7 rfl (fun _ => ?_) (fun h => absurd (by rw [hc.1]; exact nI_le (by omega) (by omega)) h)
    exact ev_vret hC hR d_River_meet_52 rfl rfl (by rw [he, rp, mI_id])
  | succ m ih =>
    intro i M hm hc he
    have hi : i < 8 := by omega
    refine ev_iload_n rfl hC d_River_meet_2 ?_
    refine ev_aload_n rfl hC d_River_meet_3 ?_
    refine gv_River_peopleCount hC d_River_meet_4 fl_River_18 (by first | assumption | decide) ?_
    refine ev_icmp_ge 52 hC d_River_meet_7 rfl (fun h => absurd h (by rw [hc.1]; exact nI_ge (by omega) (by omega))) (fun _ => ?_)
    refine ev_aload_n rfl hC d_River_meet_10 ?_
    refine gv_River_people hC d_River_meet_11 fl_River_26 (by first | assumption | decide) ?_
    refine ev_iload_n rfl hC d_River_meet_14 ?_
    refine gr_people hC d_River_meet_15 (by first | assumption | decide) (by first | assumption | omega) ?_
    refine gn_One_kind hC d_River_meet_16 fl_River_94 (by first | assumption | decide) (by first | assumption | omega) ?_
    refine ev_iconst (v := 4) rfl hC d_River_meet_19 ?_
    refine ev_icmp_ne 46 hC d_River_meet_20 rfl (fun h_20 => ?_) (fun h_20 => ?_)
    · refine ev_iinc rfl (by decide) (nI_1 _) hC d_River_meet_46 ?_
      refine ev_goto 2 hC d_River_meet_49 rfl ?_
      exact ih (i + 1) _ (by omega) (by exact hc) (by rw [he, rp, show fMeet ne i (M.1 r) = M.1 r by simp only [fMeet, h_20, false_and, if_false]])
    · refine ev_aload_n rfl hC d_River_meet_23 ?_
      refine gv_River_people hC d_River_meet_24 fl_River_26 (by first | assumption | decide) ?_
      refine ev_iload_n rfl hC d_River_meet_27 ?_
      refine gr_people hC d_River_meet_28 (by first | assumption | decide) (by first | assumption | omega) ?_
      refine gn_One_bank hC d_River_meet_29 fl_River_81 (by first | assumption | decide) (by first | assumption | omega) ?_
      refine ev_iconst (v := 1) rfl hC d_River_meet_32 ?_
      refine ev_icmp_ne 46 hC d_River_meet_33 rfl (fun h_33 => ?_) (fun h_33 => ?_)
      · refine ev_iinc rfl (by decide) (nI_1 _) hC d_River_meet_46 ?_
        refine ev_goto 2 hC d_River_meet_49 rfl ?_
        exact ih (i + 1) _ (by omega) (by exact hc) (by rw [he, rp, show fMeet ne i (M.1 r) = M.1 r by simp only [fMeet, h_33, and_false, if_false]])
      · refine ev_aload_n rfl hC d_River_meet_36 ?_
        refine ev_aload_n rfl hC d_River_meet_37 ?_
        refine gv_River_people hC d_River_meet_38 fl_River_26 (by first | assumption | decide) ?_
        refine ev_iload_n rfl hC d_River_meet_41 ?_
        refine gr_people hC d_River_meet_42 (by first | assumption | decide) (by first | assumption | omega) ?_
        refine cv_River0 hC d_River_meet_43 (c_River_meetWhatIsKnownTo hne hi hr hc.2) mi_River_meetWhatIsKnownTo ml_River_97 im_River_meetWhatIsKnownTo se_River_meetWhatIsKnownTo rfl ⟨Nat.le_of_ble_eq_true rfl, Nat.le_of_ble_eq_true rfl⟩ ⟨Nat.le_of_ble_eq_true rfl, Nat.le_of_ble_eq_true rfl⟩ rfl rfl (Nat.le_of_ble_eq_true rfl) (by first | assumption | decide) ?_
        refine ev_iinc rfl (by decide) (nI_1 _) hC d_River_meet_46 ?_
        refine ev_goto 2 hC d_River_meet_49 rfl ?_
        exact ih (i + 1) _ (by omega) (by simp only [mI, wr_s]; exact ⟨(rpMeetE_lo hne (by omega)).trans hc.1, (rpMeetE_lo hne (by omega)).trans hc.2⟩) (by rw [he, rp, show fMeet ne i (M.1 r) = rp (fMeetE i) ne 0 (M.1 r) by simp only [fMeet, h_20, h_33, and_self, if_true]]; simp only [mI, wr_wr, wr_s])

set_option maxHeartbeats 2000000 in
set_option maxRecDepth 10000 in
theorem c_River_meet {G : ex_G} {M : ex_M} {r n ne : Nat} (hn : n ≤ 8) (hne : ne ≤ 8) (hr : r < 3) (hc : M.1 r 3 = nI n) (hc2 : M.1 r 2 = nI ne) : Con G Y_River_meet 2 43 0 0 [.ref (ex_b G + aR r)] (ce G M) (none) (ce G (mI M r (rp (fMeet ne) n 0 (M.1 r)))) := by
  refine Con.ofF (plainFor_of_name (by decide +kernel)) (Nat.le_of_ble_eq_true rfl) (fun C hC hR => ?_)
  show Ev G C Y_River_meet 0 [some (.ref (ex_b G + aR r))] [] 0 0 (ce G M)
  refine ev_iconst (v := nI 0) rfl hC d_River_meet_0 ?_
  refine ev_istore_n (by decide) hC d_River_meet_1 ?_
  exact lp_River_meet hn hne hr hC hR n 0 M (by omega) ⟨hc, hc2⟩ rfl
