def rvP (M : ex_M) (np ne l : Nat) : Int32 × ex_M := P_parse (tr0 M np ne) l
def rvW (M : ex_M) (np ne l : Nat) : ex_M := mJ (rvP M np ne l).2 3 3 0
def D_river (M : ex_M) (np ne l : Nat) : Int32 × ex_M := if (rvP M np ne l).1 < 0 then ((rvP M np ne l).1, rvW M np ne l) else ((rvP M np ne l).1, mI (rvW M np ne l) 0 (becR ((rvW M np ne l).1 0) ((rvW M np ne l).1 1) (ix ((rvW M np ne l).1 1 3)) (ix ((rvW M np ne l).1 1 2))))

set_option maxHeartbeats 2000000 in
set_option maxRecDepth 10000 in
theorem c_Day_river {G : ex_G} {M : ex_M} {np ne l : Nat} (hl : l ≤ 120) (e : M.1 3 3 = nI l) (w : WF (M.1 0) np ne) : Con G Y_Day_river 9 196 0 0 [.ref (ex_b G + 0)] (ce G M) (some (.int (D_river M np ne l).1)) (ce G ((D_river M np ne l).2)) := by
  refine Con.ofF (plainFor_of_name (by decide +kernel)) (Nat.le_of_ble_eq_true rfl) (fun C hC hR => ?_)
  show Ev G C Y_Day_river 0 [some (.ref (ex_b G + 0))] [] 0 0 (ce G M)
  have ww : WI (tr0 M np ne) := WI_tr0 w
  obtain ⟨kp, ke, q1, q2, q3, q4, q5, -, -⟩ := WI_parse (l := l) ww
  obtain ⟨tp, te, t1, t2, t3, t4, -, -, -⟩ := ww
  have x3 : ix ((rvW M np ne l).1 1 3) = kp := (congrArg ix q1).trans (nI_clamp (by omega))
  have x2 : ix ((rvW M np ne l).1 1 2) = ke := (congrArg ix q3).trans (nI_clamp (by omega))
  refine ev_aload_n rfl hC d_Day_river_0 ?_
  refine cv_Day0 hC d_Day_river_1 (c_Day_startTrial w) mi_Day_startTrial ml_Day_181 im_Day_startTrial se_Day_startTrial rfl ⟨Nat.le_of_ble_eq_true rfl, Nat.le_of_ble_eq_true rfl⟩ ⟨Nat.le_of_ble_eq_true rfl, Nat.le_of_ble_eq_true rfl⟩ rfl rfl (Nat.le_of_ble_eq_true rfl)  ?_
  refine ev_aload_n rfl hC d_Day_river_4 ?_
  refine gv_Day_text hC d_Day_river_5 fl_Day_36  ?_
  refine ev_aload_n rfl hC d_Day_river_8 ?_
  refine gv_Day_trial hC d_Day_river_9 fl_Day_16  ?_
  refine cv_Text1 hC d_Day_river_12 (c_Text_parse (l := l) hl e ⟨tp, t1, t2⟩ ⟨te, t3, t4⟩) mi_Text_parse ml_Day_235 im_Text_parse se_Text_parse rfl ⟨Nat.le_of_ble_eq_true rfl, Nat.le_of_ble_eq_true rfl⟩ ⟨Nat.le_of_ble_eq_true rfl, Nat.le_of_ble_eq_true rfl⟩ rfl rfl (Nat.le_of_ble_eq_true rfl)  ?_
  refine ev_istore_n (by decide) hC d_Day_river_15 ?_
  refine ev_aload_n rfl hC d_Day_river_16 ?_
  refine gv_Day_text hC d_Day_river_17 fl_Day_36  ?_
  refine ev_iconst (v := 0) rfl hC d_Day_river_20 ?_
  refine pn_Text_length hC d_Day_river_21 fl_Day_229  ?_
  refine ev_iload_n rfl hC d_Day_river_24 ?_
  refine ev_if_lt 39 hC d_Day_river_25 rfl (fun h_25 => ?_) (fun h_25 => ?_)
  · refine ev_iload_n rfl hC d_Day_river_39 ?_
    exact ev_iret hC hR d_Day_river_40 rfl (by rw [D_river, if_pos (show (rvP M np ne l).1 < 0 from h_25)]; rfl) (by rw [D_river, if_pos (show (rvP M np ne l).1 < 0 from h_25)]; rfl)
  · refine ev_aload_n rfl hC d_Day_river_28 ?_
    refine gv_Day_present hC d_Day_river_29 fl_Day_12  ?_
    refine ev_aload_n rfl hC d_Day_river_32 ?_
    refine gv_Day_trial hC d_Day_river_33 fl_Day_16  ?_
    refine cv_River0 hC d_Day_river_36 (c_River_become (r := 0) (r2 := 1) (n := kp) (ne := ke) q2 q4 (by decide) (by decide) (by decide) q1 q3 q5) mi_River_become ml_Day_239 im_River_become se_River_become rfl ⟨Nat.le_of_ble_eq_true rfl, Nat.le_of_ble_eq_true rfl⟩ ⟨Nat.le_of_ble_eq_true rfl, Nat.le_of_ble_eq_true rfl⟩ rfl rfl (Nat.le_of_ble_eq_true rfl) (by first | assumption | decide) ?_
    refine ev_iload_n rfl hC d_Day_river_39 ?_
    exact ev_iret hC hR d_Day_river_40 rfl (by rw [D_river, if_neg (show ¬ (rvP M np ne l).1 < 0 from h_25)]; rfl) (by rw [D_river, if_neg (show ¬ (rvP M np ne l).1 < 0 from h_25), x3, x2]; rfl)
