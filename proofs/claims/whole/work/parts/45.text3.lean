theorem stC_1 (M : ex_M) (l b q : Nat) (hq : q ≠ 3) : (stC M l b).1 q = M.1 q := by
  rw [stC, tkP]
  generalize run spc (M.1 4) (l - b) b = p
  by_cases hlp : l ≤ p
  · rw [if_pos hlp]; simp only [mT, mI]; exact wr_n hq
  · rw [if_neg hlp]
    cases ltr (M.1 4 p) with
    | true => simp only [cond_true, mT, mI]; exact wr_n hq
    | false =>
      cases dgt (M.1 4 p) with
      | true => simp only [cond_true, cond_false, mT, mI]; exact wr_n hq
      | false => simp only [cond_false, mT, mI]; exact wr_n hq
theorem stp_1 (M : ex_M) {q : Nat} (hq : q ≠ 3) : (stp M).1 q = M.1 q := stC_1 M _ _ q hq
theorem tkW_1 (M : ex_M) (w : Nat) {q : Nat} (hq : q ≠ 3) : (tkW M w).2.1 q = M.1 q := by
  unfold tkW
  cases isWC M w with
  | true => exact stp_1 M hq
  | false => rfl
theorem tkN_1 (M : ex_M) (mx : Int32) {q : Nat} (hq : q ≠ 3) : (tkN M mx).2.1 q = M.1 q := by
  unfold tkN
  cases (decide (M.1 3 4 = 2) && decide (M.1 3 7 ≤ mx)) with
  | true => simp only [cond_true]; rw [stp_1 _ hq]; simp only [mJ]; exact wr_n hq
  | false => rfl
theorem TKI_1 {M : ex_M} {a : Nat → Int32} (h : TKI M) : TKI (mI M 1 a) := h
/-! an event, one, as the text tells them -/
def adE (M : ex_M) (h w : Int32) : ex_M := mI M 1 (upd (eBeg (M.1 1) (ix (M.1 1 2)) h w) 2 (nI (ix (M.1 1 2) + 1)))
def pe3 (h : Int32) (le : Bool) (z : Bool × ex_M) : Bool × ex_M := bif z.1 then (true, adE z.2 h (bif le then -(z.2.1 3 8) else z.2.1 3 8)) else (false, z.2)
def pe2 (h : Int32) (z : Bool × ex_M) : Bool × ex_M := pe3 h z.1 (tkN z.2 99)
def pe1 (h : Int32) (z : Bool × ex_M) : Bool × ex_M := bif z.1 then pe2 h (tkW z.2 12) else (false, z.2)
def pe0 (z : Bool × ex_M) : Bool × ex_M := bif z.1 then pe1 (z.2.1 3 8) (tkW z.2 11) else (false, z.2)
def P_event (M : ex_M) : Bool × ex_M := bif !decide (M.1 1 2 < 8) then (false, M) else pe0 (tkN (stp M) 9999)
def po (w : Nat) (mx : Int32) (f n : Nat) (M : ex_M) : Bool × ex_M := bif (tkW M w).1 then (bif (tkN (tkW M w).2 mx).1 then (true, mJ (tkN (tkW M w).2 mx).2 1 (28 + 7 * n + f) ((tkN (tkW M w).2 mx).2.1 3 8)) else (false, (tkN (tkW M w).2 mx).2)) else (true, (tkW M w).2)
def po2 (n : Nat) (z : Bool × ex_M) : Bool × ex_M := bif z.1 then po 9 23 4 n z.2 else z
def po1 (n : Nat) (z : Bool × ex_M) : Bool × ex_M := bif z.1 then po2 n (po 8 23 3 n z.2) else z
def po0 (n : Nat) (M : ex_M) : Bool × ex_M := po1 n (po 7 9999 2 n M)
def adO (M : ex_M) (k b : Int32) : ex_M := mI M 1 (upd (oBeg (M.1 1) (ix (M.1 1 3)) k b) 3 (nI (ix (M.1 1 3) + 1)))
def P_one (M : ex_M) (k : Int32) : Bool × ex_M := bif !decide (M.1 1 3 < 8) then (false, M) else po0 (ix (M.1 1 3)) (adO (tkW (stp M) 6).2 k (bif (tkW (stp M) 6).1 then 1 else 0))
theorem c_adE {G : ex_G} {M : ex_M} {n : Nat} {h w : Int32} (hn : n < 8) (hc : M.1 1 2 = nI n) : Con G Y_River_addEvent 1 22 0 0 [.ref (ex_b G + aR 1), .int h, .int w] (ce G M) (some (.int (nI n))) (ce G (adE M h w)) := by
  rw [adE, hc, show ix (nI n) = n from nI_clamp (by omega)]
  exact c_River_addEvent (r := 1) (by decide) hn hc
theorem c_adO {G : ex_G} {M : ex_M} {n : Nat} {k b : Int32} (hn : n < 8) (hc : M.1 1 3 = nI n) : Con G Y_River_addOne 1 22 0 0 [.ref (ex_b G + aR 1), .int k, .int b] (ce G M) (some (.int (nI n))) (ce G (adO M k b)) := by
  rw [adO, hc, show ix (nI n) = n from nI_clamp (by omega)]
  exact c_River_addOne (r := 1) (by decide) hn hc
theorem lt8_of {x : Int32} {n : Nat} (hx : x = nI n) (hn : n ≤ 8) (h : (!decide (x < 8)) = false) : n < 8 := by
  rcases Nat.lt_or_ge n 8 with z | z
  · exact z
  · rw [hx, show n = 8 by omega] at h; exact absurd h (by decide)
theorem TKI_J1 {M : ex_M} {j : Nat} {v : Int32} (h : TKI M) : TKI (mJ M 1 j v) := h
theorem TKI_adO {M : ex_M} {k b : Int32} (h : TKI M) : TKI (adO M k b) := h

set_option maxHeartbeats 2000000 in
set_option maxRecDepth 10000 in
theorem c_Text_parseEvent {G : ex_G} {M : ex_M} {n : Nat} (hn : n ≤ 8) (hc : M.1 1 2 = nI n) (h : TKI M) : Con G Y_Text_parseEvent 6 128 0 0 [.ref (ex_b G + 59), .ref (ex_b G + aR 1)] (ce G M) (some (.int (bi (P_event M).1))) (ce G ((P_event M).2)) := by
  refine Con.ofF (plainFor_of_name (by decide +kernel)) (Nat.le_of_ble_eq_true rfl) (fun C hC hR => ?_)
  show Ev G C Y_Text_parseEvent 0 [some (.ref (ex_b G + 59)), some (.ref (ex_b G + aR 1))] [] 0 0 (ce G M)
  refine ev_aload_n rfl hC d_Text_parseEvent_0 ?_
  refine cv_River1 hC d_Text_parseEvent_1 (c_River_hasAllEvents (r := 1) (by decide)) mi_River_hasAllEvents ml_Text_71 im_River_hasAllEvents se_River_hasAllEvents rfl ⟨Nat.le_of_ble_eq_true rfl, Nat.le_of_ble_eq_true rfl⟩ ⟨Nat.le_of_ble_eq_true rfl, Nat.le_of_ble_eq_true rfl⟩ rfl rfl (Nat.le_of_ble_eq_true rfl) (by first | assumption | decide) ?_
  refine eb_eq 9 hC d_Text_parseEvent_4 rfl (fun h_4 => ?_) (fun h_4 => ?_)
  · have hn8 := lt8_of hc hn h_4
    refine ev_aload_n rfl hC d_Text_parseEvent_9 ?_
    refine cv_Text0 hC d_Text_parseEvent_10 (c_step h) mi_Text_step ml_Text_22 im_Text_step se_Text_step rfl ⟨Nat.le_of_ble_eq_true rfl, Nat.le_of_ble_eq_true rfl⟩ ⟨Nat.le_of_ble_eq_true rfl, Nat.le_of_ble_eq_true rfl⟩ rfl rfl (Nat.le_of_ble_eq_true rfl)  ?_
    refine ev_aload_n rfl hC d_Text_parseEvent_13 ?_
    refine ev_sipush (v := 9999) rfl hC d_Text_parseEvent_14 ?_
    refine cv_Text1 hC d_Text_parseEvent_17 (c_Text_takesNumber (TKI_stp h)) mi_Text_takesNumber ml_Text_60 im_Text_takesNumber se_Text_takesNumber rfl ⟨Nat.le_of_ble_eq_true rfl, Nat.le_of_ble_eq_true rfl⟩ ⟨Nat.le_of_ble_eq_true rfl, Nat.le_of_ble_eq_true rfl⟩ rfl rfl (Nat.le_of_ble_eq_true rfl)  ?_
    refine eb_ne 25 hC d_Text_parseEvent_20 rfl (fun h_20 => ?_) (fun h_20 => ?_)
    · refine ev_aload_n rfl hC d_Text_parseEvent_25 ?_
      refine gv_Text_taken hC d_Text_parseEvent_26 fl_Text_64  ?_
      refine ev_istore_n (by decide) hC d_Text_parseEvent_29 ?_
      refine ev_aload_n rfl hC d_Text_parseEvent_30 ?_
      refine ev_ldcS (i := 11) (tx := "worth") (by decide) hC d_Text_parseEvent_31 ?_
      refine cv_Text1 hC d_Text_parseEvent_33 (c_Text_takes (w := 11) (by decide) (TKI_tkN (TKI_stp h))) mi_Text_takes ml_Text_37 im_Text_takes se_Text_takes rfl ⟨Nat.le_of_ble_eq_true rfl, Nat.le_of_ble_eq_true rfl⟩ ⟨Nat.le_of_ble_eq_true rfl, Nat.le_of_ble_eq_true rfl⟩ rfl rfl (Nat.le_of_ble_eq_true rfl)  ?_
      refine eb_ne 41 hC d_Text_parseEvent_36 rfl (fun h_36 => ?_) (fun h_36 => ?_)
      · refine ev_aload_n rfl hC d_Text_parseEvent_41 ?_
        refine ev_ldcS (i := 12) (tx := "less") (by decide) hC d_Text_parseEvent_42 ?_
        refine cv_Text1 hC d_Text_parseEvent_44 (c_Text_takes (w := 12) (by decide) (TKI_tkW (TKI_tkN (TKI_stp h)))) mi_Text_takes ml_Text_37 im_Text_takes se_Text_takes rfl ⟨Nat.le_of_ble_eq_true rfl, Nat.le_of_ble_eq_true rfl⟩ ⟨Nat.le_of_ble_eq_true rfl, Nat.le_of_ble_eq_true rfl⟩ rfl rfl (Nat.le_of_ble_eq_true rfl)  ?_
        refine ev_istore_n (by decide) hC d_Text_parseEvent_47 ?_
        refine ev_aload_n rfl hC d_Text_parseEvent_48 ?_
        refine ev_bipush (v := 99) rfl hC d_Text_parseEvent_49 ?_
        refine cv_Text1 hC d_Text_parseEvent_51 (c_Text_takesNumber (TKI_tkW (TKI_tkW (TKI_tkN (TKI_stp h))))) mi_Text_takesNumber ml_Text_60 im_Text_takesNumber se_Text_takesNumber rfl ⟨Nat.le_of_ble_eq_true rfl, Nat.le_of_ble_eq_true rfl⟩ ⟨Nat.le_of_ble_eq_true rfl, Nat.le_of_ble_eq_true rfl⟩ rfl rfl (Nat.le_of_ble_eq_true rfl)  ?_
        refine eb_ne 59 hC d_Text_parseEvent_54 rfl (fun h_54 => ?_) (fun h_54 => ?_)
        · refine ev_aload_n rfl hC d_Text_parseEvent_59 ?_
          refine ev_iload_n rfl hC d_Text_parseEvent_60 ?_
          refine ev_iload_n rfl hC d_Text_parseEvent_61 ?_
          refine eb_eq 73 hC d_Text_parseEvent_62 rfl (fun h_62 => ?_) (fun h_62 => ?_)
          · refine ev_aload_n rfl hC d_Text_parseEvent_73 ?_
            refine gv_Text_taken hC d_Text_parseEvent_74 fl_Text_64  ?_
            refine cv_River1 hC d_Text_parseEvent_77 (c_adE hn8 (by rw [tkN_1 _ _ (by decide), tkW_1 _ _ (by decide), tkW_1 _ _ (by decide), tkN_1 _ _ (by decide), stp_1 _ (by decide)]; exact hc)) mi_River_addEvent ml_Text_79 im_River_addEvent se_River_addEvent rfl ⟨Nat.le_of_ble_eq_true rfl, Nat.le_of_ble_eq_true rfl⟩ ⟨Nat.le_of_ble_eq_true rfl, Nat.le_of_ble_eq_true rfl⟩ rfl rfl (Nat.le_of_ble_eq_true rfl) (by first | assumption | decide) ?_
            refine ev_pop rfl hC d_Text_parseEvent_80 ?_
            refine ev_iconst (v := 1) rfl hC d_Text_parseEvent_81 ?_
            exact ev_zret hC hR d_Text_parseEvent_82 rfl (by first | exact bi_nar _ | decide) (by simp only [P_event, pe0, pe1, pe2, pe3, h_4, h_20, h_36, h_54, h_62, cond_true, cond_false] <;> rfl) (by simp only [P_event, pe0, pe1, pe2, pe3, h_4, h_20, h_36, h_54, h_62, cond_true, cond_false] <;> rfl)
          · refine ev_aload_n rfl hC d_Text_parseEvent_65 ?_
            refine gv_Text_taken hC d_Text_parseEvent_66 fl_Text_64  ?_
            refine ev_ineg hC d_Text_parseEvent_69 ?_
            refine ev_goto 77 hC d_Text_parseEvent_70 rfl ?_
            refine cv_River1 hC d_Text_parseEvent_77 (c_adE hn8 (by rw [tkN_1 _ _ (by decide), tkW_1 _ _ (by decide), tkW_1 _ _ (by decide), tkN_1 _ _ (by decide), stp_1 _ (by decide)]; exact hc)) mi_River_addEvent ml_Text_79 im_River_addEvent se_River_addEvent rfl ⟨Nat.le_of_ble_eq_true rfl, Nat.le_of_ble_eq_true rfl⟩ ⟨Nat.le_of_ble_eq_true rfl, Nat.le_of_ble_eq_true rfl⟩ rfl rfl (Nat.le_of_ble_eq_true rfl) (by first | assumption | decide) ?_
            refine ev_pop rfl hC d_Text_parseEvent_80 ?_
            refine ev_iconst (v := 1) rfl hC d_Text_parseEvent_81 ?_
            exact ev_zret hC hR d_Text_parseEvent_82 rfl (by first | exact bi_nar _ | decide) (by simp only [P_event, pe0, pe1, pe2, pe3, h_4, h_20, h_36, h_54, h_62, cond_true, cond_false] <;> rfl) (by simp only [P_event, pe0, pe1, pe2, pe3, h_4, h_20, h_36, h_54, h_62, cond_true, cond_false] <;> rfl)
        · refine ev_iconst (v := 0) rfl hC d_Text_parseEvent_57 ?_
          exact ev_zret hC hR d_Text_parseEvent_58 rfl (by first | exact bi_nar _ | decide) (by simp only [P_event, pe0, pe1, pe2, pe3, h_4, h_20, h_36, h_54, cond_true, cond_false] <;> rfl) (by simp only [P_event, pe0, pe1, pe2, pe3, h_4, h_20, h_36, h_54, cond_true, cond_false] <;> rfl)
      · refine ev_iconst (v := 0) rfl hC d_Text_parseEvent_39 ?_
        exact ev_zret hC hR d_Text_parseEvent_40 rfl (by first | exact bi_nar _ | decide) (by simp only [P_event, pe0, pe1, pe2, pe3, h_4, h_20, h_36, cond_true, cond_false] <;> rfl) (by simp only [P_event, pe0, pe1, pe2, pe3, h_4, h_20, h_36, cond_true, cond_false] <;> rfl)
    · refine ev_iconst (v := 0) rfl hC d_Text_parseEvent_23 ?_
      exact ev_zret hC hR d_Text_parseEvent_24 rfl (by first | exact bi_nar _ | decide) (by simp only [P_event, pe0, pe1, pe2, pe3, h_4, h_20, cond_true, cond_false] <;> rfl) (by simp only [P_event, pe0, pe1, pe2, pe3, h_4, h_20, cond_true, cond_false] <;> rfl)
  · refine ev_iconst (v := 0) rfl hC d_Text_parseEvent_7 ?_
    exact ev_zret hC hR d_Text_parseEvent_8 rfl (by first | exact bi_nar _ | decide) (by simp only [P_event, pe0, pe1, pe2, pe3, h_4, cond_true, cond_false] <;> rfl) (by simp only [P_event, pe0, pe1, pe2, pe3, h_4, cond_true, cond_false] <;> rfl)

set_option maxHeartbeats 2000000 in
set_option maxRecDepth 10000 in
theorem c_Text_parseOne {G : ex_G} {M : ex_M} {n : Nat} {k : Int32} (hn : n ≤ 8) (hc : M.1 1 3 = nI n) (h : TKI M) : Con G Y_Text_parseOne 6 128 0 0 [.ref (ex_b G + 59), .ref (ex_b G + aR 1), .int k] (ce G M) (some (.int (bi (P_one M k).1))) (ce G ((P_one M k).2)) := by
  refine Con.ofF (plainFor_of_name (by decide +kernel)) (Nat.le_of_ble_eq_true rfl) (fun C hC hR => ?_)
  show Ev G C Y_Text_parseOne 0 [some (.ref (ex_b G + 59)), some (.ref (ex_b G + aR 1)), some (.int k)] [] 0 0 (ce G M)
  have hx : ix (M.1 1 3) = n := by rw [hc]; exact nI_clamp (by omega)
  refine ev_aload_n rfl hC d_Text_parseOne_0 ?_
  refine cv_River1 hC d_Text_parseOne_1 (c_River_hasAllPeople (r := 1) (by decide)) mi_River_hasAllPeople ml_Text_83 im_River_hasAllPeople se_River_hasAllPeople rfl ⟨Nat.le_of_ble_eq_true rfl, Nat.le_of_ble_eq_true rfl⟩ ⟨Nat.le_of_ble_eq_true rfl, Nat.le_of_ble_eq_true rfl⟩ rfl rfl (Nat.le_of_ble_eq_true rfl) (by first | assumption | decide) ?_
  refine eb_eq 9 hC d_Text_parseOne_4 rfl (fun h_4 => ?_) (fun h_4 => ?_)
  · have hn8 := lt8_of hc hn h_4
    refine ev_aload_n rfl hC d_Text_parseOne_9 ?_
    refine cv_Text0 hC d_Text_parseOne_10 (c_step h) mi_Text_step ml_Text_22 im_Text_step se_Text_step rfl ⟨Nat.le_of_ble_eq_true rfl, Nat.le_of_ble_eq_true rfl⟩ ⟨Nat.le_of_ble_eq_true rfl, Nat.le_of_ble_eq_true rfl⟩ rfl rfl (Nat.le_of_ble_eq_true rfl)  ?_
    refine ev_aload_n rfl hC d_Text_parseOne_13 ?_
    refine ev_iload_n rfl hC d_Text_parseOne_14 ?_
    refine ev_aload_n rfl hC d_Text_parseOne_15 ?_
    refine ev_ldcS (i := 6) (tx := "left") (by decide) hC d_Text_parseOne_16 ?_
    refine cv_Text1 hC d_Text_parseOne_18 (c_Text_takes (w := 6) (by decide) (TKI_stp h)) mi_Text_takes ml_Text_37 im_Text_takes se_Text_takes rfl ⟨Nat.le_of_ble_eq_true rfl, Nat.le_of_ble_eq_true rfl⟩ ⟨Nat.le_of_ble_eq_true rfl, Nat.le_of_ble_eq_true rfl⟩ rfl rfl (Nat.le_of_ble_eq_true rfl)  ?_
    refine eb_eq 28 hC d_Text_parseOne_21 rfl (fun h_21 => ?_) (fun h_21 => ?_)
    · refine ev_iconst (v := 0) rfl hC d_Text_parseOne_28 ?_
      refine cv_River1 hC d_Text_parseOne_29 (c_adO hn8 (by rw [tkW_1 _ _ (by decide), stp_1 _ (by decide)]; exact hc)) mi_River_addOne ml_Text_88 im_River_addOne se_River_addOne rfl ⟨Nat.le_of_ble_eq_true rfl, Nat.le_of_ble_eq_true rfl⟩ ⟨Nat.le_of_ble_eq_true rfl, Nat.le_of_ble_eq_true rfl⟩ rfl rfl (Nat.le_of_ble_eq_true rfl) (by first | assumption | decide) ?_
      refine ev_istore_n (by decide) hC d_Text_parseOne_32 ?_
      refine ev_aload_n rfl hC d_Text_parseOne_33 ?_
      refine gn_River_people hC d_Text_parseOne_34 fl_Text_91 (by first | assumption | decide) ?_
      refine ev_iload_n rfl hC d_Text_parseOne_37 ?_
      refine gr_people hC d_Text_parseOne_38 (by first | assumption | decide) (by first | assumption | omega) ?_
      refine ev_astore (by decide) hC d_Text_parseOne_39 ?_
      refine ev_aload_n rfl hC d_Text_parseOne_41 ?_
      refine ev_ldcS (i := 7) (tx := "purse") (by decide) hC d_Text_parseOne_42 ?_
      refine cv_Text1 hC d_Text_parseOne_44 (c_Text_takes (w := 7) (by decide) (TKI_adO (TKI_tkW (TKI_stp h)))) mi_Text_takes ml_Text_37 im_Text_takes se_Text_takes rfl ⟨Nat.le_of_ble_eq_true rfl, Nat.le_of_ble_eq_true rfl⟩ ⟨Nat.le_of_ble_eq_true rfl, Nat.le_of_ble_eq_true rfl⟩ rfl rfl (Nat.le_of_ble_eq_true rfl)  ?_
      refine eb_eq 71 hC d_Text_parseOne_47 rfl (fun h_47 => ?_) (fun h_47 => ?_)
      · refine ev_aload_n rfl hC d_Text_parseOne_71 ?_
        refine ev_ldcS (i := 8) (tx := "goes") (by decide) hC d_Text_parseOne_72 ?_
        refine cv_Text1 hC d_Text_parseOne_74 (c_Text_takes (w := 8) (by decide) (TKI_tkW (TKI_adO (TKI_tkW (TKI_stp h))))) mi_Text_takes ml_Text_37 im_Text_takes se_Text_takes rfl ⟨Nat.le_of_ble_eq_true rfl, Nat.le_of_ble_eq_true rfl⟩ ⟨Nat.le_of_ble_eq_true rfl, Nat.le_of_ble_eq_true rfl⟩ rfl rfl (Nat.le_of_ble_eq_true rfl)  ?_
        refine eb_eq 100 hC d_Text_parseOne_77 rfl (fun h_77 => ?_) (fun h_77 => ?_)
        · refine ev_aload_n rfl hC d_Text_parseOne_100 ?_
          refine ev_ldcS (i := 9) (tx := "comes") (by decide) hC d_Text_parseOne_101 ?_
          refine cv_Text1 hC d_Text_parseOne_103 (c_Text_takes (w := 9) (by decide) (TKI_tkW (TKI_tkW (TKI_adO (TKI_tkW (TKI_stp h)))))) mi_Text_takes ml_Text_37 im_Text_takes se_Text_takes rfl ⟨Nat.le_of_ble_eq_true rfl, Nat.le_of_ble_eq_true rfl⟩ ⟨Nat.le_of_ble_eq_true rfl, Nat.le_of_ble_eq_true rfl⟩ rfl rfl (Nat.le_of_ble_eq_true rfl)  ?_
          refine eb_eq 129 hC d_Text_parseOne_106 rfl (fun h_106 => ?_) (fun h_106 => ?_)
          · refine ev_iconst (v := 1) rfl hC d_Text_parseOne_129 ?_
            exact ev_zret hC hR d_Text_parseOne_130 rfl (by first | exact bi_nar _ | decide) (by simp only [P_one, po0, po1, po2, po, hx, h_4, h_21, h_47, h_77, h_106, cond_true, cond_false] <;> rfl) (by simp only [P_one, po0, po1, po2, po, hx, h_4, h_21, h_47, h_77, h_106, cond_true, cond_false] <;> rfl)
          · refine ev_aload_n rfl hC d_Text_parseOne_109 ?_
            refine ev_bipush (v := 23) rfl hC d_Text_parseOne_110 ?_
            refine cv_Text1 hC d_Text_parseOne_112 (c_Text_takesNumber (TKI_tkW (TKI_tkW (TKI_tkW (TKI_adO (TKI_tkW (TKI_stp h))))))) mi_Text_takesNumber ml_Text_60 im_Text_takesNumber se_Text_takesNumber rfl ⟨Nat.le_of_ble_eq_true rfl, Nat.le_of_ble_eq_true rfl⟩ ⟨Nat.le_of_ble_eq_true rfl, Nat.le_of_ble_eq_true rfl⟩ rfl rfl (Nat.le_of_ble_eq_true rfl)  ?_
            refine eb_ne 120 hC d_Text_parseOne_115 rfl (fun h_115 => ?_) (fun h_115 => ?_)
            · refine ev_aload rfl hC d_Text_parseOne_120 ?_
              refine ev_aload_n rfl hC d_Text_parseOne_122 ?_
              refine gv_Text_taken hC d_Text_parseOne_123 fl_Text_64  ?_
              refine pn_One_comes hC d_Text_parseOne_126 fl_Text_107 (by first | assumption | decide) (by first | assumption | omega) ?_
              refine ev_iconst (v := 1) rfl hC d_Text_parseOne_129 ?_
              exact ev_zret hC hR d_Text_parseOne_130 rfl (by first | exact bi_nar _ | decide) (by simp only [P_one, po0, po1, po2, po, hx, h_4, h_21, h_47, h_77, h_106, h_115, cond_true, cond_false] <;> rfl) (by simp only [P_one, po0, po1, po2, po, hx, h_4, h_21, h_47, h_77, h_106, h_115, cond_true, cond_false] <;> rfl)
            · refine ev_iconst (v := 0) rfl hC d_Text_parseOne_118 ?_
              exact ev_zret hC hR d_Text_parseOne_119 rfl (by first | exact bi_nar _ | decide) (by simp only [P_one, po0, po1, po2, po, hx, h_4, h_21, h_47, h_77, h_106, h_115, cond_true, cond_false] <;> rfl) (by simp only [P_one, po0, po1, po2, po, hx, h_4, h_21, h_47, h_77, h_106, h_115, cond_true, cond_false] <;> rfl)
        · refine ev_aload_n rfl hC d_Text_parseOne_80 ?_
          refine ev_bipush (v := 23) rfl hC d_Text_parseOne_81 ?_
          refine cv_Text1 hC d_Text_parseOne_83 (c_Text_takesNumber (TKI_tkW (TKI_tkW (TKI_adO (TKI_tkW (TKI_stp h)))))) mi_Text_takesNumber ml_Text_60 im_Text_takesNumber se_Text_takesNumber rfl ⟨Nat.le_of_ble_eq_true rfl, Nat.le_of_ble_eq_true rfl⟩ ⟨Nat.le_of_ble_eq_true rfl, Nat.le_of_ble_eq_true rfl⟩ rfl rfl (Nat.le_of_ble_eq_true rfl)  ?_
          refine eb_ne 91 hC d_Text_parseOne_86 rfl (fun h_86 => ?_) (fun h_86 => ?_)
          · refine ev_aload rfl hC d_Text_parseOne_91 ?_
            refine ev_aload_n rfl hC d_Text_parseOne_93 ?_
            refine gv_Text_taken hC d_Text_parseOne_94 fl_Text_64  ?_
            refine pn_One_goes hC d_Text_parseOne_97 fl_Text_103 (by first | assumption | decide) (by first | assumption | omega) ?_
            refine ev_aload_n rfl hC d_Text_parseOne_100 ?_
            refine ev_ldcS (i := 9) (tx := "comes") (by decide) hC d_Text_parseOne_101 ?_
            refine cv_Text1 hC d_Text_parseOne_103 (c_Text_takes (w := 9) (by decide) (TKI_J1 (TKI_tkN (TKI_tkW (TKI_tkW (TKI_adO (TKI_tkW (TKI_stp h)))))))) mi_Text_takes ml_Text_37 im_Text_takes se_Text_takes rfl ⟨Nat.le_of_ble_eq_true rfl, Nat.le_of_ble_eq_true rfl⟩ ⟨Nat.le_of_ble_eq_true rfl, Nat.le_of_ble_eq_true rfl⟩ rfl rfl (Nat.le_of_ble_eq_true rfl)  ?_
            refine eb_eq 129 hC d_Text_parseOne_106 rfl (fun h_106 => ?_) (fun h_106 => ?_)
            · refine ev_iconst (v := 1) rfl hC d_Text_parseOne_129 ?_
              exact ev_zret hC hR d_Text_parseOne_130 rfl (by first | exact bi_nar _ | decide) (by simp only [P_one, po0, po1, po2, po, hx, h_4, h_21, h_47, h_77, h_86, h_106, cond_true, cond_false] <;> rfl) (by simp only [P_one, po0, po1, po2, po, hx, h_4, h_21, h_47, h_77, h_86, h_106, cond_true, cond_false] <;> rfl)
            · refine ev_aload_n rfl hC d_Text_parseOne_109 ?_
              refine ev_bipush (v := 23) rfl hC d_Text_parseOne_110 ?_
              refine cv_Text1 hC d_Text_parseOne_112 (c_Text_takesNumber (TKI_tkW (TKI_J1 (TKI_tkN (TKI_tkW (TKI_tkW (TKI_adO (TKI_tkW (TKI_stp h))))))))) mi_Text_takesNumber ml_Text_60 im_Text_takesNumber se_Text_takesNumber rfl ⟨Nat.le_of_ble_eq_true rfl, Nat.le_of_ble_eq_true rfl⟩ ⟨Nat.le_of_ble_eq_true rfl, Nat.le_of_ble_eq_true rfl⟩ rfl rfl (Nat.le_of_ble_eq_true rfl)  ?_
              refine eb_ne 120 hC d_Text_parseOne_115 rfl (fun h_115 => ?_) (fun h_115 => ?_)
              · refine ev_aload rfl hC d_Text_parseOne_120 ?_
                refine ev_aload_n rfl hC d_Text_parseOne_122 ?_
                refine gv_Text_taken hC d_Text_parseOne_123 fl_Text_64  ?_
                refine pn_One_comes hC d_Text_parseOne_126 fl_Text_107 (by first | assumption | decide) (by first | assumption | omega) ?_
                refine ev_iconst (v := 1) rfl hC d_Text_parseOne_129 ?_
                exact ev_zret hC hR d_Text_parseOne_130 rfl (by first | exact bi_nar _ | decide) (by simp only [P_one, po0, po1, po2, po, hx, h_4, h_21, h_47, h_77, h_86, h_106, h_115, cond_true, cond_false] <;> rfl) (by simp only [P_one, po0, po1, po2, po, hx, h_4, h_21, h_47, h_77, h_86, h_106, h_115, cond_true, cond_false] <;> rfl)
              · refine ev_iconst (v := 0) rfl hC d_Text_parseOne_118 ?_
                exact ev_zret hC hR d_Text_parseOne_119 rfl (by first | exact bi_nar _ | decide) (by simp only [P_one, po0, po1, po2, po, hx, h_4, h_21, h_47, h_77, h_86, h_106, h_115, cond_true, cond_false] <;> rfl) (by simp only [P_one, po0, po1, po2, po, hx, h_4, h_21, h_47, h_77, h_86, h_106, h_115, cond_true, cond_false] <;> rfl)
          · refine ev_iconst (v := 0) rfl hC d_Text_parseOne_89 ?_
            exact ev_zret hC hR d_Text_parseOne_90 rfl (by first | exact bi_nar _ | decide) (by simp only [P_one, po0, po1, po2, po, hx, h_4, h_21, h_47, h_77, h_86, cond_true, cond_false] <;> rfl) (by simp only [P_one, po0, po1, po2, po, hx, h_4, h_21, h_47, h_77, h_86, cond_true, cond_false] <;> rfl)
      · refine ev_aload_n rfl hC d_Text_parseOne_50 ?_
        refine ev_sipush (v := 9999) rfl hC d_Text_parseOne_51 ?_
        refine cv_Text1 hC d_Text_parseOne_54 (c_Text_takesNumber (TKI_tkW (TKI_adO (TKI_tkW (TKI_stp h))))) mi_Text_takesNumber ml_Text_60 im_Text_takesNumber se_Text_takesNumber rfl ⟨Nat.le_of_ble_eq_true rfl, Nat.le_of_ble_eq_true rfl⟩ ⟨Nat.le_of_ble_eq_true rfl, Nat.le_of_ble_eq_true rfl⟩ rfl rfl (Nat.le_of_ble_eq_true rfl)  ?_
        refine eb_ne 62 hC d_Text_parseOne_57 rfl (fun h_57 => ?_) (fun h_57 => ?_)
        · refine ev_aload rfl hC d_Text_parseOne_62 ?_
          refine ev_aload_n rfl hC d_Text_parseOne_64 ?_
          refine gv_Text_taken hC d_Text_parseOne_65 fl_Text_64  ?_
          refine pn_One_purse hC d_Text_parseOne_68 fl_Text_97 (by first | assumption | decide) (by first | assumption | omega) ?_
          refine ev_aload_n rfl hC d_Text_parseOne_71 ?_
          refine ev_ldcS (i := 8) (tx := "goes") (by decide) hC d_Text_parseOne_72 ?_
          refine cv_Text1 hC d_Text_parseOne_74 (c_Text_takes (w := 8) (by decide) (TKI_J1 (TKI_tkN (TKI_tkW (TKI_adO (TKI_tkW (TKI_stp h))))))) mi_Text_takes ml_Text_37 im_Text_takes se_Text_takes rfl ⟨Nat.le_of_ble_eq_true rfl, Nat.le_of_ble_eq_true rfl⟩ ⟨Nat.le_of_ble_eq_true rfl, Nat.le_of_ble_eq_true rfl⟩ rfl rfl (Nat.le_of_ble_eq_true rfl)  ?_
          refine eb_eq 100 hC d_Text_parseOne_77 rfl (fun h_77 => ?_) (fun h_77 => ?_)
          · refine ev_aload_n rfl hC d_Text_parseOne_100 ?_
            refine ev_ldcS (i := 9) (tx := "comes") (by decide) hC d_Text_parseOne_101 ?_
            refine cv_Text1 hC d_Text_parseOne_103 (c_Text_takes (w := 9) (by decide) (TKI_tkW (TKI_J1 (TKI_tkN (TKI_tkW (TKI_adO (TKI_tkW (TKI_stp h)))))))) mi_Text_takes ml_Text_37 im_Text_takes se_Text_takes rfl ⟨Nat.le_of_ble_eq_true rfl, Nat.le_of_ble_eq_true rfl⟩ ⟨Nat.le_of_ble_eq_true rfl, Nat.le_of_ble_eq_true rfl⟩ rfl rfl (Nat.le_of_ble_eq_true rfl)  ?_
            refine eb_eq 129 hC d_Text_parseOne_106 rfl (fun h_106 => ?_) (fun h_106 => ?_)
            · refine ev_iconst (v := 1) rfl hC d_Text_parseOne_129 ?_
              exact ev_zret hC hR d_Text_parseOne_130 rfl (by first | exact bi_nar _ | decide) (by simp only [P_one, po0, po1, po2, po, hx, h_4, h_21, h_47, h_57, h_77, h_106, cond_true, cond_false] <;> rfl) (by simp only [P_one, po0, po1, po2, po, hx, h_4, h_21, h_47, h_57, h_77, h_106, cond_true, cond_false] <;> rfl)
            · refine ev_aload_n rfl hC d_Text_parseOne_109 ?_
              refine ev_bipush (v := 23) rfl hC d_Text_parseOne_110 ?_
              refine cv_Text1 hC d_Text_parseOne_112 (c_Text_takesNumber (TKI_tkW (TKI_tkW (TKI_J1 (TKI_tkN (TKI_tkW (TKI_adO (TKI_tkW (TKI_stp h))))))))) mi_Text_takesNumber ml_Text_60 im_Text_takesNumber se_Text_takesNumber rfl ⟨Nat.le_of_ble_eq_true rfl, Nat.le_of_ble_eq_true rfl⟩ ⟨Nat.le_of_ble_eq_true rfl, Nat.le_of_ble_eq_true rfl⟩ rfl rfl (Nat.le_of_ble_eq_true rfl)  ?_
              refine eb_ne 120 hC d_Text_parseOne_115 rfl (fun h_115 => ?_) (fun h_115 => ?_)
              · refine ev_aload rfl hC d_Text_parseOne_120 ?_
                refine ev_aload_n rfl hC d_Text_parseOne_122 ?_
                refine gv_Text_taken hC d_Text_parseOne_123 fl_Text_64  ?_
                refine pn_One_comes hC d_Text_parseOne_126 fl_Text_107 (by first | assumption | decide) (by first | assumption | omega) ?_
                refine ev_iconst (v := 1) rfl hC d_Text_parseOne_129 ?_
                exact ev_zret hC hR d_Text_parseOne_130 rfl (by first | exact bi_nar _ | decide) (by simp only [P_one, po0, po1, po2, po, hx, h_4, h_21, h_47, h_57, h_77, h_106, h_115, cond_true, cond_false] <;> rfl) (by simp only [P_one, po0, po1, po2, po, hx, h_4, h_21, h_47, h_57, h_77, h_106, h_115, cond_true, cond_false] <;> rfl)
              · refine ev_iconst (v := 0) rfl hC d_Text_parseOne_118 ?_
                exact ev_zret hC hR d_Text_parseOne_119 rfl (by first | exact bi_nar _ | decide) (by simp only [P_one, po0, po1, po2, po, hx, h_4, h_21, h_47, h_57, h_77, h_106, h_115, cond_true, cond_false] <;> rfl) (by simp only [P_one, po0, po1, po2, po, hx, h_4, h_21, h_47, h_57, h_77, h_106, h_115, cond_true, cond_false] <;> rfl)
          · refine ev_aload_n rfl hC d_Text_parseOne_80 ?_
            refine ev_bipush (v := 23) rfl hC d_Text_parseOne_81 ?_
            refine cv_Text1 hC d_Text_parseOne_83 (c_Text_takesNumber (TKI_tkW (TKI_J1 (TKI_tkN (TKI_tkW (TKI_adO (TKI_tkW (TKI_stp h)))))))) mi_Text_takesNumber ml_Text_60 im_Text_takesNumber se_Text_takesNumber rfl ⟨Nat.le_of_ble_eq_true rfl, Nat.le_of_ble_eq_true rfl⟩ ⟨Nat.le_of_ble_eq_true rfl, Nat.le_of_ble_eq_true rfl⟩ rfl rfl (Nat.le_of_ble_eq_true rfl)  ?_
            refine eb_ne 91 hC d_Text_parseOne_86 rfl (fun h_86 => ?_) (fun h_86 => ?_)
            · refine ev_aload rfl hC d_Text_parseOne_91 ?_
              refine ev_aload_n rfl hC d_Text_parseOne_93 ?_
              refine gv_Text_taken hC d_Text_parseOne_94 fl_Text_64  ?_
              refine pn_One_goes hC d_Text_parseOne_97 fl_Text_103 (by first | assumption | decide) (by first | assumption | omega) ?_
              refine ev_aload_n rfl hC d_Text_parseOne_100 ?_
              refine ev_ldcS (i := 9) (tx := "comes") (by decide) hC d_Text_parseOne_101 ?_
              refine cv_Text1 hC d_Text_parseOne_103 (c_Text_takes (w := 9) (by decide) (TKI_J1 (TKI_tkN (TKI_tkW (TKI_J1 (TKI_tkN (TKI_tkW (TKI_adO (TKI_tkW (TKI_stp h)))))))))) mi_Text_takes ml_Text_37 im_Text_takes se_Text_takes rfl ⟨Nat.le_of_ble_eq_true rfl, Nat.le_of_ble_eq_true rfl⟩ ⟨Nat.le_of_ble_eq_true rfl, Nat.le_of_ble_eq_true rfl⟩ rfl rfl (Nat.le_of_ble_eq_true rfl)  ?_
              refine eb_eq 129 hC d_Text_parseOne_106 rfl (fun h_106 => ?_) (fun h_106 => ?_)
              · refine ev_iconst (v := 1) rfl hC d_Text_parseOne_129 ?_
                exact ev_zret hC hR d_Text_parseOne_130 rfl (by first | exact bi_nar _ | decide) (by simp only [P_one, po0, po1, po2, po, hx, h_4, h_21, h_47, h_57, h_77, h_86, h_106, cond_true, cond_false] <;> rfl) (by simp only [P_one, po0, po1, po2, po, hx, h_4, h_21, h_47, h_57, h_77, h_86, h_106, cond_true, cond_false] <;> rfl)
              · refine ev_aload_n rfl hC d_Text_parseOne_109 ?_
                refine ev_bipush (v := 23) rfl hC d_Text_parseOne_110 ?_
                refine cv_Text1 hC d_Text_parseOne_112 (c_Text_takesNumber (TKI_tkW (TKI_J1 (TKI_tkN (TKI_tkW (TKI_J1 (TKI_tkN (TKI_tkW (TKI_adO (TKI_tkW (TKI_stp h))))))))))) mi_Text_takesNumber ml_Text_60 im_Text_takesNumber se_Text_takesNumber rfl ⟨Nat.le_of_ble_eq_true rfl, Nat.le_of_ble_eq_true rfl⟩ ⟨Nat.le_of_ble_eq_true rfl, Nat.le_of_ble_eq_true rfl⟩ rfl rfl (Nat.le_of_ble_eq_true rfl)  ?_
                refine eb_ne 120 hC d_Text_parseOne_115 rfl (fun h_115 => ?_) (fun h_115 => ?_)
                · refine ev_aload rfl hC d_Text_parseOne_120 ?_
                  refine ev_aload_n rfl hC d_Text_parseOne_122 ?_
                  refine gv_Text_taken hC d_Text_parseOne_123 fl_Text_64  ?_
                  refine pn_One_comes hC d_Text_parseOne_126 fl_Text_107 (by first | assumption | decide) (by first | assumption | omega) ?_
                  refine ev_iconst (v := 1) rfl hC d_Text_parseOne_129 ?_
                  exact ev_zret hC hR d_Text_parseOne_130 rfl (by first | exact bi_nar _ | decide) (by simp only [P_one, po0, po1, po2, po, hx, h_4, h_21, h_47, h_57, h_77, h_86, h_106, h_115, cond_true, cond_false] <;> rfl) (by simp only [P_one, po0, po1, po2, po, hx, h_4, h_21, h_47, h_57, h_77, h_86, h_106, h_115, cond_true, cond_false] <;> rfl)
                · refine ev_iconst (v := 0) rfl hC d_Text_parseOne_118 ?_
                  exact ev_zret hC hR d_Text_parseOne_119 rfl (by first | exact bi_nar _ | decide) (by simp only [P_one, po0, po1, po2, po, hx, h_4, h_21, h_47, h_57, h_77, h_86, h_106, h_115, cond_true, cond_false] <;> rfl) (by simp only [P_one, po0, po1, po2, po, hx, h_4, h_21, h_47, h_57, h_77, h_86, h_106, h_115, cond_true, cond_false] <;> rfl)
            · refine ev_iconst (v := 0) rfl hC d_Text_parseOne_89 ?_
              exact ev_zret hC hR d_Text_parseOne_90 rfl (by first | exact bi_nar _ | decide) (by simp only [P_one, po0, po1, po2, po, hx, h_4, h_21, h_47, h_57, h_77, h_86, cond_true, cond_false] <;> rfl) (by simp only [P_one, po0, po1, po2, po, hx, h_4, h_21, h_47, h_57, h_77, h_86, cond_true, cond_false] <;> rfl)
        · refine ev_iconst (v := 0) rfl hC d_Text_parseOne_60 ?_
          exact ev_zret hC hR d_Text_parseOne_61 rfl (by first | exact bi_nar _ | decide) (by simp only [P_one, po0, po1, po2, po, hx, h_4, h_21, h_47, h_57, cond_true, cond_false] <;> rfl) (by simp only [P_one, po0, po1, po2, po, hx, h_4, h_21, h_47, h_57, cond_true, cond_false] <;> rfl)
    · refine ev_iconst (v := 1) rfl hC d_Text_parseOne_24 ?_
      refine ev_goto 29 hC d_Text_parseOne_25 rfl ?_
      refine cv_River1 hC d_Text_parseOne_29 (c_adO hn8 (by rw [tkW_1 _ _ (by decide), stp_1 _ (by decide)]; exact hc)) mi_River_addOne ml_Text_88 im_River_addOne se_River_addOne rfl ⟨Nat.le_of_ble_eq_true rfl, Nat.le_of_ble_eq_true rfl⟩ ⟨Nat.le_of_ble_eq_true rfl, Nat.le_of_ble_eq_true rfl⟩ rfl rfl (Nat.le_of_ble_eq_true rfl) (by first | assumption | decide) ?_
      refine ev_istore_n (by decide) hC d_Text_parseOne_32 ?_
      refine ev_aload_n rfl hC d_Text_parseOne_33 ?_
      refine gn_River_people hC d_Text_parseOne_34 fl_Text_91 (by first | assumption | decide) ?_
      refine ev_iload_n rfl hC d_Text_parseOne_37 ?_
      refine gr_people hC d_Text_parseOne_38 (by first | assumption | decide) (by first | assumption | omega) ?_
      refine ev_astore (by decide) hC d_Text_parseOne_39 ?_
      refine ev_aload_n rfl hC d_Text_parseOne_41 ?_
      refine ev_ldcS (i := 7) (tx := "purse") (by decide) hC d_Text_parseOne_42 ?_
      refine cv_Text1 hC d_Text_parseOne_44 (c_Text_takes (w := 7) (by decide) (TKI_adO (TKI_tkW (TKI_stp h)))) mi_Text_takes ml_Text_37 im_Text_takes se_Text_takes rfl ⟨Nat.le_of_ble_eq_true rfl, Nat.le_of_ble_eq_true rfl⟩ ⟨Nat.le_of_ble_eq_true rfl, Nat.le_of_ble_eq_true rfl⟩ rfl rfl (Nat.le_of_ble_eq_true rfl)  ?_
      refine eb_eq 71 hC d_Text_parseOne_47 rfl (fun h_47 => ?_) (fun h_47 => ?_)
      · refine ev_aload_n rfl hC d_Text_parseOne_71 ?_
        refine ev_ldcS (i := 8) (tx := "goes") (by decide) hC d_Text_parseOne_72 ?_
        refine cv_Text1 hC d_Text_parseOne_74 (c_Text_takes (w := 8) (by decide) (TKI_tkW (TKI_adO (TKI_tkW (TKI_stp h))))) mi_Text_takes ml_Text_37 im_Text_takes se_Text_takes rfl ⟨Nat.le_of_ble_eq_true rfl, Nat.le_of_ble_eq_true rfl⟩ ⟨Nat.le_of_ble_eq_true rfl, Nat.le_of_ble_eq_true rfl⟩ rfl rfl (Nat.le_of_ble_eq_true rfl)  ?_
        refine eb_eq 100 hC d_Text_parseOne_77 rfl (fun h_77 => ?_) (fun h_77 => ?_)
        · refine ev_aload_n rfl hC d_Text_parseOne_100 ?_
          refine ev_ldcS (i := 9) (tx := "comes") (by decide) hC d_Text_parseOne_101 ?_
          refine cv_Text1 hC d_Text_parseOne_103 (c_Text_takes (w := 9) (by decide) (TKI_tkW (TKI_tkW (TKI_adO (TKI_tkW (TKI_stp h)))))) mi_Text_takes ml_Text_37 im_Text_takes se_Text_takes rfl ⟨Nat.le_of_ble_eq_true rfl, Nat.le_of_ble_eq_true rfl⟩ ⟨Nat.le_of_ble_eq_true rfl, Nat.le_of_ble_eq_true rfl⟩ rfl rfl (Nat.le_of_ble_eq_true rfl)  ?_
          refine eb_eq 129 hC d_Text_parseOne_106 rfl (fun h_106 => ?_) (fun h_106 => ?_)
          · refine ev_iconst (v := 1) rfl hC d_Text_parseOne_129 ?_
            exact ev_zret hC hR d_Text_parseOne_130 rfl (by first | exact bi_nar _ | decide) (by simp only [P_one, po0, po1, po2, po, hx, h_4, h_21, h_47, h_77, h_106, cond_true, cond_false] <;> rfl) (by simp only [P_one, po0, po1, po2, po, hx, h_4, h_21, h_47, h_77, h_106, cond_true, cond_false] <;> rfl)
          · refine ev_aload_n rfl hC d_Text_parseOne_109 ?_
            refine ev_bipush (v := 23) rfl hC d_Text_parseOne_110 ?_
            refine cv_Text1 hC d_Text_parseOne_112 (c_Text_takesNumber (TKI_tkW (TKI_tkW (TKI_tkW (TKI_adO (TKI_tkW (TKI_stp h))))))) mi_Text_takesNumber ml_Text_60 im_Text_takesNumber se_Text_takesNumber rfl ⟨Nat.le_of_ble_eq_true rfl, Nat.le_of_ble_eq_true rfl⟩ ⟨Nat.le_of_ble_eq_true rfl, Nat.le_of_ble_eq_true rfl⟩ rfl rfl (Nat.le_of_ble_eq_true rfl)  ?_
            refine eb_ne 120 hC d_Text_parseOne_115 rfl (fun h_115 => ?_) (fun h_115 => ?_)
            · refine ev_aload rfl hC d_Text_parseOne_120 ?_
              refine ev_aload_n rfl hC d_Text_parseOne_122 ?_
              refine gv_Text_taken hC d_Text_parseOne_123 fl_Text_64  ?_
              refine pn_One_comes hC d_Text_parseOne_126 fl_Text_107 (by first | assumption | decide) (by first | assumption | omega) ?_
              refine ev_iconst (v := 1) rfl hC d_Text_parseOne_129 ?_
              exact ev_zret hC hR d_Text_parseOne_130 rfl (by first | exact bi_nar _ | decide) (by simp only [P_one, po0, po1, po2, po, hx, h_4, h_21, h_47, h_77, h_106, h_115, cond_true, cond_false] <;> rfl) (by simp only [P_one, po0, po1, po2, po, hx, h_4, h_21, h_47, h_77, h_106, h_115, cond_true, cond_false] <;> rfl)
            · refine ev_iconst (v := 0) rfl hC d_Text_parseOne_118 ?_
              exact ev_zret hC hR d_Text_parseOne_119 rfl (by first | exact bi_nar _ | decide) (by simp only [P_one, po0, po1, po2, po, hx, h_4, h_21, h_47, h_77, h_106, h_115, cond_true, cond_false] <;> rfl) (by simp only [P_one, po0, po1, po2, po, hx, h_4, h_21, h_47, h_77, h_106, h_115, cond_true, cond_false] <;> rfl)
        · refine ev_aload_n rfl hC d_Text_parseOne_80 ?_
          refine ev_bipush (v := 23) rfl hC d_Text_parseOne_81 ?_
          refine cv_Text1 hC d_Text_parseOne_83 (c_Text_takesNumber (TKI_tkW (TKI_tkW (TKI_adO (TKI_tkW (TKI_stp h)))))) mi_Text_takesNumber ml_Text_60 im_Text_takesNumber se_Text_takesNumber rfl ⟨Nat.le_of_ble_eq_true rfl, Nat.le_of_ble_eq_true rfl⟩ ⟨Nat.le_of_ble_eq_true rfl, Nat.le_of_ble_eq_true rfl⟩ rfl rfl (Nat.le_of_ble_eq_true rfl)  ?_
          refine eb_ne 91 hC d_Text_parseOne_86 rfl (fun h_86 => ?_) (fun h_86 => ?_)
          · refine ev_aload rfl hC d_Text_parseOne_91 ?_
            refine ev_aload_n rfl hC d_Text_parseOne_93 ?_
            refine gv_Text_taken hC d_Text_parseOne_94 fl_Text_64  ?_
            refine pn_One_goes hC d_Text_parseOne_97 fl_Text_103 (by first | assumption | decide) (by first | assumption | omega) ?_
            refine ev_aload_n rfl hC d_Text_parseOne_100 ?_
            refine ev_ldcS (i := 9) (tx := "comes") (by decide) hC d_Text_parseOne_101 ?_
            refine cv_Text1 hC d_Text_parseOne_103 (c_Text_takes (w := 9) (by decide) (TKI_J1 (TKI_tkN (TKI_tkW (TKI_tkW (TKI_adO (TKI_tkW (TKI_stp h)))))))) mi_Text_takes ml_Text_37 im_Text_takes se_Text_takes rfl ⟨Nat.le_of_ble_eq_true rfl, Nat.le_of_ble_eq_true rfl⟩ ⟨Nat.le_of_ble_eq_true rfl, Nat.le_of_ble_eq_true rfl⟩ rfl rfl (Nat.le_of_ble_eq_true rfl)  ?_
            refine eb_eq 129 hC d_Text_parseOne_106 rfl (fun h_106 => ?_) (fun h_106 => ?_)
            · refine ev_iconst (v := 1) rfl hC d_Text_parseOne_129 ?_
              exact ev_zret hC hR d_Text_parseOne_130 rfl (by first | exact bi_nar _ | decide) (by simp only [P_one, po0, po1, po2, po, hx, h_4, h_21, h_47, h_77, h_86, h_106, cond_true, cond_false] <;> rfl) (by simp only [P_one, po0, po1, po2, po, hx, h_4, h_21, h_47, h_77, h_86, h_106, cond_true, cond_false] <;> rfl)
            · refine ev_aload_n rfl hC d_Text_parseOne_109 ?_
              refine ev_bipush (v := 23) rfl hC d_Text_parseOne_110 ?_
              refine cv_Text1 hC d_Text_parseOne_112 (c_Text_takesNumber (TKI_tkW (TKI_J1 (TKI_tkN (TKI_tkW (TKI_tkW (TKI_adO (TKI_tkW (TKI_stp h))))))))) mi_Text_takesNumber ml_Text_60 im_Text_takesNumber se_Text_takesNumber rfl ⟨Nat.le_of_ble_eq_true rfl, Nat.le_of_ble_eq_true rfl⟩ ⟨Nat.le_of_ble_eq_true rfl, Nat.le_of_ble_eq_true rfl⟩ rfl rfl (Nat.le_of_ble_eq_true rfl)  ?_
              refine eb_ne 120 hC d_Text_parseOne_115 rfl (fun h_115 => ?_) (fun h_115 => ?_)
              · refine ev_aload rfl hC d_Text_parseOne_120 ?_
                refine ev_aload_n rfl hC d_Text_parseOne_122 ?_
                refine gv_Text_taken hC d_Text_parseOne_123 fl_Text_64  ?_
                refine pn_One_comes hC d_Text_parseOne_126 fl_Text_107 (by first | assumption | decide) (by first | assumption | omega) ?_
                refine ev_iconst (v := 1) rfl hC d_Text_parseOne_129 ?_
                exact ev_zret hC hR d_Text_parseOne_130 rfl (by first | exact bi_nar _ | decide) (by simp only [P_one, po0, po1, po2, po, hx, h_4, h_21, h_47, h_77, h_86, h_106, h_115, cond_true, cond_false] <;> rfl) (by simp only [P_one, po0, po1, po2, po, hx, h_4, h_21, h_47, h_77, h_86, h_106, h_115, cond_true, cond_false] <;> rfl)
              · refine ev_iconst (v := 0) rfl hC d_Text_parseOne_118 ?_
                exact ev_zret hC hR d_Text_parseOne_119 rfl (by first | exact bi_nar _ | decide) (by simp only [P_one, po0, po1, po2, po, hx, h_4, h_21, h_47, h_77, h_86, h_106, h_115, cond_true, cond_false] <;> rfl) (by simp only [P_one, po0, po1, po2, po, hx, h_4, h_21, h_47, h_77, h_86, h_106, h_115, cond_true, cond_false] <;> rfl)
          · refine ev_iconst (v := 0) rfl hC d_Text_parseOne_89 ?_
            exact ev_zret hC hR d_Text_parseOne_90 rfl (by first | exact bi_nar _ | decide) (by simp only [P_one, po0, po1, po2, po, hx, h_4, h_21, h_47, h_77, h_86, cond_true, cond_false] <;> rfl) (by simp only [P_one, po0, po1, po2, po, hx, h_4, h_21, h_47, h_77, h_86, cond_true, cond_false] <;> rfl)
      · refine ev_aload_n rfl hC d_Text_parseOne_50 ?_
        refine ev_sipush (v := 9999) rfl hC d_Text_parseOne_51 ?_
        refine cv_Text1 hC d_Text_parseOne_54 (c_Text_takesNumber (TKI_tkW (TKI_adO (TKI_tkW (TKI_stp h))))) mi_Text_takesNumber ml_Text_60 im_Text_takesNumber se_Text_takesNumber rfl ⟨Nat.le_of_ble_eq_true rfl, Nat.le_of_ble_eq_true rfl⟩ ⟨Nat.le_of_ble_eq_true rfl, Nat.le_of_ble_eq_true rfl⟩ rfl rfl (Nat.le_of_ble_eq_true rfl)  ?_
        refine eb_ne 62 hC d_Text_parseOne_57 rfl (fun h_57 => ?_) (fun h_57 => ?_)
        · refine ev_aload rfl hC d_Text_parseOne_62 ?_
          refine ev_aload_n rfl hC d_Text_parseOne_64 ?_
          refine gv_Text_taken hC d_Text_parseOne_65 fl_Text_64  ?_
          refine pn_One_purse hC d_Text_parseOne_68 fl_Text_97 (by first | assumption | decide) (by first | assumption | omega) ?_
          refine ev_aload_n rfl hC d_Text_parseOne_71 ?_
          refine ev_ldcS (i := 8) (tx := "goes") (by decide) hC d_Text_parseOne_72 ?_
          refine cv_Text1 hC d_Text_parseOne_74 (c_Text_takes (w := 8) (by decide) (TKI_J1 (TKI_tkN (TKI_tkW (TKI_adO (TKI_tkW (TKI_stp h))))))) mi_Text_takes ml_Text_37 im_Text_takes se_Text_takes rfl ⟨Nat.le_of_ble_eq_true rfl, Nat.le_of_ble_eq_true rfl⟩ ⟨Nat.le_of_ble_eq_true rfl, Nat.le_of_ble_eq_true rfl⟩ rfl rfl (Nat.le_of_ble_eq_true rfl)  ?_
          refine eb_eq 100 hC d_Text_parseOne_77 rfl (fun h_77 => ?_) (fun h_77 => ?_)
          · refine ev_aload_n rfl hC d_Text_parseOne_100 ?_
            refine ev_ldcS (i := 9) (tx := "comes") (by decide) hC d_Text_parseOne_101 ?_
            refine cv_Text1 hC d_Text_parseOne_103 (c_Text_takes (w := 9) (by decide) (TKI_tkW (TKI_J1 (TKI_tkN (TKI_tkW (TKI_adO (TKI_tkW (TKI_stp h)))))))) mi_Text_takes ml_Text_37 im_Text_takes se_Text_takes rfl ⟨Nat.le_of_ble_eq_true rfl, Nat.le_of_ble_eq_true rfl⟩ ⟨Nat.le_of_ble_eq_true rfl, Nat.le_of_ble_eq_true rfl⟩ rfl rfl (Nat.le_of_ble_eq_true rfl)  ?_
            refine eb_eq 129 hC d_Text_parseOne_106 rfl (fun h_106 => ?_) (fun h_106 => ?_)
            · refine ev_iconst (v := 1) rfl hC d_Text_parseOne_129 ?_
              exact ev_zret hC hR d_Text_parseOne_130 rfl (by first | exact bi_nar _ | decide) (by simp only [P_one, po0, po1, po2, po, hx, h_4, h_21, h_47, h_57, h_77, h_106, cond_true, cond_false] <;> rfl) (by simp only [P_one, po0, po1, po2, po, hx, h_4, h_21, h_47, h_57, h_77, h_106, cond_true, cond_false] <;> rfl)
            · refine ev_aload_n rfl hC d_Text_parseOne_109 ?_
              refine ev_bipush (v := 23) rfl hC d_Text_parseOne_110 ?_
              refine cv_Text1 hC d_Text_parseOne_112 (c_Text_takesNumber (TKI_tkW (TKI_tkW (TKI_J1 (TKI_tkN (TKI_tkW (TKI_adO (TKI_tkW (TKI_stp h))))))))) mi_Text_takesNumber ml_Text_60 im_Text_takesNumber se_Text_takesNumber rfl ⟨Nat.le_of_ble_eq_true rfl, Nat.le_of_ble_eq_true rfl⟩ ⟨Nat.le_of_ble_eq_true rfl, Nat.le_of_ble_eq_true rfl⟩ rfl rfl (Nat.le_of_ble_eq_true rfl)  ?_
              refine eb_ne 120 hC d_Text_parseOne_115 rfl (fun h_115 => ?_) (fun h_115 => ?_)
              · refine ev_aload rfl hC d_Text_parseOne_120 ?_
                refine ev_aload_n rfl hC d_Text_parseOne_122 ?_
                refine gv_Text_taken hC d_Text_parseOne_123 fl_Text_64  ?_
                refine pn_One_comes hC d_Text_parseOne_126 fl_Text_107 (by first | assumption | decide) (by first | assumption | omega) ?_
                refine ev_iconst (v := 1) rfl hC d_Text_parseOne_129 ?_
                exact ev_zret hC hR d_Text_parseOne_130 rfl (by first | exact bi_nar _ | decide) (by simp only [P_one, po0, po1, po2, po, hx, h_4, h_21, h_47, h_57, h_77, h_106, h_115, cond_true, cond_false] <;> rfl) (by simp only [P_one, po0, po1, po2, po, hx, h_4, h_21, h_47, h_57, h_77, h_106, h_115, cond_true, cond_false] <;> rfl)
              · refine ev_iconst (v := 0) rfl hC d_Text_parseOne_118 ?_
                exact ev_zret hC hR d_Text_parseOne_119 rfl (by first | exact bi_nar _ | decide) (by simp only [P_one, po0, po1, po2, po, hx, h_4, h_21, h_47, h_57, h_77, h_106, h_115, cond_true, cond_false] <;> rfl) (by simp only [P_one, po0, po1, po2, po, hx, h_4, h_21, h_47, h_57, h_77, h_106, h_115, cond_true, cond_false] <;> rfl)
          · refine ev_aload_n rfl hC d_Text_parseOne_80 ?_
            refine ev_bipush (v := 23) rfl hC d_Text_parseOne_81 ?_
            refine cv_Text1 hC d_Text_parseOne_83 (c_Text_takesNumber (TKI_tkW (TKI_J1 (TKI_tkN (TKI_tkW (TKI_adO (TKI_tkW (TKI_stp h)))))))) mi_Text_takesNumber ml_Text_60 im_Text_takesNumber se_Text_takesNumber rfl ⟨Nat.le_of_ble_eq_true rfl, Nat.le_of_ble_eq_true rfl⟩ ⟨Nat.le_of_ble_eq_true rfl, Nat.le_of_ble_eq_true rfl⟩ rfl rfl (Nat.le_of_ble_eq_true rfl)  ?_
            refine eb_ne 91 hC d_Text_parseOne_86 rfl (fun h_86 => ?_) (fun h_86 => ?_)
            · refine ev_aload rfl hC d_Text_parseOne_91 ?_
              refine ev_aload_n rfl hC d_Text_parseOne_93 ?_
              refine gv_Text_taken hC d_Text_parseOne_94 fl_Text_64  ?_
              refine pn_One_goes hC d_Text_parseOne_97 fl_Text_103 (by first | assumption | decide) (by first | assumption | omega) ?_
              refine ev_aload_n rfl hC d_Text_parseOne_100 ?_
              refine ev_ldcS (i := 9) (tx := "comes") (by decide) hC d_Text_parseOne_101 ?_
              refine cv_Text1 hC d_Text_parseOne_103 (c_Text_takes (w := 9) (by decide) (TKI_J1 (TKI_tkN (TKI_tkW (TKI_J1 (TKI_tkN (TKI_tkW (TKI_adO (TKI_tkW (TKI_stp h)))))))))) mi_Text_takes ml_Text_37 im_Text_takes se_Text_takes rfl ⟨Nat.le_of_ble_eq_true rfl, Nat.le_of_ble_eq_true rfl⟩ ⟨Nat.le_of_ble_eq_true rfl, Nat.le_of_ble_eq_true rfl⟩ rfl rfl (Nat.le_of_ble_eq_true rfl)  ?_
              refine eb_eq 129 hC d_Text_parseOne_106 rfl (fun h_106 => ?_) (fun h_106 => ?_)
              · refine ev_iconst (v := 1) rfl hC d_Text_parseOne_129 ?_
                exact ev_zret hC hR d_Text_parseOne_130 rfl (by first | exact bi_nar _ | decide) (by simp only [P_one, po0, po1, po2, po, hx, h_4, h_21, h_47, h_57, h_77, h_86, h_106, cond_true, cond_false] <;> rfl) (by simp only [P_one, po0, po1, po2, po, hx, h_4, h_21, h_47, h_57, h_77, h_86, h_106, cond_true, cond_false] <;> rfl)
              · refine ev_aload_n rfl hC d_Text_parseOne_109 ?_
                refine ev_bipush (v := 23) rfl hC d_Text_parseOne_110 ?_
                refine cv_Text1 hC d_Text_parseOne_112 (c_Text_takesNumber (TKI_tkW (TKI_J1 (TKI_tkN (TKI_tkW (TKI_J1 (TKI_tkN (TKI_tkW (TKI_adO (TKI_tkW (TKI_stp h))))))))))) mi_Text_takesNumber ml_Text_60 im_Text_takesNumber se_Text_takesNumber rfl ⟨Nat.le_of_ble_eq_true rfl, Nat.le_of_ble_eq_true rfl⟩ ⟨Nat.le_of_ble_eq_true rfl, Nat.le_of_ble_eq_true rfl⟩ rfl rfl (Nat.le_of_ble_eq_true rfl)  ?_
                refine eb_ne 120 hC d_Text_parseOne_115 rfl (fun h_115 => ?_) (fun h_115 => ?_)
                · refine ev_aload rfl hC d_Text_parseOne_120 ?_
                  refine ev_aload_n rfl hC d_Text_parseOne_122 ?_
                  refine gv_Text_taken hC d_Text_parseOne_123 fl_Text_64  ?_
                  refine pn_One_comes hC d_Text_parseOne_126 fl_Text_107 (by first | assumption | decide) (by first | assumption | omega) ?_
                  refine ev_iconst (v := 1) rfl hC d_Text_parseOne_129 ?_
                  exact ev_zret hC hR d_Text_parseOne_130 rfl (by first | exact bi_nar _ | decide) (by simp only [P_one, po0, po1, po2, po, hx, h_4, h_21, h_47, h_57, h_77, h_86, h_106, h_115, cond_true, cond_false] <;> rfl) (by simp only [P_one, po0, po1, po2, po, hx, h_4, h_21, h_47, h_57, h_77, h_86, h_106, h_115, cond_true, cond_false] <;> rfl)
                · refine ev_iconst (v := 0) rfl hC d_Text_parseOne_118 ?_
                  exact ev_zret hC hR d_Text_parseOne_119 rfl (by first | exact bi_nar _ | decide) (by simp only [P_one, po0, po1, po2, po, hx, h_4, h_21, h_47, h_57, h_77, h_86, h_106, h_115, cond_true, cond_false] <;> rfl) (by simp only [P_one, po0, po1, po2, po, hx, h_4, h_21, h_47, h_57, h_77, h_86, h_106, h_115, cond_true, cond_false] <;> rfl)
            · refine ev_iconst (v := 0) rfl hC d_Text_parseOne_89 ?_
              exact ev_zret hC hR d_Text_parseOne_90 rfl (by first | exact bi_nar _ | decide) (by simp only [P_one, po0, po1, po2, po, hx, h_4, h_21, h_47, h_57, h_77, h_86, cond_true, cond_false] <;> rfl) (by simp only [P_one, po0, po1, po2, po, hx, h_4, h_21, h_47, h_57, h_77, h_86, cond_true, cond_false] <;> rfl)
        · refine ev_iconst (v := 0) rfl hC d_Text_parseOne_60 ?_
          exact ev_zret hC hR d_Text_parseOne_61 rfl (by first | exact bi_nar _ | decide) (by simp only [P_one, po0, po1, po2, po, hx, h_4, h_21, h_47, h_57, cond_true, cond_false] <;> rfl) (by simp only [P_one, po0, po1, po2, po, hx, h_4, h_21, h_47, h_57, cond_true, cond_false] <;> rfl)
  · refine ev_iconst (v := 0) rfl hC d_Text_parseOne_7 ?_
    exact ev_zret hC hR d_Text_parseOne_8 rfl (by first | exact bi_nar _ | decide) (by simp only [P_one, po0, po1, po2, po, hx, h_4, cond_true, cond_false] <;> rfl) (by simp only [P_one, po0, po1, po2, po, hx, h_4, cond_true, cond_false] <;> rfl)
