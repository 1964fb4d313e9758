theorem asd_10 (M : ex_M) : (asd M).1 10 = M.1 10 := by simp only [asd, mI]; exact wr_n (by decide)
theorem asd_14 (M : ex_M) : (asd M).1 14 = M.1 14 := by simp only [asd, mI]; exact wr_n (by decide)
theorem c_cp_na {G : ex_G} {M : ex_M} : Con G Y_Mod_copyRow 0 0 0 0 [.ref (ex_b G + 72), .ref (ex_b G + 74)] (ce G M) none (ce G (asd M)) := c_Mod_copyRow (t := 0) (u := 2) (by decide) (by decide) (by decide)
theorem c_cp_nk {G : ex_G} {M : ex_M} : Con G Y_Mod_copyRow 0 0 0 0 [.ref (ex_b G + 72), .ref (ex_b G + 73)] (ce G M) none (ce G (mI M 11 (cpf 84 (M.1 10) (M.1 11)))) := c_Mod_copyRow (t := 0) (u := 1) (by decide) (by decide) (by decide)
theorem c_cp_kn {G : ex_G} {M : ex_M} : Con G Y_Mod_copyRow 0 0 0 0 [.ref (ex_b G + 73), .ref (ex_b G + 72)] (ce G M) none (ce G (mI M 10 (cpf 84 (M.1 11) (M.1 10)))) := c_Mod_copyRow (t := 1) (u := 0) (by decide) (by decide) (by decide)
theorem c_cp_an {G : ex_G} {M : ex_M} : Con G Y_Mod_copyRow 0 0 0 0 [.ref (ex_b G + 74), .ref (ex_b G + 72)] (ce G M) none (ce G (bck M)) := c_Mod_copyRow (t := 2) (u := 0) (by decide) (by decide) (by decide)
theorem bck_mI (M : ex_M) (a b : Nat → Int32) : bck (mI (mI M 10 a) 10 b) = bck (mI M 10 b) := by simp only [mI, wr_wr]
theorem hs1_ntz : ∀ k, k < 256 → k ≠ 0 → ∀ p, p < 8 → p ≤ ntz k → hs1 (nI k) (nI p) = decide (p = ntz k) := by decide +kernel

set_option maxHeartbeats 2000000 in
set_option maxRecDepth 10000 in
theorem c_Mod_fieldOn {G : ex_G} {M : ex_M} {aw : Int32} {n ne p h f : Nat} (hp : p < 8) (hh : h < 2 ^ 30) (hf : f < 7) (ha : M.1 14 1 = aw) (hk : HK (M.1 10) n ne) : Con G Y_Mod_fieldOn 6 134 0 0 [.ref (ex_b G + 71), .int (nI p), .int (nI h), .int (nI f)] (ce G M) (some (.int (hoursR aw n ne h (M.1 10) (28 + 7 * p + f)))) (ce G (thk M (hoursR aw n ne h (M.1 10)))) := by
  refine Con.ofF (plainFor_of_name (by decide +kernel)) (Nat.le_of_ble_eq_true rfl) (fun C hC hR => ?_)
  show Ev G C Y_Mod_fieldOn 0 [some (.ref (ex_b G + 71)), some (.int (nI p)), some (.int (nI h)), some (.int (nI f))] [] 0 0 (ce G M)
  refine ev_aload_n rfl hC d_Mod_fieldOn_0 ?_
  refine gv_Mod_now hC d_Mod_fieldOn_1 fl_Mod_9  ?_
  refine ev_aload_n rfl hC d_Mod_fieldOn_4 ?_
  refine gv_Mod_aside hC d_Mod_fieldOn_5 fl_Mod_16  ?_
  refine cs_0 hC d_Mod_fieldOn_8 (c_cp_na) mi_Mod_copyRow ml_Mod_64 sm_Mod_copyRow ⟨Nat.le_of_ble_eq_true rfl, Nat.le_of_ble_eq_true rfl⟩ ⟨Nat.le_of_ble_eq_true rfl, Nat.le_of_ble_eq_true rfl⟩ rfl rfl (Nat.le_of_ble_eq_true rfl) ?_
  refine ev_aload_n rfl hC d_Mod_fieldOn_11 ?_
  refine ev_iload_n rfl hC d_Mod_fieldOn_12 ?_
  refine cv_Mod0 hC d_Mod_fieldOn_13 (c_Mod_hoursGo (aw := aw) (n := n) (ne := ne) hh (by rw [asd_14]; exact ha) (by rw [asd_10]; exact hk)) mi_Mod_hoursGo ml_Mod_175 im_Mod_hoursGo se_Mod_hoursGo rfl ⟨Nat.le_of_ble_eq_true rfl, Nat.le_of_ble_eq_true rfl⟩ ⟨Nat.le_of_ble_eq_true rfl, Nat.le_of_ble_eq_true rfl⟩ rfl rfl (Nat.le_of_ble_eq_true rfl)  ?_
  refine ev_aload_n rfl hC d_Mod_fieldOn_16 ?_
  refine ev_aload_n rfl hC d_Mod_fieldOn_17 ?_
  refine ev_iload_n rfl hC d_Mod_fieldOn_18 ?_
  refine ev_iload_n rfl hC d_Mod_fieldOn_19 ?_
  refine cv_Mod1 hC d_Mod_fieldOn_20 (c_Mod_oneIs hp hf) mi_Mod_oneIs ml_Mod_94 im_Mod_oneIs se_Mod_oneIs rfl ⟨Nat.le_of_ble_eq_true rfl, Nat.le_of_ble_eq_true rfl⟩ ⟨Nat.le_of_ble_eq_true rfl, Nat.le_of_ble_eq_true rfl⟩ rfl rfl (Nat.le_of_ble_eq_true rfl)  ?_
  refine cv_Mod1 hC d_Mod_fieldOn_23 (c_Mod_putBack ) mi_Mod_putBack ml_Mod_188 im_Mod_putBack se_Mod_putBack rfl ⟨Nat.le_of_ble_eq_true rfl, Nat.le_of_ble_eq_true rfl⟩ ⟨Nat.le_of_ble_eq_true rfl, Nat.le_of_ble_eq_true rfl⟩ rfl rfl (Nat.le_of_ble_eq_true rfl)  ?_
  exact ev_iret hC hR d_Mod_fieldOn_26 rfl (by rw [asd_10]; simp only [mI, wr_s]) (by rw [asd_10]; rfl)

set_option maxHeartbeats 2000000 in
set_option maxRecDepth 10000 in
theorem c_Mod_purseOn {G : ex_G} {M : ex_M} {aw : Int32} {n ne p h : Nat} (hp : p < 8) (hh : h < 2 ^ 30) (ha : M.1 14 1 = aw) (hk : HK (M.1 10) n ne) : Con G Y_Mod_purseOn 7 157 0 0 [.ref (ex_b G + 71), .int (nI p), .int (nI h)] (ce G M) (some (.int (hoursR aw n ne h (M.1 10) (28 + 7 * p + 2)))) (ce G (thk M (hoursR aw n ne h (M.1 10)))) := by
  refine Con.ofF (plainFor_of_name (by decide +kernel)) (Nat.le_of_ble_eq_true rfl) (fun C hC hR => ?_)
  show Ev G C Y_Mod_purseOn 0 [some (.ref (ex_b G + 71)), some (.int (nI p)), some (.int (nI h))] [] 0 0 (ce G M)
  refine ev_aload_n rfl hC d_Mod_purseOn_0 ?_
  refine ev_iload_n rfl hC d_Mod_purseOn_1 ?_
  refine ev_iload_n rfl hC d_Mod_purseOn_2 ?_
  refine ev_iconst (v := nI 2) rfl hC d_Mod_purseOn_3 ?_
  refine cv_Mod1 hC d_Mod_purseOn_4 (c_Mod_fieldOn hp hh (by omega) ha hk) mi_Mod_fieldOn ml_Mod_191 im_Mod_fieldOn se_Mod_fieldOn rfl ⟨Nat.le_of_ble_eq_true rfl, Nat.le_of_ble_eq_true rfl⟩ ⟨Nat.le_of_ble_eq_true rfl, Nat.le_of_ble_eq_true rfl⟩ rfl rfl (Nat.le_of_ble_eq_true rfl)  ?_
  exact ev_iret hC hR d_Mod_purseOn_7 rfl (rfl) (rfl)

set_option maxHeartbeats 2000000 in
set_option maxRecDepth 10000 in
theorem c_Mod_on {G : ex_G} {M : ex_M} {np ne : Nat} {p n w0 : Int32} (w : WF (M.1 10) np ne) : Con G Y_Mod_on 7 157 0 0 [.ref (ex_b G + 71), .int p, .int n, .int w0] (ce G M) (some (.int (R_on M np ne p n w0).1)) (ce G ((R_on M np ne p n w0).2)) := by
  refine Con.ofF (plainFor_of_name (by decide +kernel)) (Nat.le_of_ble_eq_true rfl) (fun C hC hR => ?_)
  show Ev G C Y_Mod_on 0 [some (.ref (ex_b G + 71)), some (.int p), some (.int n), some (.int w0)] [] 0 0 (ce G M)
  obtain ⟨hc, hn, hc2, hn2, hmet, hkd, hkn⟩ := w
  refine ev_aload_n rfl hC d_Mod_on_0 ?_
  refine ev_iload_n rfl hC d_Mod_on_1 ?_
  refine cv_Mod1 hC d_Mod_on_2 (c_Mod_isOne ) mi_Mod_isOne ml_Mod_122 im_Mod_isOne se_Mod_isOne rfl ⟨Nat.le_of_ble_eq_true rfl, Nat.le_of_ble_eq_true rfl⟩ ⟨Nat.le_of_ble_eq_true rfl, Nat.le_of_ble_eq_true rfl⟩ rfl rfl (Nat.le_of_ble_eq_true rfl)  ?_
  refine en_eq 27 hC d_Mod_on_5 rfl (fun h_5 => ?_) (fun h_5 => ?_)
  · refine ev_aload_n rfl hC d_Mod_on_27 ?_
    refine ev_ldc kc_Mod_63 hC d_Mod_on_28 ?_
    refine cv_Mod1 hC d_Mod_on_30 (c_Mod_finding (k := 0) (by omega) (by decide +kernel)) mi_Mod_finding ml_Mod_82 im_Mod_finding se_Mod_finding rfl ⟨Nat.le_of_ble_eq_true rfl, Nat.le_of_ble_eq_true rfl⟩ ⟨Nat.le_of_ble_eq_true rfl, Nat.le_of_ble_eq_true rfl⟩ rfl rfl (Nat.le_of_ble_eq_true rfl)  ?_
    exact ev_iret hC hR d_Mod_on_33 rfl (by simp only [R_on, rbad, h_5, if_true, if_false, cond_true, cond_false, decide_true, decide_false, Bool.not_true, Bool.not_false, Bool.or_true, Bool.true_or, Bool.or_false, Bool.false_or, Bool.and_true, Bool.and_false, Bool.true_and, Bool.false_and, Bool.or_self, Bool.and_self, eq_self] <;> first | rfl | (rfl)) (by simp only [R_on, rbad, h_5, if_true, if_false, cond_true, cond_false, decide_true, decide_false, Bool.not_true, Bool.not_false, Bool.or_true, Bool.true_or, Bool.or_false, Bool.false_or, Bool.and_true, Bool.and_false, Bool.true_and, Bool.false_and, Bool.or_self, Bool.and_self, eq_self] <;> first | rfl | (rfl))
  · refine ev_iload_n rfl hC d_Mod_on_8 ?_
    refine ev_iconst (v := 0) rfl hC d_Mod_on_9 ?_
    refine ev_bipush (v := 72) rfl hC d_Mod_on_10 ?_
    refine cs_1 hC d_Mod_on_12 (c_Mod_within ) mi_Mod_within ml_Mod_68 sm_Mod_within ⟨Nat.le_of_ble_eq_true rfl, Nat.le_of_ble_eq_true rfl⟩ ⟨Nat.le_of_ble_eq_true rfl, Nat.le_of_ble_eq_true rfl⟩ rfl rfl (Nat.le_of_ble_eq_true rfl) ?_
    refine en_eq 27 hC d_Mod_on_15 rfl (fun h_15 => ?_) (fun h_15 => ?_)
    · refine ev_aload_n rfl hC d_Mod_on_27 ?_
      refine ev_ldc kc_Mod_63 hC d_Mod_on_28 ?_
      refine cv_Mod1 hC d_Mod_on_30 (c_Mod_finding (k := 0) (by omega) (by decide +kernel)) mi_Mod_finding ml_Mod_82 im_Mod_finding se_Mod_finding rfl ⟨Nat.le_of_ble_eq_true rfl, Nat.le_of_ble_eq_true rfl⟩ ⟨Nat.le_of_ble_eq_true rfl, Nat.le_of_ble_eq_true rfl⟩ rfl rfl (Nat.le_of_ble_eq_true rfl)  ?_
      exact ev_iret hC hR d_Mod_on_33 rfl (by simp only [R_on, rbad, h_5, h_15, if_true, if_false, cond_true, cond_false, decide_true, decide_false, Bool.not_true, Bool.not_false, Bool.or_true, Bool.true_or, Bool.or_false, Bool.false_or, Bool.and_true, Bool.and_false, Bool.true_and, Bool.false_and, Bool.or_self, Bool.and_self, eq_self] <;> first | rfl | (rfl)) (by simp only [R_on, rbad, h_5, h_15, if_true, if_false, cond_true, cond_false, decide_true, decide_false, Bool.not_true, Bool.not_false, Bool.or_true, Bool.true_or, Bool.or_false, Bool.false_or, Bool.and_true, Bool.and_false, Bool.true_and, Bool.false_and, Bool.or_self, Bool.and_self, eq_self] <;> first | rfl | (rfl))
    · refine ev_iload_n rfl hC d_Mod_on_18 ?_
      refine ev_iconst (v := 0) rfl hC d_Mod_on_19 ?_
      refine ev_iconst (v := 3) rfl hC d_Mod_on_20 ?_
      refine cs_1 hC d_Mod_on_21 (c_Mod_within ) mi_Mod_within ml_Mod_68 sm_Mod_within ⟨Nat.le_of_ble_eq_true rfl, Nat.le_of_ble_eq_true rfl⟩ ⟨Nat.le_of_ble_eq_true rfl, Nat.le_of_ble_eq_true rfl⟩ rfl rfl (Nat.le_of_ble_eq_true rfl) ?_
      refine en_ne 34 hC d_Mod_on_24 rfl (fun h_24 => ?_) (fun h_24 => ?_)
      · obtain ⟨i, hi, rfl⟩ := out_ix hc hn h_5
        have ci : (nI i).toNatClampNeg = i := nI_clamp (by omega)
        obtain ⟨n1, hn1, rfl⟩ := out_nat (n := 72) (by decide) h_15
        have cn : (nI n1).toNatClampNeg = n1 := nI_clamp (by omega)
        refine ev_aload_n rfl hC d_Mod_on_34 ?_
        refine ev_iload_n rfl hC d_Mod_on_35 ?_
        refine ev_iload_n rfl hC d_Mod_on_36 ?_
        refine ev_iload_n rfl hC d_Mod_on_37 ?_
        refine ev_if_ne 45 hC d_Mod_on_38 rfl (fun h_38 => ?_) (fun h_38 => ?_)
        · refine ev_iload_n rfl hC d_Mod_on_45 ?_
          refine ev_iconst (v := 1) rfl hC d_Mod_on_46 ?_
          refine ev_icmp_ne 54 hC d_Mod_on_47 rfl (fun h_47 => ?_) (fun h_47 => ?_)
          · refine ev_iload_n rfl hC d_Mod_on_54 ?_
            refine ev_iconst (v := 2) rfl hC d_Mod_on_55 ?_
            refine ev_icmp_ne 63 hC d_Mod_on_56 rfl (fun h_56 => ?_) (fun h_56 => ?_)
            · refine ev_bipush (v := nI 6) rfl hC d_Mod_on_63 ?_
              refine cv_Mod1 hC d_Mod_on_65 (c_Mod_fieldOn (f := 6) (by omega) (by omega) (by omega) rfl (HK_of ⟨hc, hn, hc2, hn2, hmet, hkd, hkn⟩)) mi_Mod_fieldOn ml_Mod_191 im_Mod_fieldOn se_Mod_fieldOn rfl ⟨Nat.le_of_ble_eq_true rfl, Nat.le_of_ble_eq_true rfl⟩ ⟨Nat.le_of_ble_eq_true rfl, Nat.le_of_ble_eq_true rfl⟩ rfl rfl (Nat.le_of_ble_eq_true rfl)  ?_
              exact ev_iret hC hR d_Mod_on_68 rfl (by simp only [R_on, fld, h_5, h_15, h_24, h_38, h_47, h_56, ix, ci, cn, if_true, if_false, cond_true, cond_false, decide_true, decide_false, Bool.not_true, Bool.not_false, Bool.or_true, Bool.true_or, Bool.or_false, Bool.false_or, Bool.and_true, Bool.and_false, Bool.true_and, Bool.false_and, Bool.or_self, Bool.and_self, eq_self] <;> rfl) (by simp only [R_on, fld, h_5, h_15, h_24, h_38, h_47, h_56, ix, ci, cn, if_true, if_false, cond_true, cond_false, decide_true, decide_false, Bool.not_true, Bool.not_false, Bool.or_true, Bool.true_or, Bool.or_false, Bool.false_or, Bool.and_true, Bool.and_false, Bool.true_and, Bool.false_and, Bool.or_self, Bool.and_self, eq_self] <;> rfl)
            · refine ev_iconst (v := nI 5) rfl hC d_Mod_on_59 ?_
              refine ev_goto 65 hC d_Mod_on_60 rfl ?_
              refine cv_Mod1 hC d_Mod_on_65 (c_Mod_fieldOn (f := 5) (by omega) (by omega) (by omega) rfl (HK_of ⟨hc, hn, hc2, hn2, hmet, hkd, hkn⟩)) mi_Mod_fieldOn ml_Mod_191 im_Mod_fieldOn se_Mod_fieldOn rfl ⟨Nat.le_of_ble_eq_true rfl, Nat.le_of_ble_eq_true rfl⟩ ⟨Nat.le_of_ble_eq_true rfl, Nat.le_of_ble_eq_true rfl⟩ rfl rfl (Nat.le_of_ble_eq_true rfl)  ?_
              exact ev_iret hC hR d_Mod_on_68 rfl (by simp only [R_on, fld, h_5, h_15, h_24, h_38, h_47, h_56, ix, ci, cn, if_true, if_false, cond_true, cond_false, decide_true, decide_false, Bool.not_true, Bool.not_false, Bool.or_true, Bool.true_or, Bool.or_false, Bool.false_or, Bool.and_true, Bool.and_false, Bool.true_and, Bool.false_and, Bool.or_self, Bool.and_self, eq_self] <;> rfl) (by simp only [R_on, fld, h_5, h_15, h_24, h_38, h_47, h_56, ix, ci, cn, if_true, if_false, cond_true, cond_false, decide_true, decide_false, Bool.not_true, Bool.not_false, Bool.or_true, Bool.true_or, Bool.or_false, Bool.false_or, Bool.and_true, Bool.and_false, Bool.true_and, Bool.false_and, Bool.or_self, Bool.and_self, eq_self] <;> rfl)
          · refine ev_iconst (v := nI 1) rfl hC d_Mod_on_50 ?_
            refine ev_goto 65 hC d_Mod_on_51 rfl ?_
            refine cv_Mod1 hC d_Mod_on_65 (c_Mod_fieldOn (f := 1) (by omega) (by omega) (by omega) rfl (HK_of ⟨hc, hn, hc2, hn2, hmet, hkd, hkn⟩)) mi_Mod_fieldOn ml_Mod_191 im_Mod_fieldOn se_Mod_fieldOn rfl ⟨Nat.le_of_ble_eq_true rfl, Nat.le_of_ble_eq_true rfl⟩ ⟨Nat.le_of_ble_eq_true rfl, Nat.le_of_ble_eq_true rfl⟩ rfl rfl (Nat.le_of_ble_eq_true rfl)  ?_
            exact ev_iret hC hR d_Mod_on_68 rfl (by simp only [R_on, fld, h_5, h_15, h_24, h_38, h_47, ix, ci, cn, if_true, if_false, cond_true, cond_false, decide_true, decide_false, Bool.not_true, Bool.not_false, Bool.or_true, Bool.true_or, Bool.or_false, Bool.false_or, Bool.and_true, Bool.and_false, Bool.true_and, Bool.false_and, Bool.or_self, Bool.and_self, eq_self] <;> rfl) (by simp only [R_on, fld, h_5, h_15, h_24, h_38, h_47, ix, ci, cn, if_true, if_false, cond_true, cond_false, decide_true, decide_false, Bool.not_true, Bool.not_false, Bool.or_true, Bool.true_or, Bool.or_false, Bool.false_or, Bool.and_true, Bool.and_false, Bool.true_and, Bool.false_and, Bool.or_self, Bool.and_self, eq_self] <;> rfl)
        · refine ev_iconst (v := nI 2) rfl hC d_Mod_on_41 ?_
          refine ev_goto 65 hC d_Mod_on_42 rfl ?_
          refine cv_Mod1 hC d_Mod_on_65 (c_Mod_fieldOn (f := 2) (by omega) (by omega) (by omega) rfl (HK_of ⟨hc, hn, hc2, hn2, hmet, hkd, hkn⟩)) mi_Mod_fieldOn ml_Mod_191 im_Mod_fieldOn se_Mod_fieldOn rfl ⟨Nat.le_of_ble_eq_true rfl, Nat.le_of_ble_eq_true rfl⟩ ⟨Nat.le_of_ble_eq_true rfl, Nat.le_of_ble_eq_true rfl⟩ rfl rfl (Nat.le_of_ble_eq_true rfl)  ?_
          exact ev_iret hC hR d_Mod_on_68 rfl (by simp only [R_on, fld, h_5, h_15, h_24, h_38, ix, ci, cn, if_true, if_false, cond_true, cond_false, decide_true, decide_false, Bool.not_true, Bool.not_false, Bool.or_true, Bool.true_or, Bool.or_false, Bool.false_or, Bool.and_true, Bool.and_false, Bool.true_and, Bool.false_and, Bool.or_self, Bool.and_self, eq_self] <;> rfl) (by simp only [R_on, fld, h_5, h_15, h_24, h_38, ix, ci, cn, if_true, if_false, cond_true, cond_false, decide_true, decide_false, Bool.not_true, Bool.not_false, Bool.or_true, Bool.true_or, Bool.or_false, Bool.false_or, Bool.and_true, Bool.and_false, Bool.true_and, Bool.false_and, Bool.or_self, Bool.and_self, eq_self] <;> rfl)
      · refine ev_aload_n rfl hC d_Mod_on_27 ?_
        refine ev_ldc kc_Mod_63 hC d_Mod_on_28 ?_
        refine cv_Mod1 hC d_Mod_on_30 (c_Mod_finding (k := 0) (by omega) (by decide +kernel)) mi_Mod_finding ml_Mod_82 im_Mod_finding se_Mod_finding rfl ⟨Nat.le_of_ble_eq_true rfl, Nat.le_of_ble_eq_true rfl⟩ ⟨Nat.le_of_ble_eq_true rfl, Nat.le_of_ble_eq_true rfl⟩ rfl rfl (Nat.le_of_ble_eq_true rfl)  ?_
        exact ev_iret hC hR d_Mod_on_33 rfl (by simp only [R_on, rbad, h_5, h_15, h_24, if_true, if_false, cond_true, cond_false, decide_true, decide_false, Bool.not_true, Bool.not_false, Bool.or_true, Bool.true_or, Bool.or_false, Bool.false_or, Bool.and_true, Bool.and_false, Bool.true_and, Bool.false_and, Bool.or_self, Bool.and_self, eq_self] <;> first | rfl | (rfl)) (by simp only [R_on, rbad, h_5, h_15, h_24, if_true, if_false, cond_true, cond_false, decide_true, decide_false, Bool.not_true, Bool.not_false, Bool.or_true, Bool.true_or, Bool.or_false, Bool.false_or, Bool.and_true, Bool.and_false, Bool.true_and, Bool.false_and, Bool.or_self, Bool.and_self, eq_self] <;> first | rfl | (rfl))

set_option maxHeartbeats 2000000 in
set_option maxRecDepth 10000 in
theorem c_Mod_orNone {G : ex_G} {M : ex_M} {v : Int32} : Con G Y_Mod_orNone 1 21 0 0 [.ref (ex_b G + 71), .int v] (ce G M) (some (.int (orNR M v).1)) (ce G ((orNR M v).2)) := by
  refine Con.ofF (plainFor_of_name (by decide +kernel)) (Nat.le_of_ble_eq_true rfl) (fun C hC hR => ?_)
  show Ev G C Y_Mod_orNone 0 [some (.ref (ex_b G + 71)), some (.int v)] [] 0 0 (ce G M)
  refine ev_iload_n rfl hC d_Mod_orNone_0 ?_
  refine ev_if_ge 13 hC d_Mod_orNone_1 rfl (fun h_1 => ?_) (fun h_1 => ?_)
  · refine ev_iload_n rfl hC d_Mod_orNone_13 ?_
    exact ev_iret hC hR d_Mod_orNone_14 rfl (by rw [orNR, if_pos h_1]) (by rw [orNR, if_pos h_1])
  · refine ev_aload_n rfl hC d_Mod_orNone_4 ?_
    refine ev_ldc kc_Mod_195 hC d_Mod_orNone_5 ?_
    refine cv_Mod1 hC d_Mod_orNone_7 (c_Mod_finding (k := 3) (by omega) (by decide +kernel)) mi_Mod_finding ml_Mod_82 im_Mod_finding se_Mod_finding rfl ⟨Nat.le_of_ble_eq_true rfl, Nat.le_of_ble_eq_true rfl⟩ ⟨Nat.le_of_ble_eq_true rfl, Nat.le_of_ble_eq_true rfl⟩ rfl rfl (Nat.le_of_ble_eq_true rfl)  ?_
    refine ev_goto 14 hC d_Mod_orNone_10 rfl ?_
    exact ev_iret hC hR d_Mod_orNone_14 rfl (by rw [orNR, if_neg h_1]; rfl) (by rw [orNR, if_neg h_1])

set_option maxHeartbeats 4000000 in
set_option maxRecDepth 10000 in
theorem lp_Mod_learnsIn {G : ex_G} {C : ex_C} {rr : Option Value} {ee : List va_E} {aw e : Int32} {n ne j : Nat} (hj : j < 8) (hC : Cx G C Y_Mod_learnsIn { frames := 5, cells := 0, slots := 0, locals := 112 }) (hR : Cr G C Y_Mod_learnsIn 0 0 rr ee) :
    ∀ (m i : Nat) (M : ex_M), i + m = 72 → M.1 14 1 = aw ∧ HK (M.1 10) n ne → rr = some (.int (lrnR (fun b => hs1 (b (28 + 7 * j + 6)) e) (srR (fun b => hs1 (b (28 + 7 * j + 6)) e) aw n ne m i (M.1 10)))) ∧ ee = ce G (bck (mI M 10 (srR (fun b => hs1 (b (28 + 7 * j + 6)) e) aw n ne m i (M.1 10)).2)) → Ev G C Y_Mod_learnsIn 13 [some (.ref (ex_b G + 71)), some (.int (nI j)), some (.int e), some (.int (nI i))] [] 0 0 (ce G (M)) := by
  intro m
  induction m with
  | zero =>
    intro i M hm hc he
    refine ev_iload_n rfl hC d_Mod_learnsIn_13 ?_
    refine ev_bipush (v := 72) rfl hC d_Mod_learnsIn_14 ?_
    refine ev_icmp_ge 43 hC d_Mod_learnsIn_16 rfl (fun _ => ?_) (fun h => absurd (by rw [show (72 : Int32) = nI 72 from rfl]; exact nI_le (by omega) (by omega)) h)
    refine ev_aload_n rfl hC d_Mod_learnsIn_43 ?_
    refine ev_aload_n rfl hC d_Mod_learnsIn_44 ?_
    refine ev_iload_n rfl hC d_Mod_learnsIn_45 ?_
    refine ev_bipush (v := nI 6) rfl hC d_Mod_learnsIn_46 ?_
    refine cv_Mod1 hC d_Mod_learnsIn_48 (c_Mod_oneIs (by omega) (by omega)) mi_Mod_oneIs ml_Mod_94 im_Mod_oneIs se_Mod_oneIs rfl ⟨Nat.le_of_ble_eq_true rfl, Nat.le_of_ble_eq_true rfl⟩ ⟨Nat.le_of_ble_eq_true rfl, Nat.le_of_ble_eq_true rfl⟩ rfl rfl (Nat.le_of_ble_eq_true rfl)  ?_
    refine ev_iload_n rfl hC d_Mod_learnsIn_51 ?_
    refine cs_1 hC d_Mod_learnsIn_52 (c_Mod_has ) mi_Mod_has ml_Mod_97 sm_Mod_has ⟨Nat.le_of_ble_eq_true rfl, Nat.le_of_ble_eq_true rfl⟩ ⟨Nat.le_of_ble_eq_true rfl, Nat.le_of_ble_eq_true rfl⟩ rfl rfl (Nat.le_of_ble_eq_true rfl) ?_
    refine eb_eq 62 hC d_Mod_learnsIn_55 rfl (fun h_55 => ?_) (fun h_55 => ?_)
    · refine ev_iconst (v := -1) rfl hC d_Mod_learnsIn_62 ?_
      refine cv_Mod1 hC d_Mod_learnsIn_63 (c_Mod_putBack ) mi_Mod_putBack ml_Mod_188 im_Mod_putBack se_Mod_putBack rfl ⟨Nat.le_of_ble_eq_true rfl, Nat.le_of_ble_eq_true rfl⟩ ⟨Nat.le_of_ble_eq_true rfl, Nat.le_of_ble_eq_true rfl⟩ rfl rfl (Nat.le_of_ble_eq_true rfl)  ?_
      exact ev_iret hC hR d_Mod_learnsIn_66 rfl (by rw [he.1, show srR (fun b => hs1 (b (28 + 7 * j + 6)) e) aw n ne 0 i (M.1 10) = (i, M.1 10) from rfl, lrnR]; simp only [hs1, h_55, cond_true, cond_false]) (by rw [he.2, show srR (fun b => hs1 (b (28 + 7 * j + 6)) e) aw n ne 0 i (M.1 10) = (i, M.1 10) from rfl, mI_id]; rfl)
    · refine ev_iload_n rfl hC d_Mod_learnsIn_58 ?_
      refine ev_goto 63 hC d_Mod_learnsIn_59 rfl ?_
      refine cv_Mod1 hC d_Mod_learnsIn_63 (c_Mod_putBack ) mi_Mod_putBack ml_Mod_188 im_Mod_putBack se_Mod_putBack rfl ⟨Nat.le_of_ble_eq_true rfl, Nat.le_of_ble_eq_true rfl⟩ ⟨Nat.le_of_ble_eq_true rfl, Nat.le_of_ble_eq_true rfl⟩ rfl rfl (Nat.le_of_ble_eq_true rfl)  ?_
      exact ev_iret hC hR d_Mod_learnsIn_66 rfl (by rw [he.1, show srR (fun b => hs1 (b (28 + 7 * j + 6)) e) aw n ne 0 i (M.1 10) = (i, M.1 10) from rfl, lrnR]; simp only [hs1, h_55, cond_true, cond_false]) (by rw [he.2, show srR (fun b => hs1 (b (28 + 7 * j + 6)) e) aw n ne 0 i (M.1 10) = (i, M.1 10) from rfl, mI_id]; rfl)
  | succ m ih =>
    intro i M hm hc he
    skip
    refine ev_iload_n rfl hC d_Mod_learnsIn_13 ?_
    refine ev_bipush (v := 72) rfl hC d_Mod_learnsIn_14 ?_
    refine ev_icmp_ge 43 hC d_Mod_learnsIn_16 rfl (fun h => absurd h (by rw [show (72 : Int32) = nI 72 from rfl]; exact nI_ge (by omega) (by omega))) (fun _ => ?_)
    refine ev_aload_n rfl hC d_Mod_learnsIn_19 ?_
    refine ev_iload_n rfl hC d_Mod_learnsIn_20 ?_
    refine ev_bipush (v := nI 6) rfl hC d_Mod_learnsIn_21 ?_
    refine cv_Mod1 hC d_Mod_learnsIn_23 (c_Mod_oneIs (by omega) (by omega)) mi_Mod_oneIs ml_Mod_94 im_Mod_oneIs se_Mod_oneIs rfl ⟨Nat.le_of_ble_eq_true rfl, Nat.le_of_ble_eq_true rfl⟩ ⟨Nat.le_of_ble_eq_true rfl, Nat.le_of_ble_eq_true rfl⟩ rfl rfl (Nat.le_of_ble_eq_true rfl)  ?_
    refine ev_iload_n rfl hC d_Mod_learnsIn_26 ?_
    refine cs_1 hC d_Mod_learnsIn_27 (c_Mod_has ) mi_Mod_has ml_Mod_97 sm_Mod_has ⟨Nat.le_of_ble_eq_true rfl, Nat.le_of_ble_eq_true rfl⟩ ⟨Nat.le_of_ble_eq_true rfl, Nat.le_of_ble_eq_true rfl⟩ rfl rfl (Nat.le_of_ble_eq_true rfl) ?_
    refine eb_ne 43 hC d_Mod_learnsIn_30 rfl (fun h_30 => ?_) (fun h_30 => ?_)
    · refine ev_aload_n rfl hC d_Mod_learnsIn_43 ?_
      refine ev_aload_n rfl hC d_Mod_learnsIn_44 ?_
      refine ev_iload_n rfl hC d_Mod_learnsIn_45 ?_
      refine ev_bipush (v := nI 6) rfl hC d_Mod_learnsIn_46 ?_
      refine cv_Mod1 hC d_Mod_learnsIn_48 (c_Mod_oneIs (by omega) (by omega)) mi_Mod_oneIs ml_Mod_94 im_Mod_oneIs se_Mod_oneIs rfl ⟨Nat.le_of_ble_eq_true rfl, Nat.le_of_ble_eq_true rfl⟩ ⟨Nat.le_of_ble_eq_true rfl, Nat.le_of_ble_eq_true rfl⟩ rfl rfl (Nat.le_of_ble_eq_true rfl)  ?_
      refine ev_iload_n rfl hC d_Mod_learnsIn_51 ?_
      refine cs_1 hC d_Mod_learnsIn_52 (c_Mod_has ) mi_Mod_has ml_Mod_97 sm_Mod_has ⟨Nat.le_of_ble_eq_true rfl, Nat.le_of_ble_eq_true rfl⟩ ⟨Nat.le_of_ble_eq_true rfl, Nat.le_of_ble_eq_true rfl⟩ rfl rfl (Nat.le_of_ble_eq_true rfl) ?_
      refine eb_eq 62 hC d_Mod_learnsIn_55 rfl (fun h_55 => ?_) (fun h_55 => ?_)
      · refine ev_iconst (v := -1) rfl hC d_Mod_learnsIn_62 ?_
        refine cv_Mod1 hC d_Mod_learnsIn_63 (c_Mod_putBack ) mi_Mod_putBack ml_Mod_188 im_Mod_putBack se_Mod_putBack rfl ⟨Nat.le_of_ble_eq_true rfl, Nat.le_of_ble_eq_true rfl⟩ ⟨Nat.le_of_ble_eq_true rfl, Nat.le_of_ble_eq_true rfl⟩ rfl rfl (Nat.le_of_ble_eq_true rfl)  ?_
        exact ev_iret hC hR d_Mod_learnsIn_66 rfl (by rw [he.1, show srR (fun b => hs1 (b (28 + 7 * j + 6)) e) aw n ne (m + 1) i (M.1 10) = (i, M.1 10) by rw [srR]; simp only [hs1, h_30, cond_true], lrnR]; simp only [hs1, h_55, cond_true, cond_false]) (by rw [he.2, show srR (fun b => hs1 (b (28 + 7 * j + 6)) e) aw n ne (m + 1) i (M.1 10) = (i, M.1 10) by rw [srR]; simp only [hs1, h_30, cond_true], mI_id]; rfl)
      · refine ev_iload_n rfl hC d_Mod_learnsIn_58 ?_
        refine ev_goto 63 hC d_Mod_learnsIn_59 rfl ?_
        refine cv_Mod1 hC d_Mod_learnsIn_63 (c_Mod_putBack ) mi_Mod_putBack ml_Mod_188 im_Mod_putBack se_Mod_putBack rfl ⟨Nat.le_of_ble_eq_true rfl, Nat.le_of_ble_eq_true rfl⟩ ⟨Nat.le_of_ble_eq_true rfl, Nat.le_of_ble_eq_true rfl⟩ rfl rfl (Nat.le_of_ble_eq_true rfl)  ?_
        exact ev_iret hC hR d_Mod_learnsIn_66 rfl (by rw [he.1, show srR (fun b => hs1 (b (28 + 7 * j + 6)) e) aw n ne (m + 1) i (M.1 10) = (i, M.1 10) by rw [srR]; simp only [hs1, h_30, cond_true], lrnR]; simp only [hs1, h_55, cond_true, cond_false]) (by rw [he.2, show srR (fun b => hs1 (b (28 + 7 * j + 6)) e) aw n ne (m + 1) i (M.1 10) = (i, M.1 10) by rw [srR]; simp only [hs1, h_30, cond_true], mI_id]; rfl)
    · refine ev_aload_n rfl hC d_Mod_learnsIn_33 ?_
      refine cv_Mod0 hC d_Mod_learnsIn_34 (c_Mod_hour hc.1 hc.2) mi_Mod_hour ml_Mod_172 im_Mod_hour se_Mod_hour rfl ⟨Nat.le_of_ble_eq_true rfl, Nat.le_of_ble_eq_true rfl⟩ ⟨Nat.le_of_ble_eq_true rfl, Nat.le_of_ble_eq_true rfl⟩ rfl rfl (Nat.le_of_ble_eq_true rfl)  ?_
      refine ev_iinc rfl (by decide) (nI_1 _) hC d_Mod_learnsIn_37 ?_
      refine ev_goto 13 hC d_Mod_learnsIn_40 rfl ?_
      refine ih (i + 1) _ (by omega) ⟨hc.1, by simp only [mI, wr_s]; exact HK_hourR hc.2⟩ ?_
      rw [he.1, he.2, show srR (fun b => hs1 (b (28 + 7 * j + 6)) e) aw n ne (m + 1) i (M.1 10) = srR (fun b => hs1 (b (28 + 7 * j + 6)) e) aw n ne m (i + 1) (hourR aw n ne (M.1 10)) by rw [srR]; simp only [hs1, h_30, cond_false, Bool.not_true, decide_true]]
      simp only [mI, wr_wr, wr_s]
      exact ⟨trivial, trivial⟩

set_option maxHeartbeats 2000000 in
set_option maxRecDepth 10000 in
theorem c_Mod_learnsIn {G : ex_G} {M : ex_M} {aw e : Int32} {n ne j : Nat} (hj : j < 8) (ha : M.1 14 1 = aw) (hk : HK (M.1 10) n ne) : Con G Y_Mod_learnsIn 5 112 0 0 [.ref (ex_b G + 71), .int (nI j), .int e] (ce G M) (some (.int (lrnR (fun b => hs1 (b (28 + 7 * j + 6)) e) (srR (fun b => hs1 (b (28 + 7 * j + 6)) e) aw n ne 72 0 (M.1 10))))) (ce G (thk M (srR (fun b => hs1 (b (28 + 7 * j + 6)) e) aw n ne 72 0 (M.1 10)).2)) := by
  refine Con.ofF (plainFor_of_name (by decide +kernel)) (Nat.le_of_ble_eq_true rfl) (fun C hC hR => ?_)
  show Ev G C Y_Mod_learnsIn 0 [some (.ref (ex_b G + 71)), some (.int (nI j)), some (.int e)] [] 0 0 (ce G M)
  refine ev_aload_n rfl hC d_Mod_learnsIn_0 ?_
  refine gv_Mod_now hC d_Mod_learnsIn_1 fl_Mod_9  ?_
  refine ev_aload_n rfl hC d_Mod_learnsIn_4 ?_
  refine gv_Mod_aside hC d_Mod_learnsIn_5 fl_Mod_16  ?_
  refine cs_0 hC d_Mod_learnsIn_8 (c_cp_na) mi_Mod_copyRow ml_Mod_64 sm_Mod_copyRow ⟨Nat.le_of_ble_eq_true rfl, Nat.le_of_ble_eq_true rfl⟩ ⟨Nat.le_of_ble_eq_true rfl, Nat.le_of_ble_eq_true rfl⟩ rfl rfl (Nat.le_of_ble_eq_true rfl) ?_
  refine ev_iconst (v := nI 0) rfl hC d_Mod_learnsIn_11 ?_
  refine ev_istore_n (by decide) hC d_Mod_learnsIn_12 ?_
  refine lp_Mod_learnsIn (aw := aw) (n := n) (ne := ne) (e := e) hj hC hR 72 0 (asd M) (by omega) ⟨by rw [asd_14]; exact ha, by rw [asd_10]; exact hk⟩ ?_
  rw [asd_10]
  exact ⟨rfl, rfl⟩

set_option maxHeartbeats 2000000 in
set_option maxRecDepth 10000 in
theorem c_Mod_learns {G : ex_G} {M : ex_M} {np ne : Nat} {p e : Int32} (w : WF (M.1 10) np ne) : Con G Y_Mod_learns 6 135 0 0 [.ref (ex_b G + 71), .int p, .int e] (ce G M) (some (.int (R_learns M np ne p e).1)) (ce G ((R_learns M np ne p e).2)) := by
  refine Con.ofF (plainFor_of_name (by decide +kernel)) (Nat.le_of_ble_eq_true rfl) (fun C hC hR => ?_)
  show Ev G C Y_Mod_learns 0 [some (.ref (ex_b G + 71)), some (.int p), some (.int e)] [] 0 0 (ce G M)
  obtain ⟨hc, hn, hc2, hn2, hmet, hkd, hkn⟩ := w
  refine ev_aload_n rfl hC d_Mod_learns_0 ?_
  refine ev_iload_n rfl hC d_Mod_learns_1 ?_
  refine cv_Mod1 hC d_Mod_learns_2 (c_Mod_isOne ) mi_Mod_isOne ml_Mod_122 im_Mod_isOne se_Mod_isOne rfl ⟨Nat.le_of_ble_eq_true rfl, Nat.le_of_ble_eq_true rfl⟩ ⟨Nat.le_of_ble_eq_true rfl, Nat.le_of_ble_eq_true rfl⟩ rfl rfl (Nat.le_of_ble_eq_true rfl)  ?_
  refine en_eq 29 hC d_Mod_learns_5 rfl (fun h_5 => ?_) (fun h_5 => ?_)
  · refine ev_aload_n rfl hC d_Mod_learns_29 ?_
    refine ev_ldc kc_Mod_63 hC d_Mod_learns_30 ?_
    refine cv_Mod1 hC d_Mod_learns_32 (c_Mod_finding (k := 0) (by omega) (by decide +kernel)) mi_Mod_finding ml_Mod_82 im_Mod_finding se_Mod_finding rfl ⟨Nat.le_of_ble_eq_true rfl, Nat.le_of_ble_eq_true rfl⟩ ⟨Nat.le_of_ble_eq_true rfl, Nat.le_of_ble_eq_true rfl⟩ rfl rfl (Nat.le_of_ble_eq_true rfl)  ?_
    exact ev_iret hC hR d_Mod_learns_35 rfl (by simp only [R_learns, rbad, h_5, if_true, if_false, cond_true, cond_false, decide_true, decide_false, Bool.not_true, Bool.not_false, Bool.or_true, Bool.true_or, Bool.or_false, Bool.false_or, Bool.and_true, Bool.and_false, Bool.true_and, Bool.false_and, Bool.or_self, Bool.and_self, eq_self] <;> first | rfl | (rfl)) (by simp only [R_learns, rbad, h_5, if_true, if_false, cond_true, cond_false, decide_true, decide_false, Bool.not_true, Bool.not_false, Bool.or_true, Bool.true_or, Bool.or_false, Bool.false_or, Bool.and_true, Bool.and_false, Bool.true_and, Bool.false_and, Bool.or_self, Bool.and_self, eq_self] <;> first | rfl | (rfl))
  · refine ev_aload_n rfl hC d_Mod_learns_8 ?_
    refine ev_iload_n rfl hC d_Mod_learns_9 ?_
    refine cv_Mod1 hC d_Mod_learns_10 (c_Mod_isEvent ) mi_Mod_isEvent ml_Mod_101 im_Mod_isEvent se_Mod_isEvent rfl ⟨Nat.le_of_ble_eq_true rfl, Nat.le_of_ble_eq_true rfl⟩ ⟨Nat.le_of_ble_eq_true rfl, Nat.le_of_ble_eq_true rfl⟩ rfl rfl (Nat.le_of_ble_eq_true rfl)  ?_
    refine en_eq 29 hC d_Mod_learns_13 rfl (fun h_13 => ?_) (fun h_13 => ?_)
    · refine ev_aload_n rfl hC d_Mod_learns_29 ?_
      refine ev_ldc kc_Mod_63 hC d_Mod_learns_30 ?_
      refine cv_Mod1 hC d_Mod_learns_32 (c_Mod_finding (k := 0) (by omega) (by decide +kernel)) mi_Mod_finding ml_Mod_82 im_Mod_finding se_Mod_finding rfl ⟨Nat.le_of_ble_eq_true rfl, Nat.le_of_ble_eq_true rfl⟩ ⟨Nat.le_of_ble_eq_true rfl, Nat.le_of_ble_eq_true rfl⟩ rfl rfl (Nat.le_of_ble_eq_true rfl)  ?_
      exact ev_iret hC hR d_Mod_learns_35 rfl (by simp only [R_learns, rbad, h_5, h_13, if_true, if_false, cond_true, cond_false, decide_true, decide_false, Bool.not_true, Bool.not_false, Bool.or_true, Bool.true_or, Bool.or_false, Bool.false_or, Bool.and_true, Bool.and_false, Bool.true_and, Bool.false_and, Bool.or_self, Bool.and_self, eq_self] <;> first | rfl | (rfl)) (by simp only [R_learns, rbad, h_5, h_13, if_true, if_false, cond_true, cond_false, decide_true, decide_false, Bool.not_true, Bool.not_false, Bool.or_true, Bool.true_or, Bool.or_false, Bool.false_or, Bool.and_true, Bool.and_false, Bool.true_and, Bool.false_and, Bool.or_self, Bool.and_self, eq_self] <;> first | rfl | (rfl))
    · obtain ⟨i, hi, rfl⟩ := out_ix hc hn h_5
      have ci : (nI i).toNatClampNeg = i := nI_clamp (by omega)
      refine ev_aload_n rfl hC d_Mod_learns_16 ?_
      refine ev_aload_n rfl hC d_Mod_learns_17 ?_
      refine ev_iload_n rfl hC d_Mod_learns_18 ?_
      refine ev_iload_n rfl hC d_Mod_learns_19 ?_
      refine cv_Mod1 hC d_Mod_learns_20 (c_Mod_learnsIn (by omega) rfl (HK_of ⟨hc, hn, hc2, hn2, hmet, hkd, hkn⟩)) mi_Mod_learnsIn ml_Mod_196 im_Mod_learnsIn se_Mod_learnsIn rfl ⟨Nat.le_of_ble_eq_true rfl, Nat.le_of_ble_eq_true rfl⟩ ⟨Nat.le_of_ble_eq_true rfl, Nat.le_of_ble_eq_true rfl⟩ rfl rfl (Nat.le_of_ble_eq_true rfl)  ?_
      refine cv_Mod1 hC d_Mod_learns_23 (c_Mod_orNone ) mi_Mod_orNone ml_Mod_199 im_Mod_orNone se_Mod_orNone rfl ⟨Nat.le_of_ble_eq_true rfl, Nat.le_of_ble_eq_true rfl⟩ ⟨Nat.le_of_ble_eq_true rfl, Nat.le_of_ble_eq_true rfl⟩ rfl rfl (Nat.le_of_ble_eq_true rfl)  ?_
      refine ev_goto 35 hC d_Mod_learns_26 rfl ?_
      exact ev_iret hC hR d_Mod_learns_35 rfl (by simp only [R_learns, rbad, h_5, h_13, ix, ci, zLea, if_true, if_false, cond_true, cond_false, decide_true, decide_false, Bool.not_true, Bool.not_false, Bool.or_true, Bool.true_or, Bool.or_false, Bool.false_or, Bool.and_true, Bool.and_false, Bool.true_and, Bool.false_and, Bool.or_self, Bool.and_self, eq_self] <;> first | rfl | (rfl)) (by simp only [R_learns, rbad, h_5, h_13, ix, ci, zLea, if_true, if_false, cond_true, cond_false, decide_true, decide_false, Bool.not_true, Bool.not_false, Bool.or_true, Bool.true_or, Bool.or_false, Bool.false_or, Bool.and_true, Bool.and_false, Bool.true_and, Bool.false_and, Bool.or_self, Bool.and_self, eq_self] <;> first | rfl | (rfl))

set_option maxHeartbeats 4000000 in
set_option maxRecDepth 10000 in
theorem lp_Mod_broke {G : ex_G} {C : ex_C} {rr : Option Value} {ee : List va_E} {aw : Int32} {n ne j : Nat} (hj : j < 8) (hC : Cx G C Y_Mod_broke { frames := 5, cells := 0, slots := 0, locals := 112 }) (hR : Cr G C Y_Mod_broke 0 0 rr ee) :
    ∀ (m i : Nat) (M : ex_M), i + m = 72 → M.1 14 1 = aw ∧ HK (M.1 10) n ne → rr = some (.int (orNR (bck (mI M 10 (srR (fun b => !pays b j) aw n ne m i (M.1 10)).2)) (lrnR (fun b => !pays b j) (srR (fun b => !pays b j) aw n ne m i (M.1 10)))).1) ∧ ee = ce G (orNR (bck (mI M 10 (srR (fun b => !pays b j) aw n ne m i (M.1 10)).2)) (lrnR (fun b => !pays b j) (srR (fun b => !pays b j) aw n ne m i (M.1 10)))).2 → Ev G C Y_Mod_broke 28 [some (.ref (ex_b G + 71)), some (.int (nI j)), some (.int (nI i))] [] 0 0 (ce G (M)) := by
  intro m
  induction m with
  | zero =>
    intro i M hm hc he
    refine ev_iload_n rfl hC d_Mod_broke_28 ?_
    refine ev_bipush (v := 72) rfl hC d_Mod_broke_29 ?_
    refine ev_icmp_ge 52 hC d_Mod_broke_31 rfl (fun _ => ?_) (fun h => absurd (by rw [show (72 : Int32) = nI 72 from rfl]; exact nI_le (by omega) (by omega)) h)
    refine ev_aload_n rfl hC d_Mod_broke_52 ?_
    refine ev_aload_n rfl hC d_Mod_broke_53 ?_
    refine ev_aload_n rfl hC d_Mod_broke_54 ?_
    refine ev_iload_n rfl hC d_Mod_broke_55 ?_
    refine cv_Mod1 hC d_Mod_broke_56 (c_Mod_canPay hj) mi_Mod_canPay ml_Mod_146 im_Mod_canPay se_Mod_canPay rfl ⟨Nat.le_of_ble_eq_true rfl, Nat.le_of_ble_eq_true rfl⟩ ⟨Nat.le_of_ble_eq_true rfl, Nat.le_of_ble_eq_true rfl⟩ rfl rfl (Nat.le_of_ble_eq_true rfl)  ?_
    refine eb_eq 66 hC d_Mod_broke_59 rfl (fun h_59 => ?_) (fun h_59 => ?_)
    · refine ev_iload_n rfl hC d_Mod_broke_66 ?_
      refine cv_Mod1 hC d_Mod_broke_67 (c_Mod_putBack ) mi_Mod_putBack ml_Mod_188 im_Mod_putBack se_Mod_putBack rfl ⟨Nat.le_of_ble_eq_true rfl, Nat.le_of_ble_eq_true rfl⟩ ⟨Nat.le_of_ble_eq_true rfl, Nat.le_of_ble_eq_true rfl⟩ rfl rfl (Nat.le_of_ble_eq_true rfl)  ?_
      refine cv_Mod1 hC d_Mod_broke_70 (c_Mod_orNone ) mi_Mod_orNone ml_Mod_199 im_Mod_orNone se_Mod_orNone rfl ⟨Nat.le_of_ble_eq_true rfl, Nat.le_of_ble_eq_true rfl⟩ ⟨Nat.le_of_ble_eq_true rfl, Nat.le_of_ble_eq_true rfl⟩ rfl rfl (Nat.le_of_ble_eq_true rfl)  ?_
      exact ev_iret hC hR d_Mod_broke_73 rfl (by rw [he.1, show srR (fun b => !pays b j) aw n ne 0 i (M.1 10) = (i, M.1 10) from rfl, show lrnR (fun b => !pays b j) (i, M.1 10) = nI i by rw [lrnR]; simp only [h_59, cond_true, cond_false, Bool.not_true, Bool.not_false]]; simp only [mI, wr_id]; rfl) (by rw [he.2, show srR (fun b => !pays b j) aw n ne 0 i (M.1 10) = (i, M.1 10) from rfl, show lrnR (fun b => !pays b j) (i, M.1 10) = nI i by rw [lrnR]; simp only [h_59, cond_true, cond_false, Bool.not_true, Bool.not_false]]; simp only [mI, wr_id]; rfl)
    · refine ev_iconst (v := -1) rfl hC d_Mod_broke_62 ?_
      refine ev_goto 67 hC d_Mod_broke_63 rfl ?_
      refine cv_Mod1 hC d_Mod_broke_67 (c_Mod_putBack ) mi_Mod_putBack ml_Mod_188 im_Mod_putBack se_Mod_putBack rfl ⟨Nat.le_of_ble_eq_true rfl, Nat.le_of_ble_eq_true rfl⟩ ⟨Nat.le_of_ble_eq_true rfl, Nat.le_of_ble_eq_true rfl⟩ rfl rfl (Nat.le_of_ble_eq_true rfl)  ?_
      refine cv_Mod1 hC d_Mod_broke_70 (c_Mod_orNone ) mi_Mod_orNone ml_Mod_199 im_Mod_orNone se_Mod_orNone rfl ⟨Nat.le_of_ble_eq_true rfl, Nat.le_of_ble_eq_true rfl⟩ ⟨Nat.le_of_ble_eq_true rfl, Nat.le_of_ble_eq_true rfl⟩ rfl rfl (Nat.le_of_ble_eq_true rfl)  ?_
      exact ev_iret hC hR d_Mod_broke_73 rfl (by rw [he.1, show srR (fun b => !pays b j) aw n ne 0 i (M.1 10) = (i, M.1 10) from rfl, show lrnR (fun b => !pays b j) (i, M.1 10) = -1 by rw [lrnR]; simp only [h_59, cond_true, cond_false, Bool.not_true, Bool.not_false]]; simp only [mI, wr_id]; rfl) (by rw [he.2, show srR (fun b => !pays b j) aw n ne 0 i (M.1 10) = (i, M.1 10) from rfl, show lrnR (fun b => !pays b j) (i, M.1 10) = -1 by rw [lrnR]; simp only [h_59, cond_true, cond_false, Bool.not_true, Bool.not_false]]; simp only [mI, wr_id]; rfl)
  | succ m ih =>
    intro i M hm hc he
    skip
    refine ev_iload_n rfl hC d_Mod_broke_28 ?_
    refine ev_bipush (v := 72) rfl hC d_Mod_broke_29 ?_
    refine ev_icmp_ge 52 hC d_Mod_broke_31 rfl (fun h => absurd h (by rw [show (72 : Int32) = nI 72 from rfl]; exact nI_ge (by omega) (by omega))) (fun _ => ?_)
    refine ev_aload_n rfl hC d_Mod_broke_34 ?_
    refine ev_iload_n rfl hC d_Mod_broke_35 ?_
    refine cv_Mod1 hC d_Mod_broke_36 (c_Mod_canPay hj) mi_Mod_canPay ml_Mod_146 im_Mod_canPay se_Mod_canPay rfl ⟨Nat.le_of_ble_eq_true rfl, Nat.le_of_ble_eq_true rfl⟩ ⟨Nat.le_of_ble_eq_true rfl, Nat.le_of_ble_eq_true rfl⟩ rfl rfl (Nat.le_of_ble_eq_true rfl)  ?_
    refine eb_eq 52 hC d_Mod_broke_39 rfl (fun h_39 => ?_) (fun h_39 => ?_)
    · refine ev_aload_n rfl hC d_Mod_broke_52 ?_
      refine ev_aload_n rfl hC d_Mod_broke_53 ?_
      refine ev_aload_n rfl hC d_Mod_broke_54 ?_
      refine ev_iload_n rfl hC d_Mod_broke_55 ?_
      refine cv_Mod1 hC d_Mod_broke_56 (c_Mod_canPay hj) mi_Mod_canPay ml_Mod_146 im_Mod_canPay se_Mod_canPay rfl ⟨Nat.le_of_ble_eq_true rfl, Nat.le_of_ble_eq_true rfl⟩ ⟨Nat.le_of_ble_eq_true rfl, Nat.le_of_ble_eq_true rfl⟩ rfl rfl (Nat.le_of_ble_eq_true rfl)  ?_
      refine eb_eq 66 hC d_Mod_broke_59 rfl (fun h_59 => ?_) (fun h_59 => ?_)
      · refine ev_iload_n rfl hC d_Mod_broke_66 ?_
        refine cv_Mod1 hC d_Mod_broke_67 (c_Mod_putBack ) mi_Mod_putBack ml_Mod_188 im_Mod_putBack se_Mod_putBack rfl ⟨Nat.le_of_ble_eq_true rfl, Nat.le_of_ble_eq_true rfl⟩ ⟨Nat.le_of_ble_eq_true rfl, Nat.le_of_ble_eq_true rfl⟩ rfl rfl (Nat.le_of_ble_eq_true rfl)  ?_
        refine cv_Mod1 hC d_Mod_broke_70 (c_Mod_orNone ) mi_Mod_orNone ml_Mod_199 im_Mod_orNone se_Mod_orNone rfl ⟨Nat.le_of_ble_eq_true rfl, Nat.le_of_ble_eq_true rfl⟩ ⟨Nat.le_of_ble_eq_true rfl, Nat.le_of_ble_eq_true rfl⟩ rfl rfl (Nat.le_of_ble_eq_true rfl)  ?_
        exact ev_iret hC hR d_Mod_broke_73 rfl (by rw [he.1, show srR (fun b => !pays b j) aw n ne (m + 1) i (M.1 10) = (i, M.1 10) by rw [srR]; simp only [h_39, cond_true, Bool.not_false], show lrnR (fun b => !pays b j) (i, M.1 10) = nI i by rw [lrnR]; simp only [h_59, cond_true, cond_false, Bool.not_true, Bool.not_false]]; simp only [mI, wr_id]; rfl) (by rw [he.2, show srR (fun b => !pays b j) aw n ne (m + 1) i (M.1 10) = (i, M.1 10) by rw [srR]; simp only [h_39, cond_true, Bool.not_false], show lrnR (fun b => !pays b j) (i, M.1 10) = nI i by rw [lrnR]; simp only [h_59, cond_true, cond_false, Bool.not_true, Bool.not_false]]; simp only [mI, wr_id]; rfl)
      · refine ev_iconst (v := -1) rfl hC d_Mod_broke_62 ?_
        refine ev_goto 67 hC d_Mod_broke_63 rfl ?_
        refine cv_Mod1 hC d_Mod_broke_67 (c_Mod_putBack ) mi_Mod_putBack ml_Mod_188 im_Mod_putBack se_Mod_putBack rfl ⟨Nat.le_of_ble_eq_true rfl, Nat.le_of_ble_eq_true rfl⟩ ⟨Nat.le_of_ble_eq_true rfl, Nat.le_of_ble_eq_true rfl⟩ rfl rfl (Nat.le_of_ble_eq_true rfl)  ?_
        refine cv_Mod1 hC d_Mod_broke_70 (c_Mod_orNone ) mi_Mod_orNone ml_Mod_199 im_Mod_orNone se_Mod_orNone rfl ⟨Nat.le_of_ble_eq_true rfl, Nat.le_of_ble_eq_true rfl⟩ ⟨Nat.le_of_ble_eq_true rfl, Nat.le_of_ble_eq_true rfl⟩ rfl rfl (Nat.le_of_ble_eq_true rfl)  ?_
        exact ev_iret hC hR d_Mod_broke_73 rfl (by rw [he.1, show srR (fun b => !pays b j) aw n ne (m + 1) i (M.1 10) = (i, M.1 10) by rw [srR]; simp only [h_39, cond_true, Bool.not_false], show lrnR (fun b => !pays b j) (i, M.1 10) = -1 by rw [lrnR]; simp only [h_59, cond_true, cond_false, Bool.not_true, Bool.not_false]]; simp only [mI, wr_id]; rfl) (by rw [he.2, show srR (fun b => !pays b j) aw n ne (m + 1) i (M.1 10) = (i, M.1 10) by rw [srR]; simp only [h_39, cond_true, Bool.not_false], show lrnR (fun b => !pays b j) (i, M.1 10) = -1 by rw [lrnR]; simp only [h_59, cond_true, cond_false, Bool.not_true, Bool.not_false]]; simp only [mI, wr_id]; rfl)
    · refine ev_aload_n rfl hC d_Mod_broke_42 ?_
      refine cv_Mod0 hC d_Mod_broke_43 (c_Mod_hour hc.1 hc.2) mi_Mod_hour ml_Mod_172 im_Mod_hour se_Mod_hour rfl ⟨Nat.le_of_ble_eq_true rfl, Nat.le_of_ble_eq_true rfl⟩ ⟨Nat.le_of_ble_eq_true rfl, Nat.le_of_ble_eq_true rfl⟩ rfl rfl (Nat.le_of_ble_eq_true rfl)  ?_
      refine ev_iinc rfl (by decide) (nI_1 _) hC d_Mod_broke_46 ?_
      refine ev_goto 28 hC d_Mod_broke_49 rfl ?_
      refine ih (i + 1) _ (by omega) ⟨hc.1, by simp only [mI, wr_s]; exact HK_hourR hc.2⟩ ?_
      rw [he.1, he.2, show srR (fun b => !pays b j) aw n ne (m + 1) i (M.1 10) = srR (fun b => !pays b j) aw n ne m (i + 1) (hourR aw n ne (M.1 10)) by rw [srR]; simp only [h_39, cond_false, Bool.not_true]]
      simp only [mI, wr_wr, wr_s]
      exact ⟨trivial, trivial⟩

set_option maxHeartbeats 2000000 in
set_option maxRecDepth 10000 in
theorem c_Mod_broke {G : ex_G} {M : ex_M} {np ne : Nat} {p : Int32} (w : WF (M.1 10) np ne) : Con G Y_Mod_broke 5 112 0 0 [.ref (ex_b G + 71), .int p] (ce G M) (some (.int (R_broke M np ne p).1)) (ce G ((R_broke M np ne p).2)) := by
  refine Con.ofF (plainFor_of_name (by decide +kernel)) (Nat.le_of_ble_eq_true rfl) (fun C hC hR => ?_)
  show Ev G C Y_Mod_broke 0 [some (.ref (ex_b G + 71)), some (.int p)] [] 0 0 (ce G M)
  obtain ⟨hc, hn, hc2, hn2, hmet, hkd, hkn⟩ := w
  refine ev_aload_n rfl hC d_Mod_broke_0 ?_
  refine ev_iload_n rfl hC d_Mod_broke_1 ?_
  refine cv_Mod1 hC d_Mod_broke_2 (c_Mod_isOne ) mi_Mod_isOne ml_Mod_122 im_Mod_isOne se_Mod_isOne rfl ⟨Nat.le_of_ble_eq_true rfl, Nat.le_of_ble_eq_true rfl⟩ ⟨Nat.le_of_ble_eq_true rfl, Nat.le_of_ble_eq_true rfl⟩ rfl rfl (Nat.le_of_ble_eq_true rfl)  ?_
  refine en_ne 15 hC d_Mod_broke_5 rfl (fun h_5 => ?_) (fun h_5 => ?_)
  · obtain ⟨i, hi, rfl⟩ := out_ix hc hn h_5
    have ci : (nI i).toNatClampNeg = i := nI_clamp (by omega)
    refine ev_aload_n rfl hC d_Mod_broke_15 ?_
    refine gv_Mod_now hC d_Mod_broke_16 fl_Mod_9  ?_
    refine ev_aload_n rfl hC d_Mod_broke_19 ?_
    refine gv_Mod_aside hC d_Mod_broke_20 fl_Mod_16  ?_
    refine cs_0 hC d_Mod_broke_23 (c_cp_na) mi_Mod_copyRow ml_Mod_64 sm_Mod_copyRow ⟨Nat.le_of_ble_eq_true rfl, Nat.le_of_ble_eq_true rfl⟩ ⟨Nat.le_of_ble_eq_true rfl, Nat.le_of_ble_eq_true rfl⟩ rfl rfl (Nat.le_of_ble_eq_true rfl) ?_
    refine ev_iconst (v := nI 0) rfl hC d_Mod_broke_26 ?_
    refine ev_istore_n (by decide) hC d_Mod_broke_27 ?_
    refine lp_Mod_broke (aw := M.1 14 1) (n := np) (ne := ne) (j := i) (by omega) hC hR 72 0 (asd M) (by omega) ⟨by rw [asd_14], by rw [asd_10]; exact (HK_of ⟨hc, hn, hc2, hn2, hmet, hkd, hkn⟩)⟩ ?_
    rw [asd_10]
    simp only [R_broke, zBro, h_5, ix, ci, cond_false]
    exact ⟨rfl, rfl⟩
  · refine ev_aload_n rfl hC d_Mod_broke_8 ?_
    refine ev_ldc kc_Mod_63 hC d_Mod_broke_9 ?_
    refine cv_Mod1 hC d_Mod_broke_11 (c_Mod_finding (k := 0) (by omega) (by decide +kernel)) mi_Mod_finding ml_Mod_82 im_Mod_finding se_Mod_finding rfl ⟨Nat.le_of_ble_eq_true rfl, Nat.le_of_ble_eq_true rfl⟩ ⟨Nat.le_of_ble_eq_true rfl, Nat.le_of_ble_eq_true rfl⟩ rfl rfl (Nat.le_of_ble_eq_true rfl)  ?_
    exact ev_iret hC hR d_Mod_broke_14 rfl (by simp only [R_broke, rbad, h_5, if_true, if_false, cond_true, cond_false, decide_true, decide_false, Bool.not_true, Bool.not_false, Bool.or_true, Bool.true_or, Bool.or_false, Bool.false_or, Bool.and_true, Bool.and_false, Bool.true_and, Bool.false_and, Bool.or_self, Bool.and_self, eq_self] <;> first | rfl | (rfl)) (by simp only [R_broke, rbad, h_5, if_true, if_false, cond_true, cond_false, decide_true, decide_false, Bool.not_true, Bool.not_false, Bool.or_true, Bool.true_or, Bool.or_false, Bool.false_or, Bool.and_true, Bool.and_false, Bool.true_and, Bool.false_and, Bool.or_self, Bool.and_self, eq_self] <;> first | rfl | (rfl))

set_option maxHeartbeats 2000000 in
set_option maxRecDepth 10000 in
theorem c_Mod_metOn {G : ex_G} {M : ex_M} {aw : Int32} {n ne h : Nat} (hh : h < 2 ^ 30) (ha : M.1 14 1 = aw) (hk : HK (M.1 10) n ne) : Con G Y_Mod_metOn 6 134 0 0 [.ref (ex_b G + 71), .int (nI h)] (ce G M) (some (.int (metR (hoursR aw n ne h (M.1 10)) ne))) (ce G (thk M (hoursR aw n ne h (M.1 10)))) := by
  refine Con.ofF (plainFor_of_name (by decide +kernel)) (Nat.le_of_ble_eq_true rfl) (fun C hC hR => ?_)
  show Ev G C Y_Mod_metOn 0 [some (.ref (ex_b G + 71)), some (.int (nI h))] [] 0 0 (ce G M)
  refine ev_aload_n rfl hC d_Mod_metOn_0 ?_
  refine gv_Mod_now hC d_Mod_metOn_1 fl_Mod_9  ?_
  refine ev_aload_n rfl hC d_Mod_metOn_4 ?_
  refine gv_Mod_aside hC d_Mod_metOn_5 fl_Mod_16  ?_
  refine cs_0 hC d_Mod_metOn_8 (c_cp_na) mi_Mod_copyRow ml_Mod_64 sm_Mod_copyRow ⟨Nat.le_of_ble_eq_true rfl, Nat.le_of_ble_eq_true rfl⟩ ⟨Nat.le_of_ble_eq_true rfl, Nat.le_of_ble_eq_true rfl⟩ rfl rfl (Nat.le_of_ble_eq_true rfl) ?_
  refine ev_aload_n rfl hC d_Mod_metOn_11 ?_
  refine ev_iload_n rfl hC d_Mod_metOn_12 ?_
  refine cv_Mod0 hC d_Mod_metOn_13 (c_Mod_hoursGo (aw := aw) (n := n) (ne := ne) hh (by rw [asd_14]; exact ha) (by rw [asd_10]; exact hk)) mi_Mod_hoursGo ml_Mod_175 im_Mod_hoursGo se_Mod_hoursGo rfl ⟨Nat.le_of_ble_eq_true rfl, Nat.le_of_ble_eq_true rfl⟩ ⟨Nat.le_of_ble_eq_true rfl, Nat.le_of_ble_eq_true rfl⟩ rfl rfl (Nat.le_of_ble_eq_true rfl)  ?_
  refine ev_aload_n rfl hC d_Mod_metOn_16 ?_
  refine ev_aload_n rfl hC d_Mod_metOn_17 ?_
  refine cv_Mod1 hC d_Mod_metOn_18 (c_Mod_metNow hk.2.2.2.1 (by rw [asd_10]; simp only [mI, wr_s]; exact (HK_hoursR h _ hk).2.2.1)) mi_Mod_metNow ml_Mod_185 im_Mod_metNow se_Mod_metNow rfl ⟨Nat.le_of_ble_eq_true rfl, Nat.le_of_ble_eq_true rfl⟩ ⟨Nat.le_of_ble_eq_true rfl, Nat.le_of_ble_eq_true rfl⟩ rfl rfl (Nat.le_of_ble_eq_true rfl)  ?_
  refine cv_Mod1 hC d_Mod_metOn_21 (c_Mod_putBack ) mi_Mod_putBack ml_Mod_188 im_Mod_putBack se_Mod_putBack rfl ⟨Nat.le_of_ble_eq_true rfl, Nat.le_of_ble_eq_true rfl⟩ ⟨Nat.le_of_ble_eq_true rfl, Nat.le_of_ble_eq_true rfl⟩ rfl rfl (Nat.le_of_ble_eq_true rfl)  ?_
  exact ev_iret hC hR d_Mod_metOn_24 rfl (by rw [asd_10]; simp only [mI, wr_s]) (by rw [asd_10]; rfl)

set_option maxHeartbeats 2000000 in
set_option maxRecDepth 10000 in
theorem c_Mod_met {G : ex_G} {M : ex_M} {np ne : Nat} {n : Int32} (w : WF (M.1 10) np ne) : Con G Y_Mod_met 7 155 0 0 [.ref (ex_b G + 71), .int n] (ce G M) (some (.int (R_met M np ne n).1)) (ce G ((R_met M np ne n).2)) := by
  refine Con.ofF (plainFor_of_name (by decide +kernel)) (Nat.le_of_ble_eq_true rfl) (fun C hC hR => ?_)
  show Ev G C Y_Mod_met 0 [some (.ref (ex_b G + 71)), some (.int n)] [] 0 0 (ce G M)
  obtain ⟨hc, hn, hc2, hn2, hmet, hkd, hkn⟩ := w
  refine ev_iload_n rfl hC d_Mod_met_0 ?_
  refine ev_iconst (v := 0) rfl hC d_Mod_met_1 ?_
  refine ev_bipush (v := 72) rfl hC d_Mod_met_2 ?_
  refine cs_1 hC d_Mod_met_4 (c_Mod_within ) mi_Mod_within ml_Mod_68 sm_Mod_within ⟨Nat.le_of_ble_eq_true rfl, Nat.le_of_ble_eq_true rfl⟩ ⟨Nat.le_of_ble_eq_true rfl, Nat.le_of_ble_eq_true rfl⟩ rfl rfl (Nat.le_of_ble_eq_true rfl) ?_
  refine en_eq 18 hC d_Mod_met_7 rfl (fun h_7 => ?_) (fun h_7 => ?_)
  · refine ev_aload_n rfl hC d_Mod_met_18 ?_
    refine ev_ldc kc_Mod_63 hC d_Mod_met_19 ?_
    refine cv_Mod1 hC d_Mod_met_21 (c_Mod_finding (k := 0) (by omega) (by decide +kernel)) mi_Mod_finding ml_Mod_82 im_Mod_finding se_Mod_finding rfl ⟨Nat.le_of_ble_eq_true rfl, Nat.le_of_ble_eq_true rfl⟩ ⟨Nat.le_of_ble_eq_true rfl, Nat.le_of_ble_eq_true rfl⟩ rfl rfl (Nat.le_of_ble_eq_true rfl)  ?_
    exact ev_iret hC hR d_Mod_met_24 rfl (by simp only [R_met, rbad, h_7, if_true, if_false, cond_true, cond_false, decide_true, decide_false, Bool.not_true, Bool.not_false, Bool.or_true, Bool.true_or, Bool.or_false, Bool.false_or, Bool.and_true, Bool.and_false, Bool.true_and, Bool.false_and, Bool.or_self, Bool.and_self, eq_self] <;> first | rfl | (rfl)) (by simp only [R_met, rbad, h_7, if_true, if_false, cond_true, cond_false, decide_true, decide_false, Bool.not_true, Bool.not_false, Bool.or_true, Bool.true_or, Bool.or_false, Bool.false_or, Bool.and_true, Bool.and_false, Bool.true_and, Bool.false_and, Bool.or_self, Bool.and_self, eq_self] <;> first | rfl | (rfl))
  · obtain ⟨n1, hn1, rfl⟩ := out_nat (n := 72) (by decide) h_7
    have cn : (nI n1).toNatClampNeg = n1 := nI_clamp (by omega)
    refine ev_aload_n rfl hC d_Mod_met_10 ?_
    refine ev_iload_n rfl hC d_Mod_met_11 ?_
    refine cv_Mod1 hC d_Mod_met_12 (c_Mod_metOn (by omega) rfl (HK_of ⟨hc, hn, hc2, hn2, hmet, hkd, hkn⟩)) mi_Mod_metOn ml_Mod_202 im_Mod_metOn se_Mod_metOn rfl ⟨Nat.le_of_ble_eq_true rfl, Nat.le_of_ble_eq_true rfl⟩ ⟨Nat.le_of_ble_eq_true rfl, Nat.le_of_ble_eq_true rfl⟩ rfl rfl (Nat.le_of_ble_eq_true rfl)  ?_
    refine ev_goto 24 hC d_Mod_met_15 rfl ?_
    exact ev_iret hC hR d_Mod_met_24 rfl (by simp only [R_met, rbad, h_7, ix, cn, if_true, if_false, cond_true, cond_false, decide_true, decide_false, Bool.not_true, Bool.not_false, Bool.or_true, Bool.true_or, Bool.or_false, Bool.false_or, Bool.and_true, Bool.and_false, Bool.true_and, Bool.false_and, Bool.or_self, Bool.and_self, eq_self] <;> first | rfl | (rfl)) (by simp only [R_met, rbad, h_7, ix, cn, if_true, if_false, cond_true, cond_false, decide_true, decide_false, Bool.not_true, Bool.not_false, Bool.or_true, Bool.true_or, Bool.or_false, Bool.false_or, Bool.and_true, Bool.and_false, Bool.true_and, Bool.false_and, Bool.or_self, Bool.and_self, eq_self] <;> first | rfl | (rfl))
