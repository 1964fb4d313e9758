theorem ntz_lt (k : Nat) : ntz k < 8 := by unfold ntz; repeat' split
                                           all_goals omega
theorem lst_nI {k : Nat} (hk : k < 256) : lst (ix (nI k)) = if k = 0 then -1 else nI (ntz k) := by
  rw [show ix (nI k) = k from nI_clamp (by omega), lst]
theorem whoR_N {a : Nat → Int32} {n : Nat} (e : Int32) (hn : n ≤ 8) : ∃ k, k < 256 ∧ whoR a n e = nI k := ⟨_, (setF_256 hn).2, (setF_256 hn).1⟩

set_option maxHeartbeats 2000000 in
set_option maxRecDepth 10000 in
theorem lp_Mod_first3 {G : ex_G} {C : ex_C} {rr : Option Value} {ee : List va_E} {M : ex_M} {e k v : Int32} (hC : Cx G C Y_Mod_first { frames := 5, cells := 0, slots := 0, locals := 112 }) (hR : Cr G C Y_Mod_first 0 0 rr ee) :
    rr = some (.int (orNR (bck M) v).1) → ee = ce G (orNR (bck M) v).2 → Ev G C Y_Mod_first 86 [some (.ref (ex_b G + 71)), some (.int e), some (.int k), some (.int v)] [] 0 0 (ce G (M)) := by
  intro hr he
  refine ev_aload_n rfl hC d_Mod_first_86 ?_
  refine ev_aload_n rfl hC d_Mod_first_87 ?_
  refine ev_iload_n rfl hC d_Mod_first_88 ?_
  refine cv_Mod1 hC d_Mod_first_89 (c_Mod_putBack ) mi_Mod_putBack ml_Mod_188 im_Mod_putBack se_Mod_putBack rfl ⟨Nat.le_of_ble_eq_true rfl, Nat.le_of_ble_eq_true rfl⟩ ⟨Nat.le_of_ble_eq_true rfl, Nat.le_of_ble_eq_true rfl⟩ rfl rfl (Nat.le_of_ble_eq_true rfl)  ?_
  refine cv_Mod1 hC d_Mod_first_92 (c_Mod_orNone ) mi_Mod_orNone ml_Mod_199 im_Mod_orNone se_Mod_orNone rfl ⟨Nat.le_of_ble_eq_true rfl, Nat.le_of_ble_eq_true rfl⟩ ⟨Nat.le_of_ble_eq_true rfl, Nat.le_of_ble_eq_true rfl⟩ rfl rfl (Nat.le_of_ble_eq_true rfl)  ?_
  exact ev_iret hC hR d_Mod_first_95 rfl (hr) (he)

set_option maxHeartbeats 4000000 in
set_option maxRecDepth 10000 in
theorem lp_Mod_first2 {G : ex_G} {C : ex_C} {rr : Option Value} {ee : List va_E} {e : Int32} {k : Nat} (hk : k < 256) (hk0 : k ≠ 0) (hC : Cx G C Y_Mod_first { frames := 5, cells := 0, slots := 0, locals := 112 }) (hR : Cr G C Y_Mod_first 0 0 rr ee) :
    ∀ (m i : Nat) (M : ex_M), i + m = ntz k → True → rr = some (.int (orNR (bck M) (nI (ntz k))).1) ∧ ee = ce G (orNR (bck M) (nI (ntz k))).2 → Ev G C Y_Mod_first 68 [some (.ref (ex_b G + 71)), some (.int e), some (.int (nI k)), some (.int (nI i))] [] 0 0 (ce G (M)) := by
  intro m
  induction m with
  | zero =>
    intro i M hm hc he
    have hz := ntz_lt k
    refine ev_iload_n rfl hC d_Mod_first_68 ?_
    refine ev_if_lt 86 hC d_Mod_first_69 rfl (fun h => absurd h (nI_pos (by omega))) (fun _ => ?_)
    refine ev_iload_n rfl hC d_Mod_first_72 ?_
    refine ev_iload_n rfl hC d_Mod_first_73 ?_
    refine cs_1 hC d_Mod_first_74 (c_Mod_has ) mi_Mod_has ml_Mod_97 sm_Mod_has ⟨Nat.le_of_ble_eq_true rfl, Nat.le_of_ble_eq_true rfl⟩ ⟨Nat.le_of_ble_eq_true rfl, Nat.le_of_ble_eq_true rfl⟩ rfl rfl (Nat.le_of_ble_eq_true rfl) ?_
    refine ev_if_ne 86 hC d_Mod_first_77 rfl (fun _ => ?_) (fun h => absurd h (by have q := hs1_ntz k hk hk0 i (by omega) (by omega); rw [hs1] at q; rw [q, decide_eq_true (by omega)]; decide))
    rw [show i = ntz k by omega]
    exact lp_Mod_first3 hC hR he.1 he.2
  | succ m ih =>
    intro i M hm hc he
    skip
    have hz := ntz_lt k
    refine ev_iload_n rfl hC d_Mod_first_68 ?_
    refine ev_if_lt 86 hC d_Mod_first_69 rfl (fun h => absurd h (nI_pos (by omega))) (fun _ => ?_)
    refine ev_iload_n rfl hC d_Mod_first_72 ?_
    refine ev_iload_n rfl hC d_Mod_first_73 ?_
    refine cs_1 hC d_Mod_first_74 (c_Mod_has ) mi_Mod_has ml_Mod_97 sm_Mod_has ⟨Nat.le_of_ble_eq_true rfl, Nat.le_of_ble_eq_true rfl⟩ ⟨Nat.le_of_ble_eq_true rfl, Nat.le_of_ble_eq_true rfl⟩ rfl rfl (Nat.le_of_ble_eq_true rfl) ?_
    refine ev_if_ne 86 hC d_Mod_first_77 rfl (fun h => absurd h (by have q := hs1_ntz k hk hk0 i (by omega) (by omega); rw [hs1] at q; rw [q, decide_eq_false (by omega)]; decide)) (fun _ => ?_)
    refine ev_iinc rfl (by decide) (nI_1 _) hC d_Mod_first_80 ?_
    refine ev_goto 68 hC d_Mod_first_83 rfl ?_
    exact ih (i + 1) M (by omega) trivial he

set_option maxHeartbeats 4000000 in
set_option maxRecDepth 10000 in
theorem lp_Mod_first1 {G : ex_G} {C : ex_C} {rr : Option Value} {ee : List va_E} {aw e : Int32} {n ne : Nat} (hC : Cx G C Y_Mod_first { frames := 5, cells := 0, slots := 0, locals := 112 }) (hR : Cr G C Y_Mod_first 0 0 rr ee) :
    ∀ (m i : Nat) (M : ex_M), i + m = 72 → M.1 14 1 = aw ∧ HK (M.1 10) n ne → rr = some (.int (orNR (bck (mI M 10 (srR (fun b => !decide (whoR b n e = 0)) aw n ne m i (M.1 10)).2)) (lst (ix (whoR (srR (fun b => !decide (whoR b n e = 0)) aw n ne m i (M.1 10)).2 n e)))).1) ∧ ee = ce G (orNR (bck (mI M 10 (srR (fun b => !decide (whoR b n e = 0)) aw n ne m i (M.1 10)).2)) (lst (ix (whoR (srR (fun b => !decide (whoR b n e = 0)) aw n ne m i (M.1 10)).2 n e)))).2 → Ev G C Y_Mod_first 28 [some (.ref (ex_b G + 71)), some (.int e), some (.int (nI i))] [] 0 0 (ce G (M)) := by
  intro m
  induction m with
  | zero =>
    intro i M hm hc he
    obtain ⟨k, hk, ek⟩ := whoR_N (a := M.1 10) e hc.2.2.1
    refine ev_iload_n rfl hC d_Mod_first_28 ?_
    refine ev_bipush (v := 72) rfl hC d_Mod_first_29 ?_
    refine ev_icmp_ge 52 hC d_Mod_first_31 rfl (fun _ => ?_) (fun h => absurd (by rw [show (72 : Int32) = nI 72 from rfl]; exact nI_le (by omega) (by omega)) h)
    refine ev_aload_n rfl hC d_Mod_first_52 ?_
    refine ev_iload_n rfl hC d_Mod_first_53 ?_
    refine cv_Mod1 hC d_Mod_first_54 (c_Mod_whoKnow hc.2.2.1 hc.2.1) mi_Mod_whoKnow ml_Mod_107 im_Mod_whoKnow se_Mod_whoKnow rfl ⟨Nat.le_of_ble_eq_true rfl, Nat.le_of_ble_eq_true rfl⟩ ⟨Nat.le_of_ble_eq_true rfl, Nat.le_of_ble_eq_true rfl⟩ rfl rfl (Nat.le_of_ble_eq_true rfl)  ?_
    refine ev_istore_n (by decide) hC d_Mod_first_57 ?_
    refine ev_iload_n rfl hC d_Mod_first_58 ?_
    refine ev_if_ne 66 hC d_Mod_first_59 rfl (fun h_59 => ?_) (fun h_59 => ?_)
    · refine ev_iconst (v := nI 0) rfl hC d_Mod_first_66 ?_
      refine ev_istore_n (by decide) hC d_Mod_first_67 ?_
      rw [show srR (fun b => !decide (whoR b n e = 0)) aw n ne 0 i (M.1 10) = (i, M.1 10) from rfl] at he
      simp only [mI, wr_id] at he
      rw [ek] at he h_59 ⊢
      have hk0 : k ≠ 0 := fun z => h_59 (by rw [z]; rfl)
      rw [lst_nI hk, if_neg hk0] at he
      exact lp_Mod_first2 hk hk0 hC hR (ntz k) 0 M (by omega) trivial he
    · refine ev_iconst (v := -1) rfl hC d_Mod_first_62 ?_
      refine ev_goto 67 hC d_Mod_first_63 rfl ?_
      refine ev_istore_n (by decide) hC d_Mod_first_67 ?_
      rw [show srR (fun b => !decide (whoR b n e = 0)) aw n ne 0 i (M.1 10) = (i, M.1 10) from rfl] at he
      simp only [mI, wr_id] at he
      rw [ek] at he h_59 ⊢
      have hk0 : k = 0 := by
        have q := congrArg Int32.toNatClampNeg h_59
        rw [nI_clamp (by omega)] at q
        exact q
      rw [lst_nI hk, if_pos hk0] at he
      refine ev_iload_n rfl hC d_Mod_first_68 ?_
      refine ev_if_lt 86 hC d_Mod_first_69 rfl (fun _ => ?_) (fun h => absurd (by decide) h)
      exact lp_Mod_first3 hC hR he.1 he.2
  | succ m ih =>
    intro i M hm hc he
    skip
    obtain ⟨k, hk, ek⟩ := whoR_N (a := M.1 10) e hc.2.2.1
    refine ev_iload_n rfl hC d_Mod_first_28 ?_
    refine ev_bipush (v := 72) rfl hC d_Mod_first_29 ?_
    refine ev_icmp_ge 52 hC d_Mod_first_31 rfl (fun h => absurd h (by rw [show (72 : Int32) = nI 72 from rfl]; exact nI_ge (by omega) (by omega))) (fun _ => ?_)
    refine ev_aload_n rfl hC d_Mod_first_34 ?_
    refine ev_iload_n rfl hC d_Mod_first_35 ?_
    refine cv_Mod1 hC d_Mod_first_36 (c_Mod_whoKnow hc.2.2.1 hc.2.1) mi_Mod_whoKnow ml_Mod_107 im_Mod_whoKnow se_Mod_whoKnow rfl ⟨Nat.le_of_ble_eq_true rfl, Nat.le_of_ble_eq_true rfl⟩ ⟨Nat.le_of_ble_eq_true rfl, Nat.le_of_ble_eq_true rfl⟩ rfl rfl (Nat.le_of_ble_eq_true rfl)  ?_
    refine ev_if_ne 52 hC d_Mod_first_39 rfl (fun h_39 => ?_) (fun h_39 => ?_)
    · refine ev_aload_n rfl hC d_Mod_first_52 ?_
      refine ev_iload_n rfl hC d_Mod_first_53 ?_
      refine cv_Mod1 hC d_Mod_first_54 (c_Mod_whoKnow hc.2.2.1 hc.2.1) mi_Mod_whoKnow ml_Mod_107 im_Mod_whoKnow se_Mod_whoKnow rfl ⟨Nat.le_of_ble_eq_true rfl, Nat.le_of_ble_eq_true rfl⟩ ⟨Nat.le_of_ble_eq_true rfl, Nat.le_of_ble_eq_true rfl⟩ rfl rfl (Nat.le_of_ble_eq_true rfl)  ?_
      refine ev_istore_n (by decide) hC d_Mod_first_57 ?_
      refine ev_iload_n rfl hC d_Mod_first_58 ?_
      refine ev_if_ne 66 hC d_Mod_first_59 rfl (fun h_59 => ?_) (fun h_59 => ?_)
      · refine ev_iconst (v := nI 0) rfl hC d_Mod_first_66 ?_
        refine ev_istore_n (by decide) hC d_Mod_first_67 ?_
        rw [show srR (fun b => !decide (whoR b n e = 0)) aw n ne (m + 1) i (M.1 10) = (i, M.1 10) by rw [srR]; simp [h_39]] at he
        simp only [mI, wr_id] at he
        rw [ek] at he h_59 ⊢
        have hk0 : k ≠ 0 := fun z => h_59 (by rw [z]; rfl)
        rw [lst_nI hk, if_neg hk0] at he
        exact lp_Mod_first2 hk hk0 hC hR (ntz k) 0 M (by omega) trivial he
      · refine ev_iconst (v := -1) rfl hC d_Mod_first_62 ?_
        refine ev_goto 67 hC d_Mod_first_63 rfl ?_
        refine ev_istore_n (by decide) hC d_Mod_first_67 ?_
        rw [show srR (fun b => !decide (whoR b n e = 0)) aw n ne (m + 1) i (M.1 10) = (i, M.1 10) by rw [srR]; simp [h_39]] at he
        simp only [mI, wr_id] at he
        rw [ek] at he h_59 ⊢
        have hk0 : k = 0 := by
          have q := congrArg Int32.toNatClampNeg h_59
          rw [nI_clamp (by omega)] at q
          exact q
        rw [lst_nI hk, if_pos hk0] at he
        refine ev_iload_n rfl hC d_Mod_first_68 ?_
        refine ev_if_lt 86 hC d_Mod_first_69 rfl (fun _ => ?_) (fun h => absurd (by decide) h)
        exact lp_Mod_first3 hC hR he.1 he.2
    · refine ev_aload_n rfl hC d_Mod_first_42 ?_
      refine cv_Mod0 hC d_Mod_first_43 (c_Mod_hour hc.1 hc.2) mi_Mod_hour ml_Mod_172 im_Mod_hour se_Mod_hour rfl ⟨Nat.le_of_ble_eq_true rfl, Nat.le_of_ble_eq_true rfl⟩ ⟨Nat.le_of_ble_eq_true rfl, Nat.le_of_ble_eq_true rfl⟩ rfl rfl (Nat.le_of_ble_eq_true rfl)  ?_
      refine ev_iinc rfl (by decide) (nI_1 _) hC d_Mod_first_46 ?_
      refine ev_goto 28 hC d_Mod_first_49 rfl ?_
      have z39 : whoR (M.1 10) n e = 0 := by simpa using h_39
      refine ih (i + 1) _ (by omega) ⟨hc.1, by simp only [mI, wr_s]; exact HK_hourR hc.2⟩ ?_
      rw [he.1, he.2, show srR (fun b => !decide (whoR b n e = 0)) aw n ne (m + 1) i (M.1 10) = srR (fun b => !decide (whoR b n e = 0)) aw n ne m (i + 1) (hourR aw n ne (M.1 10)) by rw [srR]; simp only [z39, cond_false, Bool.not_true, decide_true]]
      simp only [mI, wr_wr, wr_s]
      exact ⟨trivial, trivial⟩

set_option maxHeartbeats 2000000 in
set_option maxRecDepth 10000 in
theorem c_Mod_first {G : ex_G} {M : ex_M} {np ne : Nat} {e : Int32} (w : WF (M.1 10) np ne) : Con G Y_Mod_first 5 112 0 0 [.ref (ex_b G + 71), .int e] (ce G M) (some (.int (R_first M np ne e).1)) (ce G ((R_first M np ne e).2)) := by
  refine Con.ofF (plainFor_of_name (by decide +kernel)) (Nat.le_of_ble_eq_true rfl) (fun C hC hR => ?_)
  show Ev G C Y_Mod_first 0 [some (.ref (ex_b G + 71)), some (.int e)] [] 0 0 (ce G M)
  obtain ⟨hc, hn, hc2, hn2, hmet, hkd, hkn⟩ := w
  refine ev_aload_n rfl hC d_Mod_first_0 ?_
  refine ev_iload_n rfl hC d_Mod_first_1 ?_
  refine cv_Mod1 hC d_Mod_first_2 (c_Mod_isEvent ) mi_Mod_isEvent ml_Mod_101 im_Mod_isEvent se_Mod_isEvent rfl ⟨Nat.le_of_ble_eq_true rfl, Nat.le_of_ble_eq_true rfl⟩ ⟨Nat.le_of_ble_eq_true rfl, Nat.le_of_ble_eq_true rfl⟩ rfl rfl (Nat.le_of_ble_eq_true rfl)  ?_
  refine en_ne 15 hC d_Mod_first_5 rfl (fun h_5 => ?_) (fun h_5 => ?_)
  · refine ev_aload_n rfl hC d_Mod_first_15 ?_
    refine gv_Mod_now hC d_Mod_first_16 fl_Mod_9  ?_
    refine ev_aload_n rfl hC d_Mod_first_19 ?_
    refine gv_Mod_aside hC d_Mod_first_20 fl_Mod_16  ?_
    refine cs_0 hC d_Mod_first_23 (c_cp_na) mi_Mod_copyRow ml_Mod_64 sm_Mod_copyRow ⟨Nat.le_of_ble_eq_true rfl, Nat.le_of_ble_eq_true rfl⟩ ⟨Nat.le_of_ble_eq_true rfl, Nat.le_of_ble_eq_true rfl⟩ rfl rfl (Nat.le_of_ble_eq_true rfl) ?_
    refine ev_iconst (v := nI 0) rfl hC d_Mod_first_26 ?_
    refine ev_istore_n (by decide) hC d_Mod_first_27 ?_
    refine lp_Mod_first1 (aw := M.1 14 1) (n := np) (ne := ne) hC hR 72 0 (asd M) (by omega) ⟨by rw [asd_14], by rw [asd_10]; exact (HK_of ⟨hc, hn, hc2, hn2, hmet, hkd, hkn⟩)⟩ ?_
    rw [asd_10]
    simp only [R_first, zFir, h_5, cond_false]
    exact ⟨rfl, rfl⟩
  · refine ev_aload_n rfl hC d_Mod_first_8 ?_
    refine ev_ldc kc_Mod_63 hC d_Mod_first_9 ?_
    refine cv_Mod1 hC d_Mod_first_11 (c_Mod_finding (k := 0) (by omega) (by decide +kernel)) mi_Mod_finding ml_Mod_82 im_Mod_finding se_Mod_finding rfl ⟨Nat.le_of_ble_eq_true rfl, Nat.le_of_ble_eq_true rfl⟩ ⟨Nat.le_of_ble_eq_true rfl, Nat.le_of_ble_eq_true rfl⟩ rfl rfl (Nat.le_of_ble_eq_true rfl)  ?_
    exact ev_iret hC hR d_Mod_first_14 rfl (by simp only [R_first, rbad, h_5, if_true, if_false, cond_true, cond_false, decide_true, decide_false, Bool.not_true, Bool.not_false, Bool.or_true, Bool.true_or, Bool.or_false, Bool.false_or, Bool.and_true, Bool.and_false, Bool.true_and, Bool.false_and, Bool.or_self, Bool.and_self, eq_self] <;> first | rfl | (rfl)) (by simp only [R_first, rbad, h_5, if_true, if_false, cond_true, cond_false, decide_true, decide_false, Bool.not_true, Bool.not_false, Bool.or_true, Bool.true_or, Bool.or_false, Bool.false_or, Bool.and_true, Bool.and_false, Bool.true_and, Bool.false_and, Bool.or_self, Bool.and_self, eq_self] <;> first | rfl | (rfl))

set_option maxHeartbeats 4000000 in
set_option maxRecDepth 10000 in
theorem lp_Mod_bears {G : ex_G} {C : ex_C} {rr : Option Value} {ee : List va_E} {aw v t0 : Int32} {n ne h : Nat} (hh : h < 2 ^ 30) (hC : Cx G C Y_Mod_bears { frames := 7, cells := 0, slots := 0, locals := 155 }) (hR : Cr G C Y_Mod_bears 0 0 rr ee) :
    ∀ (m : Nat) (M : ex_M), m ≤ 100 → M.1 14 1 = aw ∧ HK (M.1 10) n ne → rr = some (.int (orNR (mJ (brR aw n ne h v m M).2 10 1 t0) (brR aw n ne h v m M).1).1) ∧ ee = ce G (orNR (mJ (brR aw n ne h v m M).2 10 1 t0) (brR aw n ne h v m M).1).2 → Ev G C Y_Mod_bears 46 [some (.ref (ex_b G + 71)), some (.int v), some (.int (nI h)), some (.int t0), some (.int (nI m - 1))] [] 0 0 (ce G M) := by
  intro m
  induction m with
  | zero =>
    intro M hm hc he
    rw [show nI 0 - 1 = (-1 : Int32) by decide]
    refine ev_iload rfl hC d_Mod_bears_46 ?_
    refine ev_if_lt 74 hC d_Mod_bears_48 rfl (fun _ => ?_) (fun h => absurd (by decide) h)
    refine ev_aload_n rfl hC d_Mod_bears_74 ?_
    refine gv_Mod_now hC d_Mod_bears_75 fl_Mod_9  ?_
    refine ev_iconst (v := nI 1) rfl hC d_Mod_bears_78 ?_
    refine ev_iload_n rfl hC d_Mod_bears_79 ?_
    refine pa_now hC d_Mod_bears_80 (by first | assumption | omega) ?_
    refine ev_aload_n rfl hC d_Mod_bears_81 ?_
    refine ev_iload rfl hC d_Mod_bears_82 ?_
    refine cv_Mod1 hC d_Mod_bears_84 (c_Mod_orNone ) mi_Mod_orNone ml_Mod_199 im_Mod_orNone se_Mod_orNone rfl ⟨Nat.le_of_ble_eq_true rfl, Nat.le_of_ble_eq_true rfl⟩ ⟨Nat.le_of_ble_eq_true rfl, Nat.le_of_ble_eq_true rfl⟩ rfl rfl (Nat.le_of_ble_eq_true rfl)  ?_
    exact ev_iret hC hR d_Mod_bears_87 rfl (by rw [he.1, brR]) (by rw [he.2, brR])
  | succ m ih =>
    intro M hm hc he
    rw [nI_pred m]
    refine ev_iload rfl hC d_Mod_bears_46 ?_
    refine ev_if_lt 74 hC d_Mod_bears_48 rfl (fun h => absurd h (nI_pos (by omega))) (fun _ => ?_)
    refine ev_aload_n rfl hC d_Mod_bears_51 ?_
    refine ev_iload_n rfl hC d_Mod_bears_52 ?_
    refine cv_Mod1 hC d_Mod_bears_53 (c_Mod_allOn (aw := aw) (n := n) (ne := ne) hh hc.1 hc.2) mi_Mod_allOn ml_Mod_215 im_Mod_allOn se_Mod_allOn rfl ⟨Nat.le_of_ble_eq_true rfl, Nat.le_of_ble_eq_true rfl⟩ ⟨Nat.le_of_ble_eq_true rfl, Nat.le_of_ble_eq_true rfl⟩ rfl rfl (Nat.le_of_ble_eq_true rfl)  ?_
    refine ev_iload_n rfl hC d_Mod_bears_56 ?_
    refine ev_icmp_ge 74 hC d_Mod_bears_57 rfl (fun h_57 => ?_) (fun h_57 => ?_)
    · refine ev_aload_n rfl hC d_Mod_bears_74 ?_
      refine gv_Mod_now hC d_Mod_bears_75 fl_Mod_9  ?_
      refine ev_iconst (v := nI 1) rfl hC d_Mod_bears_78 ?_
      refine ev_iload_n rfl hC d_Mod_bears_79 ?_
      refine pa_now hC d_Mod_bears_80 (by first | assumption | omega) ?_
      refine ev_aload_n rfl hC d_Mod_bears_81 ?_
      refine ev_iload rfl hC d_Mod_bears_82 ?_
      refine cv_Mod1 hC d_Mod_bears_84 (c_Mod_orNone ) mi_Mod_orNone ml_Mod_199 im_Mod_orNone se_Mod_orNone rfl ⟨Nat.le_of_ble_eq_true rfl, Nat.le_of_ble_eq_true rfl⟩ ⟨Nat.le_of_ble_eq_true rfl, Nat.le_of_ble_eq_true rfl⟩ rfl rfl (Nat.le_of_ble_eq_true rfl)  ?_
      exact ev_iret hC hR d_Mod_bears_87 rfl (by rw [he.1, brR, if_pos h_57]) (by rw [he.2, brR, if_pos h_57])
    · refine ev_iinc rfl (by decide) (rfl) hC d_Mod_bears_60 ?_
      refine ev_aload_n rfl hC d_Mod_bears_63 ?_
      refine gv_Mod_now hC d_Mod_bears_64 fl_Mod_9  ?_
      refine ev_iconst (v := nI 1) rfl hC d_Mod_bears_67 ?_
      refine ev_iload rfl hC d_Mod_bears_68 ?_
      refine pa_now hC d_Mod_bears_70 (by first | assumption | omega) ?_
      refine ev_goto 46 hC d_Mod_bears_71 rfl ?_
      rw [show nI m + Int32.ofInt (-1) = nI m - 1 by rw [show Int32.ofInt (-1) = -(1 : Int32) by decide, ← Int32.sub_eq_add_neg]]
      refine ih _ (by omega) ⟨by simp only [mJ, wr_n (show (14 : Nat) ≠ 10 by decide), thk_n (show (14 : Nat) ≠ 10 by decide) (show (14 : Nat) ≠ 12 by decide)]; exact hc.1, by simp only [mJ, wr_s]; exact HK_upd (HK_thk hc.2) (by omega) (by omega) (fun p hp => by omega)⟩ ?_
      rw [he.1, he.2, brR, if_neg h_57]
      exact ⟨rfl, rfl⟩

set_option maxHeartbeats 2000000 in
set_option maxRecDepth 10000 in
theorem c_Mod_bears {G : ex_G} {M : ex_M} {np ne : Nat} {v n : Int32} (w : WF (M.1 10) np ne) : Con G Y_Mod_bears 7 155 0 0 [.ref (ex_b G + 71), .int v, .int n] (ce G M) (some (.int (R_bears M np ne v n).1)) (ce G ((R_bears M np ne v n).2)) := by
  refine Con.ofF (plainFor_of_name (by decide +kernel)) (Nat.le_of_ble_eq_true rfl) (fun C hC hR => ?_)
  show Ev G C Y_Mod_bears 0 [some (.ref (ex_b G + 71)), some (.int v), some (.int n)] [] 0 0 (ce G M)
  obtain ⟨hc, hn, hc2, hn2, hmet, hkd, hkn⟩ := w
  refine ev_iload_n rfl hC d_Mod_bears_0 ?_
  refine ev_iconst (v := 0) rfl hC d_Mod_bears_1 ?_
  refine ev_ldc kc_Mod_214 hC d_Mod_bears_2 ?_
  refine cs_1 hC d_Mod_bears_4 (c_Mod_within ) mi_Mod_within ml_Mod_68 sm_Mod_within ⟨Nat.le_of_ble_eq_true rfl, Nat.le_of_ble_eq_true rfl⟩ ⟨Nat.le_of_ble_eq_true rfl, Nat.le_of_ble_eq_true rfl⟩ rfl rfl (Nat.le_of_ble_eq_true rfl) ?_
  refine en_eq 20 hC d_Mod_bears_7 rfl (fun h_7 => ?_) (fun h_7 => ?_)
  · refine ev_aload_n rfl hC d_Mod_bears_20 ?_
    refine ev_ldc kc_Mod_63 hC d_Mod_bears_21 ?_
    refine cv_Mod1 hC d_Mod_bears_23 (c_Mod_finding (k := 0) (by omega) (by decide +kernel)) mi_Mod_finding ml_Mod_82 im_Mod_finding se_Mod_finding rfl ⟨Nat.le_of_ble_eq_true rfl, Nat.le_of_ble_eq_true rfl⟩ ⟨Nat.le_of_ble_eq_true rfl, Nat.le_of_ble_eq_true rfl⟩ rfl rfl (Nat.le_of_ble_eq_true rfl)  ?_
    exact ev_iret hC hR d_Mod_bears_26 rfl (by simp only [R_bears, rbad, h_7, if_true, if_false, cond_true, cond_false, decide_true, decide_false, Bool.not_true, Bool.not_false, Bool.or_true, Bool.true_or, Bool.or_false, Bool.false_or, Bool.and_true, Bool.and_false, Bool.true_and, Bool.false_and, Bool.or_self, Bool.and_self, eq_self] <;> first | rfl | (rfl)) (by simp only [R_bears, rbad, h_7, if_true, if_false, cond_true, cond_false, decide_true, decide_false, Bool.not_true, Bool.not_false, Bool.or_true, Bool.true_or, Bool.or_false, Bool.false_or, Bool.and_true, Bool.and_false, Bool.true_and, Bool.false_and, Bool.or_self, Bool.and_self, eq_self] <;> first | rfl | (rfl))
  · refine ev_iload_n rfl hC d_Mod_bears_10 ?_
    refine ev_iconst (v := 0) rfl hC d_Mod_bears_11 ?_
    refine ev_bipush (v := 48) rfl hC d_Mod_bears_12 ?_
    refine cs_1 hC d_Mod_bears_14 (c_Mod_within ) mi_Mod_within ml_Mod_68 sm_Mod_within ⟨Nat.le_of_ble_eq_true rfl, Nat.le_of_ble_eq_true rfl⟩ ⟨Nat.le_of_ble_eq_true rfl, Nat.le_of_ble_eq_true rfl⟩ rfl rfl (Nat.le_of_ble_eq_true rfl) ?_
    refine en_ne 27 hC d_Mod_bears_17 rfl (fun h_17 => ?_) (fun h_17 => ?_)
    · obtain ⟨n1, hn1, rfl⟩ := out_nat (n := 48) (by decide) h_17
      have cn : (nI n1).toNatClampNeg = n1 := nI_clamp (by omega)
      refine ev_aload_n rfl hC d_Mod_bears_27 ?_
      refine gv_Mod_now hC d_Mod_bears_28 fl_Mod_9  ?_
      refine ev_iconst (v := nI 1) rfl hC d_Mod_bears_31 ?_
      refine ga_now hC d_Mod_bears_32 (by first | assumption | omega) ?_
      refine ev_istore_n (by decide) hC d_Mod_bears_33 ?_
      refine ev_bipush (v := 99) rfl hC d_Mod_bears_34 ?_
      refine ev_istore (by decide) hC d_Mod_bears_36 ?_
      refine ev_aload_n rfl hC d_Mod_bears_38 ?_
      refine gv_Mod_now hC d_Mod_bears_39 fl_Mod_9  ?_
      refine ev_iconst (v := nI 1) rfl hC d_Mod_bears_42 ?_
      refine ev_iload rfl hC d_Mod_bears_43 ?_
      refine pa_now hC d_Mod_bears_45 (by first | assumption | omega) ?_
      rw [show (99 : Int32) = nI 100 - 1 by decide]
      refine lp_Mod_bears (aw := M.1 14 1) (n := np) (ne := ne) (by omega) hC hR 100 _ (by omega) ⟨rfl, by simp only [mJ, wr_s]; exact HK_upd (HK_of ⟨hc, hn, hc2, hn2, hmet, hkd, hkn⟩) (by omega) (by omega) (fun p hp => by omega)⟩ ?_
      simp only [R_bears, zBr, h_7, h_17, ix, cn, if_true, if_false, cond_true, cond_false, decide_true, decide_false, Bool.not_true, Bool.not_false, Bool.or_true, Bool.true_or, Bool.or_false, Bool.false_or, Bool.and_true, Bool.and_false, Bool.true_and, Bool.false_and, Bool.or_self, Bool.and_self, eq_self]
      exact ⟨rfl, rfl⟩
    · refine ev_aload_n rfl hC d_Mod_bears_20 ?_
      refine ev_ldc kc_Mod_63 hC d_Mod_bears_21 ?_
      refine cv_Mod1 hC d_Mod_bears_23 (c_Mod_finding (k := 0) (by omega) (by decide +kernel)) mi_Mod_finding ml_Mod_82 im_Mod_finding se_Mod_finding rfl ⟨Nat.le_of_ble_eq_true rfl, Nat.le_of_ble_eq_true rfl⟩ ⟨Nat.le_of_ble_eq_true rfl, Nat.le_of_ble_eq_true rfl⟩ rfl rfl (Nat.le_of_ble_eq_true rfl)  ?_
      exact ev_iret hC hR d_Mod_bears_26 rfl (by simp only [R_bears, rbad, h_7, h_17, if_true, if_false, cond_true, cond_false, decide_true, decide_false, Bool.not_true, Bool.not_false, Bool.or_true, Bool.true_or, Bool.or_false, Bool.false_or, Bool.and_true, Bool.and_false, Bool.true_and, Bool.false_and, Bool.or_self, Bool.and_self, eq_self] <;> first | rfl | (rfl)) (by simp only [R_bears, rbad, h_7, h_17, if_true, if_false, cond_true, cond_false, decide_true, decide_false, Bool.not_true, Bool.not_false, Bool.or_true, Bool.true_or, Bool.or_false, Bool.false_or, Bool.and_true, Bool.and_false, Bool.true_and, Bool.false_and, Bool.or_self, Bool.and_self, eq_self] <;> first | rfl | (rfl))
