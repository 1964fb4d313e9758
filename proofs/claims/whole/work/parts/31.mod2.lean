set_option maxHeartbeats 4000000 in
set_option maxRecDepth 10000 in
theorem lp_Mod_whoKnow {G : ex_G} {C : ex_C} {rr : Option Value} {ee : List va_E} {n : Nat} {e : Int32} (hn : n ≤ 8) (hC : Cx G C Y_Mod_whoKnow { frames := 2, cells := 0, slots := 0, locals := 43 }) (hR : Cr G C Y_Mod_whoKnow 0 0 rr ee) :
    ∀ (m i : Nat) (M : ex_M) (s : Int32), i + m = n → M.1 10 3 = nI n → rr = some (.int (setF (fun i => hs1 (M.1 10 (28 + 7 * i + 6)) e) m i s)) ∧ ee = ce G M → Ev G C Y_Mod_whoKnow 4 [some (.ref (ex_b G + 71)), some (.int e), some (.int s), some (.int (nI i))] [] 0 0 (ce G (M)) := by
  intro m
  induction m with
  | zero =>
    intro i M s hm hc he
    refine ev_iload_n rfl hC d_Mod_whoKnow_4 ?_
    refine ev_aload_n rfl hC d_Mod_whoKnow_5 ?_
    refine gv_Mod_now hC d_Mod_whoKnow_6 fl_Mod_9  ?_
    refine ev_iconst (v := nI 3) rfl hC d_Mod_whoKnow_9 ?_
    refine ga_now hC d_Mod_whoKnow_10 (by first | assumption | omega) ?_
    refine ev_icmp_ge 44 hC d_Mod_whoKnow_11 rfl (fun _ => ?_) (fun h => absurd (by rw [hc]; exact nI_le (by omega) (by omega)) h)
    refine ev_iload_n rfl hC d_Mod_whoKnow_44 ?_
    exact ev_iret hC hR d_Mod_whoKnow_45 rfl (by rw [he.1, setF]) (he.2)
  | succ m ih =>
    intro i M s hm hc he
    have hi : i < 8 := by omega
    refine ev_iload_n rfl hC d_Mod_whoKnow_4 ?_
    refine ev_aload_n rfl hC d_Mod_whoKnow_5 ?_
    refine gv_Mod_now hC d_Mod_whoKnow_6 fl_Mod_9  ?_
    refine ev_iconst (v := nI 3) rfl hC d_Mod_whoKnow_9 ?_
    refine ga_now hC d_Mod_whoKnow_10 (by first | assumption | omega) ?_
    refine ev_icmp_ge 44 hC d_Mod_whoKnow_11 rfl (fun h => absurd h (by rw [hc]; exact nI_ge (by omega) (by omega))) (fun _ => ?_)
    refine ev_iload_n rfl hC d_Mod_whoKnow_14 ?_
    refine ev_aload_n rfl hC d_Mod_whoKnow_15 ?_
    refine ev_iload_n rfl hC d_Mod_whoKnow_16 ?_
    refine ev_bipush (v := nI 6) rfl hC d_Mod_whoKnow_17 ?_
    refine cv_Mod1 hC d_Mod_whoKnow_19 (c_Mod_oneIs (by first | assumption | omega) (by first | assumption | omega)) mi_Mod_oneIs ml_Mod_94 im_Mod_oneIs se_Mod_oneIs rfl ⟨Nat.le_of_ble_eq_true rfl, Nat.le_of_ble_eq_true rfl⟩ ⟨Nat.le_of_ble_eq_true rfl, Nat.le_of_ble_eq_true rfl⟩ rfl rfl (Nat.le_of_ble_eq_true rfl)  ?_
    refine ev_iload_n rfl hC d_Mod_whoKnow_22 ?_
    refine cs_1 hC d_Mod_whoKnow_23 (c_Mod_has ) mi_Mod_has ml_Mod_97 sm_Mod_has ⟨Nat.le_of_ble_eq_true rfl, Nat.le_of_ble_eq_true rfl⟩ ⟨Nat.le_of_ble_eq_true rfl, Nat.le_of_ble_eq_true rfl⟩ rfl rfl (Nat.le_of_ble_eq_true rfl) ?_
    refine eb_eq 35 hC d_Mod_whoKnow_26 rfl (fun h_26 => ?_) (fun h_26 => ?_)
    · refine ev_iconst (v := 0) rfl hC d_Mod_whoKnow_35 ?_
      refine ev_ior hC d_Mod_whoKnow_36 ?_
      refine ev_istore_n (by decide) hC d_Mod_whoKnow_37 ?_
      refine ev_iinc rfl (by decide) (nI_1 _) hC d_Mod_whoKnow_38 ?_
      refine ev_goto 4 hC d_Mod_whoKnow_41 rfl ?_
      rw [or_0]
      exact ih (i + 1) M _ (by omega) hc (by rw [he.1, he.2, show setF (fun i => hs1 (M.1 10 (28 + 7 * i + 6)) e) (m + 1) i s = setF (fun i => hs1 (M.1 10 (28 + 7 * i + 6)) e) m (i + 1) s by rw [setF, if_neg (by simp only [hs1]; simp [h_26])]]; exact ⟨rfl, rfl⟩)
    · refine ev_iconst (v := 1) rfl hC d_Mod_whoKnow_29 ?_
      refine ev_iload_n rfl hC d_Mod_whoKnow_30 ?_
      refine ev_ishl hC d_Mod_whoKnow_31 ?_
      refine ev_goto 36 hC d_Mod_whoKnow_32 rfl ?_
      refine ev_ior hC d_Mod_whoKnow_36 ?_
      refine ev_istore_n (by decide) hC d_Mod_whoKnow_37 ?_
      refine ev_iinc rfl (by decide) (nI_1 _) hC d_Mod_whoKnow_38 ?_
      refine ev_goto 4 hC d_Mod_whoKnow_41 rfl ?_
      exact ih (i + 1) M _ (by omega) hc (by rw [he.1, he.2, show setF (fun i => hs1 (M.1 10 (28 + 7 * i + 6)) e) (m + 1) i s = setF (fun i => hs1 (M.1 10 (28 + 7 * i + 6)) e) m (i + 1) (s ||| ((1 : Int32) <<< (nI i &&& 31))) by rw [setF, if_pos (by simp only [hs1]; simp [h_26])]]; exact ⟨rfl, rfl⟩)

set_option maxHeartbeats 2000000 in
set_option maxRecDepth 10000 in
theorem c_Mod_whoKnow {G : ex_G} {M : ex_M} {n : Nat} {e : Int32} (hn : n ≤ 8) (hc : M.1 10 3 = nI n) : Con G Y_Mod_whoKnow 2 43 0 0 [.ref (ex_b G + 71), .int e] (ce G M) (some (.int (whoR (M.1 10) n e))) (ce G (M)) := by
  refine Con.ofF (plainFor_of_name (by decide +kernel)) (Nat.le_of_ble_eq_true rfl) (fun C hC hR => ?_)
  show Ev G C Y_Mod_whoKnow 0 [some (.ref (ex_b G + 71)), some (.int e)] [] 0 0 (ce G M)
  refine ev_iconst (v := 0) rfl hC d_Mod_whoKnow_0 ?_
  refine ev_istore_n (by decide) hC d_Mod_whoKnow_1 ?_
  refine ev_iconst (v := nI 0) rfl hC d_Mod_whoKnow_2 ?_
  refine ev_istore_n (by decide) hC d_Mod_whoKnow_3 ?_
  exact lp_Mod_whoKnow hn hC hR n 0 M 0 (by omega) hc ⟨rfl, rfl⟩

set_option maxHeartbeats 2000000 in
set_option maxRecDepth 10000 in
theorem c_Mod_eventOf {G : ex_G} {M : ex_M} {np ne : Nat} {e w0 : Int32} (w : WF (M.1 10) np ne) : Con G Y_Mod_eventOf 3 66 0 0 [.ref (ex_b G + 71), .int e, .int w0] (ce G M) (some (.int (R_eventOf M np e w0).1)) (ce G ((R_eventOf M np e w0).2)) := by
  refine Con.ofF (plainFor_of_name (by decide +kernel)) (Nat.le_of_ble_eq_true rfl) (fun C hC hR => ?_)
  show Ev G C Y_Mod_eventOf 0 [some (.ref (ex_b G + 71)), some (.int e), some (.int w0)] [] 0 0 (ce G M)
  obtain ⟨hc, hn, hc2, hn2, hmet, hkd, hkn⟩ := w
  refine ev_aload_n rfl hC d_Mod_eventOf_0 ?_
  refine ev_iload_n rfl hC d_Mod_eventOf_1 ?_
  refine cv_Mod1 hC d_Mod_eventOf_2 (c_Mod_isEvent ) mi_Mod_isEvent ml_Mod_101 im_Mod_isEvent se_Mod_isEvent rfl ⟨Nat.le_of_ble_eq_true rfl, Nat.le_of_ble_eq_true rfl⟩ ⟨Nat.le_of_ble_eq_true rfl, Nat.le_of_ble_eq_true rfl⟩ rfl rfl (Nat.le_of_ble_eq_true rfl)  ?_
  refine en_eq 17 hC d_Mod_eventOf_5 rfl (fun h_5 => ?_) (fun h_5 => ?_)
  · refine ev_aload_n rfl hC d_Mod_eventOf_17 ?_
    refine ev_ldc kc_Mod_63 hC d_Mod_eventOf_18 ?_
    refine cv_Mod1 hC d_Mod_eventOf_20 (c_Mod_finding (k := 0) (by omega) (by decide +kernel)) mi_Mod_finding ml_Mod_82 im_Mod_finding se_Mod_finding rfl ⟨Nat.le_of_ble_eq_true rfl, Nat.le_of_ble_eq_true rfl⟩ ⟨Nat.le_of_ble_eq_true rfl, Nat.le_of_ble_eq_true rfl⟩ rfl rfl (Nat.le_of_ble_eq_true rfl)  ?_
    exact ev_iret hC hR d_Mod_eventOf_23 rfl (by simp only [R_eventOf, rbad, h_5, if_true, if_false, cond_true, cond_false, decide_true, decide_false, Bool.not_true, Bool.not_false, Bool.or_true, Bool.true_or, Bool.or_false, Bool.false_or, Bool.and_true, Bool.and_false, Bool.true_and, Bool.false_and, Bool.or_self, Bool.and_self, eq_self] <;> first | rfl | (rfl)) (by simp only [R_eventOf, rbad, h_5, if_true, if_false, cond_true, cond_false, decide_true, decide_false, Bool.not_true, Bool.not_false, Bool.or_true, Bool.true_or, Bool.or_false, Bool.false_or, Bool.and_true, Bool.and_false, Bool.true_and, Bool.false_and, Bool.or_self, Bool.and_self, eq_self] <;> first | rfl | (rfl))
  · refine ev_iload_n rfl hC d_Mod_eventOf_8 ?_
    refine ev_iconst (v := 0) rfl hC d_Mod_eventOf_9 ?_
    refine ev_iconst (v := 5) rfl hC d_Mod_eventOf_10 ?_
    refine cs_1 hC d_Mod_eventOf_11 (c_Mod_within ) mi_Mod_within ml_Mod_68 sm_Mod_within ⟨Nat.le_of_ble_eq_true rfl, Nat.le_of_ble_eq_true rfl⟩ ⟨Nat.le_of_ble_eq_true rfl, Nat.le_of_ble_eq_true rfl⟩ rfl rfl (Nat.le_of_ble_eq_true rfl) ?_
    refine en_ne 24 hC d_Mod_eventOf_14 rfl (fun h_14 => ?_) (fun h_14 => ?_)
    · obtain ⟨i, hi, rfl⟩ := out_ix hc2 hn2 h_5
      have ci : (nI i).toNatClampNeg = i := nI_clamp (by omega)
      refine ev_aload_n rfl hC d_Mod_eventOf_24 ?_
      refine ev_iload_n rfl hC d_Mod_eventOf_25 ?_
      refine ev_iconst (v := nI 0) rfl hC d_Mod_eventOf_26 ?_
      refine cv_Mod1 hC d_Mod_eventOf_27 (c_Mod_eventIs (p := i) (f := 0) (by omega) (by omega)) mi_Mod_eventIs ml_Mod_104 im_Mod_eventIs se_Mod_eventIs rfl ⟨Nat.le_of_ble_eq_true rfl, Nat.le_of_ble_eq_true rfl⟩ ⟨Nat.le_of_ble_eq_true rfl, Nat.le_of_ble_eq_true rfl⟩ rfl rfl (Nat.le_of_ble_eq_true rfl)  ?_
      refine ev_aload_n rfl hC d_Mod_eventOf_30 ?_
      refine gv_Mod_now hC d_Mod_eventOf_31 fl_Mod_9  ?_
      refine ev_iconst (v := nI 0) rfl hC d_Mod_eventOf_34 ?_
      refine ga_now hC d_Mod_eventOf_35 (by first | assumption | omega) ?_
      refine ev_isub hC d_Mod_eventOf_36 ?_
      refine ev_istore_n (by decide) hC d_Mod_eventOf_37 ?_
      refine ev_iload_n rfl hC d_Mod_eventOf_38 ?_
      refine sx_Mod_eventOf_39 hC (fun h_39 => ?_) (fun h_39 => ?_) (fun h_39 => ?_) (fun h_39 => ?_)
      · obtain ⟨k5, hk5, rfl⟩ := out_nat (n := 5) (by decide) h_14
        have ck5 : (nI k5).toNatClampNeg = k5 := nI_clamp (by omega)
        have hk3 : k5 < 3 := by
          have h1 := h_39
          rw [nI_toInt (by omega)] at h1
          omega
        refine ev_aload_n rfl hC d_Mod_eventOf_99 ?_
        refine ev_iload_n rfl hC d_Mod_eventOf_100 ?_
        refine ev_iload_n rfl hC d_Mod_eventOf_101 ?_
        refine cv_Mod1 hC d_Mod_eventOf_102 (c_Mod_eventIs (p := i) (f := k5) (by omega) (by omega)) mi_Mod_eventIs ml_Mod_104 im_Mod_eventIs se_Mod_eventIs rfl ⟨Nat.le_of_ble_eq_true rfl, Nat.le_of_ble_eq_true rfl⟩ ⟨Nat.le_of_ble_eq_true rfl, Nat.le_of_ble_eq_true rfl⟩ rfl rfl (Nat.le_of_ble_eq_true rfl)  ?_
        exact ev_iret hC hR d_Mod_eventOf_105 rfl (by simp only [R_eventOf, h_5, h_14, if_neg (sw_ne h_39 3 (by decide) (by decide)), if_neg (sw_ne h_39 4 (by decide) (by decide)), if_neg (sw_ne h_39 5 (by decide) (by decide)), ix, ci, ck5, if_true, if_false, cond_true, cond_false, decide_true, decide_false, Bool.not_true, Bool.not_false, Bool.or_true, Bool.true_or, Bool.or_false, Bool.false_or, Bool.and_true, Bool.and_false, Bool.true_and, Bool.false_and, Bool.or_self, Bool.and_self, eq_self]) (by simp only [R_eventOf, h_5, h_14, if_neg (sw_ne h_39 3 (by decide) (by decide)), if_neg (sw_ne h_39 4 (by decide) (by decide)), if_neg (sw_ne h_39 5 (by decide) (by decide)), ix, ci, ck5, if_true, if_false, cond_true, cond_false, decide_true, decide_false, Bool.not_true, Bool.not_false, Bool.or_true, Bool.true_or, Bool.or_false, Bool.false_or, Bool.and_true, Bool.and_false, Bool.true_and, Bool.false_and, Bool.or_self, Bool.and_self, eq_self])
      · refine ev_aload_n rfl hC d_Mod_eventOf_64 ?_
        refine ev_iload_n rfl hC d_Mod_eventOf_65 ?_
        refine cv_Mod1 hC d_Mod_eventOf_66 (c_Mod_whoKnow hn hc) mi_Mod_whoKnow ml_Mod_107 im_Mod_whoKnow se_Mod_whoKnow rfl ⟨Nat.le_of_ble_eq_true rfl, Nat.le_of_ble_eq_true rfl⟩ ⟨Nat.le_of_ble_eq_true rfl, Nat.le_of_ble_eq_true rfl⟩ rfl rfl (Nat.le_of_ble_eq_true rfl)  ?_
        exact ev_iret hC hR d_Mod_eventOf_69 rfl (by subst h_39; simp only [R_eventOf, h_5, h_14, ix, ci, if_true, if_false, cond_true, cond_false, decide_true, decide_false, Bool.not_true, Bool.not_false, Bool.or_true, Bool.true_or, Bool.or_false, Bool.false_or, Bool.and_true, Bool.and_false, Bool.true_and, Bool.false_and, Bool.or_self, Bool.and_self, eq_self] <;> rfl) (by subst h_39; simp only [R_eventOf, h_5, h_14, ix, ci, if_true, if_false, cond_true, cond_false, decide_true, decide_false, Bool.not_true, Bool.not_false, Bool.or_true, Bool.true_or, Bool.or_false, Bool.false_or, Bool.and_true, Bool.and_false, Bool.true_and, Bool.false_and, Bool.or_self, Bool.and_self, eq_self] <;> rfl)
      · refine ev_iconst (v := -1) rfl hC d_Mod_eventOf_70 ?_
        refine ev_iload_n rfl hC d_Mod_eventOf_71 ?_
        refine cs_1 hC d_Mod_eventOf_72 (c_Math_max ) mi_Math_max ml_Mod_110 sm_Math_max ⟨Nat.le_of_ble_eq_true rfl, Nat.le_of_ble_eq_true rfl⟩ ⟨Nat.le_of_ble_eq_true rfl, Nat.le_of_ble_eq_true rfl⟩ rfl rfl (Nat.le_of_ble_eq_true rfl) ?_
        exact ev_iret hC hR d_Mod_eventOf_75 rfl (by subst h_39; simp only [R_eventOf, h_5, h_14, ix, ci, if_true, if_false, cond_true, cond_false, decide_true, decide_false, Bool.not_true, Bool.not_false, Bool.or_true, Bool.true_or, Bool.or_false, Bool.false_or, Bool.and_true, Bool.and_false, Bool.true_and, Bool.false_and, Bool.or_self, Bool.and_self, eq_self] <;> rfl) (by subst h_39; simp only [R_eventOf, h_5, h_14, ix, ci, if_true, if_false, cond_true, cond_false, decide_true, decide_false, Bool.not_true, Bool.not_false, Bool.or_true, Bool.true_or, Bool.or_false, Bool.false_or, Bool.and_true, Bool.and_false, Bool.true_and, Bool.false_and, Bool.or_self, Bool.and_self, eq_self] <;> rfl)
      · refine ev_aload_n rfl hC d_Mod_eventOf_76 ?_
        refine ev_iload_n rfl hC d_Mod_eventOf_77 ?_
        refine ev_iconst (v := nI 2) rfl hC d_Mod_eventOf_78 ?_
        refine cv_Mod1 hC d_Mod_eventOf_79 (c_Mod_eventIs (p := i) (f := 2) (by omega) (by omega)) mi_Mod_eventIs ml_Mod_104 im_Mod_eventIs se_Mod_eventIs rfl ⟨Nat.le_of_ble_eq_true rfl, Nat.le_of_ble_eq_true rfl⟩ ⟨Nat.le_of_ble_eq_true rfl, Nat.le_of_ble_eq_true rfl⟩ rfl rfl (Nat.le_of_ble_eq_true rfl)  ?_
        refine ev_iconst (v := 1) rfl hC d_Mod_eventOf_82 ?_
        refine ev_icmp_ne 90 hC d_Mod_eventOf_83 rfl (fun h_83 => ?_) (fun h_83 => ?_)
        · refine ev_iconst (v := -1) rfl hC d_Mod_eventOf_90 ?_
          refine ev_iload_n rfl hC d_Mod_eventOf_91 ?_
          refine ev_bipush (v := 24) rfl hC d_Mod_eventOf_92 ?_
          refine ev_iadd hC d_Mod_eventOf_94 ?_
          refine cs_1 hC d_Mod_eventOf_95 (c_Math_max ) mi_Math_max ml_Mod_110 sm_Math_max ⟨Nat.le_of_ble_eq_true rfl, Nat.le_of_ble_eq_true rfl⟩ ⟨Nat.le_of_ble_eq_true rfl, Nat.le_of_ble_eq_true rfl⟩ rfl rfl (Nat.le_of_ble_eq_true rfl) ?_
          exact ev_iret hC hR d_Mod_eventOf_98 rfl (by subst h_39; simp only [R_eventOf, h_5, h_14, ix, ci, h_83, if_true, if_false, cond_true, cond_false, decide_true, decide_false, Bool.not_true, Bool.not_false, Bool.or_true, Bool.true_or, Bool.or_false, Bool.false_or, Bool.and_true, Bool.and_false, Bool.true_and, Bool.false_and, Bool.or_self, Bool.and_self, eq_self] <;> rfl) (by subst h_39; simp only [R_eventOf, h_5, h_14, ix, ci, h_83, if_true, if_false, cond_true, cond_false, decide_true, decide_false, Bool.not_true, Bool.not_false, Bool.or_true, Bool.true_or, Bool.or_false, Bool.false_or, Bool.and_true, Bool.and_false, Bool.true_and, Bool.false_and, Bool.or_self, Bool.and_self, eq_self] <;> rfl)
        · refine ev_iconst (v := -1) rfl hC d_Mod_eventOf_86 ?_
          refine ev_goto 98 hC d_Mod_eventOf_87 rfl ?_
          exact ev_iret hC hR d_Mod_eventOf_98 rfl (by subst h_39; simp only [R_eventOf, h_5, h_14, ix, ci, h_83, if_true, if_false, cond_true, cond_false, decide_true, decide_false, Bool.not_true, Bool.not_false, Bool.or_true, Bool.true_or, Bool.or_false, Bool.false_or, Bool.and_true, Bool.and_false, Bool.true_and, Bool.false_and, Bool.or_self, Bool.and_self, eq_self] <;> rfl) (by subst h_39; simp only [R_eventOf, h_5, h_14, ix, ci, h_83, if_true, if_false, cond_true, cond_false, decide_true, decide_false, Bool.not_true, Bool.not_false, Bool.or_true, Bool.true_or, Bool.or_false, Bool.false_or, Bool.and_true, Bool.and_false, Bool.true_and, Bool.false_and, Bool.or_self, Bool.and_self, eq_self] <;> rfl)
    · refine ev_aload_n rfl hC d_Mod_eventOf_17 ?_
      refine ev_ldc kc_Mod_63 hC d_Mod_eventOf_18 ?_
      refine cv_Mod1 hC d_Mod_eventOf_20 (c_Mod_finding (k := 0) (by omega) (by decide +kernel)) mi_Mod_finding ml_Mod_82 im_Mod_finding se_Mod_finding rfl ⟨Nat.le_of_ble_eq_true rfl, Nat.le_of_ble_eq_true rfl⟩ ⟨Nat.le_of_ble_eq_true rfl, Nat.le_of_ble_eq_true rfl⟩ rfl rfl (Nat.le_of_ble_eq_true rfl)  ?_
      exact ev_iret hC hR d_Mod_eventOf_23 rfl (by simp only [R_eventOf, rbad, h_5, h_14, if_true, if_false, cond_true, cond_false, decide_true, decide_false, Bool.not_true, Bool.not_false, Bool.or_true, Bool.true_or, Bool.or_false, Bool.false_or, Bool.and_true, Bool.and_false, Bool.true_and, Bool.false_and, Bool.or_self, Bool.and_self, eq_self] <;> first | rfl | (rfl)) (by simp only [R_eventOf, rbad, h_5, h_14, if_true, if_false, cond_true, cond_false, decide_true, decide_false, Bool.not_true, Bool.not_false, Bool.or_true, Bool.true_or, Bool.or_false, Bool.false_or, Bool.and_true, Bool.and_false, Bool.true_and, Bool.false_and, Bool.or_self, Bool.and_self, eq_self] <;> first | rfl | (rfl))

set_option maxHeartbeats 2000000 in
set_option maxRecDepth 10000 in
theorem c_Mod_worth {G : ex_G} {M : ex_M} {np ne : Nat} {e v : Int32} (w : WF (M.1 10) np ne) : Con G Y_Mod_worth 2 43 0 0 [.ref (ex_b G + 71), .int e, .int v] (ce G M) (some (.int (R_worth M e v).1)) (ce G ((R_worth M e v).2)) := by
  refine Con.ofF (plainFor_of_name (by decide +kernel)) (Nat.le_of_ble_eq_true rfl) (fun C hC hR => ?_)
  show Ev G C Y_Mod_worth 0 [some (.ref (ex_b G + 71)), some (.int e), some (.int v)] [] 0 0 (ce G M)
  obtain ⟨hc, hn, hc2, hn2, hmet, hkd, hkn⟩ := w
  refine ev_aload_n rfl hC d_Mod_worth_0 ?_
  refine ev_iload_n rfl hC d_Mod_worth_1 ?_
  refine cv_Mod1 hC d_Mod_worth_2 (c_Mod_isEvent ) mi_Mod_isEvent ml_Mod_101 im_Mod_isEvent se_Mod_isEvent rfl ⟨Nat.le_of_ble_eq_true rfl, Nat.le_of_ble_eq_true rfl⟩ ⟨Nat.le_of_ble_eq_true rfl, Nat.le_of_ble_eq_true rfl⟩ rfl rfl (Nat.le_of_ble_eq_true rfl)  ?_
  refine en_eq 28 hC d_Mod_worth_5 rfl (fun h_5 => ?_) (fun h_5 => ?_)
  · refine ev_aload_n rfl hC d_Mod_worth_28 ?_
    refine ev_ldc kc_Mod_63 hC d_Mod_worth_29 ?_
    refine cv_Mod1 hC d_Mod_worth_31 (c_Mod_finding (k := 0) (by omega) (by decide +kernel)) mi_Mod_finding ml_Mod_82 im_Mod_finding se_Mod_finding rfl ⟨Nat.le_of_ble_eq_true rfl, Nat.le_of_ble_eq_true rfl⟩ ⟨Nat.le_of_ble_eq_true rfl, Nat.le_of_ble_eq_true rfl⟩ rfl rfl (Nat.le_of_ble_eq_true rfl)  ?_
    exact ev_iret hC hR d_Mod_worth_34 rfl (by simp only [R_worth, rbad, h_5, if_true, if_false, cond_true, cond_false, decide_true, decide_false, Bool.not_true, Bool.not_false, Bool.or_true, Bool.true_or, Bool.or_false, Bool.false_or, Bool.and_true, Bool.and_false, Bool.true_and, Bool.false_and, Bool.or_self, Bool.and_self, eq_self] <;> first | rfl | (rfl)) (by simp only [R_worth, rbad, h_5, if_true, if_false, cond_true, cond_false, decide_true, decide_false, Bool.not_true, Bool.not_false, Bool.or_true, Bool.true_or, Bool.or_false, Bool.false_or, Bool.and_true, Bool.and_false, Bool.true_and, Bool.false_and, Bool.or_self, Bool.and_self, eq_self] <;> first | rfl | (rfl))
  · refine ev_iload_n rfl hC d_Mod_worth_8 ?_
    refine cs_1 hC d_Mod_worth_9 (c_Mod_isWorth ) mi_Mod_isWorth ml_Mod_86 sm_Mod_isWorth ⟨Nat.le_of_ble_eq_true rfl, Nat.le_of_ble_eq_true rfl⟩ ⟨Nat.le_of_ble_eq_true rfl, Nat.le_of_ble_eq_true rfl⟩ rfl rfl (Nat.le_of_ble_eq_true rfl) ?_
    refine en_eq 28 hC d_Mod_worth_12 rfl (fun h_12 => ?_) (fun h_12 => ?_)
    · refine ev_aload_n rfl hC d_Mod_worth_28 ?_
      refine ev_ldc kc_Mod_63 hC d_Mod_worth_29 ?_
      refine cv_Mod1 hC d_Mod_worth_31 (c_Mod_finding (k := 0) (by omega) (by decide +kernel)) mi_Mod_finding ml_Mod_82 im_Mod_finding se_Mod_finding rfl ⟨Nat.le_of_ble_eq_true rfl, Nat.le_of_ble_eq_true rfl⟩ ⟨Nat.le_of_ble_eq_true rfl, Nat.le_of_ble_eq_true rfl⟩ rfl rfl (Nat.le_of_ble_eq_true rfl)  ?_
      exact ev_iret hC hR d_Mod_worth_34 rfl (by simp only [R_worth, rbad, h_5, h_12, if_true, if_false, cond_true, cond_false, decide_true, decide_false, Bool.not_true, Bool.not_false, Bool.or_true, Bool.true_or, Bool.or_false, Bool.false_or, Bool.and_true, Bool.and_false, Bool.true_and, Bool.false_and, Bool.or_self, Bool.and_self, eq_self] <;> first | rfl | (rfl)) (by simp only [R_worth, rbad, h_5, h_12, if_true, if_false, cond_true, cond_false, decide_true, decide_false, Bool.not_true, Bool.not_false, Bool.or_true, Bool.true_or, Bool.or_false, Bool.false_or, Bool.and_true, Bool.and_false, Bool.true_and, Bool.false_and, Bool.or_self, Bool.and_self, eq_self] <;> first | rfl | (rfl))
    · obtain ⟨i, hi, rfl⟩ := out_ix hc2 hn2 h_5
      have ci : (nI i).toNatClampNeg = i := nI_clamp (by omega)
      refine ev_aload_n rfl hC d_Mod_worth_15 ?_
      refine ev_iload_n rfl hC d_Mod_worth_16 ?_
      refine ev_iconst (v := nI 1) rfl hC d_Mod_worth_17 ?_
      refine cs_1 hC d_Mod_worth_18 (c_Mod_atEvent) mi_Mod_atEvent ml_Mod_72 sm_Mod_atEvent ⟨Nat.le_of_ble_eq_true rfl, Nat.le_of_ble_eq_true rfl⟩ ⟨Nat.le_of_ble_eq_true rfl, Nat.le_of_ble_eq_true rfl⟩ rfl rfl (Nat.le_of_ble_eq_true rfl) ?_
      refine ev_iload_n rfl hC d_Mod_worth_21 ?_
      refine cv_Mod1 hC d_Mod_worth_22 (c_Mod_become (by omega)) mi_Mod_become ml_Mod_79 im_Mod_become se_Mod_become rfl ⟨Nat.le_of_ble_eq_true rfl, Nat.le_of_ble_eq_true rfl⟩ ⟨Nat.le_of_ble_eq_true rfl, Nat.le_of_ble_eq_true rfl⟩ rfl rfl (Nat.le_of_ble_eq_true rfl)  ?_
      refine ev_goto 34 hC d_Mod_worth_25 rfl ?_
      exact ev_iret hC hR d_Mod_worth_34 rfl (by simp only [R_worth, rbad, h_5, h_12, ix, ci, if_true, if_false, cond_true, cond_false, decide_true, decide_false, Bool.not_true, Bool.not_false, Bool.or_true, Bool.true_or, Bool.or_false, Bool.false_or, Bool.and_true, Bool.and_false, Bool.true_and, Bool.false_and, Bool.or_self, Bool.and_self, eq_self] <;> first | rfl | (rfl)) (by simp only [R_worth, rbad, h_5, h_12, ix, ci, if_true, if_false, cond_true, cond_false, decide_true, decide_false, Bool.not_true, Bool.not_false, Bool.or_true, Bool.true_or, Bool.or_false, Bool.false_or, Bool.and_true, Bool.and_false, Bool.true_and, Bool.false_and, Bool.or_self, Bool.and_self, eq_self] <;> first | rfl | (rfl))

set_option maxHeartbeats 2000000 in
set_option maxRecDepth 10000 in
theorem c_Mod_of {G : ex_G} {M : ex_M} {np ne : Nat} {p w0 : Int32} (w : WF (M.1 10) np ne) : Con G Y_Mod_of 2 43 0 0 [.ref (ex_b G + 71), .int p, .int w0] (ce G M) (some (.int (R_of M p w0).1)) (ce G ((R_of M p w0).2)) := by
  refine Con.ofF (plainFor_of_name (by decide +kernel)) (Nat.le_of_ble_eq_true rfl) (fun C hC hR => ?_)
  show Ev G C Y_Mod_of 0 [some (.ref (ex_b G + 71)), some (.int p), some (.int w0)] [] 0 0 (ce G M)
  obtain ⟨hc, hn, hc2, hn2, hmet, hkd, hkn⟩ := w
  refine ev_aload_n rfl hC d_Mod_of_0 ?_
  refine ev_iload_n rfl hC d_Mod_of_1 ?_
  refine cv_Mod1 hC d_Mod_of_2 (c_Mod_isOne ) mi_Mod_isOne ml_Mod_122 im_Mod_isOne se_Mod_isOne rfl ⟨Nat.le_of_ble_eq_true rfl, Nat.le_of_ble_eq_true rfl⟩ ⟨Nat.le_of_ble_eq_true rfl, Nat.le_of_ble_eq_true rfl⟩ rfl rfl (Nat.le_of_ble_eq_true rfl)  ?_
  refine en_eq 27 hC d_Mod_of_5 rfl (fun h_5 => ?_) (fun h_5 => ?_)
  · refine ev_aload_n rfl hC d_Mod_of_27 ?_
    refine ev_ldc kc_Mod_63 hC d_Mod_of_28 ?_
    refine cv_Mod1 hC d_Mod_of_30 (c_Mod_finding (k := 0) (by omega) (by decide +kernel)) mi_Mod_finding ml_Mod_82 im_Mod_finding se_Mod_finding rfl ⟨Nat.le_of_ble_eq_true rfl, Nat.le_of_ble_eq_true rfl⟩ ⟨Nat.le_of_ble_eq_true rfl, Nat.le_of_ble_eq_true rfl⟩ rfl rfl (Nat.le_of_ble_eq_true rfl)  ?_
    exact ev_iret hC hR d_Mod_of_33 rfl (by simp only [R_of, rbad, h_5, if_true, if_false, cond_true, cond_false, decide_true, decide_false, Bool.not_true, Bool.not_false, Bool.or_true, Bool.true_or, Bool.or_false, Bool.false_or, Bool.and_true, Bool.and_false, Bool.true_and, Bool.false_and, Bool.or_self, Bool.and_self, eq_self] <;> first | rfl | (rfl)) (by simp only [R_of, rbad, h_5, if_true, if_false, cond_true, cond_false, decide_true, decide_false, Bool.not_true, Bool.not_false, Bool.or_true, Bool.true_or, Bool.or_false, Bool.false_or, Bool.and_true, Bool.and_false, Bool.true_and, Bool.false_and, Bool.or_self, Bool.and_self, eq_self] <;> first | rfl | (rfl))
  · refine ev_iload_n rfl hC d_Mod_of_8 ?_
    refine ev_iconst (v := 0) rfl hC d_Mod_of_9 ?_
    refine ev_bipush (v := 6) rfl hC d_Mod_of_10 ?_
    refine cs_1 hC d_Mod_of_12 (c_Mod_within ) mi_Mod_within ml_Mod_68 sm_Mod_within ⟨Nat.le_of_ble_eq_true rfl, Nat.le_of_ble_eq_true rfl⟩ ⟨Nat.le_of_ble_eq_true rfl, Nat.le_of_ble_eq_true rfl⟩ rfl rfl (Nat.le_of_ble_eq_true rfl) ?_
    refine en_eq 27 hC d_Mod_of_15 rfl (fun h_15 => ?_) (fun h_15 => ?_)
    · refine ev_aload_n rfl hC d_Mod_of_27 ?_
      refine ev_ldc kc_Mod_63 hC d_Mod_of_28 ?_
      refine cv_Mod1 hC d_Mod_of_30 (c_Mod_finding (k := 0) (by omega) (by decide +kernel)) mi_Mod_finding ml_Mod_82 im_Mod_finding se_Mod_finding rfl ⟨Nat.le_of_ble_eq_true rfl, Nat.le_of_ble_eq_true rfl⟩ ⟨Nat.le_of_ble_eq_true rfl, Nat.le_of_ble_eq_true rfl⟩ rfl rfl (Nat.le_of_ble_eq_true rfl)  ?_
      exact ev_iret hC hR d_Mod_of_33 rfl (by simp only [R_of, rbad, h_5, h_15, if_true, if_false, cond_true, cond_false, decide_true, decide_false, Bool.not_true, Bool.not_false, Bool.or_true, Bool.true_or, Bool.or_false, Bool.false_or, Bool.and_true, Bool.and_false, Bool.true_and, Bool.false_and, Bool.or_self, Bool.and_self, eq_self] <;> first | rfl | (rfl)) (by simp only [R_of, rbad, h_5, h_15, if_true, if_false, cond_true, cond_false, decide_true, decide_false, Bool.not_true, Bool.not_false, Bool.or_true, Bool.true_or, Bool.or_false, Bool.false_or, Bool.and_true, Bool.and_false, Bool.true_and, Bool.false_and, Bool.or_self, Bool.and_self, eq_self] <;> first | rfl | (rfl))
    · obtain ⟨i, hi, rfl⟩ := out_ix hc hn h_5
      have ci : (nI i).toNatClampNeg = i := nI_clamp (by omega)
      obtain ⟨k, hk, rfl⟩ := out_nat (n := 6) (by decide) h_15
      have ck : (nI k).toNatClampNeg = k := nI_clamp (by omega)
      refine ev_aload_n rfl hC d_Mod_of_18 ?_
      refine ev_iload_n rfl hC d_Mod_of_19 ?_
      refine ev_iload_n rfl hC d_Mod_of_20 ?_
      refine cv_Mod1 hC d_Mod_of_21 (c_Mod_oneIs (by omega) (by omega)) mi_Mod_oneIs ml_Mod_94 im_Mod_oneIs se_Mod_oneIs rfl ⟨Nat.le_of_ble_eq_true rfl, Nat.le_of_ble_eq_true rfl⟩ ⟨Nat.le_of_ble_eq_true rfl, Nat.le_of_ble_eq_true rfl⟩ rfl rfl (Nat.le_of_ble_eq_true rfl)  ?_
      refine ev_goto 33 hC d_Mod_of_24 rfl ?_
      exact ev_iret hC hR d_Mod_of_33 rfl (by simp only [R_of, rbad, h_5, h_15, ix, ci, ck, if_true, if_false, cond_true, cond_false, decide_true, decide_false, Bool.not_true, Bool.not_false, Bool.or_true, Bool.true_or, Bool.or_false, Bool.false_or, Bool.and_true, Bool.and_false, Bool.true_and, Bool.false_and, Bool.or_self, Bool.and_self, eq_self] <;> first | rfl | (rfl)) (by simp only [R_of, rbad, h_5, h_15, ix, ci, ck, if_true, if_false, cond_true, cond_false, decide_true, decide_false, Bool.not_true, Bool.not_false, Bool.or_true, Bool.true_or, Bool.or_false, Bool.false_or, Bool.and_true, Bool.and_false, Bool.true_and, Bool.false_and, Bool.or_self, Bool.and_self, eq_self] <;> first | rfl | (rfl))

set_option maxHeartbeats 2000000 in
set_option maxRecDepth 10000 in
theorem c_Mod_maySet {G : ex_G} {M : ex_M} {w0 v : Int32} : Con G Y_Mod_maySet 1 22 0 0 [.ref (ex_b G + 71), .int w0, .int v] (ce G M) (some (.int (bi (may (M.1 10 2) w0 v)))) (ce G (M)) := by
  refine Con.ofF (plainFor_of_name (by decide +kernel)) (Nat.le_of_ble_eq_true rfl) (fun C hC hR => ?_)
  show Ev G C Y_Mod_maySet 0 [some (.ref (ex_b G + 71)), some (.int w0), some (.int v)] [] 0 0 (ce G M)
  refine ev_iload_n rfl hC d_Mod_maySet_0 ?_
  refine sx_Mod_maySet_1 hC (fun h_1 => ?_) (fun h_1 => ?_) (fun h_1 => ?_) (fun h_1 => ?_) (fun h_1 => ?_) (fun h_1 => ?_) (fun h_1 => ?_)
  · refine ev_iconst (v := 0) rfl hC d_Mod_maySet_80 ?_
    exact ev_zret hC hR d_Mod_maySet_81 rfl (by first | exact bi_nar _ | decide) (by have e1 := sw_ne h_1 1 (by decide) (by decide); have e2 := sw_ne h_1 2 (by decide) (by decide); have e3 := sw_ne h_1 3 (by decide) (by decide); have e4 := sw_ne h_1 4 (by decide) (by decide); have e6 := sw_ne h_1 6 (by decide) (by decide); simp only [may, e1, e2, e3, e4, e6, if_true, if_false, cond_true, cond_false, decide_true, decide_false, Bool.not_true, Bool.not_false, Bool.or_true, Bool.true_or, Bool.or_false, Bool.false_or, Bool.and_true, Bool.and_false, Bool.true_and, Bool.false_and, Bool.or_self, Bool.and_self, eq_self] <;> first | rfl | (rfl)) (rfl)
  · refine ev_iload_n rfl hC d_Mod_maySet_40 ?_
    refine ev_iconst (v := 0) rfl hC d_Mod_maySet_41 ?_
    refine ev_iconst (v := 1) rfl hC d_Mod_maySet_42 ?_
    refine cs_1 hC d_Mod_maySet_43 (c_Mod_within ) mi_Mod_within ml_Mod_68 sm_Mod_within ⟨Nat.le_of_ble_eq_true rfl, Nat.le_of_ble_eq_true rfl⟩ ⟨Nat.le_of_ble_eq_true rfl, Nat.le_of_ble_eq_true rfl⟩ rfl rfl (Nat.le_of_ble_eq_true rfl) ?_
    exact ev_zret hC hR d_Mod_maySet_46 rfl (by first | exact bi_nar _ | decide) (by subst h_1; simp only [may, if_true, if_false, cond_true, cond_false, decide_true, decide_false, Bool.not_true, Bool.not_false, Bool.or_true, Bool.true_or, Bool.or_false, Bool.false_or, Bool.and_true, Bool.and_false, Bool.true_and, Bool.false_and, Bool.or_self, Bool.and_self, eq_self] <;> first | rfl | (rfl)) (rfl)
  · refine ev_iload_n rfl hC d_Mod_maySet_47 ?_
    refine ev_iconst (v := 0) rfl hC d_Mod_maySet_48 ?_
    refine ev_sipush (v := 9999) rfl hC d_Mod_maySet_49 ?_
    refine cs_1 hC d_Mod_maySet_52 (c_Mod_within ) mi_Mod_within ml_Mod_68 sm_Mod_within ⟨Nat.le_of_ble_eq_true rfl, Nat.le_of_ble_eq_true rfl⟩ ⟨Nat.le_of_ble_eq_true rfl, Nat.le_of_ble_eq_true rfl⟩ rfl rfl (Nat.le_of_ble_eq_true rfl) ?_
    exact ev_zret hC hR d_Mod_maySet_55 rfl (by first | exact bi_nar _ | decide) (by subst h_1; simp only [may, if_true, if_false, cond_true, cond_false, decide_true, decide_false, Bool.not_true, Bool.not_false, Bool.or_true, Bool.true_or, Bool.or_false, Bool.false_or, Bool.and_true, Bool.and_false, Bool.true_and, Bool.false_and, Bool.or_self, Bool.and_self, eq_self] <;> first | rfl | (rfl)) (rfl)
  · refine ev_iload_n rfl hC d_Mod_maySet_56 ?_
    refine ev_iconst (v := -1) rfl hC d_Mod_maySet_57 ?_
    refine ev_bipush (v := 23) rfl hC d_Mod_maySet_58 ?_
    refine cs_1 hC d_Mod_maySet_60 (c_Mod_within ) mi_Mod_within ml_Mod_68 sm_Mod_within ⟨Nat.le_of_ble_eq_true rfl, Nat.le_of_ble_eq_true rfl⟩ ⟨Nat.le_of_ble_eq_true rfl, Nat.le_of_ble_eq_true rfl⟩ rfl rfl (Nat.le_of_ble_eq_true rfl) ?_
    exact ev_zret hC hR d_Mod_maySet_63 rfl (by first | exact bi_nar _ | decide) (by subst h_1; simp only [may, if_true, if_false, cond_true, cond_false, decide_true, decide_false, Bool.not_true, Bool.not_false, Bool.or_true, Bool.true_or, Bool.or_false, Bool.false_or, Bool.and_true, Bool.and_false, Bool.true_and, Bool.false_and, Bool.or_self, Bool.and_self, eq_self] <;> first | rfl | (rfl)) (rfl)
  · refine ev_iload_n rfl hC d_Mod_maySet_56 ?_
    refine ev_iconst (v := -1) rfl hC d_Mod_maySet_57 ?_
    refine ev_bipush (v := 23) rfl hC d_Mod_maySet_58 ?_
    refine cs_1 hC d_Mod_maySet_60 (c_Mod_within ) mi_Mod_within ml_Mod_68 sm_Mod_within ⟨Nat.le_of_ble_eq_true rfl, Nat.le_of_ble_eq_true rfl⟩ ⟨Nat.le_of_ble_eq_true rfl, Nat.le_of_ble_eq_true rfl⟩ rfl rfl (Nat.le_of_ble_eq_true rfl) ?_
    exact ev_zret hC hR d_Mod_maySet_63 rfl (by first | exact bi_nar _ | decide) (by subst h_1; simp only [may, if_true, if_false, cond_true, cond_false, decide_true, decide_false, Bool.not_true, Bool.not_false, Bool.or_true, Bool.true_or, Bool.or_false, Bool.false_or, Bool.and_true, Bool.and_false, Bool.true_and, Bool.false_and, Bool.or_self, Bool.and_self, eq_self] <;> first | rfl | (rfl)) (rfl)
  · refine ev_iconst (v := 0) rfl hC d_Mod_maySet_80 ?_
    exact ev_zret hC hR d_Mod_maySet_81 rfl (by first | exact bi_nar _ | decide) (by subst h_1; simp only [may, if_true, if_false, cond_true, cond_false, decide_true, decide_false, Bool.not_true, Bool.not_false, Bool.or_true, Bool.true_or, Bool.or_false, Bool.false_or, Bool.and_true, Bool.and_false, Bool.true_and, Bool.false_and, Bool.or_self, Bool.and_self, eq_self] <;> first | rfl | (rfl)) (rfl)
  · refine ev_iload_n rfl hC d_Mod_maySet_64 ?_
    refine ev_iconst (v := 0) rfl hC d_Mod_maySet_65 ?_
    refine ev_iconst (v := 1) rfl hC d_Mod_maySet_66 ?_
    refine ev_aload_n rfl hC d_Mod_maySet_67 ?_
    refine gv_Mod_now hC d_Mod_maySet_68 fl_Mod_9  ?_
    refine ev_iconst (v := nI 2) rfl hC d_Mod_maySet_71 ?_
    refine ga_now hC d_Mod_maySet_72 (by first | assumption | omega) ?_
    refine ev_ishl hC d_Mod_maySet_73 ?_
    refine ev_iconst (v := 1) rfl hC d_Mod_maySet_74 ?_
    refine ev_isub hC d_Mod_maySet_75 ?_
    refine cs_1 hC d_Mod_maySet_76 (c_Mod_within ) mi_Mod_within ml_Mod_68 sm_Mod_within ⟨Nat.le_of_ble_eq_true rfl, Nat.le_of_ble_eq_true rfl⟩ ⟨Nat.le_of_ble_eq_true rfl, Nat.le_of_ble_eq_true rfl⟩ rfl rfl (Nat.le_of_ble_eq_true rfl) ?_
    exact ev_zret hC hR d_Mod_maySet_79 rfl (by first | exact bi_nar _ | decide) (by subst h_1; simp only [may, if_true, if_false, cond_true, cond_false, decide_true, decide_false, Bool.not_true, Bool.not_false, Bool.or_true, Bool.true_or, Bool.or_false, Bool.false_or, Bool.and_true, Bool.and_false, Bool.true_and, Bool.false_and, Bool.or_self, Bool.and_self, eq_self] <;> first | rfl | (rfl)) (rfl)

theorem may_in {x w v : Int32} (h : may x w v = true) : ∃ k, k < 7 ∧ w = nI k := by
  unfold may at h
  by_cases h1 : w = 1
  · exact ⟨1, by omega, h1⟩
  · rw [if_neg h1] at h
    by_cases h2 : w = 2
    · exact ⟨2, by omega, h2⟩
    · rw [if_neg h2] at h
      by_cases h3 : w = 3
      · exact ⟨3, by omega, h3⟩
      · rw [if_neg h3] at h
        by_cases h4 : w = 4
        · exact ⟨4, by omega, h4⟩
        · rw [if_neg h4] at h
          by_cases h6 : w = 6
          · exact ⟨6, by omega, h6⟩
          · rw [if_neg h6] at h
            cases h

set_option maxHeartbeats 2000000 in
set_option maxRecDepth 10000 in
theorem c_Mod_set {G : ex_G} {M : ex_M} {np ne : Nat} {p w0 v : Int32} (w : WF (M.1 10) np ne) : Con G Y_Mod_set 2 44 0 0 [.ref (ex_b G + 71), .int p, .int w0, .int v] (ce G M) (some (.int (R_set M p w0 v).1)) (ce G ((R_set M p w0 v).2)) := by
  refine Con.ofF (plainFor_of_name (by decide +kernel)) (Nat.le_of_ble_eq_true rfl) (fun C hC hR => ?_)
  show Ev G C Y_Mod_set 0 [some (.ref (ex_b G + 71)), some (.int p), some (.int w0), some (.int v)] [] 0 0 (ce G M)
  obtain ⟨hc, hn, hc2, hn2, hmet, hkd, hkn⟩ := w
  refine ev_aload_n rfl hC d_Mod_set_0 ?_
  refine ev_iload_n rfl hC d_Mod_set_1 ?_
  refine cv_Mod1 hC d_Mod_set_2 (c_Mod_isOne ) mi_Mod_isOne ml_Mod_122 im_Mod_isOne se_Mod_isOne rfl ⟨Nat.le_of_ble_eq_true rfl, Nat.le_of_ble_eq_true rfl⟩ ⟨Nat.le_of_ble_eq_true rfl, Nat.le_of_ble_eq_true rfl⟩ rfl rfl (Nat.le_of_ble_eq_true rfl)  ?_
  refine en_eq 30 hC d_Mod_set_5 rfl (fun h_5 => ?_) (fun h_5 => ?_)
  · refine ev_aload_n rfl hC d_Mod_set_30 ?_
    refine ev_ldc kc_Mod_63 hC d_Mod_set_31 ?_
    refine cv_Mod1 hC d_Mod_set_33 (c_Mod_finding (k := 0) (by omega) (by decide +kernel)) mi_Mod_finding ml_Mod_82 im_Mod_finding se_Mod_finding rfl ⟨Nat.le_of_ble_eq_true rfl, Nat.le_of_ble_eq_true rfl⟩ ⟨Nat.le_of_ble_eq_true rfl, Nat.le_of_ble_eq_true rfl⟩ rfl rfl (Nat.le_of_ble_eq_true rfl)  ?_
    exact ev_iret hC hR d_Mod_set_36 rfl (by simp only [R_set, rbad, h_5, if_true, if_false, cond_true, cond_false, decide_true, decide_false, Bool.not_true, Bool.not_false, Bool.or_true, Bool.true_or, Bool.or_false, Bool.false_or, Bool.and_true, Bool.and_false, Bool.true_and, Bool.false_and, Bool.or_self, Bool.and_self, eq_self] <;> first | rfl | (rfl)) (by simp only [R_set, rbad, h_5, if_true, if_false, cond_true, cond_false, decide_true, decide_false, Bool.not_true, Bool.not_false, Bool.or_true, Bool.true_or, Bool.or_false, Bool.false_or, Bool.and_true, Bool.and_false, Bool.true_and, Bool.false_and, Bool.or_self, Bool.and_self, eq_self] <;> first | rfl | (rfl))
  · refine ev_aload_n rfl hC d_Mod_set_8 ?_
    refine ev_iload_n rfl hC d_Mod_set_9 ?_
    refine ev_iload_n rfl hC d_Mod_set_10 ?_
    refine cv_Mod1 hC d_Mod_set_11 (c_Mod_maySet ) mi_Mod_maySet ml_Mod_125 im_Mod_maySet se_Mod_maySet rfl ⟨Nat.le_of_ble_eq_true rfl, Nat.le_of_ble_eq_true rfl⟩ ⟨Nat.le_of_ble_eq_true rfl, Nat.le_of_ble_eq_true rfl⟩ rfl rfl (Nat.le_of_ble_eq_true rfl)  ?_
    refine eb_eq 30 hC d_Mod_set_14 rfl (fun h_14 => ?_) (fun h_14 => ?_)
    · refine ev_aload_n rfl hC d_Mod_set_30 ?_
      refine ev_ldc kc_Mod_63 hC d_Mod_set_31 ?_
      refine cv_Mod1 hC d_Mod_set_33 (c_Mod_finding (k := 0) (by omega) (by decide +kernel)) mi_Mod_finding ml_Mod_82 im_Mod_finding se_Mod_finding rfl ⟨Nat.le_of_ble_eq_true rfl, Nat.le_of_ble_eq_true rfl⟩ ⟨Nat.le_of_ble_eq_true rfl, Nat.le_of_ble_eq_true rfl⟩ rfl rfl (Nat.le_of_ble_eq_true rfl)  ?_
      exact ev_iret hC hR d_Mod_set_36 rfl (by simp only [R_set, rbad, h_5, h_14, if_true, if_false, cond_true, cond_false, decide_true, decide_false, Bool.not_true, Bool.not_false, Bool.or_true, Bool.true_or, Bool.or_false, Bool.false_or, Bool.and_true, Bool.and_false, Bool.true_and, Bool.false_and, Bool.or_self, Bool.and_self, eq_self] <;> first | rfl | (rfl)) (by simp only [R_set, rbad, h_5, h_14, if_true, if_false, cond_true, cond_false, decide_true, decide_false, Bool.not_true, Bool.not_false, Bool.or_true, Bool.true_or, Bool.or_false, Bool.false_or, Bool.and_true, Bool.and_false, Bool.true_and, Bool.false_and, Bool.or_self, Bool.and_self, eq_self] <;> first | rfl | (rfl))
    · obtain ⟨i, hi, rfl⟩ := out_ix hc hn h_5
      have ci : (nI i).toNatClampNeg = i := nI_clamp (by omega)
      obtain ⟨k, hk, rfl⟩ := may_in h_14
      have ck : (nI k).toNatClampNeg = k := nI_clamp (by omega)
      refine ev_aload_n rfl hC d_Mod_set_17 ?_
      refine ev_iload_n rfl hC d_Mod_set_18 ?_
      refine ev_iload_n rfl hC d_Mod_set_19 ?_
      refine cs_1 hC d_Mod_set_20 (c_Mod_at) mi_Mod_at ml_Mod_76 sm_Mod_at ⟨Nat.le_of_ble_eq_true rfl, Nat.le_of_ble_eq_true rfl⟩ ⟨Nat.le_of_ble_eq_true rfl, Nat.le_of_ble_eq_true rfl⟩ rfl rfl (Nat.le_of_ble_eq_true rfl) ?_
      refine ev_iload_n rfl hC d_Mod_set_23 ?_
      refine cv_Mod1 hC d_Mod_set_24 (c_Mod_become (by omega)) mi_Mod_become ml_Mod_79 im_Mod_become se_Mod_become rfl ⟨Nat.le_of_ble_eq_true rfl, Nat.le_of_ble_eq_true rfl⟩ ⟨Nat.le_of_ble_eq_true rfl, Nat.le_of_ble_eq_true rfl⟩ rfl rfl (Nat.le_of_ble_eq_true rfl)  ?_
      refine ev_goto 36 hC d_Mod_set_27 rfl ?_
      exact ev_iret hC hR d_Mod_set_36 rfl (by simp only [R_set, rbad, h_5, h_14, ix, ci, ck, if_true, if_false, cond_true, cond_false, decide_true, decide_false, Bool.not_true, Bool.not_false, Bool.or_true, Bool.true_or, Bool.or_false, Bool.false_or, Bool.and_true, Bool.and_false, Bool.true_and, Bool.false_and, Bool.or_self, Bool.and_self, eq_self] <;> first | rfl | (rfl)) (by simp only [R_set, rbad, h_5, h_14, ix, ci, ck, if_true, if_false, cond_true, cond_false, decide_true, decide_false, Bool.not_true, Bool.not_false, Bool.or_true, Bool.true_or, Bool.or_false, Bool.false_or, Bool.and_true, Bool.and_false, Bool.true_and, Bool.false_and, Bool.or_self, Bool.and_self, eq_self] <;> first | rfl | (rfl))

set_option maxHeartbeats 2000000 in
set_option maxRecDepth 10000 in
theorem c_Mod_turn {G : ex_G} {M : ex_M} {np ne : Nat} {p k : Int32} (w : WF (M.1 10) np ne) : Con G Y_Mod_turn 2 43 0 0 [.ref (ex_b G + 71), .int p, .int k] (ce G M) (some (.int (R_turn M p k).1)) (ce G ((R_turn M p k).2)) := by
  refine Con.ofF (plainFor_of_name (by decide +kernel)) (Nat.le_of_ble_eq_true rfl) (fun C hC hR => ?_)
  show Ev G C Y_Mod_turn 0 [some (.ref (ex_b G + 71)), some (.int p), some (.int k)] [] 0 0 (ce G M)
  obtain ⟨hc, hn, hc2, hn2, hmet, hkd, hkn⟩ := w
  refine ev_aload_n rfl hC d_Mod_turn_0 ?_
  refine ev_iload_n rfl hC d_Mod_turn_1 ?_
  refine cv_Mod1 hC d_Mod_turn_2 (c_Mod_isOne ) mi_Mod_isOne ml_Mod_122 im_Mod_isOne se_Mod_isOne rfl ⟨Nat.le_of_ble_eq_true rfl, Nat.le_of_ble_eq_true rfl⟩ ⟨Nat.le_of_ble_eq_true rfl, Nat.le_of_ble_eq_true rfl⟩ rfl rfl (Nat.le_of_ble_eq_true rfl)  ?_
  refine en_eq 28 hC d_Mod_turn_5 rfl (fun h_5 => ?_) (fun h_5 => ?_)
  · refine ev_aload_n rfl hC d_Mod_turn_28 ?_
    refine ev_ldc kc_Mod_63 hC d_Mod_turn_29 ?_
    refine cv_Mod1 hC d_Mod_turn_31 (c_Mod_finding (k := 0) (by omega) (by decide +kernel)) mi_Mod_finding ml_Mod_82 im_Mod_finding se_Mod_finding rfl ⟨Nat.le_of_ble_eq_true rfl, Nat.le_of_ble_eq_true rfl⟩ ⟨Nat.le_of_ble_eq_true rfl, Nat.le_of_ble_eq_true rfl⟩ rfl rfl (Nat.le_of_ble_eq_true rfl)  ?_
    exact ev_iret hC hR d_Mod_turn_34 rfl (by simp only [R_turn, rbad, h_5, if_true, if_false, cond_true, cond_false, decide_true, decide_false, Bool.not_true, Bool.not_false, Bool.or_true, Bool.true_or, Bool.or_false, Bool.false_or, Bool.and_true, Bool.and_false, Bool.true_and, Bool.false_and, Bool.or_self, Bool.and_self, eq_self] <;> first | rfl | (rfl)) (by simp only [R_turn, rbad, h_5, if_true, if_false, cond_true, cond_false, decide_true, decide_false, Bool.not_true, Bool.not_false, Bool.or_true, Bool.true_or, Bool.or_false, Bool.false_or, Bool.and_true, Bool.and_false, Bool.true_and, Bool.false_and, Bool.or_self, Bool.and_self, eq_self] <;> first | rfl | (rfl))
  · refine ev_iload_n rfl hC d_Mod_turn_8 ?_
    refine cs_1 hC d_Mod_turn_9 (c_Mod_isKind ) mi_Mod_isKind ml_Mod_115 sm_Mod_isKind ⟨Nat.le_of_ble_eq_true rfl, Nat.le_of_ble_eq_true rfl⟩ ⟨Nat.le_of_ble_eq_true rfl, Nat.le_of_ble_eq_true rfl⟩ rfl rfl (Nat.le_of_ble_eq_true rfl) ?_
    refine en_eq 28 hC d_Mod_turn_12 rfl (fun h_12 => ?_) (fun h_12 => ?_)
    · refine ev_aload_n rfl hC d_Mod_turn_28 ?_
      refine ev_ldc kc_Mod_63 hC d_Mod_turn_29 ?_
      refine cv_Mod1 hC d_Mod_turn_31 (c_Mod_finding (k := 0) (by omega) (by decide +kernel)) mi_Mod_finding ml_Mod_82 im_Mod_finding se_Mod_finding rfl ⟨Nat.le_of_ble_eq_true rfl, Nat.le_of_ble_eq_true rfl⟩ ⟨Nat.le_of_ble_eq_true rfl, Nat.le_of_ble_eq_true rfl⟩ rfl rfl (Nat.le_of_ble_eq_true rfl)  ?_
      exact ev_iret hC hR d_Mod_turn_34 rfl (by simp only [R_turn, rbad, h_5, h_12, if_true, if_false, cond_true, cond_false, decide_true, decide_false, Bool.not_true, Bool.not_false, Bool.or_true, Bool.true_or, Bool.or_false, Bool.false_or, Bool.and_true, Bool.and_false, Bool.true_and, Bool.false_and, Bool.or_self, Bool.and_self, eq_self] <;> first | rfl | (rfl)) (by simp only [R_turn, rbad, h_5, h_12, if_true, if_false, cond_true, cond_false, decide_true, decide_false, Bool.not_true, Bool.not_false, Bool.or_true, Bool.true_or, Bool.or_false, Bool.false_or, Bool.and_true, Bool.and_false, Bool.true_and, Bool.false_and, Bool.or_self, Bool.and_self, eq_self] <;> first | rfl | (rfl))
    · obtain ⟨i, hi, rfl⟩ := out_ix hc hn h_5
      have ci : (nI i).toNatClampNeg = i := nI_clamp (by omega)
      refine ev_aload_n rfl hC d_Mod_turn_15 ?_
      refine ev_iload_n rfl hC d_Mod_turn_16 ?_
      refine ev_iconst (v := nI 0) rfl hC d_Mod_turn_17 ?_
      refine cs_1 hC d_Mod_turn_18 (c_Mod_at) mi_Mod_at ml_Mod_76 sm_Mod_at ⟨Nat.le_of_ble_eq_true rfl, Nat.le_of_ble_eq_true rfl⟩ ⟨Nat.le_of_ble_eq_true rfl, Nat.le_of_ble_eq_true rfl⟩ rfl rfl (Nat.le_of_ble_eq_true rfl) ?_
      refine ev_iload_n rfl hC d_Mod_turn_21 ?_
      refine cv_Mod1 hC d_Mod_turn_22 (c_Mod_become (by omega)) mi_Mod_become ml_Mod_79 im_Mod_become se_Mod_become rfl ⟨Nat.le_of_ble_eq_true rfl, Nat.le_of_ble_eq_true rfl⟩ ⟨Nat.le_of_ble_eq_true rfl, Nat.le_of_ble_eq_true rfl⟩ rfl rfl (Nat.le_of_ble_eq_true rfl)  ?_
      refine ev_goto 34 hC d_Mod_turn_25 rfl ?_
      exact ev_iret hC hR d_Mod_turn_34 rfl (by simp only [R_turn, rbad, h_5, h_12, ix, ci, if_true, if_false, cond_true, cond_false, decide_true, decide_false, Bool.not_true, Bool.not_false, Bool.or_true, Bool.true_or, Bool.or_false, Bool.false_or, Bool.and_true, Bool.and_false, Bool.true_and, Bool.false_and, Bool.or_self, Bool.and_self, eq_self] <;> first | rfl | (rfl)) (by simp only [R_turn, rbad, h_5, h_12, ix, ci, if_true, if_false, cond_true, cond_false, decide_true, decide_false, Bool.not_true, Bool.not_false, Bool.or_true, Bool.true_or, Bool.or_false, Bool.false_or, Bool.and_true, Bool.and_false, Bool.true_and, Bool.false_and, Bool.or_self, Bool.and_self, eq_self] <;> first | rfl | (rfl))

set_option maxHeartbeats 2000000 in
set_option maxRecDepth 10000 in
theorem c_Mod_as {G : ex_G} {M : ex_M} {np ne : Nat} {p k : Int32} (w : WF (M.1 10) np ne) : Con G Y_Mod_as 2 43 0 0 [.ref (ex_b G + 71), .int p, .int k] (ce G M) (some (.int (R_as M p k).1)) (ce G ((R_as M p k).2)) := by
  refine Con.ofF (plainFor_of_name (by decide +kernel)) (Nat.le_of_ble_eq_true rfl) (fun C hC hR => ?_)
  show Ev G C Y_Mod_as 0 [some (.ref (ex_b G + 71)), some (.int p), some (.int k)] [] 0 0 (ce G M)
  obtain ⟨hc, hn, hc2, hn2, hmet, hkd, hkn⟩ := w
  refine ev_aload_n rfl hC d_Mod_as_0 ?_
  refine ev_iload_n rfl hC d_Mod_as_1 ?_
  refine cv_Mod1 hC d_Mod_as_2 (c_Mod_isOne ) mi_Mod_isOne ml_Mod_122 im_Mod_isOne se_Mod_isOne rfl ⟨Nat.le_of_ble_eq_true rfl, Nat.le_of_ble_eq_true rfl⟩ ⟨Nat.le_of_ble_eq_true rfl, Nat.le_of_ble_eq_true rfl⟩ rfl rfl (Nat.le_of_ble_eq_true rfl)  ?_
  refine en_eq 15 hC d_Mod_as_5 rfl (fun h_5 => ?_) (fun h_5 => ?_)
  · refine ev_aload_n rfl hC d_Mod_as_15 ?_
    refine ev_ldc kc_Mod_63 hC d_Mod_as_16 ?_
    refine cv_Mod1 hC d_Mod_as_18 (c_Mod_finding (k := 0) (by omega) (by decide +kernel)) mi_Mod_finding ml_Mod_82 im_Mod_finding se_Mod_finding rfl ⟨Nat.le_of_ble_eq_true rfl, Nat.le_of_ble_eq_true rfl⟩ ⟨Nat.le_of_ble_eq_true rfl, Nat.le_of_ble_eq_true rfl⟩ rfl rfl (Nat.le_of_ble_eq_true rfl)  ?_
    exact ev_iret hC hR d_Mod_as_21 rfl (by simp only [R_as, rbad, h_5, if_true, if_false, cond_true, cond_false, decide_true, decide_false, Bool.not_true, Bool.not_false, Bool.or_true, Bool.true_or, Bool.or_false, Bool.false_or, Bool.and_true, Bool.and_false, Bool.true_and, Bool.false_and, Bool.or_self, Bool.and_self, eq_self] <;> first | rfl | (rfl)) (by simp only [R_as, rbad, h_5, if_true, if_false, cond_true, cond_false, decide_true, decide_false, Bool.not_true, Bool.not_false, Bool.or_true, Bool.true_or, Bool.or_false, Bool.false_or, Bool.and_true, Bool.and_false, Bool.true_and, Bool.false_and, Bool.or_self, Bool.and_self, eq_self] <;> first | rfl | (rfl))
  · refine ev_iload_n rfl hC d_Mod_as_8 ?_
    refine cs_1 hC d_Mod_as_9 (c_Mod_isKind ) mi_Mod_isKind ml_Mod_115 sm_Mod_isKind ⟨Nat.le_of_ble_eq_true rfl, Nat.le_of_ble_eq_true rfl⟩ ⟨Nat.le_of_ble_eq_true rfl, Nat.le_of_ble_eq_true rfl⟩ rfl rfl (Nat.le_of_ble_eq_true rfl) ?_
    refine en_ne 22 hC d_Mod_as_12 rfl (fun h_12 => ?_) (fun h_12 => ?_)
    · obtain ⟨i, hi, rfl⟩ := out_ix hc hn h_5
      have ci : (nI i).toNatClampNeg = i := nI_clamp (by omega)
      obtain ⟨kk, hk6, ek⟩ := hkd i hi
      refine ev_aload_n rfl hC d_Mod_as_22 ?_
      refine ev_iload_n rfl hC d_Mod_as_23 ?_
      refine ev_iconst (v := nI 0) rfl hC d_Mod_as_24 ?_
      refine cv_Mod1 hC d_Mod_as_25 (c_Mod_oneIs (by omega) (by omega)) mi_Mod_oneIs ml_Mod_94 im_Mod_oneIs se_Mod_oneIs rfl ⟨Nat.le_of_ble_eq_true rfl, Nat.le_of_ble_eq_true rfl⟩ ⟨Nat.le_of_ble_eq_true rfl, Nat.le_of_ble_eq_true rfl⟩ rfl rfl (Nat.le_of_ble_eq_true rfl)  ?_
      refine ev_iload_n rfl hC d_Mod_as_28 ?_
      refine cs_1 hC d_Mod_as_29 (c_Mod_isUnder (by rw [ek]; exact vp_in_nI hk6 (by decide))) mi_Mod_isUnder ml_Mod_131 sm_Mod_isUnder ⟨Nat.le_of_ble_eq_true rfl, Nat.le_of_ble_eq_true rfl⟩ ⟨Nat.le_of_ble_eq_true rfl, Nat.le_of_ble_eq_true rfl⟩ rfl rfl (Nat.le_of_ble_eq_true rfl) ?_
      refine eb_eq 44 hC d_Mod_as_32 rfl (fun h_32 => ?_) (fun h_32 => ?_)
      · refine ev_aload_n rfl hC d_Mod_as_44 ?_
        refine ev_ldc kc_Mod_134 hC d_Mod_as_45 ?_
        refine cv_Mod1 hC d_Mod_as_47 (c_Mod_finding (k := 2) (by omega) (by decide +kernel)) mi_Mod_finding ml_Mod_82 im_Mod_finding se_Mod_finding rfl ⟨Nat.le_of_ble_eq_true rfl, Nat.le_of_ble_eq_true rfl⟩ ⟨Nat.le_of_ble_eq_true rfl, Nat.le_of_ble_eq_true rfl⟩ rfl rfl (Nat.le_of_ble_eq_true rfl)  ?_
        exact ev_iret hC hR d_Mod_as_50 rfl (by simp only [R_as, rbad, h_5, h_12, h_32, ix, ci, if_true, if_false, cond_true, cond_false, decide_true, decide_false, Bool.not_true, Bool.not_false, Bool.or_true, Bool.true_or, Bool.or_false, Bool.false_or, Bool.and_true, Bool.and_false, Bool.true_and, Bool.false_and, Bool.or_self, Bool.and_self, eq_self] <;> first | rfl | (rfl)) (by simp only [R_as, rbad, h_5, h_12, h_32, ix, ci, if_true, if_false, cond_true, cond_false, decide_true, decide_false, Bool.not_true, Bool.not_false, Bool.or_true, Bool.true_or, Bool.or_false, Bool.false_or, Bool.and_true, Bool.and_false, Bool.true_and, Bool.false_and, Bool.or_self, Bool.and_self, eq_self] <;> first | rfl | (rfl))
      · refine ev_aload_n rfl hC d_Mod_as_35 ?_
        refine ev_iload_n rfl hC d_Mod_as_36 ?_
        refine ev_iconst (v := nI 2) rfl hC d_Mod_as_37 ?_
        refine cv_Mod1 hC d_Mod_as_38 (c_Mod_oneIs (by omega) (by omega)) mi_Mod_oneIs ml_Mod_94 im_Mod_oneIs se_Mod_oneIs rfl ⟨Nat.le_of_ble_eq_true rfl, Nat.le_of_ble_eq_true rfl⟩ ⟨Nat.le_of_ble_eq_true rfl, Nat.le_of_ble_eq_true rfl⟩ rfl rfl (Nat.le_of_ble_eq_true rfl)  ?_
        refine ev_goto 50 hC d_Mod_as_41 rfl ?_
        exact ev_iret hC hR d_Mod_as_50 rfl (by simp only [R_as, rbad, h_5, h_12, h_32, ix, ci, if_true, if_false, cond_true, cond_false, decide_true, decide_false, Bool.not_true, Bool.not_false, Bool.or_true, Bool.true_or, Bool.or_false, Bool.false_or, Bool.and_true, Bool.and_false, Bool.true_and, Bool.false_and, Bool.or_self, Bool.and_self, eq_self] <;> first | rfl | (rfl)) (by simp only [R_as, rbad, h_5, h_12, h_32, ix, ci, if_true, if_false, cond_true, cond_false, decide_true, decide_false, Bool.not_true, Bool.not_false, Bool.or_true, Bool.true_or, Bool.or_false, Bool.false_or, Bool.and_true, Bool.and_false, Bool.true_and, Bool.false_and, Bool.or_self, Bool.and_self, eq_self] <;> first | rfl | (rfl))
    · refine ev_aload_n rfl hC d_Mod_as_15 ?_
      refine ev_ldc kc_Mod_63 hC d_Mod_as_16 ?_
      refine cv_Mod1 hC d_Mod_as_18 (c_Mod_finding (k := 0) (by omega) (by decide +kernel)) mi_Mod_finding ml_Mod_82 im_Mod_finding se_Mod_finding rfl ⟨Nat.le_of_ble_eq_true rfl, Nat.le_of_ble_eq_true rfl⟩ ⟨Nat.le_of_ble_eq_true rfl, Nat.le_of_ble_eq_true rfl⟩ rfl rfl (Nat.le_of_ble_eq_true rfl)  ?_
      exact ev_iret hC hR d_Mod_as_21 rfl (by simp only [R_as, rbad, h_5, h_12, if_true, if_false, cond_true, cond_false, decide_true, decide_false, Bool.not_true, Bool.not_false, Bool.or_true, Bool.true_or, Bool.or_false, Bool.false_or, Bool.and_true, Bool.and_false, Bool.true_and, Bool.false_and, Bool.or_self, Bool.and_self, eq_self] <;> first | rfl | (rfl)) (by simp only [R_as, rbad, h_5, h_12, if_true, if_false, cond_true, cond_false, decide_true, decide_false, Bool.not_true, Bool.not_false, Bool.or_true, Bool.true_or, Bool.or_false, Bool.false_or, Bool.and_true, Bool.and_false, Bool.true_and, Bool.false_and, Bool.or_self, Bool.and_self, eq_self] <;> first | rfl | (rfl))

set_option maxHeartbeats 2000000 in
set_option maxRecDepth 10000 in
theorem c_Mod_gains {G : ex_G} {M : ex_M} {np ne : Nat} {p w0 k : Int32} (w : WF (M.1 10) np ne) : Con G Y_Mod_gains 2 45 0 0 [.ref (ex_b G + 71), .int p, .int w0, .int k] (ce G M) (some (.int (R_gains M p w0 k).1)) (ce G ((R_gains M p w0 k).2)) := by
  refine Con.ofF (plainFor_of_name (by decide +kernel)) (Nat.le_of_ble_eq_true rfl) (fun C hC hR => ?_)
  show Ev G C Y_Mod_gains 0 [some (.ref (ex_b G + 71)), some (.int p), some (.int w0), some (.int k)] [] 0 0 (ce G M)
  obtain ⟨hc, hn, hc2, hn2, hmet, hkd, hkn⟩ := w
  refine ev_aload_n rfl hC d_Mod_gains_0 ?_
  refine ev_iload_n rfl hC d_Mod_gains_1 ?_
  refine cv_Mod1 hC d_Mod_gains_2 (c_Mod_isOne ) mi_Mod_isOne ml_Mod_122 im_Mod_isOne se_Mod_isOne rfl ⟨Nat.le_of_ble_eq_true rfl, Nat.le_of_ble_eq_true rfl⟩ ⟨Nat.le_of_ble_eq_true rfl, Nat.le_of_ble_eq_true rfl⟩ rfl rfl (Nat.le_of_ble_eq_true rfl)  ?_
  refine en_eq 47 hC d_Mod_gains_5 rfl (fun h_5 => ?_) (fun h_5 => ?_)
  · refine ev_aload_n rfl hC d_Mod_gains_47 ?_
    refine ev_ldc kc_Mod_63 hC d_Mod_gains_48 ?_
    refine cv_Mod1 hC d_Mod_gains_50 (c_Mod_finding (k := 0) (by omega) (by decide +kernel)) mi_Mod_finding ml_Mod_82 im_Mod_finding se_Mod_finding rfl ⟨Nat.le_of_ble_eq_true rfl, Nat.le_of_ble_eq_true rfl⟩ ⟨Nat.le_of_ble_eq_true rfl, Nat.le_of_ble_eq_true rfl⟩ rfl rfl (Nat.le_of_ble_eq_true rfl)  ?_
    exact ev_iret hC hR d_Mod_gains_53 rfl (by simp only [R_gains, rbad, h_5, if_true, if_false, cond_true, cond_false, decide_true, decide_false, Bool.not_true, Bool.not_false, Bool.or_true, Bool.true_or, Bool.or_false, Bool.false_or, Bool.and_true, Bool.and_false, Bool.true_and, Bool.false_and, Bool.or_self, Bool.and_self, eq_self] <;> first | rfl | (rfl)) (by simp only [R_gains, rbad, h_5, if_true, if_false, cond_true, cond_false, decide_true, decide_false, Bool.not_true, Bool.not_false, Bool.or_true, Bool.true_or, Bool.or_false, Bool.false_or, Bool.and_true, Bool.and_false, Bool.true_and, Bool.false_and, Bool.or_self, Bool.and_self, eq_self] <;> first | rfl | (rfl))
  · refine ev_iload_n rfl hC d_Mod_gains_8 ?_
    refine cs_1 hC d_Mod_gains_9 (c_Mod_isWorth ) mi_Mod_isWorth ml_Mod_86 sm_Mod_isWorth ⟨Nat.le_of_ble_eq_true rfl, Nat.le_of_ble_eq_true rfl⟩ ⟨Nat.le_of_ble_eq_true rfl, Nat.le_of_ble_eq_true rfl⟩ rfl rfl (Nat.le_of_ble_eq_true rfl) ?_
    refine en_eq 47 hC d_Mod_gains_12 rfl (fun h_12 => ?_) (fun h_12 => ?_)
    · refine ev_aload_n rfl hC d_Mod_gains_47 ?_
      refine ev_ldc kc_Mod_63 hC d_Mod_gains_48 ?_
      refine cv_Mod1 hC d_Mod_gains_50 (c_Mod_finding (k := 0) (by omega) (by decide +kernel)) mi_Mod_finding ml_Mod_82 im_Mod_finding se_Mod_finding rfl ⟨Nat.le_of_ble_eq_true rfl, Nat.le_of_ble_eq_true rfl⟩ ⟨Nat.le_of_ble_eq_true rfl, Nat.le_of_ble_eq_true rfl⟩ rfl rfl (Nat.le_of_ble_eq_true rfl)  ?_
      exact ev_iret hC hR d_Mod_gains_53 rfl (by simp only [R_gains, rbad, h_5, h_12, if_true, if_false, cond_true, cond_false, decide_true, decide_false, Bool.not_true, Bool.not_false, Bool.or_true, Bool.true_or, Bool.or_false, Bool.false_or, Bool.and_true, Bool.and_false, Bool.true_and, Bool.false_and, Bool.or_self, Bool.and_self, eq_self] <;> first | rfl | (rfl)) (by simp only [R_gains, rbad, h_5, h_12, if_true, if_false, cond_true, cond_false, decide_true, decide_false, Bool.not_true, Bool.not_false, Bool.or_true, Bool.true_or, Bool.or_false, Bool.false_or, Bool.and_true, Bool.and_false, Bool.true_and, Bool.false_and, Bool.or_self, Bool.and_self, eq_self] <;> first | rfl | (rfl))
    · refine ev_iload_n rfl hC d_Mod_gains_15 ?_
      refine ev_iconst (v := 0) rfl hC d_Mod_gains_16 ?_
      refine ev_iconst (v := 1) rfl hC d_Mod_gains_17 ?_
      refine cs_1 hC d_Mod_gains_18 (c_Mod_within ) mi_Mod_within ml_Mod_68 sm_Mod_within ⟨Nat.le_of_ble_eq_true rfl, Nat.le_of_ble_eq_true rfl⟩ ⟨Nat.le_of_ble_eq_true rfl, Nat.le_of_ble_eq_true rfl⟩ rfl rfl (Nat.le_of_ble_eq_true rfl) ?_
      refine en_eq 47 hC d_Mod_gains_21 rfl (fun h_21 => ?_) (fun h_21 => ?_)
      · refine ev_aload_n rfl hC d_Mod_gains_47 ?_
        refine ev_ldc kc_Mod_63 hC d_Mod_gains_48 ?_
        refine cv_Mod1 hC d_Mod_gains_50 (c_Mod_finding (k := 0) (by omega) (by decide +kernel)) mi_Mod_finding ml_Mod_82 im_Mod_finding se_Mod_finding rfl ⟨Nat.le_of_ble_eq_true rfl, Nat.le_of_ble_eq_true rfl⟩ ⟨Nat.le_of_ble_eq_true rfl, Nat.le_of_ble_eq_true rfl⟩ rfl rfl (Nat.le_of_ble_eq_true rfl)  ?_
        exact ev_iret hC hR d_Mod_gains_53 rfl (by simp only [R_gains, rbad, h_5, h_12, h_21, if_true, if_false, cond_true, cond_false, decide_true, decide_false, Bool.not_true, Bool.not_false, Bool.or_true, Bool.true_or, Bool.or_false, Bool.false_or, Bool.and_true, Bool.and_false, Bool.true_and, Bool.false_and, Bool.or_self, Bool.and_self, eq_self] <;> first | rfl | (rfl)) (by simp only [R_gains, rbad, h_5, h_12, h_21, if_true, if_false, cond_true, cond_false, decide_true, decide_false, Bool.not_true, Bool.not_false, Bool.or_true, Bool.true_or, Bool.or_false, Bool.false_or, Bool.and_true, Bool.and_false, Bool.true_and, Bool.false_and, Bool.or_self, Bool.and_self, eq_self] <;> first | rfl | (rfl))
      · obtain ⟨i, hi, rfl⟩ := out_ix hc hn h_5
        have ci : (nI i).toNatClampNeg = i := nI_clamp (by omega)
        refine ev_aload_n rfl hC d_Mod_gains_24 ?_
        refine ev_iload_n rfl hC d_Mod_gains_25 ?_
        refine ev_iconst (v := nI 0) rfl hC d_Mod_gains_26 ?_
        refine cv_Mod1 hC d_Mod_gains_27 (c_Mod_oneIs (by omega) (by omega)) mi_Mod_oneIs ml_Mod_94 im_Mod_oneIs se_Mod_oneIs rfl ⟨Nat.le_of_ble_eq_true rfl, Nat.le_of_ble_eq_true rfl⟩ ⟨Nat.le_of_ble_eq_true rfl, Nat.le_of_ble_eq_true rfl⟩ rfl rfl (Nat.le_of_ble_eq_true rfl)  ?_
        refine ev_iload_n rfl hC d_Mod_gains_30 ?_
        refine ev_iload_n rfl hC d_Mod_gains_31 ?_
        refine ev_iconst (v := 1) rfl hC d_Mod_gains_32 ?_
        refine ev_icmp_ne 40 hC d_Mod_gains_33 rfl (fun h_33 => ?_) (fun h_33 => ?_)
        · refine ev_iconst (v := 0) rfl hC d_Mod_gains_40 ?_
          refine cs_1 hC d_Mod_gains_41 (c_Mod_gainsOf (b := false)) mi_Mod_gainsOf ml_Mod_135 sm_Mod_gainsOf ⟨Nat.le_of_ble_eq_true rfl, Nat.le_of_ble_eq_true rfl⟩ ⟨Nat.le_of_ble_eq_true rfl, Nat.le_of_ble_eq_true rfl⟩ rfl rfl (Nat.le_of_ble_eq_true rfl) ?_
          refine ev_goto 53 hC d_Mod_gains_44 rfl ?_
          exact ev_iret hC hR d_Mod_gains_53 rfl (by simp only [R_gains, rbad, h_5, h_12, h_21, h_33, ix, ci, if_true, if_false, cond_true, cond_false, decide_true, decide_false, Bool.not_true, Bool.not_false, Bool.or_true, Bool.true_or, Bool.or_false, Bool.false_or, Bool.and_true, Bool.and_false, Bool.true_and, Bool.false_and, Bool.or_self, Bool.and_self, eq_self] <;> first | rfl | (rfl)) (by simp only [R_gains, rbad, h_5, h_12, h_21, h_33, ix, ci, if_true, if_false, cond_true, cond_false, decide_true, decide_false, Bool.not_true, Bool.not_false, Bool.or_true, Bool.true_or, Bool.or_false, Bool.false_or, Bool.and_true, Bool.and_false, Bool.true_and, Bool.false_and, Bool.or_self, Bool.and_self, eq_self] <;> first | rfl | (rfl))
        · refine ev_iconst (v := 1) rfl hC d_Mod_gains_36 ?_
          refine ev_goto 41 hC d_Mod_gains_37 rfl ?_
          refine cs_1 hC d_Mod_gains_41 (c_Mod_gainsOf (b := true)) mi_Mod_gainsOf ml_Mod_135 sm_Mod_gainsOf ⟨Nat.le_of_ble_eq_true rfl, Nat.le_of_ble_eq_true rfl⟩ ⟨Nat.le_of_ble_eq_true rfl, Nat.le_of_ble_eq_true rfl⟩ rfl rfl (Nat.le_of_ble_eq_true rfl) ?_
          refine ev_goto 53 hC d_Mod_gains_44 rfl ?_
          exact ev_iret hC hR d_Mod_gains_53 rfl (by simp only [R_gains, rbad, h_5, h_12, h_21, h_33, ix, ci, if_true, if_false, cond_true, cond_false, decide_true, decide_false, Bool.not_true, Bool.not_false, Bool.or_true, Bool.true_or, Bool.or_false, Bool.false_or, Bool.and_true, Bool.and_false, Bool.true_and, Bool.false_and, Bool.or_self, Bool.and_self, eq_self] <;> first | rfl | (rfl)) (by simp only [R_gains, rbad, h_5, h_12, h_21, h_33, ix, ci, if_true, if_false, cond_true, cond_false, decide_true, decide_false, Bool.not_true, Bool.not_false, Bool.or_true, Bool.true_or, Bool.or_false, Bool.false_or, Bool.and_true, Bool.and_false, Bool.true_and, Bool.false_and, Bool.or_self, Bool.and_self, eq_self] <;> first | rfl | (rfl))

set_option maxHeartbeats 2000000 in
set_option maxRecDepth 10000 in
theorem c_Mod_pays {G : ex_G} {M : ex_M} {p : Nat} {v : Int32} (hp : p < 8) : Con G Y_Mod_pays 2 43 0 0 [.ref (ex_b G + 71), .int (nI p), .int v] (ce G M) (none) (ce G (mI M 10 (oPay (M.1 10) p v))) := by
  refine Con.ofF (plainFor_of_name (by decide +kernel)) (Nat.le_of_ble_eq_true rfl) (fun C hC hR => ?_)
  show Ev G C Y_Mod_pays 0 [some (.ref (ex_b G + 71)), some (.int (nI p)), some (.int v)] [] 0 0 (ce G M)
  refine ev_aload_n rfl hC d_Mod_pays_0 ?_
  refine gv_Mod_now hC d_Mod_pays_1 fl_Mod_9  ?_
  refine ev_iload_n rfl hC d_Mod_pays_4 ?_
  refine ev_iconst (v := nI 2) rfl hC d_Mod_pays_5 ?_
  refine cs_1 hC d_Mod_pays_6 (c_Mod_at ) mi_Mod_at ml_Mod_76 sm_Mod_at ⟨Nat.le_of_ble_eq_true rfl, Nat.le_of_ble_eq_true rfl⟩ ⟨Nat.le_of_ble_eq_true rfl, Nat.le_of_ble_eq_true rfl⟩ rfl rfl (Nat.le_of_ble_eq_true rfl) ?_
  refine ev_iconst (v := 0) rfl hC d_Mod_pays_9 ?_
  refine ev_sipush (v := 9999) rfl hC d_Mod_pays_10 ?_
  refine ev_aload_n rfl hC d_Mod_pays_13 ?_
  refine ev_iload_n rfl hC d_Mod_pays_14 ?_
  refine ev_iconst (v := nI 2) rfl hC d_Mod_pays_15 ?_
  refine cv_Mod1 hC d_Mod_pays_16 (c_Mod_oneIs hp (by omega)) mi_Mod_oneIs ml_Mod_94 im_Mod_oneIs se_Mod_oneIs rfl ⟨Nat.le_of_ble_eq_true rfl, Nat.le_of_ble_eq_true rfl⟩ ⟨Nat.le_of_ble_eq_true rfl, Nat.le_of_ble_eq_true rfl⟩ rfl rfl (Nat.le_of_ble_eq_true rfl)  ?_
  refine ev_iload_n rfl hC d_Mod_pays_19 ?_
  refine ev_iadd hC d_Mod_pays_20 ?_
  refine cs_1 hC d_Mod_pays_21 (c_Math_min ) mi_Math_min ml_Mod_139 sm_Math_min ⟨Nat.le_of_ble_eq_true rfl, Nat.le_of_ble_eq_true rfl⟩ ⟨Nat.le_of_ble_eq_true rfl, Nat.le_of_ble_eq_true rfl⟩ rfl rfl (Nat.le_of_ble_eq_true rfl) ?_
  refine cs_1 hC d_Mod_pays_24 (c_Math_max ) mi_Math_max ml_Mod_110 sm_Math_max ⟨Nat.le_of_ble_eq_true rfl, Nat.le_of_ble_eq_true rfl⟩ ⟨Nat.le_of_ble_eq_true rfl, Nat.le_of_ble_eq_true rfl⟩ rfl rfl (Nat.le_of_ble_eq_true rfl) ?_
  refine pa_now hC d_Mod_pays_27 (by first | assumption | omega) ?_
  exact ev_vret hC hR d_Mod_pays_28 rfl rfl (rfl)

theorem oPay_n {a : Nat → Int32} {i q : Nat} {v : Int32} (h : q ≠ 28 + 7 * i + 2) : oPay a i v q = a q := ud_n h

set_option maxHeartbeats 2000000 in
set_option maxRecDepth 10000 in
theorem c_Mod_crosses {G : ex_G} {M : ex_M} {p : Nat} (hp : p < 8) : Con G Y_Mod_crosses 3 65 0 0 [.ref (ex_b G + 71), .int (nI p)] (ce G M) (none) (ce G (mI M 10 (oOvR (M.1 10) p))) := by
  refine Con.ofF (plainFor_of_name (by decide +kernel)) (Nat.le_of_ble_eq_true rfl) (fun C hC hR => ?_)
  show Ev G C Y_Mod_crosses 0 [some (.ref (ex_b G + 71)), some (.int (nI p))] [] 0 0 (ce G M)
  refine ev_aload_n rfl hC d_Mod_crosses_0 ?_
  refine ev_iload_n rfl hC d_Mod_crosses_1 ?_
  refine ev_aload_n rfl hC d_Mod_crosses_2 ?_
  refine gv_Mod_now hC d_Mod_crosses_3 fl_Mod_9  ?_
  refine ev_iconst (v := nI 1) rfl hC d_Mod_crosses_6 ?_
  refine ga_now hC d_Mod_crosses_7 (by first | assumption | omega) ?_
  refine ev_ineg hC d_Mod_crosses_8 ?_
  refine cv_Mod0 hC d_Mod_crosses_9 (c_Mod_pays (by first | assumption | omega)) mi_Mod_pays ml_Mod_142 im_Mod_pays se_Mod_pays rfl ⟨Nat.le_of_ble_eq_true rfl, Nat.le_of_ble_eq_true rfl⟩ ⟨Nat.le_of_ble_eq_true rfl, Nat.le_of_ble_eq_true rfl⟩ rfl rfl (Nat.le_of_ble_eq_true rfl)  ?_
  refine ev_aload_n rfl hC d_Mod_crosses_12 ?_
  refine gv_Mod_now hC d_Mod_crosses_13 fl_Mod_9  ?_
  refine ev_iload_n rfl hC d_Mod_crosses_16 ?_
  refine ev_iconst (v := nI 5) rfl hC d_Mod_crosses_17 ?_
  refine cs_1 hC d_Mod_crosses_18 (c_Mod_at ) mi_Mod_at ml_Mod_76 sm_Mod_at ⟨Nat.le_of_ble_eq_true rfl, Nat.le_of_ble_eq_true rfl⟩ ⟨Nat.le_of_ble_eq_true rfl, Nat.le_of_ble_eq_true rfl⟩ rfl rfl (Nat.le_of_ble_eq_true rfl) ?_
  refine ev_dup2 rfl rfl hC d_Mod_crosses_21 ?_
  refine ga_now hC d_Mod_crosses_22 (by first | assumption | omega) ?_
  refine ev_iconst (v := 1) rfl hC d_Mod_crosses_23 ?_
  refine ev_iadd hC d_Mod_crosses_24 ?_
  refine pa_now hC d_Mod_crosses_25 (by first | assumption | omega) ?_
  refine ev_aload_n rfl hC d_Mod_crosses_26 ?_
  refine gv_Mod_now hC d_Mod_crosses_27 fl_Mod_9  ?_
  refine ev_iload_n rfl hC d_Mod_crosses_30 ?_
  refine ev_iconst (v := nI 1) rfl hC d_Mod_crosses_31 ?_
  refine cs_1 hC d_Mod_crosses_32 (c_Mod_at ) mi_Mod_at ml_Mod_76 sm_Mod_at ⟨Nat.le_of_ble_eq_true rfl, Nat.le_of_ble_eq_true rfl⟩ ⟨Nat.le_of_ble_eq_true rfl, Nat.le_of_ble_eq_true rfl⟩ rfl rfl (Nat.le_of_ble_eq_true rfl) ?_
  refine ev_iconst (v := 1) rfl hC d_Mod_crosses_35 ?_
  refine ev_aload_n rfl hC d_Mod_crosses_36 ?_
  refine ev_iload_n rfl hC d_Mod_crosses_37 ?_
  refine ev_iconst (v := nI 1) rfl hC d_Mod_crosses_38 ?_
  refine cv_Mod1 hC d_Mod_crosses_39 (c_Mod_oneIs hp (by omega)) mi_Mod_oneIs ml_Mod_94 im_Mod_oneIs se_Mod_oneIs rfl ⟨Nat.le_of_ble_eq_true rfl, Nat.le_of_ble_eq_true rfl⟩ ⟨Nat.le_of_ble_eq_true rfl, Nat.le_of_ble_eq_true rfl⟩ rfl rfl (Nat.le_of_ble_eq_true rfl)  ?_
  refine ev_isub hC d_Mod_crosses_42 ?_
  refine pa_now hC d_Mod_crosses_43 (by first | assumption | omega) ?_
  exact ev_vret hC hR d_Mod_crosses_44 rfl rfl (by simp only [oOvR, mI, mJ, wr_wr, wr_s]; rw [ud_n (by omega), oPay_n (by omega), oPay_n (by omega)])

set_option maxHeartbeats 2000000 in
set_option maxRecDepth 10000 in
theorem c_Mod_canPay {G : ex_G} {M : ex_M} {p : Nat} (hp : p < 8) : Con G Y_Mod_canPay 2 43 0 0 [.ref (ex_b G + 71), .int (nI p)] (ce G M) (some (.int (bi (pays (M.1 10) p)))) (ce G (M)) := by
  refine Con.ofF (plainFor_of_name (by decide +kernel)) (Nat.le_of_ble_eq_true rfl) (fun C hC hR => ?_)
  show Ev G C Y_Mod_canPay 0 [some (.ref (ex_b G + 71)), some (.int (nI p))] [] 0 0 (ce G M)
  refine ev_aload_n rfl hC d_Mod_canPay_0 ?_
  refine ev_iload_n rfl hC d_Mod_canPay_1 ?_
  refine ev_iconst (v := nI 2) rfl hC d_Mod_canPay_2 ?_
  refine cv_Mod1 hC d_Mod_canPay_3 (c_Mod_oneIs hp (by omega)) mi_Mod_oneIs ml_Mod_94 im_Mod_oneIs se_Mod_oneIs rfl ⟨Nat.le_of_ble_eq_true rfl, Nat.le_of_ble_eq_true rfl⟩ ⟨Nat.le_of_ble_eq_true rfl, Nat.le_of_ble_eq_true rfl⟩ rfl rfl (Nat.le_of_ble_eq_true rfl)  ?_
  refine ev_aload_n rfl hC d_Mod_canPay_6 ?_
  refine gv_Mod_now hC d_Mod_canPay_7 fl_Mod_9  ?_
  refine ev_iconst (v := nI 1) rfl hC d_Mod_canPay_10 ?_
  refine ga_now hC d_Mod_canPay_11 (by first | assumption | omega) ?_
  refine ev_icmp_lt 19 hC d_Mod_canPay_12 rfl (fun h_12 => ?_) (fun h_12 => ?_)
  · refine ev_iconst (v := 0) rfl hC d_Mod_canPay_19 ?_
    exact ev_zret hC hR d_Mod_canPay_20 rfl (by first | exact bi_nar _ | decide) (by simp [pays, bi, h_12]) (rfl)
  · refine ev_iconst (v := 1) rfl hC d_Mod_canPay_15 ?_
    refine ev_goto 20 hC d_Mod_canPay_16 rfl ?_
    exact ev_zret hC hR d_Mod_canPay_20 rfl (by first | exact bi_nar _ | decide) (by simp [pays, bi, h_12]) (rfl)

set_option maxHeartbeats 2000000 in
set_option maxRecDepth 10000 in
theorem c_Mod_cross {G : ex_G} {M : ex_M} {np ne : Nat} {p : Int32} (w : WF (M.1 10) np ne) : Con G Y_Mod_cross 4 86 0 0 [.ref (ex_b G + 71), .int p] (ce G M) (some (.int (R_cross M p).1)) (ce G ((R_cross M p).2)) := by
  refine Con.ofF (plainFor_of_name (by decide +kernel)) (Nat.le_of_ble_eq_true rfl) (fun C hC hR => ?_)
  show Ev G C Y_Mod_cross 0 [some (.ref (ex_b G + 71)), some (.int p)] [] 0 0 (ce G M)
  obtain ⟨hc, hn, hc2, hn2, hmet, hkd, hkn⟩ := w
  refine ev_aload_n rfl hC d_Mod_cross_0 ?_
  refine ev_iload_n rfl hC d_Mod_cross_1 ?_
  refine cv_Mod1 hC d_Mod_cross_2 (c_Mod_isOne ) mi_Mod_isOne ml_Mod_122 im_Mod_isOne se_Mod_isOne rfl ⟨Nat.le_of_ble_eq_true rfl, Nat.le_of_ble_eq_true rfl⟩ ⟨Nat.le_of_ble_eq_true rfl, Nat.le_of_ble_eq_true rfl⟩ rfl rfl (Nat.le_of_ble_eq_true rfl)  ?_
  refine en_ne 15 hC d_Mod_cross_5 rfl (fun h_5 => ?_) (fun h_5 => ?_)
  · obtain ⟨i, hi, rfl⟩ := out_ix hc hn h_5
    have ci : (nI i).toNatClampNeg = i := nI_clamp (by omega)
    refine ev_aload_n rfl hC d_Mod_cross_15 ?_
    refine ev_iload_n rfl hC d_Mod_cross_16 ?_
    refine cv_Mod1 hC d_Mod_cross_17 (c_Mod_canPay (by omega)) mi_Mod_canPay ml_Mod_146 im_Mod_canPay se_Mod_canPay rfl ⟨Nat.le_of_ble_eq_true rfl, Nat.le_of_ble_eq_true rfl⟩ ⟨Nat.le_of_ble_eq_true rfl, Nat.le_of_ble_eq_true rfl⟩ rfl rfl (Nat.le_of_ble_eq_true rfl)  ?_
    refine eb_ne 30 hC d_Mod_cross_20 rfl (fun h_20 => ?_) (fun h_20 => ?_)
    · refine ev_aload_n rfl hC d_Mod_cross_30 ?_
      refine ev_iload_n rfl hC d_Mod_cross_31 ?_
      refine cv_Mod0 hC d_Mod_cross_32 (c_Mod_crosses (by omega)) mi_Mod_crosses ml_Mod_150 im_Mod_crosses se_Mod_crosses rfl ⟨Nat.le_of_ble_eq_true rfl, Nat.le_of_ble_eq_true rfl⟩ ⟨Nat.le_of_ble_eq_true rfl, Nat.le_of_ble_eq_true rfl⟩ rfl rfl (Nat.le_of_ble_eq_true rfl)  ?_
      refine ev_aload_n rfl hC d_Mod_cross_35 ?_
      refine ev_iload_n rfl hC d_Mod_cross_36 ?_
      refine ev_iconst (v := nI 1) rfl hC d_Mod_cross_37 ?_
      refine cv_Mod1 hC d_Mod_cross_38 (c_Mod_oneIs (by omega) (by omega)) mi_Mod_oneIs ml_Mod_94 im_Mod_oneIs se_Mod_oneIs rfl ⟨Nat.le_of_ble_eq_true rfl, Nat.le_of_ble_eq_true rfl⟩ ⟨Nat.le_of_ble_eq_true rfl, Nat.le_of_ble_eq_true rfl⟩ rfl rfl (Nat.le_of_ble_eq_true rfl)  ?_
      exact ev_iret hC hR d_Mod_cross_41 rfl (by simp only [R_cross, rbad, h_5, h_20, ix, ci, if_true, if_false, cond_true, cond_false, decide_true, decide_false, Bool.not_true, Bool.not_false, Bool.or_true, Bool.true_or, Bool.or_false, Bool.false_or, Bool.and_true, Bool.and_false, Bool.true_and, Bool.false_and, Bool.or_self, Bool.and_self, eq_self] <;> first | rfl | (simp only [mI, wr_s, oOvR]; rw [ud_s])) (by simp only [R_cross, rbad, h_5, h_20, ix, ci, if_true, if_false, cond_true, cond_false, decide_true, decide_false, Bool.not_true, Bool.not_false, Bool.or_true, Bool.true_or, Bool.or_false, Bool.false_or, Bool.and_true, Bool.and_false, Bool.true_and, Bool.false_and, Bool.or_self, Bool.and_self, eq_self] <;> first | rfl | (simp only [mI, wr_s, oOvR]; rw [ud_s]))
    · refine ev_aload_n rfl hC d_Mod_cross_23 ?_
      refine ev_ldc kc_Mod_149 hC d_Mod_cross_24 ?_
      refine cv_Mod1 hC d_Mod_cross_26 (c_Mod_finding (k := 4) (by omega) (by decide +kernel)) mi_Mod_finding ml_Mod_82 im_Mod_finding se_Mod_finding rfl ⟨Nat.le_of_ble_eq_true rfl, Nat.le_of_ble_eq_true rfl⟩ ⟨Nat.le_of_ble_eq_true rfl, Nat.le_of_ble_eq_true rfl⟩ rfl rfl (Nat.le_of_ble_eq_true rfl)  ?_
      exact ev_iret hC hR d_Mod_cross_29 rfl (by simp only [R_cross, rbad, h_5, h_20, ix, ci, if_true, if_false, cond_true, cond_false, decide_true, decide_false, Bool.not_true, Bool.not_false, Bool.or_true, Bool.true_or, Bool.or_false, Bool.false_or, Bool.and_true, Bool.and_false, Bool.true_and, Bool.false_and, Bool.or_self, Bool.and_self, eq_self] <;> first | rfl | (simp only [mI, wr_s, oOvR]; rw [ud_s])) (by simp only [R_cross, rbad, h_5, h_20, ix, ci, if_true, if_false, cond_true, cond_false, decide_true, decide_false, Bool.not_true, Bool.not_false, Bool.or_true, Bool.true_or, Bool.or_false, Bool.false_or, Bool.and_true, Bool.and_false, Bool.true_and, Bool.false_and, Bool.or_self, Bool.and_self, eq_self] <;> first | rfl | (simp only [mI, wr_s, oOvR]; rw [ud_s]))
  · refine ev_aload_n rfl hC d_Mod_cross_8 ?_
    refine ev_ldc kc_Mod_63 hC d_Mod_cross_9 ?_
    refine cv_Mod1 hC d_Mod_cross_11 (c_Mod_finding (k := 0) (by omega) (by decide +kernel)) mi_Mod_finding ml_Mod_82 im_Mod_finding se_Mod_finding rfl ⟨Nat.le_of_ble_eq_true rfl, Nat.le_of_ble_eq_true rfl⟩ ⟨Nat.le_of_ble_eq_true rfl, Nat.le_of_ble_eq_true rfl⟩ rfl rfl (Nat.le_of_ble_eq_true rfl)  ?_
    exact ev_iret hC hR d_Mod_cross_14 rfl (by simp only [R_cross, rbad, h_5, if_true, if_false, cond_true, cond_false, decide_true, decide_false, Bool.not_true, Bool.not_false, Bool.or_true, Bool.true_or, Bool.or_false, Bool.false_or, Bool.and_true, Bool.and_false, Bool.true_and, Bool.false_and, Bool.or_self, Bool.and_self, eq_self] <;> first | rfl | (simp only [mI, wr_s, oOvR]; rw [ud_s])) (by simp only [R_cross, rbad, h_5, if_true, if_false, cond_true, cond_false, decide_true, decide_false, Bool.not_true, Bool.not_false, Bool.or_true, Bool.true_or, Bool.or_false, Bool.false_or, Bool.and_true, Bool.and_false, Bool.true_and, Bool.false_and, Bool.or_self, Bool.and_self, eq_self] <;> first | rfl | (simp only [mI, wr_s, oOvR]; rw [ud_s]))

set_option maxHeartbeats 2000000 in
set_option maxRecDepth 10000 in
theorem c_Mod_told {G : ex_G} {M : ex_M} {f t ka kb : Nat} (hf : f < 8) (ht : t < 8) (hka : ka < 256) (hkb : kb < 256) (ea : M.1 10 (28 + 7 * f + 6) = nI ka) (eb : M.1 10 (28 + 7 * t + 6) = nI kb) : Con G Y_Mod_told 2 43 0 0 [.ref (ex_b G + 71), .int (nI f), .int (nI t)] (ce G M) (some (.int (telN (M.1 10) f t))) (ce G (mI M 10 (oTel (M.1 10) f t))) := by
  refine Con.ofF (plainFor_of_name (by decide +kernel)) (Nat.le_of_ble_eq_true rfl) (fun C hC hR => ?_)
  show Ev G C Y_Mod_told 0 [some (.ref (ex_b G + 71)), some (.int (nI f)), some (.int (nI t))] [] 0 0 (ce G M)
  refine ev_aload_n rfl hC d_Mod_told_0 ?_
  refine ev_iload_n rfl hC d_Mod_told_1 ?_
  refine ev_bipush (v := nI 6) rfl hC d_Mod_told_2 ?_
  refine cv_Mod1 hC d_Mod_told_4 (c_Mod_oneIs ht (by omega)) mi_Mod_oneIs ml_Mod_94 im_Mod_oneIs se_Mod_oneIs rfl ⟨Nat.le_of_ble_eq_true rfl, Nat.le_of_ble_eq_true rfl⟩ ⟨Nat.le_of_ble_eq_true rfl, Nat.le_of_ble_eq_true rfl⟩ rfl rfl (Nat.le_of_ble_eq_true rfl)  ?_
  refine ev_istore_n (by decide) hC d_Mod_told_7 ?_
  refine ev_aload_n rfl hC d_Mod_told_8 ?_
  refine gv_Mod_now hC d_Mod_told_9 fl_Mod_9  ?_
  refine ev_iload_n rfl hC d_Mod_told_12 ?_
  refine ev_bipush (v := nI 6) rfl hC d_Mod_told_13 ?_
  refine cs_1 hC d_Mod_told_15 (c_Mod_at ) mi_Mod_at ml_Mod_76 sm_Mod_at ⟨Nat.le_of_ble_eq_true rfl, Nat.le_of_ble_eq_true rfl⟩ ⟨Nat.le_of_ble_eq_true rfl, Nat.le_of_ble_eq_true rfl⟩ rfl rfl (Nat.le_of_ble_eq_true rfl) ?_
  refine ev_iload_n rfl hC d_Mod_told_18 ?_
  refine ev_aload_n rfl hC d_Mod_told_19 ?_
  refine ev_iload_n rfl hC d_Mod_told_20 ?_
  refine ev_bipush (v := nI 6) rfl hC d_Mod_told_21 ?_
  refine cv_Mod1 hC d_Mod_told_23 (c_Mod_oneIs hf (by omega)) mi_Mod_oneIs ml_Mod_94 im_Mod_oneIs se_Mod_oneIs rfl ⟨Nat.le_of_ble_eq_true rfl, Nat.le_of_ble_eq_true rfl⟩ ⟨Nat.le_of_ble_eq_true rfl, Nat.le_of_ble_eq_true rfl⟩ rfl rfl (Nat.le_of_ble_eq_true rfl)  ?_
  refine ev_ior hC d_Mod_told_26 ?_
  refine pa_now hC d_Mod_told_27 (by first | assumption | omega) ?_
  refine ev_aload_n rfl hC d_Mod_told_28 ?_
  refine ev_iload_n rfl hC d_Mod_told_29 ?_
  refine ev_bipush (v := nI 6) rfl hC d_Mod_told_30 ?_
  refine cv_Mod1 hC d_Mod_told_32 (c_Mod_oneIs ht (by omega)) mi_Mod_oneIs ml_Mod_94 im_Mod_oneIs se_Mod_oneIs rfl ⟨Nat.le_of_ble_eq_true rfl, Nat.le_of_ble_eq_true rfl⟩ ⟨Nat.le_of_ble_eq_true rfl, Nat.le_of_ble_eq_true rfl⟩ rfl rfl (Nat.le_of_ble_eq_true rfl)  ?_
  simp only [mI, mJ, wr_s]
  rw [ud_s, ea, eb, fa_or]
  refine cs_1 hC d_Mod_told_35 (c_Mod_bits (or_small hkb hka)) mi_Mod_bits ml_Mod_154 sm_Mod_bits ⟨Nat.le_of_ble_eq_true rfl, Nat.le_of_ble_eq_true rfl⟩ ⟨Nat.le_of_ble_eq_true rfl, Nat.le_of_ble_eq_true rfl⟩ rfl rfl (Nat.le_of_ble_eq_true rfl) ?_
  refine ev_iload_n rfl hC d_Mod_told_38 ?_
  skip
  refine cs_1 hC d_Mod_told_39 (c_Mod_bits hkb) mi_Mod_bits ml_Mod_154 sm_Mod_bits ⟨Nat.le_of_ble_eq_true rfl, Nat.le_of_ble_eq_true rfl⟩ ⟨Nat.le_of_ble_eq_true rfl, Nat.le_of_ble_eq_true rfl⟩ rfl rfl (Nat.le_of_ble_eq_true rfl) ?_
  refine ev_isub hC d_Mod_told_42 ?_
  exact ev_iret hC hR d_Mod_told_43 rfl (by simp only [telN, ea, eb, fa_or, ix]; rw [nI_clamp (by have := or_small hkb hka; omega), nI_clamp (by omega)]) (by simp only [oTel, ea, eb, fa_or])
