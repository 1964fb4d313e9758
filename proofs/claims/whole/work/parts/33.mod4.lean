set_option maxHeartbeats 4000000 in
set_option maxRecDepth 10000 in
theorem lp_Mod_fire2 {G : ex_G} {C : ex_C} {ee : List va_E} {aw : Int32} {n ne p k : Nat} (hp : p < n) (hn : n ≤ 8) (hne : ne ≤ 8) (hK : ∀ M : ex_M, M.1 14 1 = aw → HK (M.1 10) n ne → ee = ce G (mI M 10 (rp (fMeetR aw ne) k (p + 1) (M.1 10))) → Ev G C Y_Mod_firemenMeet 129 [some (.ref (ex_b G + 71)), some (.int (nI p))] [] 0 0 (ce G M)) (hC : Cx G C Y_Mod_firemenMeet { frames := 2, cells := 0, slots := 0, locals := 43 }) (hR : Cr G C Y_Mod_firemenMeet 0 0 none ee) :
    ∀ (m i : Nat) (M : ex_M), i + m = ne → M.1 14 1 = aw ∧ HK (M.1 10) n ne → ee = ce G (mI M 10 (rp (fMeetR aw ne) k (p + 1) (rp (fMeetER p) m i (M.1 10)))) → Ev G C Y_Mod_firemenMeet 42 [some (.ref (ex_b G + 71)), some (.int (nI p)), some (.int (nI i))] [] 0 0 (ce G (M)) := by
  intro m
  induction m with
  | zero =>
    intro i M hm hc he
    refine ev_iload_n rfl hC d_Mod_firemenMeet_42 ?_
    refine ev_aload_n rfl hC d_Mod_firemenMeet_43 ?_
    refine gv_Mod_now hC d_Mod_firemenMeet_44 fl_Mod_9  ?_
    refine ev_iconst (v := nI 2) rfl hC d_Mod_firemenMeet_47 ?_
    refine ga_now hC d_Mod_firemenMeet_48 (by first | assumption | omega) ?_
    refine ev_icmp_ge 129 hC d_Mod_firemenMeet_49 rfl (fun _ => ?_) (fun h => absurd (by rw [hc.2.2.2.1]; exact nI_le (by omega) (by omega)) h)
    refine Ev.take 2 ?_
    exact hK M hc.1 hc.2 (by rw [he, rp])
  | succ m ih =>
    intro i M hm hc he
    have hi : i < 8 := by omega
    refine ev_iload_n rfl hC d_Mod_firemenMeet_42 ?_
    refine ev_aload_n rfl hC d_Mod_firemenMeet_43 ?_
    refine gv_Mod_now hC d_Mod_firemenMeet_44 fl_Mod_9  ?_
    refine ev_iconst (v := nI 2) rfl hC d_Mod_firemenMeet_47 ?_
    refine ga_now hC d_Mod_firemenMeet_48 (by first | assumption | omega) ?_
    refine ev_icmp_ge 129 hC d_Mod_firemenMeet_49 rfl (fun h => absurd h (by rw [hc.2.2.2.1]; exact nI_ge (by omega) (by omega))) (fun _ => ?_)
    refine ev_aload_n rfl hC d_Mod_firemenMeet_52 ?_
    refine ev_iload_n rfl hC d_Mod_firemenMeet_53 ?_
    refine ev_bipush (v := nI 6) rfl hC d_Mod_firemenMeet_54 ?_
    refine cv_Mod1 hC d_Mod_firemenMeet_56 (c_Mod_oneIs (by omega) (by omega)) mi_Mod_oneIs ml_Mod_94 im_Mod_oneIs se_Mod_oneIs rfl ⟨Nat.le_of_ble_eq_true rfl, Nat.le_of_ble_eq_true rfl⟩ ⟨Nat.le_of_ble_eq_true rfl, Nat.le_of_ble_eq_true rfl⟩ rfl rfl (Nat.le_of_ble_eq_true rfl)  ?_
    refine ev_iload_n rfl hC d_Mod_firemenMeet_59 ?_
    refine cs_1 hC d_Mod_firemenMeet_60 (c_Mod_has ) mi_Mod_has ml_Mod_97 sm_Mod_has ⟨Nat.le_of_ble_eq_true rfl, Nat.le_of_ble_eq_true rfl⟩ ⟨Nat.le_of_ble_eq_true rfl, Nat.le_of_ble_eq_true rfl⟩ rfl rfl (Nat.le_of_ble_eq_true rfl) ?_
    refine eb_eq 97 hC d_Mod_firemenMeet_63 rfl (fun h_63 => ?_) (fun h_63 => ?_)
    · refine ev_iconst (v := 0) rfl hC d_Mod_firemenMeet_97 ?_
      refine ev_istore_n (by decide) hC d_Mod_firemenMeet_98 ?_
      refine ev_aload_n rfl hC d_Mod_firemenMeet_99 ?_
      refine gv_Mod_now hC d_Mod_firemenMeet_100 fl_Mod_9  ?_
      refine ev_iload_n rfl hC d_Mod_firemenMeet_103 ?_
      refine ev_iconst (v := nI 2) rfl hC d_Mod_firemenMeet_104 ?_
      refine cs_1 hC d_Mod_firemenMeet_105 (c_Mod_atEvent) mi_Mod_atEvent ml_Mod_72 sm_Mod_atEvent ⟨Nat.le_of_ble_eq_true rfl, Nat.le_of_ble_eq_true rfl⟩ ⟨Nat.le_of_ble_eq_true rfl, Nat.le_of_ble_eq_true rfl⟩ rfl rfl (Nat.le_of_ble_eq_true rfl) ?_
      refine ev_iload_n rfl hC d_Mod_firemenMeet_108 ?_
      refine ev_if_eq 116 hC d_Mod_firemenMeet_109 rfl (fun _ => ?_) (fun h => absurd rfl h)
      refine ev_aload_n rfl hC d_Mod_firemenMeet_116 ?_
      refine ev_iload_n rfl hC d_Mod_firemenMeet_117 ?_
      refine ev_iconst (v := nI 2) rfl hC d_Mod_firemenMeet_118 ?_
      refine cv_Mod1 hC d_Mod_firemenMeet_119 (c_Mod_eventIs (by omega) (by omega)) mi_Mod_eventIs ml_Mod_104 im_Mod_eventIs se_Mod_eventIs rfl ⟨Nat.le_of_ble_eq_true rfl, Nat.le_of_ble_eq_true rfl⟩ ⟨Nat.le_of_ble_eq_true rfl, Nat.le_of_ble_eq_true rfl⟩ rfl rfl (Nat.le_of_ble_eq_true rfl)  ?_
      refine pa_now hC d_Mod_firemenMeet_122 (by first | assumption | omega) ?_
      refine ev_iinc rfl (by decide) (nI_1 _) hC d_Mod_firemenMeet_123 ?_
      refine ev_goto 42 hC d_Mod_firemenMeet_126 rfl ?_
      refine Ev.take 3 ?_
      refine ih (i + 1) _ (by omega) ⟨hc.1, by simp only [mJ, wr_s]; exact HK_upd hc.2 (by omega) (by omega) (fun p hp => by omega)⟩ ?_
      rw [he, rp, show fMeetER p i (M.1 10) = upd (M.1 10) (4 + 3 * i + 2) (M.1 10 (4 + 3 * i + 2)) by rw [fMeetER, if_neg (fun z => by rw [hs1] at z; rw [z.1] at h_63; cases h_63)]]
      simp only [mI, mJ, wr_wr, wr_s]
    · refine ev_aload_n rfl hC d_Mod_firemenMeet_66 ?_
      refine ev_iload_n rfl hC d_Mod_firemenMeet_67 ?_
      refine ev_iconst (v := nI 1) rfl hC d_Mod_firemenMeet_68 ?_
      refine cv_Mod1 hC d_Mod_firemenMeet_69 (c_Mod_eventIs (by omega) (by omega)) mi_Mod_eventIs ml_Mod_104 im_Mod_eventIs se_Mod_eventIs rfl ⟨Nat.le_of_ble_eq_true rfl, Nat.le_of_ble_eq_true rfl⟩ ⟨Nat.le_of_ble_eq_true rfl, Nat.le_of_ble_eq_true rfl⟩ rfl rfl (Nat.le_of_ble_eq_true rfl)  ?_
      refine ev_if_ge 97 hC d_Mod_firemenMeet_72 rfl (fun h_72 => ?_) (fun h_72 => ?_)
      · refine ev_iconst (v := 0) rfl hC d_Mod_firemenMeet_97 ?_
        refine ev_istore_n (by decide) hC d_Mod_firemenMeet_98 ?_
        refine ev_aload_n rfl hC d_Mod_firemenMeet_99 ?_
        refine gv_Mod_now hC d_Mod_firemenMeet_100 fl_Mod_9  ?_
        refine ev_iload_n rfl hC d_Mod_firemenMeet_103 ?_
        refine ev_iconst (v := nI 2) rfl hC d_Mod_firemenMeet_104 ?_
        refine cs_1 hC d_Mod_firemenMeet_105 (c_Mod_atEvent) mi_Mod_atEvent ml_Mod_72 sm_Mod_atEvent ⟨Nat.le_of_ble_eq_true rfl, Nat.le_of_ble_eq_true rfl⟩ ⟨Nat.le_of_ble_eq_true rfl, Nat.le_of_ble_eq_true rfl⟩ rfl rfl (Nat.le_of_ble_eq_true rfl) ?_
        refine ev_iload_n rfl hC d_Mod_firemenMeet_108 ?_
        refine ev_if_eq 116 hC d_Mod_firemenMeet_109 rfl (fun _ => ?_) (fun h => absurd rfl h)
        refine ev_aload_n rfl hC d_Mod_firemenMeet_116 ?_
        refine ev_iload_n rfl hC d_Mod_firemenMeet_117 ?_
        refine ev_iconst (v := nI 2) rfl hC d_Mod_firemenMeet_118 ?_
        refine cv_Mod1 hC d_Mod_firemenMeet_119 (c_Mod_eventIs (by omega) (by omega)) mi_Mod_eventIs ml_Mod_104 im_Mod_eventIs se_Mod_eventIs rfl ⟨Nat.le_of_ble_eq_true rfl, Nat.le_of_ble_eq_true rfl⟩ ⟨Nat.le_of_ble_eq_true rfl, Nat.le_of_ble_eq_true rfl⟩ rfl rfl (Nat.le_of_ble_eq_true rfl)  ?_
        refine pa_now hC d_Mod_firemenMeet_122 (by first | assumption | omega) ?_
        refine ev_iinc rfl (by decide) (nI_1 _) hC d_Mod_firemenMeet_123 ?_
        refine ev_goto 42 hC d_Mod_firemenMeet_126 rfl ?_
        refine Ev.take 3 ?_
        refine ih (i + 1) _ (by omega) ⟨hc.1, by simp only [mJ, wr_s]; exact HK_upd hc.2 (by omega) (by omega) (fun p hp => by omega)⟩ ?_
        rw [he, rp, show fMeetER p i (M.1 10) = upd (M.1 10) (4 + 3 * i + 2) (M.1 10 (4 + 3 * i + 2)) by rw [fMeetER, if_neg (fun z => z.2.1 h_72)]]
        simp only [mI, mJ, wr_wr, wr_s]
      · refine ev_aload_n rfl hC d_Mod_firemenMeet_75 ?_
        refine ev_iload_n rfl hC d_Mod_firemenMeet_76 ?_
        refine ev_iconst (v := nI 0) rfl hC d_Mod_firemenMeet_77 ?_
        refine cv_Mod1 hC d_Mod_firemenMeet_78 (c_Mod_eventIs (by omega) (by omega)) mi_Mod_eventIs ml_Mod_104 im_Mod_eventIs se_Mod_eventIs rfl ⟨Nat.le_of_ble_eq_true rfl, Nat.le_of_ble_eq_true rfl⟩ ⟨Nat.le_of_ble_eq_true rfl, Nat.le_of_ble_eq_true rfl⟩ rfl rfl (Nat.le_of_ble_eq_true rfl)  ?_
        refine ev_bipush (v := 24) rfl hC d_Mod_firemenMeet_81 ?_
        refine ev_iadd hC d_Mod_firemenMeet_83 ?_
        refine ev_aload_n rfl hC d_Mod_firemenMeet_84 ?_
        refine gv_Mod_now hC d_Mod_firemenMeet_85 fl_Mod_9  ?_
        refine ev_iconst (v := nI 0) rfl hC d_Mod_firemenMeet_88 ?_
        refine ga_now hC d_Mod_firemenMeet_89 (by first | assumption | omega) ?_
        refine ev_icmp_lt 97 hC d_Mod_firemenMeet_90 rfl (fun h_90 => ?_) (fun h_90 => ?_)
        · refine ev_iconst (v := 0) rfl hC d_Mod_firemenMeet_97 ?_
          refine ev_istore_n (by decide) hC d_Mod_firemenMeet_98 ?_
          refine ev_aload_n rfl hC d_Mod_firemenMeet_99 ?_
          refine gv_Mod_now hC d_Mod_firemenMeet_100 fl_Mod_9  ?_
          refine ev_iload_n rfl hC d_Mod_firemenMeet_103 ?_
          refine ev_iconst (v := nI 2) rfl hC d_Mod_firemenMeet_104 ?_
          refine cs_1 hC d_Mod_firemenMeet_105 (c_Mod_atEvent) mi_Mod_atEvent ml_Mod_72 sm_Mod_atEvent ⟨Nat.le_of_ble_eq_true rfl, Nat.le_of_ble_eq_true rfl⟩ ⟨Nat.le_of_ble_eq_true rfl, Nat.le_of_ble_eq_true rfl⟩ rfl rfl (Nat.le_of_ble_eq_true rfl) ?_
          refine ev_iload_n rfl hC d_Mod_firemenMeet_108 ?_
          refine ev_if_eq 116 hC d_Mod_firemenMeet_109 rfl (fun _ => ?_) (fun h => absurd rfl h)
          refine ev_aload_n rfl hC d_Mod_firemenMeet_116 ?_
          refine ev_iload_n rfl hC d_Mod_firemenMeet_117 ?_
          refine ev_iconst (v := nI 2) rfl hC d_Mod_firemenMeet_118 ?_
          refine cv_Mod1 hC d_Mod_firemenMeet_119 (c_Mod_eventIs (by omega) (by omega)) mi_Mod_eventIs ml_Mod_104 im_Mod_eventIs se_Mod_eventIs rfl ⟨Nat.le_of_ble_eq_true rfl, Nat.le_of_ble_eq_true rfl⟩ ⟨Nat.le_of_ble_eq_true rfl, Nat.le_of_ble_eq_true rfl⟩ rfl rfl (Nat.le_of_ble_eq_true rfl)  ?_
          refine pa_now hC d_Mod_firemenMeet_122 (by first | assumption | omega) ?_
          refine ev_iinc rfl (by decide) (nI_1 _) hC d_Mod_firemenMeet_123 ?_
          refine ev_goto 42 hC d_Mod_firemenMeet_126 rfl ?_
          refine Ev.take 3 ?_
          refine ih (i + 1) _ (by omega) ⟨hc.1, by simp only [mJ, wr_s]; exact HK_upd hc.2 (by omega) (by omega) (fun p hp => by omega)⟩ ?_
          rw [he, rp, show fMeetER p i (M.1 10) = upd (M.1 10) (4 + 3 * i + 2) (M.1 10 (4 + 3 * i + 2)) by rw [fMeetER, if_neg (fun z => z.2.2 h_90)]]
          simp only [mI, mJ, wr_wr, wr_s]
        · refine ev_iconst (v := 1) rfl hC d_Mod_firemenMeet_93 ?_
          refine ev_goto 98 hC d_Mod_firemenMeet_94 rfl ?_
          refine ev_istore_n (by decide) hC d_Mod_firemenMeet_98 ?_
          refine ev_aload_n rfl hC d_Mod_firemenMeet_99 ?_
          refine gv_Mod_now hC d_Mod_firemenMeet_100 fl_Mod_9  ?_
          refine ev_iload_n rfl hC d_Mod_firemenMeet_103 ?_
          refine ev_iconst (v := nI 2) rfl hC d_Mod_firemenMeet_104 ?_
          refine cs_1 hC d_Mod_firemenMeet_105 (c_Mod_atEvent) mi_Mod_atEvent ml_Mod_72 sm_Mod_atEvent ⟨Nat.le_of_ble_eq_true rfl, Nat.le_of_ble_eq_true rfl⟩ ⟨Nat.le_of_ble_eq_true rfl, Nat.le_of_ble_eq_true rfl⟩ rfl rfl (Nat.le_of_ble_eq_true rfl) ?_
          refine ev_iload_n rfl hC d_Mod_firemenMeet_108 ?_
          refine ev_if_eq 116 hC d_Mod_firemenMeet_109 rfl (fun h => absurd h (by decide)) (fun _ => ?_)
          refine ev_iconst (v := 1) rfl hC d_Mod_firemenMeet_112 ?_
          refine ev_goto 122 hC d_Mod_firemenMeet_113 rfl ?_
          refine pa_now hC d_Mod_firemenMeet_122 (by first | assumption | omega) ?_
          refine ev_iinc rfl (by decide) (nI_1 _) hC d_Mod_firemenMeet_123 ?_
          refine ev_goto 42 hC d_Mod_firemenMeet_126 rfl ?_
          refine Ev.take 3 ?_
          refine ih (i + 1) _ (by omega) ⟨hc.1, by simp only [mJ, wr_s]; exact HK_upd hc.2 (by omega) (by omega) (fun p hp => by omega)⟩ ?_
          rw [he, rp, show fMeetER p i (M.1 10) = upd (M.1 10) (4 + 3 * i + 2) (1) by rw [fMeetER, if_pos ⟨h_63, h_72, h_90⟩]]
          simp only [mI, mJ, wr_wr, wr_s]

set_option maxHeartbeats 4000000 in
set_option maxRecDepth 10000 in
theorem lp_Mod_fire1 {G : ex_G} {C : ex_C} {ee : List va_E} {aw : Int32} {n ne : Nat} (hn : n ≤ 8) (hne : ne ≤ 8) (hC : Cx G C Y_Mod_firemenMeet { frames := 2, cells := 0, slots := 0, locals := 43 }) (hR : Cr G C Y_Mod_firemenMeet 0 0 none ee) :
    ∀ (m i : Nat) (M : ex_M), i + m = n → M.1 14 1 = aw ∧ HK (M.1 10) n ne → ee = ce G (mI M 10 (rp (fMeetR aw ne) m i (M.1 10))) → Ev G C Y_Mod_firemenMeet 2 [some (.ref (ex_b G + 71)), some (.int (nI i))] [] 0 0 (ce G (M)) := by
  intro m
  induction m with
  | zero =>
    intro i M hm hc he
    refine ev_iload_n rfl hC d_Mod_firemenMeet_2 ?_
    refine ev_aload_n rfl hC d_Mod_firemenMeet_3 ?_
    refine gv_Mod_now hC d_Mod_firemenMeet_4 fl_Mod_9  ?_
    refine ev_iconst (v := nI 3) rfl hC d_Mod_firemenMeet_7 ?_
    refine ga_now hC d_Mod_firemenMeet_8 (by first | assumption | omega) ?_
    refine ev_icmp_ge 135 hC d_Mod_firemenMeet_9 rfl (fun _ => ?_) (fun h => absurd (by rw [hc.2.1]; exact nI_le (by omega) (by omega)) h)
    exact ev_vret hC hR d_Mod_firemenMeet_135 rfl rfl (by rw [he, rp, mI_id])
  | succ m ih =>
    intro i M hm hc he
    have hin : i < n := by omega
    have hi : i < 8 := by omega
    refine ev_iload_n rfl hC d_Mod_firemenMeet_2 ?_
    refine ev_aload_n rfl hC d_Mod_firemenMeet_3 ?_
    refine gv_Mod_now hC d_Mod_firemenMeet_4 fl_Mod_9  ?_
    refine ev_iconst (v := nI 3) rfl hC d_Mod_firemenMeet_7 ?_
    refine ga_now hC d_Mod_firemenMeet_8 (by first | assumption | omega) ?_
    refine ev_icmp_ge 135 hC d_Mod_firemenMeet_9 rfl (fun h => absurd h (by rw [hc.2.1]; exact nI_ge (by omega) (by omega))) (fun _ => ?_)
    refine ev_aload_n rfl hC d_Mod_firemenMeet_12 ?_
    refine ev_iload_n rfl hC d_Mod_firemenMeet_13 ?_
    refine cv_Mod1 hC d_Mod_firemenMeet_14 (c_Mod_isThere ) mi_Mod_isThere ml_Mod_160 im_Mod_isThere se_Mod_isThere rfl ⟨Nat.le_of_ble_eq_true rfl, Nat.le_of_ble_eq_true rfl⟩ ⟨Nat.le_of_ble_eq_true rfl, Nat.le_of_ble_eq_true rfl⟩ rfl rfl (Nat.le_of_ble_eq_true rfl)  ?_
    refine eb_eq 129 hC d_Mod_firemenMeet_17 rfl (fun h_17 => ?_) (fun h_17 => ?_)
    · refine ev_iinc rfl (by decide) (nI_1 _) hC d_Mod_firemenMeet_129 ?_
      refine ev_goto 2 hC d_Mod_firemenMeet_132 rfl ?_
      rw [hc.1] at h_17
      exact ih (i + 1) M (by omega) hc (by rw [he, rp, show fMeetR aw ne i (M.1 10) = M.1 10 from if_neg (fun z => by rw [z.1] at h_17; cases h_17)])
    · refine ev_aload_n rfl hC d_Mod_firemenMeet_20 ?_
      refine ev_iload_n rfl hC d_Mod_firemenMeet_21 ?_
      refine ev_iconst (v := nI 0) rfl hC d_Mod_firemenMeet_22 ?_
      refine cv_Mod1 hC d_Mod_firemenMeet_23 (c_Mod_oneIs (by omega) (by omega)) mi_Mod_oneIs ml_Mod_94 im_Mod_oneIs se_Mod_oneIs rfl ⟨Nat.le_of_ble_eq_true rfl, Nat.le_of_ble_eq_true rfl⟩ ⟨Nat.le_of_ble_eq_true rfl, Nat.le_of_ble_eq_true rfl⟩ rfl rfl (Nat.le_of_ble_eq_true rfl)  ?_
      refine ev_iconst (v := 4) rfl hC d_Mod_firemenMeet_26 ?_
      refine ev_icmp_ne 129 hC d_Mod_firemenMeet_27 rfl (fun h_27 => ?_) (fun h_27 => ?_)
      · refine ev_iinc rfl (by decide) (nI_1 _) hC d_Mod_firemenMeet_129 ?_
        refine ev_goto 2 hC d_Mod_firemenMeet_132 rfl ?_
        rw [hc.1] at h_17
        exact ih (i + 1) M (by omega) hc (by rw [he, rp, show fMeetR aw ne i (M.1 10) = M.1 10 from if_neg (fun z => h_27 z.2.1)])
      · refine ev_aload_n rfl hC d_Mod_firemenMeet_30 ?_
        refine ev_iload_n rfl hC d_Mod_firemenMeet_31 ?_
        refine ev_iconst (v := nI 1) rfl hC d_Mod_firemenMeet_32 ?_
        refine cv_Mod1 hC d_Mod_firemenMeet_33 (c_Mod_oneIs (by omega) (by omega)) mi_Mod_oneIs ml_Mod_94 im_Mod_oneIs se_Mod_oneIs rfl ⟨Nat.le_of_ble_eq_true rfl, Nat.le_of_ble_eq_true rfl⟩ ⟨Nat.le_of_ble_eq_true rfl, Nat.le_of_ble_eq_true rfl⟩ rfl rfl (Nat.le_of_ble_eq_true rfl)  ?_
        refine ev_iconst (v := 1) rfl hC d_Mod_firemenMeet_36 ?_
        refine ev_icmp_ne 129 hC d_Mod_firemenMeet_37 rfl (fun h_37 => ?_) (fun h_37 => ?_)
        · refine ev_iinc rfl (by decide) (nI_1 _) hC d_Mod_firemenMeet_129 ?_
          refine ev_goto 2 hC d_Mod_firemenMeet_132 rfl ?_
          rw [hc.1] at h_17
          exact ih (i + 1) M (by omega) hc (by rw [he, rp, show fMeetR aw ne i (M.1 10) = M.1 10 from if_neg (fun z => h_37 z.2.2)])
        · refine ev_iconst (v := nI 0) rfl hC d_Mod_firemenMeet_40 ?_
          refine ev_istore_n (by decide) hC d_Mod_firemenMeet_41 ?_
          rw [hc.1] at h_17
          exact lp_Mod_fire2 (k := m) hin hn hne (fun M2 h1 h2 he2 => by
            refine ev_iinc rfl (by decide) (nI_1 _) hC d_Mod_firemenMeet_129 ?_
            refine ev_goto 2 hC d_Mod_firemenMeet_132 rfl ?_
            exact ih (i + 1) M2 (by omega) ⟨h1, h2⟩ he2) hC hR ne 0 M (by omega) hc (by rw [he, rp, show fMeetR aw ne i (M.1 10) = rp (fMeetER i) ne 0 (M.1 10) from if_pos ⟨h_17, h_27, h_37⟩])

set_option maxHeartbeats 2000000 in
set_option maxRecDepth 10000 in
theorem c_Mod_firemenMeet {G : ex_G} {M : ex_M} {aw : Int32} {n ne : Nat} (ha : M.1 14 1 = aw) (h : HK (M.1 10) n ne) : Con G Y_Mod_firemenMeet 2 43 0 0 [.ref (ex_b G + 71)] (ce G M) (none) (ce G (mI M 10 (rp (fMeetR aw ne) n 0 (M.1 10)))) := by
  refine Con.ofF (plainFor_of_name (by decide +kernel)) (Nat.le_of_ble_eq_true rfl) (fun C hC hR => ?_)
  show Ev G C Y_Mod_firemenMeet 0 [some (.ref (ex_b G + 71))] [] 0 0 (ce G M)
  refine ev_iconst (v := nI 0) rfl hC d_Mod_firemenMeet_0 ?_
  refine ev_istore_n (by decide) hC d_Mod_firemenMeet_1 ?_
  exact lp_Mod_fire1 h.2.1 h.2.2.2.1 hC hR n 0 M (by omega) ⟨ha, h⟩ rfl

set_option maxHeartbeats 4000000 in
set_option maxRecDepth 10000 in
theorem lp_Mod_comesOn {G : ex_G} {C : ex_C} {ee : List va_E} {aw k : Int32} {n ne e : Nat} (hn : n ≤ 8) (he8 : e < 8) (hC : Cx G C Y_Mod_comesOn { frames := 3, cells := 0, slots := 0, locals := 65 }) (hR : Cr G C Y_Mod_comesOn 0 0 none ee) :
    ∀ (m i : Nat) (M : ex_M), i + m = n → M.1 14 1 = aw ∧ HK (M.1 10) n ne → ee = ce G (mI M 10 (rp (fBefR aw e k) m i (M.1 10))) → Ev G C Y_Mod_comesOn 2 [some (.ref (ex_b G + 71)), some (.int (nI e)), some (.int k), some (.int (nI i))] [] 0 0 (ce G (M)) := by
  intro m
  induction m with
  | zero =>
    intro i M hm hc he
    refine ev_iload_n rfl hC d_Mod_comesOn_2 ?_
    refine ev_aload_n rfl hC d_Mod_comesOn_3 ?_
    refine gv_Mod_now hC d_Mod_comesOn_4 fl_Mod_9  ?_
    refine ev_iconst (v := nI 3) rfl hC d_Mod_comesOn_7 ?_
    refine ga_now hC d_Mod_comesOn_8 (by first | assumption | omega) ?_
    refine ev_icmp_ge 84 hC d_Mod_comesOn_9 rfl (fun _ => ?_) (fun h => absurd (by rw [hc.2.1]; exact nI_le (by omega) (by omega)) h)
    exact ev_vret hC hR d_Mod_comesOn_84 rfl rfl (by rw [he, rp, mI_id])
  | succ m ih =>
    intro i M hm hc he
    have hin : i < n := by omega
    have hi : i < 8 := by omega
    refine ev_iload_n rfl hC d_Mod_comesOn_2 ?_
    refine ev_aload_n rfl hC d_Mod_comesOn_3 ?_
    refine gv_Mod_now hC d_Mod_comesOn_4 fl_Mod_9  ?_
    refine ev_iconst (v := nI 3) rfl hC d_Mod_comesOn_7 ?_
    refine ga_now hC d_Mod_comesOn_8 (by first | assumption | omega) ?_
    refine ev_icmp_ge 84 hC d_Mod_comesOn_9 rfl (fun h => absurd h (by rw [hc.2.1]; exact nI_ge (by omega) (by omega))) (fun _ => ?_)
    refine ev_aload_n rfl hC d_Mod_comesOn_12 ?_
    refine ev_iload_n rfl hC d_Mod_comesOn_13 ?_
    refine cv_Mod1 hC d_Mod_comesOn_14 (c_Mod_isThere ) mi_Mod_isThere ml_Mod_160 im_Mod_isThere se_Mod_isThere rfl ⟨Nat.le_of_ble_eq_true rfl, Nat.le_of_ble_eq_true rfl⟩ ⟨Nat.le_of_ble_eq_true rfl, Nat.le_of_ble_eq_true rfl⟩ rfl rfl (Nat.le_of_ble_eq_true rfl)  ?_
    refine eb_eq 78 hC d_Mod_comesOn_17 rfl (fun h_17 => ?_) (fun h_17 => ?_)
    · refine ev_iinc rfl (by decide) (nI_1 _) hC d_Mod_comesOn_78 ?_
      refine ev_goto 2 hC d_Mod_comesOn_81 rfl ?_
      rw [hc.1] at h_17
      exact ih (i + 1) M (by omega) hc (by rw [he, rp, show fBefR aw e k i (M.1 10) = M.1 10 from if_neg (fun z => by rw [z.1] at h_17; cases h_17)])
    · refine ev_aload_n rfl hC d_Mod_comesOn_20 ?_
      refine ev_iload_n rfl hC d_Mod_comesOn_21 ?_
      refine ev_iconst (v := nI 1) rfl hC d_Mod_comesOn_22 ?_
      refine cv_Mod1 hC d_Mod_comesOn_23 (c_Mod_oneIs (by omega) (by omega)) mi_Mod_oneIs ml_Mod_94 im_Mod_oneIs se_Mod_oneIs rfl ⟨Nat.le_of_ble_eq_true rfl, Nat.le_of_ble_eq_true rfl⟩ ⟨Nat.le_of_ble_eq_true rfl, Nat.le_of_ble_eq_true rfl⟩ rfl rfl (Nat.le_of_ble_eq_true rfl)  ?_
      refine ev_iload_n rfl hC d_Mod_comesOn_26 ?_
      refine ev_icmp_ne 78 hC d_Mod_comesOn_27 rfl (fun h_27 => ?_) (fun h_27 => ?_)
      · refine ev_iinc rfl (by decide) (nI_1 _) hC d_Mod_comesOn_78 ?_
        refine ev_goto 2 hC d_Mod_comesOn_81 rfl ?_
        rw [hc.1] at h_17
        exact ih (i + 1) M (by omega) hc (by rw [he, rp, show fBefR aw e k i (M.1 10) = M.1 10 from if_neg (fun z => h_27 z.2)])
      · refine ev_aload_n rfl hC d_Mod_comesOn_30 ?_
        refine ev_iload_n rfl hC d_Mod_comesOn_31 ?_
        refine ev_aload_n rfl hC d_Mod_comesOn_32 ?_
        refine ev_iload_n rfl hC d_Mod_comesOn_33 ?_
        refine ev_iconst (v := nI 0) rfl hC d_Mod_comesOn_34 ?_
        refine cv_Mod1 hC d_Mod_comesOn_35 (c_Mod_oneIs (by omega) (by omega)) mi_Mod_oneIs ml_Mod_94 im_Mod_oneIs se_Mod_oneIs rfl ⟨Nat.le_of_ble_eq_true rfl, Nat.le_of_ble_eq_true rfl⟩ ⟨Nat.le_of_ble_eq_true rfl, Nat.le_of_ble_eq_true rfl⟩ rfl rfl (Nat.le_of_ble_eq_true rfl)  ?_
        refine ev_aload_n rfl hC d_Mod_comesOn_38 ?_
        refine ev_iload_n rfl hC d_Mod_comesOn_39 ?_
        refine ev_iconst (v := nI 1) rfl hC d_Mod_comesOn_40 ?_
        refine cv_Mod1 hC d_Mod_comesOn_41 (c_Mod_eventIs (by omega) (by omega)) mi_Mod_eventIs ml_Mod_104 im_Mod_eventIs se_Mod_eventIs rfl ⟨Nat.le_of_ble_eq_true rfl, Nat.le_of_ble_eq_true rfl⟩ ⟨Nat.le_of_ble_eq_true rfl, Nat.le_of_ble_eq_true rfl⟩ rfl rfl (Nat.le_of_ble_eq_true rfl)  ?_
        refine ev_aload_n rfl hC d_Mod_comesOn_44 ?_
        refine ev_iload_n rfl hC d_Mod_comesOn_45 ?_
        refine ev_bipush (v := nI 6) rfl hC d_Mod_comesOn_46 ?_
        refine cv_Mod1 hC d_Mod_comesOn_48 (c_Mod_oneIs (by omega) (by omega)) mi_Mod_oneIs ml_Mod_94 im_Mod_oneIs se_Mod_oneIs rfl ⟨Nat.le_of_ble_eq_true rfl, Nat.le_of_ble_eq_true rfl⟩ ⟨Nat.le_of_ble_eq_true rfl, Nat.le_of_ble_eq_true rfl⟩ rfl rfl (Nat.le_of_ble_eq_true rfl)  ?_
        refine ev_iload_n rfl hC d_Mod_comesOn_51 ?_
        refine cs_1 hC d_Mod_comesOn_52 (c_Mod_has ) mi_Mod_has ml_Mod_97 sm_Mod_has ⟨Nat.le_of_ble_eq_true rfl, Nat.le_of_ble_eq_true rfl⟩ ⟨Nat.le_of_ble_eq_true rfl, Nat.le_of_ble_eq_true rfl⟩ rfl rfl (Nat.le_of_ble_eq_true rfl) ?_
        refine cs_1 hC d_Mod_comesOn_55 (c_Mod_gainsOf ) mi_Mod_gainsOf ml_Mod_135 sm_Mod_gainsOf ⟨Nat.le_of_ble_eq_true rfl, Nat.le_of_ble_eq_true rfl⟩ ⟨Nat.le_of_ble_eq_true rfl, Nat.le_of_ble_eq_true rfl⟩ rfl rfl (Nat.le_of_ble_eq_true rfl) ?_
        refine cv_Mod0 hC d_Mod_comesOn_58 (c_Mod_pays hi) mi_Mod_pays ml_Mod_142 im_Mod_pays se_Mod_pays rfl ⟨Nat.le_of_ble_eq_true rfl, Nat.le_of_ble_eq_true rfl⟩ ⟨Nat.le_of_ble_eq_true rfl, Nat.le_of_ble_eq_true rfl⟩ rfl rfl (Nat.le_of_ble_eq_true rfl)  ?_
        refine ev_aload_n rfl hC d_Mod_comesOn_61 ?_
        refine gv_Mod_now hC d_Mod_comesOn_62 fl_Mod_9  ?_
        refine ev_iload_n rfl hC d_Mod_comesOn_65 ?_
        refine ev_bipush (v := nI 6) rfl hC d_Mod_comesOn_66 ?_
        refine cs_1 hC d_Mod_comesOn_68 (c_Mod_at) mi_Mod_at ml_Mod_76 sm_Mod_at ⟨Nat.le_of_ble_eq_true rfl, Nat.le_of_ble_eq_true rfl⟩ ⟨Nat.le_of_ble_eq_true rfl, Nat.le_of_ble_eq_true rfl⟩ rfl rfl (Nat.le_of_ble_eq_true rfl) ?_
        refine ev_dup2 rfl rfl hC d_Mod_comesOn_71 ?_
        refine ga_now hC d_Mod_comesOn_72 (by first | assumption | omega) ?_
        refine ev_iconst (v := 1) rfl hC d_Mod_comesOn_73 ?_
        refine ev_iload_n rfl hC d_Mod_comesOn_74 ?_
        refine ev_ishl hC d_Mod_comesOn_75 ?_
        refine ev_ior hC d_Mod_comesOn_76 ?_
        refine pa_now hC d_Mod_comesOn_77 (by first | assumption | omega) ?_
        refine ev_iinc rfl (by decide) (nI_1 _) hC d_Mod_comesOn_78 ?_
        refine ev_goto 2 hC d_Mod_comesOn_81 rfl ?_
        rw [hc.1] at h_17
        refine ih (i + 1) _ (by omega) ⟨hc.1, ?_⟩ ?_
        · have hz := HK_oLivR (a := M.1 10) hin he8 hc.2
          rw [oLivR] at hz
          simp only [mI, mJ, wr_s, wr_wr]
          rw [oPay_n (by omega)]
          exact hz
        · rw [he, rp, show fBefR aw e k i (M.1 10) = oLivR (M.1 10) i e from if_pos ⟨h_17, h_27⟩, oLivR]
          simp only [mI, mJ, wr_s, wr_wr]
          rw [oPay_n (i := i) (q := 28 + 7 * i + 6) (by omega)]
          rfl

set_option maxHeartbeats 2000000 in
set_option maxRecDepth 10000 in
theorem c_Mod_comesOn {G : ex_G} {M : ex_M} {aw k : Int32} {n ne e : Nat} (he8 : e < 8) (ha : M.1 14 1 = aw) (h : HK (M.1 10) n ne) : Con G Y_Mod_comesOn 3 65 0 0 [.ref (ex_b G + 71), .int (nI e), .int k] (ce G M) (none) (ce G (mI M 10 (rp (fBefR aw e k) n 0 (M.1 10)))) := by
  refine Con.ofF (plainFor_of_name (by decide +kernel)) (Nat.le_of_ble_eq_true rfl) (fun C hC hR => ?_)
  show Ev G C Y_Mod_comesOn 0 [some (.ref (ex_b G + 71)), some (.int (nI e)), some (.int k)] [] 0 0 (ce G M)
  refine ev_iconst (v := nI 0) rfl hC d_Mod_comesOn_0 ?_
  refine ev_istore_n (by decide) hC d_Mod_comesOn_1 ?_
  exact lp_Mod_comesOn h.2.1 he8 hC hR n 0 M (by omega) ⟨ha, h⟩ rfl
