theorem fMeet_lo {ne i q : Nat} {b : Nat → Int32} (hn : ne ≤ 8) (h : q < 4 ∨ 28 ≤ q) : fMeet ne i b q = b q := by unfold fMeet; split; exact rpMeetE_lo hn h; rfl
/-- a sum, a set and a count along the people -/
def sumF (b : Nat → Int32) (f : Nat) : Nat → Nat → Int32 → Int32
  | 0, _, s => s
  | m + 1, i, s => sumF b f m (i + 1) (s + b (28 + 7 * i + f))
def setF (p : Nat → Bool) : Nat → Nat → Int32 → Int32
  | 0, _, s => s
  | m + 1, i, s => setF p m (i + 1) (if p i then s ||| ((1 : Int32) <<< (nI i &&& 31)) else s)
def cntF (b : Nat → Int32) : Nat → Nat → Int32 → Int32
  | 0, _, s => s
  | m + 1, i, s => cntF b m (i + 1) (s + nI (popc (b (28 + 7 * i + 6)).toNatClampNeg))
def fGo (i : Nat) (b : Nat → Int32) : Nat → Int32 := oCpy b i b (i + 1)
def sendAw (g n : Nat) (b : Nat → Int32) : Nat → Int32 := upd (rp fGo (n - 1 - g) g b) 3 (nI (n - 1))
def fCpO (q : Nat → Int32) (i : Nat) (b : Nat → Int32) : Nat → Int32 := oCpy b i q i
def fCpE (q : Nat → Int32) (i : Nat) (b : Nat → Int32) : Nat → Int32 := eCpy b i q i
/-- a river becomes as another one -/
def becR (a q : Nat → Int32) (np ne : Nat) : Nat → Int32 := rp (fCpE q) ne 0 (rp (fCpO q) np 0 (upd (upd (upd (upd a 0 (q 0)) 1 (q 1)) 3 (q 3)) 2 (q 2)))
theorem hourC_cnt {np ne q : Nat} {b : Nat → Int32} (hne : ne ≤ 8) (h : 0 < q) (h4 : q < 4) : hourC np ne b q = b q := by
  unfold hourC
  rw [ud_n (by omega), rp_keep (fun i b => fEv_lo (by omega)), rp_keep (fun i b => fMeet_lo hne (Or.inl h4)), spread_lo (by omega), spread_lo (by omega), rp_keep (fun i b => fCross_lo (by omega))]
def hoursC (np ne : Nat) : Nat → (Nat → Int32) → (Nat → Int32)
  | 0, b => b
  | n + 1, b => hoursC np ne n (hourC np ne b)
theorem hoursC_cnt {np ne q : Nat} (hne : ne ≤ 8) (h : 0 < q) (h4 : q < 4) : ∀ (n : Nat) (b : Nat → Int32), hoursC np ne n b q = b q
  | 0, _ => rfl
  | n + 1, b => by rw [hoursC, hoursC_cnt hne h h4 n, hourC_cnt hne h h4]

set_option maxHeartbeats 4000000 in
set_option maxRecDepth 10000 in
theorem lp_River_spread2 {G : ex_G} {C : ex_C} {ee : List va_E} {r n : Nat} {k h : Int32} (hn : n ≤ 8) (hr : r < 3) (hC : Cx G C Y_River_spread { frames := 1, cells := 0, slots := 0, locals := 21 }) (hR : Cr G C Y_River_spread 0 0 none ee) :
    ∀ (m i : Nat) (M : ex_M), i + m = n → M.1 r 3 = nI n → ee = ce G (mI M r (rp (fHear k h) m i (M.1 r))) → Ev G C Y_River_spread 62 [some (.ref (ex_b G + aR r)), some (.int k), some (.int h), some (.int (nI i))] [] 0 0 (ce G (M)) := by
  intro m
  induction m with
  | zero =>
    intro i M hm hc he
    refine ev_iload_n rfl hC d_River_spread_62 ?_
    refine ev_aload_n rfl hC d_River_spread_63 ?_
    refine gv_River_peopleCount hC d_River_spread_64 fl_River_18 (by first | assumption | decide) ?_
    refine ev_icmp_ge 99 hC d_River_spread_67 rfl (fun _ => ?_) (fun h => absurd (by rw [hc]; exact nI_le (by omega) (by omega)) h)
    exact ev_vret hC hR d_River_spread_99 rfl rfl (by rw [he, rp, mI_id])
  | succ m ih =>
    intro i M hm hc he
    have hi : i < 8 := by omega
    refine ev_iload_n rfl hC d_River_spread_62 ?_
    refine ev_aload_n rfl hC d_River_spread_63 ?_
    refine gv_River_peopleCount hC d_River_spread_64 fl_River_18 (by first | assumption | decide) ?_
    refine ev_icmp_ge 99 hC d_River_spread_67 rfl (fun h => absurd h (by rw [hc]; exact nI_ge (by omega) (by omega))) (fun _ => ?_)
    refine ev_aload_n rfl hC d_River_spread_70 ?_
    refine gv_River_people hC d_River_spread_71 fl_River_26 (by first | assumption | decide) ?_
    refine ev_iload_n rfl hC d_River_spread_74 ?_
    refine gr_people hC d_River_spread_75 (by first | assumption | decide) (by first | assumption | omega) ?_
    refine gn_One_bank hC d_River_spread_76 fl_River_81 (by first | assumption | decide) (by first | assumption | omega) ?_
    refine ev_iload_n rfl hC d_River_spread_79 ?_
    refine ev_icmp_ne 93 hC d_River_spread_80 rfl (fun h_80 => ?_) (fun h_80 => ?_)
    · refine ev_iinc rfl (by decide) (nI_1 _) hC d_River_spread_93 ?_
      refine ev_goto 62 hC d_River_spread_96 rfl ?_
      exact ih (i + 1) _ (by omega) (by exact hc) (by rw [he, rp, show fHear k h i (M.1 r) = M.1 r by simp only [fHear, if_neg h_80]])
    · refine ev_aload_n rfl hC d_River_spread_83 ?_
      refine gv_River_people hC d_River_spread_84 fl_River_26 (by first | assumption | decide) ?_
      refine ev_iload_n rfl hC d_River_spread_87 ?_
      refine gr_people hC d_River_spread_88 (by first | assumption | decide) (by first | assumption | omega) ?_
      refine ev_iload_n rfl hC d_River_spread_89 ?_
      refine cv_One0 hC d_River_spread_90 (c_One_hear (by first | assumption | omega) (by first | assumption | omega)) mi_One_hear ml_River_91 im_One_hear se_One_hear rfl ⟨Nat.le_of_ble_eq_true rfl, Nat.le_of_ble_eq_true rfl⟩ ⟨Nat.le_of_ble_eq_true rfl, Nat.le_of_ble_eq_true rfl⟩ rfl rfl (Nat.le_of_ble_eq_true rfl) (by first | assumption | decide) (by first | assumption | omega) ?_
      refine ev_iinc rfl (by decide) (nI_1 _) hC d_River_spread_93 ?_
      refine ev_goto 62 hC d_River_spread_96 rfl ?_
      exact ih (i + 1) _ (by omega) (by simp only [mI, wr_s]; rw [oHear_lo (by omega)]; exact hc) (by rw [he, rp, show fHear k h i (M.1 r) = oHear (M.1 r) i h by simp only [fHear, if_pos h_80]]; simp only [mI, wr_wr, wr_s])

set_option maxHeartbeats 4000000 in
set_option maxRecDepth 10000 in
theorem lp_River_spread1 {G : ex_G} {C : ex_C} {ee : List va_E} {r n : Nat} {k : Int32} (hn : n ≤ 8) (hr : r < 3) (hC : Cx G C Y_River_spread { frames := 1, cells := 0, slots := 0, locals := 21 }) (hR : Cr G C Y_River_spread 0 0 none ee) :
    ∀ (m i : Nat) (M : ex_M) (h : Int32), i + m = n → M.1 r 3 = nI n → ee = ce G (if fHeard (M.1 r) k m i h = 0 then M else mI M r (rp (fHear k (fHeard (M.1 r) k m i h)) n 0 (M.1 r))) → Ev G C Y_River_spread 4 [some (.ref (ex_b G + aR r)), some (.int k), some (.int h), some (.int (nI i))] [] 0 0 (ce G (M)) := by
  intro m
  induction m with
  | zero =>
    intro i M h hm hc he
    refine ev_iload_n rfl hC d_River_spread_4 ?_
    refine ev_aload_n rfl hC d_River_spread_5 ?_
    refine gv_River_peopleCount hC d_River_spread_6 fl_River_18 (by first | assumption | decide) ?_
    refine ev_icmp_ge 55 hC d_River_spread_9 rfl (fun _ => ?_) (fun h => absurd (by rw [hc]; exact nI_le (by omega) (by omega)) h)
    refine ev_iload_n rfl hC d_River_spread_55 ?_
    refine ev_if_ne 60 hC d_River_spread_56 rfl (fun h_56 => ?_) (fun h_56 => ?_)
    · refine ev_iconst (v := nI 0) rfl hC d_River_spread_60 ?_
      refine ev_istore_n (by decide) hC d_River_spread_61 ?_
      exact lp_River_spread2 hn hr hC hR n 0 M (by omega) hc (by rw [he, fHeard, if_neg h_56])
    · exact ev_vret hC hR d_River_spread_59 rfl rfl (by rw [he, fHeard, if_pos h_56])
  | succ m ih =>
    intro i M h hm hc he
    have hi : i < 8 := by omega
    refine ev_iload_n rfl hC d_River_spread_4 ?_
    refine ev_aload_n rfl hC d_River_spread_5 ?_
    refine gv_River_peopleCount hC d_River_spread_6 fl_River_18 (by first | assumption | decide) ?_
    refine ev_icmp_ge 55 hC d_River_spread_9 rfl (fun h => absurd h (by rw [hc]; exact nI_ge (by omega) (by omega))) (fun _ => ?_)
    refine ev_aload_n rfl hC d_River_spread_12 ?_
    refine gv_River_people hC d_River_spread_13 fl_River_26 (by first | assumption | decide) ?_
    refine ev_iload_n rfl hC d_River_spread_16 ?_
    refine gr_people hC d_River_spread_17 (by first | assumption | decide) (by first | assumption | omega) ?_
    refine gn_One_bank hC d_River_spread_18 fl_River_81 (by first | assumption | decide) (by first | assumption | omega) ?_
    refine ev_iload_n rfl hC d_River_spread_21 ?_
    refine ev_icmp_ne 49 hC d_River_spread_22 rfl (fun h_22 => ?_) (fun h_22 => ?_)
    · refine ev_iinc rfl (by decide) (nI_1 _) hC d_River_spread_49 ?_
      refine ev_goto 4 hC d_River_spread_52 rfl ?_
      exact ih (i + 1) M _ (by omega) hc (by rw [he, show fHeard (M.1 r) k (m + 1) i h = fHeard (M.1 r) k m (i + 1) h by rw [fHeard, if_neg (fun z => h_22 z.1)]])
    · refine ev_aload_n rfl hC d_River_spread_25 ?_
      refine gv_River_people hC d_River_spread_26 fl_River_26 (by first | assumption | decide) ?_
      refine ev_iload_n rfl hC d_River_spread_29 ?_
      refine gr_people hC d_River_spread_30 (by first | assumption | decide) (by first | assumption | omega) ?_
      refine cv_One1 hC d_River_spread_31 (c_One_isTeller (by first | assumption | omega) (by first | assumption | omega)) mi_One_isTeller ml_River_84 im_One_isTeller se_One_isTeller rfl ⟨Nat.le_of_ble_eq_true rfl, Nat.le_of_ble_eq_true rfl⟩ ⟨Nat.le_of_ble_eq_true rfl, Nat.le_of_ble_eq_true rfl⟩ rfl rfl (Nat.le_of_ble_eq_true rfl) (by first | assumption | decide) (by first | assumption | omega) ?_
      refine eb_eq 49 hC d_River_spread_34 rfl (fun h_34 => ?_) (fun h_34 => ?_)
      · refine ev_iinc rfl (by decide) (nI_1 _) hC d_River_spread_49 ?_
        refine ev_goto 4 hC d_River_spread_52 rfl ?_
        exact ih (i + 1) M _ (by omega) hc (by rw [he, show fHeard (M.1 r) k (m + 1) i h = fHeard (M.1 r) k m (i + 1) h by rw [fHeard, if_neg (fun z => absurd (h_34.symm.trans z.2) (by decide))]])
      · refine ev_iload_n rfl hC d_River_spread_37 ?_
        refine ev_aload_n rfl hC d_River_spread_38 ?_
        refine gv_River_people hC d_River_spread_39 fl_River_26 (by first | assumption | decide) ?_
        refine ev_iload_n rfl hC d_River_spread_42 ?_
        refine gr_people hC d_River_spread_43 (by first | assumption | decide) (by first | assumption | omega) ?_
        refine gn_One_knows hC d_River_spread_44 fl_River_88 (by first | assumption | decide) (by first | assumption | omega) ?_
        refine ev_ior hC d_River_spread_47 ?_
        refine ev_istore_n (by decide) hC d_River_spread_48 ?_
        refine ev_iinc rfl (by decide) (nI_1 _) hC d_River_spread_49 ?_
        refine ev_goto 4 hC d_River_spread_52 rfl ?_
        exact ih (i + 1) M _ (by omega) hc (by rw [he, show fHeard (M.1 r) k (m + 1) i h = fHeard (M.1 r) k m (i + 1) (h ||| M.1 r (28 + 7 * i + 6)) by rw [fHeard, if_pos ⟨h_22, h_34⟩]])

set_option maxHeartbeats 2000000 in
set_option maxRecDepth 10000 in
theorem c_River_spread {G : ex_G} {M : ex_M} {r n : Nat} {k : Int32} (hn : n ≤ 8) (hr : r < 3) (hc : M.1 r 3 = nI n) : Con G Y_River_spread 1 21 0 0 [.ref (ex_b G + aR r), .int k] (ce G M) (none) (ce G (mI M r (spread k n (M.1 r)))) := by
  refine Con.ofF (plainFor_of_name (by decide +kernel)) (Nat.le_of_ble_eq_true rfl) (fun C hC hR => ?_)
  show Ev G C Y_River_spread 0 [some (.ref (ex_b G + aR r)), some (.int k)] [] 0 0 (ce G M)
  refine ev_iconst (v := 0) rfl hC d_River_spread_0 ?_
  refine ev_istore_n (by decide) hC d_River_spread_1 ?_
  refine ev_iconst (v := nI 0) rfl hC d_River_spread_2 ?_
  refine ev_istore_n (by decide) hC d_River_spread_3 ?_
  exact lp_River_spread1 hn hr hC hR n 0 M 0 (by omega) hc (by unfold spread; split <;> first | rw [mI_id] | rfl)

set_option maxHeartbeats 4000000 in
set_option maxRecDepth 10000 in
theorem lp_River_passHour {G : ex_G} {C : ex_C} {ee : List va_E} {r n ne : Nat} (hn : n ≤ 8) (hne : ne ≤ 8) (hr : r < 3) (hC : Cx G C Y_River_passHour { frames := 3, cells := 0, slots := 0, locals := 72 }) (hR : Cr G C Y_River_passHour 0 0 none ee) :
    ∀ (m i : Nat) (M : ex_M), i + m = ne → M.1 r 2 = nI ne ∧ M.1 r 3 = nI n → ee = ce G (mI M r (upd (rp (fEv n) m i (M.1 r)) 0 (rp (fEv n) m i (M.1 r) 0 + 1))) → Ev G C Y_River_passHour 27 [some (.ref (ex_b G + aR r)), some (.int (nI i))] [] 0 0 (ce G (M)) := by
  intro m
  induction m with
  | zero =>
    intro i M hm hc he
    refine ev_iload_n rfl hC d_River_passHour_27 ?_
    refine ev_aload_n rfl hC d_River_passHour_28 ?_
    refine gv_River_eventCount hC d_River_passHour_29 fl_River_21 (by first | assumption | decide) ?_
    refine ev_icmp_ge 103 hC d_River_passHour_32 rfl (fun _ => ?_) (fun h => absurd (by rw [hc.1]; exact nI_le (by omega) (by omega)) h)
    refine ev_aload_n rfl hC d_River_passHour_103 ?_
    refine ev_dup rfl hC d_River_passHour_104 ?_
    refine gv_River_hour hC d_River_passHour_105 fl_River_9 (by first | assumption | decide) ?_
    refine ev_iconst (v := 1) rfl hC d_River_passHour_108 ?_
    refine ev_iadd hC d_River_passHour_109 ?_
    refine pv_River_hour hC d_River_passHour_110 fl_River_9 (by first | assumption | decide) ?_
    exact ev_vret hC hR d_River_passHour_113 rfl rfl (by rw [he]; rfl)
  | succ m ih =>
    intro i M hm hc he
    have hi : i < 8 := by omega
    refine ev_iload_n rfl hC d_River_passHour_27 ?_
    refine ev_aload_n rfl hC d_River_passHour_28 ?_
    refine gv_River_eventCount hC d_River_passHour_29 fl_River_21 (by first | assumption | decide) ?_
    refine ev_icmp_ge 103 hC d_River_passHour_32 rfl (fun h => absurd h (by rw [hc.1]; exact nI_ge (by omega) (by omega))) (fun _ => ?_)
    refine ev_aload_n rfl hC d_River_passHour_35 ?_
    refine gv_River_events hC d_River_passHour_36 fl_River_33 (by first | assumption | decide) ?_
    refine ev_iload_n rfl hC d_River_passHour_39 ?_
    refine gr_events hC d_River_passHour_40 (by first | assumption | decide) (by first | assumption | omega) ?_
    refine gn_Event_hour hC d_River_passHour_41 fl_River_63 (by first | assumption | decide) (by first | assumption | omega) ?_
    refine ev_aload_n rfl hC d_River_passHour_44 ?_
    refine gv_River_hour hC d_River_passHour_45 fl_River_9 (by first | assumption | decide) ?_
    refine ev_icmp_ne 60 hC d_River_passHour_48 rfl (fun h_48 => ?_) (fun h_48 => ?_)
    · refine ev_aload_n rfl hC d_River_passHour_60 ?_
      refine gv_River_events hC d_River_passHour_61 fl_River_33 (by first | assumption | decide) ?_
      refine ev_iload_n rfl hC d_River_passHour_64 ?_
      refine gr_events hC d_River_passHour_65 (by first | assumption | decide) (by first | assumption | omega) ?_
      refine gn_Event_hour hC d_River_passHour_66 fl_River_63 (by first | assumption | decide) (by first | assumption | omega) ?_
      refine ev_bipush (v := 24) rfl hC d_River_passHour_69 ?_
      refine ev_iadd hC d_River_passHour_71 ?_
      refine ev_aload_n rfl hC d_River_passHour_72 ?_
      refine gv_River_hour hC d_River_passHour_73 fl_River_9 (by first | assumption | decide) ?_
      refine ev_icmp_ne 97 hC d_River_passHour_76 rfl (fun h_76 => ?_) (fun h_76 => ?_)
      · refine ev_iinc rfl (by decide) (nI_1 _) hC d_River_passHour_97 ?_
        refine ev_goto 27 hC d_River_passHour_100 rfl ?_
        exact ih (i + 1) _ (by omega) (by exact hc) (by rw [he, rp, show fEv n i (M.1 r) = M.1 r by rw [fEv, if_neg h_48, if_neg (fun z => h_76 z.1)]])
      · refine ev_aload_n rfl hC d_River_passHour_79 ?_
        refine gv_River_events hC d_River_passHour_80 fl_River_33 (by first | assumption | decide) ?_
        refine ev_iload_n rfl hC d_River_passHour_83 ?_
        refine gr_events hC d_River_passHour_84 (by first | assumption | decide) (by first | assumption | omega) ?_
        refine gn_Event_met hC d_River_passHour_85 fl_River_67 (by first | assumption | decide) (by first | assumption | omega) ?_
        refine ev_if_ne 97 hC d_River_passHour_88 rfl (fun h_88 => ?_) (fun h_88 => ?_)
        · refine ev_iinc rfl (by decide) (nI_1 _) hC d_River_passHour_97 ?_
          refine ev_goto 27 hC d_River_passHour_100 rfl ?_
          exact ih (i + 1) _ (by omega) (by exact hc) (by rw [he, rp, show fEv n i (M.1 r) = M.1 r by rw [fEv, if_neg h_48, if_neg (fun z => h_88 z.2)]])
        · refine ev_aload_n rfl hC d_River_passHour_91 ?_
          refine ev_iload_n rfl hC d_River_passHour_92 ?_
          refine ev_iconst (v := 1) rfl hC d_River_passHour_93 ?_
          refine cv_River0 hC d_River_passHour_94 (c_River_befall hn hi hr hc.2) mi_River_befall ml_River_64 im_River_befall se_River_befall rfl ⟨Nat.le_of_ble_eq_true rfl, Nat.le_of_ble_eq_true rfl⟩ ⟨Nat.le_of_ble_eq_true rfl, Nat.le_of_ble_eq_true rfl⟩ rfl rfl (Nat.le_of_ble_eq_true rfl) (by first | assumption | decide) ?_
          refine ev_iinc rfl (by decide) (nI_1 _) hC d_River_passHour_97 ?_
          refine ev_goto 27 hC d_River_passHour_100 rfl ?_
          exact ih (i + 1) _ (by omega) (by simp only [mI, wr_s]; exact ⟨(rp_keep (fun i b => fBef_lo (by omega)) _ _ _).trans hc.1, (rp_keep (fun i b => fBef_lo (by omega)) _ _ _).trans hc.2⟩) (by rw [he, rp, show fEv n i (M.1 r) = rp (fBef i 1) n 0 (M.1 r) by rw [fEv, if_neg h_48, if_pos ⟨h_76, h_88⟩]]; simp only [mI, wr_wr, wr_s])
    · refine ev_aload_n rfl hC d_River_passHour_51 ?_
      refine ev_iload_n rfl hC d_River_passHour_52 ?_
      refine ev_iconst (v := 0) rfl hC d_River_passHour_53 ?_
      refine cv_River0 hC d_River_passHour_54 (c_River_befall hn hi hr hc.2) mi_River_befall ml_River_64 im_River_befall se_River_befall rfl ⟨Nat.le_of_ble_eq_true rfl, Nat.le_of_ble_eq_true rfl⟩ ⟨Nat.le_of_ble_eq_true rfl, Nat.le_of_ble_eq_true rfl⟩ rfl rfl (Nat.le_of_ble_eq_true rfl) (by first | assumption | decide) ?_
      refine ev_goto 97 hC d_River_passHour_57 rfl ?_
      refine ev_iinc rfl (by decide) (nI_1 _) hC d_River_passHour_97 ?_
      refine ev_goto 27 hC d_River_passHour_100 rfl ?_
      exact ih (i + 1) _ (by omega) (by simp only [mI, wr_s]; exact ⟨(rp_keep (fun i b => fBef_lo (by omega)) _ _ _).trans hc.1, (rp_keep (fun i b => fBef_lo (by omega)) _ _ _).trans hc.2⟩) (by rw [he, rp, show fEv n i (M.1 r) = rp (fBef i 0) n 0 (M.1 r) by simp only [fEv, if_pos h_48]]; simp only [mI, wr_wr, wr_s])

set_option maxHeartbeats 2000000 in
set_option maxRecDepth 10000 in
theorem c_River_passHour {G : ex_G} {M : ex_M} {r n ne : Nat} (hn : n ≤ 8) (hne : ne ≤ 8) (hr : r < 3) (hc : M.1 r 3 = nI n) (hc2 : M.1 r 2 = nI ne) : Con G Y_River_passHour 3 72 0 0 [.ref (ex_b G + aR r)] (ce G M) (none) (ce G (mI M r (hourC n ne (M.1 r)))) := by
  refine Con.ofF (plainFor_of_name (by decide +kernel)) (Nat.le_of_ble_eq_true rfl) (fun C hC hR => ?_)
  show Ev G C Y_River_passHour 0 [some (.ref (ex_b G + aR r))] [] 0 0 (ce G M)
  have k1 : ∀ q, q < 4 → rp (fCross (M.1 r 0 - M.1 r 0 / 24 * 24)) n 0 (M.1 r) q = M.1 r q := fun q hq => rp_keep (fun i b => fCross_lo (by omega)) _ _ _
  have k2 : ∀ q, q < 4 → spread 0 n (rp (fCross (M.1 r 0 - M.1 r 0 / 24 * 24)) n 0 (M.1 r)) q = M.1 r q := fun q hq => (spread_lo (by omega)).trans (k1 q hq)
  have k3 : ∀ q, q < 4 → spread 1 n (spread 0 n (rp (fCross (M.1 r 0 - M.1 r 0 / 24 * 24)) n 0 (M.1 r))) q = M.1 r q := fun q hq => (spread_lo (by omega)).trans (k2 q hq)
  refine ev_aload_n rfl hC d_River_passHour_0 ?_
  refine ev_aload_n rfl hC d_River_passHour_1 ?_
  refine gv_River_hour hC d_River_passHour_2 fl_River_9 (by first | assumption | decide) ?_
  refine ev_bipush (v := 24) rfl hC d_River_passHour_5 ?_
  refine ev_irem (by decide) hC d_River_passHour_7 ?_
  refine cv_River0 hC d_River_passHour_8 (c_River_letCross hn hr hc) mi_River_letCross ml_River_53 im_River_letCross se_River_letCross rfl ⟨Nat.le_of_ble_eq_true rfl, Nat.le_of_ble_eq_true rfl⟩ ⟨Nat.le_of_ble_eq_true rfl, Nat.le_of_ble_eq_true rfl⟩ rfl rfl (Nat.le_of_ble_eq_true rfl) (by first | assumption | decide) ?_
  refine ev_aload_n rfl hC d_River_passHour_11 ?_
  refine ev_iconst (v := 0) rfl hC d_River_passHour_12 ?_
  refine cv_River0 hC d_River_passHour_13 (c_River_spread (M := mI M r (rp (fCross (M.1 r 0 - M.1 r 0 / 24 * 24)) n 0 (M.1 r))) hn hr (by simp only [mI, wr_s]; rw [k1 3 (by omega)]; exact hc)) mi_River_spread ml_River_57 im_River_spread se_River_spread rfl ⟨Nat.le_of_ble_eq_true rfl, Nat.le_of_ble_eq_true rfl⟩ ⟨Nat.le_of_ble_eq_true rfl, Nat.le_of_ble_eq_true rfl⟩ rfl rfl (Nat.le_of_ble_eq_true rfl) (by first | assumption | decide) ?_
  refine ev_aload_n rfl hC d_River_passHour_16 ?_
  refine ev_iconst (v := 1) rfl hC d_River_passHour_17 ?_
  refine cv_River0 hC d_River_passHour_18 (c_River_spread hn hr (by simp only [mI, wr_wr, wr_s]; rw [k2 3 (by omega)]; exact hc)) mi_River_spread ml_River_57 im_River_spread se_River_spread rfl ⟨Nat.le_of_ble_eq_true rfl, Nat.le_of_ble_eq_true rfl⟩ ⟨Nat.le_of_ble_eq_true rfl, Nat.le_of_ble_eq_true rfl⟩ rfl rfl (Nat.le_of_ble_eq_true rfl) (by first | assumption | decide) ?_
  refine ev_aload_n rfl hC d_River_passHour_21 ?_
  refine cv_River0 hC d_River_passHour_22 (c_River_meet hn hne hr (by simp only [mI, wr_wr, wr_s]; rw [k3 3 (by omega)]; exact hc) (by simp only [mI, wr_wr, wr_s]; rw [k3 2 (by omega)]; exact hc2)) mi_River_meet ml_River_60 im_River_meet se_River_meet rfl ⟨Nat.le_of_ble_eq_true rfl, Nat.le_of_ble_eq_true rfl⟩ ⟨Nat.le_of_ble_eq_true rfl, Nat.le_of_ble_eq_true rfl⟩ rfl rfl (Nat.le_of_ble_eq_true rfl) (by first | assumption | decide) ?_
  refine ev_iconst (v := nI 0) rfl hC d_River_passHour_25 ?_
  refine ev_istore_n (by decide) hC d_River_passHour_26 ?_
  refine lp_River_passHour hn hne hr hC hR ne 0 _ (by omega) ⟨?_, ?_⟩ ?_
  · simp only [mI, wr_wr, wr_s]; rw [rp_keep (fun i b => fMeet_lo hne (by omega)), k3 2 (by omega)]; exact hc2
  · simp only [mI, wr_wr, wr_s]; rw [rp_keep (fun i b => fMeet_lo hne (by omega)), k3 3 (by omega)]; exact hc
  · simp only [mI, wr_wr, wr_s]; rfl

set_option maxHeartbeats 4000000 in
set_option maxRecDepth 10000 in
theorem lp_River_passHours {G : ex_G} {C : ex_C} {ee : List va_E} {r n ne h : Nat} (hn : n ≤ 8) (hne : ne ≤ 8) (hr : r < 3) (hh : h < 2 ^ 30) (hC : Cx G C Y_River_passHours { frames := 4, cells := 0, slots := 0, locals := 93 }) (hR : Cr G C Y_River_passHours 0 0 none ee) :
    ∀ (m i : Nat) (M : ex_M), i + m = h → M.1 r 3 = nI n ∧ M.1 r 2 = nI ne → ee = ce G (mI M r (hoursC n ne m (M.1 r))) → Ev G C Y_River_passHours 2 [some (.ref (ex_b G + aR r)), some (.int (nI h)), some (.int (nI i))] [] 0 0 (ce G (M)) := by
  intro m
  induction m with
  | zero =>
    intro i M hm hc he
    refine ev_iload_n rfl hC d_River_passHours_2 ?_
    refine ev_iload_n rfl hC d_River_passHours_3 ?_
    refine ev_icmp_ge 17 hC d_River_passHours_4 rfl (fun _ => ?_) (fun h => absurd (nI_le (by omega) (by omega)) h)
    exact ev_vret hC hR d_River_passHours_17 rfl rfl (by rw [he, hoursC, mI_id])
  | succ m ih =>
    intro i M hm hc he
    skip
    refine ev_iload_n rfl hC d_River_passHours_2 ?_
    refine ev_iload_n rfl hC d_River_passHours_3 ?_
    refine ev_icmp_ge 17 hC d_River_passHours_4 rfl (fun h => absurd h (nI_ge (by omega) (by omega))) (fun _ => ?_)
    refine ev_aload_n rfl hC d_River_passHours_7 ?_
    refine cv_River0 hC d_River_passHours_8 (c_River_passHour hn hne hr hc.1 hc.2) mi_River_passHour ml_River_50 im_River_passHour se_River_passHour rfl ⟨Nat.le_of_ble_eq_true rfl, Nat.le_of_ble_eq_true rfl⟩ ⟨Nat.le_of_ble_eq_true rfl, Nat.le_of_ble_eq_true rfl⟩ rfl rfl (Nat.le_of_ble_eq_true rfl) (by first | assumption | decide) ?_
    refine ev_iinc rfl (by decide) (nI_1 _) hC d_River_passHours_11 ?_
    refine ev_goto 2 hC d_River_passHours_14 rfl ?_
    exact ih (i + 1) _ (by omega) (by simp only [mI, wr_s]; exact ⟨(hourC_cnt hne (by omega) (by omega)).trans hc.1, (hourC_cnt hne (by omega) (by omega)).trans hc.2⟩) (by rw [he, hoursC]; simp only [mI, wr_wr, wr_s])

set_option maxHeartbeats 2000000 in
set_option maxRecDepth 10000 in
theorem c_River_passHours {G : ex_G} {M : ex_M} {r n ne h : Nat} (hn : n ≤ 8) (hne : ne ≤ 8) (hr : r < 3) (hh : h < 2 ^ 30) (hc : M.1 r 3 = nI n) (hc2 : M.1 r 2 = nI ne) : Con G Y_River_passHours 4 93 0 0 [.ref (ex_b G + aR r), .int (nI h)] (ce G M) (none) (ce G (mI M r (hoursC n ne h (M.1 r)))) := by
  refine Con.ofF (plainFor_of_name (by decide +kernel)) (Nat.le_of_ble_eq_true rfl) (fun C hC hR => ?_)
  show Ev G C Y_River_passHours 0 [some (.ref (ex_b G + aR r)), some (.int (nI h))] [] 0 0 (ce G M)
  refine ev_iconst (v := nI 0) rfl hC d_River_passHours_0 ?_
  refine ev_istore_n (by decide) hC d_River_passHours_1 ?_
  exact lp_River_passHours hn hne hr hh hC hR h 0 M (by omega) ⟨hc, hc2⟩ rfl

set_option maxHeartbeats 4000000 in
set_option maxRecDepth 10000 in
theorem lp_River_allPurses {G : ex_G} {C : ex_C} {rr : Option Value} {ee : List va_E} {r n : Nat} (hn : n ≤ 8) (hr : r < 3) (hC : Cx G C Y_River_allPurses { frames := 0, cells := 0, slots := 0, locals := 0 }) (hR : Cr G C Y_River_allPurses 0 0 rr ee) :
    ∀ (m i : Nat) (M : ex_M) (s : Int32), i + m = n → M.1 r 3 = nI n → rr = some (.int (sumF (M.1 r) 2 m i s)) ∧ ee = ce G M → Ev G C Y_River_allPurses 4 [some (.ref (ex_b G + aR r)), some (.int s), some (.int (nI i))] [] 0 0 (ce G (M)) := by
  intro m
  induction m with
  | zero =>
    intro i M s hm hc he
    refine ev_iload_n rfl hC d_River_allPurses_4 ?_
    refine ev_aload_n rfl hC d_River_allPurses_5 ?_
    refine gv_River_peopleCount hC d_River_allPurses_6 fl_River_18 (by first | assumption | decide) ?_
    refine ev_icmp_ge 30 hC d_River_allPurses_9 rfl (fun _ => ?_) (fun h => absurd (by rw [hc]; exact nI_le (by omega) (by omega)) h)
    refine ev_iload_n rfl hC d_River_allPurses_30 ?_
    exact ev_iret hC hR d_River_allPurses_31 rfl (by rw [he.1, sumF]) (he.2)
  | succ m ih =>
    intro i M s hm hc he
    have hi : i < 8 := by omega
    refine ev_iload_n rfl hC d_River_allPurses_4 ?_
    refine ev_aload_n rfl hC d_River_allPurses_5 ?_
    refine gv_River_peopleCount hC d_River_allPurses_6 fl_River_18 (by first | assumption | decide) ?_
    refine ev_icmp_ge 30 hC d_River_allPurses_9 rfl (fun h => absurd h (by rw [hc]; exact nI_ge (by omega) (by omega))) (fun _ => ?_)
    refine ev_iload_n rfl hC d_River_allPurses_12 ?_
    refine ev_aload_n rfl hC d_River_allPurses_13 ?_
    refine gv_River_people hC d_River_allPurses_14 fl_River_26 (by first | assumption | decide) ?_
    refine ev_iload_n rfl hC d_River_allPurses_17 ?_
    refine gr_people hC d_River_allPurses_18 (by first | assumption | decide) (by first | assumption | omega) ?_
    refine gn_One_purse hC d_River_allPurses_19 fl_River_112 (by first | assumption | decide) (by first | assumption | omega) ?_
    refine ev_iadd hC d_River_allPurses_22 ?_
    refine ev_istore_n (by decide) hC d_River_allPurses_23 ?_
    refine ev_iinc rfl (by decide) (nI_1 _) hC d_River_allPurses_24 ?_
    refine ev_goto 4 hC d_River_allPurses_27 rfl ?_
    exact ih (i + 1) M _ (by omega) hc (by rw [he.1, he.2, sumF]; exact ⟨rfl, rfl⟩)

set_option maxHeartbeats 2000000 in
set_option maxRecDepth 10000 in
theorem c_River_allPurses {G : ex_G} {M : ex_M} {r n : Nat} (hn : n ≤ 8) (hr : r < 3) (hc : M.1 r 3 = nI n) : Con G Y_River_allPurses 0 0 0 0 [.ref (ex_b G + aR r)] (ce G M) (some (.int (sumF (M.1 r) 2 n 0 0))) (ce G (M)) := by
  refine Con.ofF (plainFor_of_name (by decide +kernel)) (Nat.le_of_ble_eq_true rfl) (fun C hC hR => ?_)
  show Ev G C Y_River_allPurses 0 [some (.ref (ex_b G + aR r))] [] 0 0 (ce G M)
  refine ev_iconst (v := 0) rfl hC d_River_allPurses_0 ?_
  refine ev_istore_n (by decide) hC d_River_allPurses_1 ?_
  refine ev_iconst (v := nI 0) rfl hC d_River_allPurses_2 ?_
  refine ev_istore_n (by decide) hC d_River_allPurses_3 ?_
  exact lp_River_allPurses hn hr hC hR n 0 M 0 (by omega) hc ⟨rfl, rfl⟩

set_option maxHeartbeats 4000000 in
set_option maxRecDepth 10000 in
theorem lp_River_allCrossed {G : ex_G} {C : ex_C} {rr : Option Value} {ee : List va_E} {r n : Nat} (hn : n ≤ 8) (hr : r < 3) (hC : Cx G C Y_River_allCrossed { frames := 0, cells := 0, slots := 0, locals := 0 }) (hR : Cr G C Y_River_allCrossed 0 0 rr ee) :
    ∀ (m i : Nat) (M : ex_M) (s : Int32), i + m = n → M.1 r 3 = nI n → rr = some (.int (sumF (M.1 r) 5 m i s)) ∧ ee = ce G M → Ev G C Y_River_allCrossed 4 [some (.ref (ex_b G + aR r)), some (.int s), some (.int (nI i))] [] 0 0 (ce G (M)) := by
  intro m
  induction m with
  | zero =>
    intro i M s hm hc he
    refine ev_iload_n rfl hC d_River_allCrossed_4 ?_
    refine ev_aload_n rfl hC d_River_allCrossed_5 ?_
    refine gv_River_peopleCount hC d_River_allCrossed_6 fl_River_18 (by first | assumption | decide) ?_
    refine ev_icmp_ge 30 hC d_River_allCrossed_9 rfl (fun _ => ?_) (fun h => absurd (by rw [hc]; exact nI_le (by omega) (by omega)) h)
    refine ev_iload_n rfl hC d_River_allCrossed_30 ?_
    exact ev_iret hC hR d_River_allCrossed_31 rfl (by rw [he.1, sumF]) (he.2)
  | succ m ih =>
    intro i M s hm hc he
    have hi : i < 8 := by omega
    refine ev_iload_n rfl hC d_River_allCrossed_4 ?_
    refine ev_aload_n rfl hC d_River_allCrossed_5 ?_
    refine gv_River_peopleCount hC d_River_allCrossed_6 fl_River_18 (by first | assumption | decide) ?_
    refine ev_icmp_ge 30 hC d_River_allCrossed_9 rfl (fun h => absurd h (by rw [hc]; exact nI_ge (by omega) (by omega))) (fun _ => ?_)
    refine ev_iload_n rfl hC d_River_allCrossed_12 ?_
    refine ev_aload_n rfl hC d_River_allCrossed_13 ?_
    refine gv_River_people hC d_River_allCrossed_14 fl_River_26 (by first | assumption | decide) ?_
    refine ev_iload_n rfl hC d_River_allCrossed_17 ?_
    refine gr_people hC d_River_allCrossed_18 (by first | assumption | decide) (by first | assumption | omega) ?_
    refine gn_One_crossed hC d_River_allCrossed_19 fl_River_115 (by first | assumption | decide) (by first | assumption | omega) ?_
    refine ev_iadd hC d_River_allCrossed_22 ?_
    refine ev_istore_n (by decide) hC d_River_allCrossed_23 ?_
    refine ev_iinc rfl (by decide) (nI_1 _) hC d_River_allCrossed_24 ?_
    refine ev_goto 4 hC d_River_allCrossed_27 rfl ?_
    exact ih (i + 1) M _ (by omega) hc (by rw [he.1, he.2, sumF]; exact ⟨rfl, rfl⟩)

set_option maxHeartbeats 2000000 in
set_option maxRecDepth 10000 in
theorem c_River_allCrossed {G : ex_G} {M : ex_M} {r n : Nat} (hn : n ≤ 8) (hr : r < 3) (hc : M.1 r 3 = nI n) : Con G Y_River_allCrossed 0 0 0 0 [.ref (ex_b G + aR r)] (ce G M) (some (.int (sumF (M.1 r) 5 n 0 0))) (ce G (M)) := by
  refine Con.ofF (plainFor_of_name (by decide +kernel)) (Nat.le_of_ble_eq_true rfl) (fun C hC hR => ?_)
  show Ev G C Y_River_allCrossed 0 [some (.ref (ex_b G + aR r))] [] 0 0 (ce G M)
  refine ev_iconst (v := 0) rfl hC d_River_allCrossed_0 ?_
  refine ev_istore_n (by decide) hC d_River_allCrossed_1 ?_
  refine ev_iconst (v := nI 0) rfl hC d_River_allCrossed_2 ?_
  refine ev_istore_n (by decide) hC d_River_allCrossed_3 ?_
  exact lp_River_allCrossed hn hr hC hR n 0 M 0 (by omega) hc ⟨rfl, rfl⟩

set_option maxHeartbeats 4000000 in
set_option maxRecDepth 10000 in
theorem lp_River_thoseOnLeft {G : ex_G} {C : ex_C} {rr : Option Value} {ee : List va_E} {r n : Nat} (hn : n ≤ 8) (hr : r < 3) (hC : Cx G C Y_River_thoseOnLeft { frames := 0, cells := 0, slots := 0, locals := 0 }) (hR : Cr G C Y_River_thoseOnLeft 0 0 rr ee) :
    ∀ (m i : Nat) (M : ex_M) (s : Int32), i + m = n → M.1 r 3 = nI n → rr = some (.int (setF (fun i => decide (M.1 r (28 + 7 * i + 1) = 1)) m i s)) ∧ ee = ce G M → Ev G C Y_River_thoseOnLeft 4 [some (.ref (ex_b G + aR r)), some (.int s), some (.int (nI i))] [] 0 0 (ce G (M)) := by
  intro m
  induction m with
  | zero =>
    intro i M s hm hc he
    refine ev_iload_n rfl hC d_River_thoseOnLeft_4 ?_
    refine ev_aload_n rfl hC d_River_thoseOnLeft_5 ?_
    refine gv_River_peopleCount hC d_River_thoseOnLeft_6 fl_River_18 (by first | assumption | decide) ?_
    refine ev_icmp_ge 37 hC d_River_thoseOnLeft_9 rfl (fun _ => ?_) (fun h => absurd (by rw [hc]; exact nI_le (by omega) (by omega)) h)
    refine ev_iload_n rfl hC d_River_thoseOnLeft_37 ?_
    exact ev_iret hC hR d_River_thoseOnLeft_38 rfl (by rw [he.1, setF]) (he.2)
  | succ m ih =>
    intro i M s hm hc he
    have hi : i < 8 := by omega
    refine ev_iload_n rfl hC d_River_thoseOnLeft_4 ?_
    refine ev_aload_n rfl hC d_River_thoseOnLeft_5 ?_
    refine gv_River_peopleCount hC d_River_thoseOnLeft_6 fl_River_18 (by first | assumption | decide) ?_
    refine ev_icmp_ge 37 hC d_River_thoseOnLeft_9 rfl (fun h => absurd h (by rw [hc]; exact nI_ge (by omega) (by omega))) (fun _ => ?_)
    refine ev_aload_n rfl hC d_River_thoseOnLeft_12 ?_
    refine gv_River_people hC d_River_thoseOnLeft_13 fl_River_26 (by first | assumption | decide) ?_
    refine ev_iload_n rfl hC d_River_thoseOnLeft_16 ?_
    refine gr_people hC d_River_thoseOnLeft_17 (by first | assumption | decide) (by first | assumption | omega) ?_
    refine gn_One_bank hC d_River_thoseOnLeft_18 fl_River_81 (by first | assumption | decide) (by first | assumption | omega) ?_
    refine ev_iconst (v := 1) rfl hC d_River_thoseOnLeft_21 ?_
    refine ev_icmp_ne 31 hC d_River_thoseOnLeft_22 rfl (fun h_22 => ?_) (fun h_22 => ?_)
    · refine ev_iinc rfl (by decide) (nI_1 _) hC d_River_thoseOnLeft_31 ?_
      refine ev_goto 4 hC d_River_thoseOnLeft_34 rfl ?_
      exact ih (i + 1) M _ (by omega) hc (by rw [he.1, he.2, show setF (fun i => decide (M.1 r (28 + 7 * i + 1) = 1)) (m + 1) i s = setF (fun i => decide (M.1 r (28 + 7 * i + 1) = 1)) m (i + 1) s by rw [setF, if_neg (by simp [h_22])]]; exact ⟨rfl, rfl⟩)
    · refine ev_iload_n rfl hC d_River_thoseOnLeft_25 ?_
      refine ev_iconst (v := 1) rfl hC d_River_thoseOnLeft_26 ?_
      refine ev_iload_n rfl hC d_River_thoseOnLeft_27 ?_
      refine ev_ishl hC d_River_thoseOnLeft_28 ?_
      refine ev_ior hC d_River_thoseOnLeft_29 ?_
      refine ev_istore_n (by decide) hC d_River_thoseOnLeft_30 ?_
      refine ev_iinc rfl (by decide) (nI_1 _) hC d_River_thoseOnLeft_31 ?_
      refine ev_goto 4 hC d_River_thoseOnLeft_34 rfl ?_
      exact ih (i + 1) M _ (by omega) hc (by rw [he.1, he.2, show setF (fun i => decide (M.1 r (28 + 7 * i + 1) = 1)) (m + 1) i s = setF (fun i => decide (M.1 r (28 + 7 * i + 1) = 1)) m (i + 1) (s ||| ((1 : Int32) <<< (nI i &&& 31))) by rw [setF, if_pos (by simp [h_22])]]; exact ⟨rfl, rfl⟩)

set_option maxHeartbeats 2000000 in
set_option maxRecDepth 10000 in
theorem c_River_thoseOnLeft {G : ex_G} {M : ex_M} {r n : Nat} (hn : n ≤ 8) (hr : r < 3) (hc : M.1 r 3 = nI n) : Con G Y_River_thoseOnLeft 0 0 0 0 [.ref (ex_b G + aR r)] (ce G M) (some (.int (setF (fun i => decide (M.1 r (28 + 7 * i + 1) = 1)) n 0 0))) (ce G (M)) := by
  refine Con.ofF (plainFor_of_name (by decide +kernel)) (Nat.le_of_ble_eq_true rfl) (fun C hC hR => ?_)
  show Ev G C Y_River_thoseOnLeft 0 [some (.ref (ex_b G + aR r))] [] 0 0 (ce G M)
  refine ev_iconst (v := 0) rfl hC d_River_thoseOnLeft_0 ?_
  refine ev_istore_n (by decide) hC d_River_thoseOnLeft_1 ?_
  refine ev_iconst (v := nI 0) rfl hC d_River_thoseOnLeft_2 ?_
  refine ev_istore_n (by decide) hC d_River_thoseOnLeft_3 ?_
  exact lp_River_thoseOnLeft hn hr hC hR n 0 M 0 (by omega) hc ⟨rfl, rfl⟩

set_option maxHeartbeats 4000000 in
set_option maxRecDepth 10000 in
theorem lp_River_thoseWhoKnow {G : ex_G} {C : ex_C} {rr : Option Value} {ee : List va_E} {r n : Nat} {e : Int32} (hn : n ≤ 8) (hr : r < 3) (hC : Cx G C Y_River_thoseWhoKnow { frames := 1, cells := 0, slots := 0, locals := 21 }) (hR : Cr G C Y_River_thoseWhoKnow 0 0 rr ee) :
    ∀ (m i : Nat) (M : ex_M) (s : Int32), i + m = n → M.1 r 3 = nI n → rr = some (.int (setF (fun i => hb (M.1 r (28 + 7 * i + 6)) e) m i s)) ∧ ee = ce G M → Ev G C Y_River_thoseWhoKnow 4 [some (.ref (ex_b G + aR r)), some (.int e), some (.int s), some (.int (nI i))] [] 0 0 (ce G (M)) := by
  intro m
  induction m with
  | zero =>
    intro i M s hm hc he
    refine ev_iload_n rfl hC d_River_thoseWhoKnow_4 ?_
    refine ev_aload_n rfl hC d_River_thoseWhoKnow_5 ?_
    refine gv_River_peopleCount hC d_River_thoseWhoKnow_6 fl_River_18 (by first | assumption | decide) ?_
    refine ev_icmp_ge 37 hC d_River_thoseWhoKnow_9 rfl (fun _ => ?_) (fun h => absurd (by rw [hc]; exact nI_le (by omega) (by omega)) h)
    refine ev_iload_n rfl hC d_River_thoseWhoKnow_37 ?_
    exact ev_iret hC hR d_River_thoseWhoKnow_38 rfl (by rw [he.1, setF]) (he.2)
  | succ m ih =>
    intro i M s hm hc he
    have hi : i < 8 := by omega
    refine ev_iload_n rfl hC d_River_thoseWhoKnow_4 ?_
    refine ev_aload_n rfl hC d_River_thoseWhoKnow_5 ?_
    refine gv_River_peopleCount hC d_River_thoseWhoKnow_6 fl_River_18 (by first | assumption | decide) ?_
    refine ev_icmp_ge 37 hC d_River_thoseWhoKnow_9 rfl (fun h => absurd h (by rw [hc]; exact nI_ge (by omega) (by omega))) (fun _ => ?_)
    refine ev_aload_n rfl hC d_River_thoseWhoKnow_12 ?_
    refine gv_River_people hC d_River_thoseWhoKnow_13 fl_River_26 (by first | assumption | decide) ?_
    refine ev_iload_n rfl hC d_River_thoseWhoKnow_16 ?_
    refine gr_people hC d_River_thoseWhoKnow_17 (by first | assumption | decide) (by first | assumption | omega) ?_
    refine ev_iload_n rfl hC d_River_thoseWhoKnow_18 ?_
    refine cv_One1 hC d_River_thoseWhoKnow_19 (c_One_hasHeard (by first | assumption | omega) (by first | assumption | omega)) mi_One_hasHeard ml_River_100 im_One_hasHeard se_One_hasHeard rfl ⟨Nat.le_of_ble_eq_true rfl, Nat.le_of_ble_eq_true rfl⟩ ⟨Nat.le_of_ble_eq_true rfl, Nat.le_of_ble_eq_true rfl⟩ rfl rfl (Nat.le_of_ble_eq_true rfl) (by first | assumption | decide) (by first | assumption | omega) ?_
    refine eb_eq 31 hC d_River_thoseWhoKnow_22 rfl (fun h_22 => ?_) (fun h_22 => ?_)
    · refine ev_iinc rfl (by decide) (nI_1 _) hC d_River_thoseWhoKnow_31 ?_
      refine ev_goto 4 hC d_River_thoseWhoKnow_34 rfl ?_
      exact ih (i + 1) M _ (by omega) hc (by rw [he.1, he.2, show setF (fun i => hb (M.1 r (28 + 7 * i + 6)) e) (m + 1) i s = setF (fun i => hb (M.1 r (28 + 7 * i + 6)) e) m (i + 1) s by rw [setF, if_neg (by simp [h_22])]]; exact ⟨rfl, rfl⟩)
    · refine ev_iload_n rfl hC d_River_thoseWhoKnow_25 ?_
      refine ev_iconst (v := 1) rfl hC d_River_thoseWhoKnow_26 ?_
      refine ev_iload_n rfl hC d_River_thoseWhoKnow_27 ?_
      refine ev_ishl hC d_River_thoseWhoKnow_28 ?_
      refine ev_ior hC d_River_thoseWhoKnow_29 ?_
      refine ev_istore_n (by decide) hC d_River_thoseWhoKnow_30 ?_
      refine ev_iinc rfl (by decide) (nI_1 _) hC d_River_thoseWhoKnow_31 ?_
      refine ev_goto 4 hC d_River_thoseWhoKnow_34 rfl ?_
      exact ih (i + 1) M _ (by omega) hc (by rw [he.1, he.2, show setF (fun i => hb (M.1 r (28 + 7 * i + 6)) e) (m + 1) i s = setF (fun i => hb (M.1 r (28 + 7 * i + 6)) e) m (i + 1) (s ||| ((1 : Int32) <<< (nI i &&& 31))) by rw [setF, if_pos (by simp [h_22])]]; exact ⟨rfl, rfl⟩)

set_option maxHeartbeats 2000000 in
set_option maxRecDepth 10000 in
theorem c_River_thoseWhoKnow {G : ex_G} {M : ex_M} {r n : Nat} {e : Int32} (hn : n ≤ 8) (hr : r < 3) (hc : M.1 r 3 = nI n) : Con G Y_River_thoseWhoKnow 1 21 0 0 [.ref (ex_b G + aR r), .int e] (ce G M) (some (.int (setF (fun i => hb (M.1 r (28 + 7 * i + 6)) e) n 0 0))) (ce G (M)) := by
  refine Con.ofF (plainFor_of_name (by decide +kernel)) (Nat.le_of_ble_eq_true rfl) (fun C hC hR => ?_)
  show Ev G C Y_River_thoseWhoKnow 0 [some (.ref (ex_b G + aR r)), some (.int e)] [] 0 0 (ce G M)
  refine ev_iconst (v := 0) rfl hC d_River_thoseWhoKnow_0 ?_
  refine ev_istore_n (by decide) hC d_River_thoseWhoKnow_1 ?_
  refine ev_iconst (v := nI 0) rfl hC d_River_thoseWhoKnow_2 ?_
  refine ev_istore_n (by decide) hC d_River_thoseWhoKnow_3 ?_
  exact lp_River_thoseWhoKnow hn hr hC hR n 0 M 0 (by omega) hc ⟨rfl, rfl⟩

set_option maxHeartbeats 4000000 in
set_option maxRecDepth 10000 in
theorem lp_River_metEvents {G : ex_G} {C : ex_C} {rr : Option Value} {ee : List va_E} {r n : Nat} (hn : n ≤ 8) (hr : r < 3) (hC : Cx G C Y_River_metEvents { frames := 0, cells := 0, slots := 0, locals := 0 }) (hR : Cr G C Y_River_metEvents 0 0 rr ee) :
    ∀ (m i : Nat) (M : ex_M) (s : Int32), i + m = n → M.1 r 2 = nI n → rr = some (.int (setF (fun i => !decide (M.1 r (4 + 3 * i + 2) = 0)) m i s)) ∧ ee = ce G M → Ev G C Y_River_metEvents 4 [some (.ref (ex_b G + aR r)), some (.int s), some (.int (nI i))] [] 0 0 (ce G (M)) := by
  intro m
  induction m with
  | zero =>
    intro i M s hm hc he
    refine ev_iload_n rfl hC d_River_metEvents_4 ?_
    refine ev_aload_n rfl hC d_River_metEvents_5 ?_
    refine gv_River_eventCount hC d_River_metEvents_6 fl_River_21 (by first | assumption | decide) ?_
    refine ev_icmp_ge 36 hC d_River_metEvents_9 rfl (fun _ => ?_) (fun h => absurd (by rw [hc]; exact nI_le (by omega) (by omega)) h)
    refine ev_iload_n rfl hC d_River_metEvents_36 ?_
    exact ev_iret hC hR d_River_metEvents_37 rfl (by rw [he.1, setF]) (he.2)
  | succ m ih =>
    intro i M s hm hc he
    have hi : i < 8 := by omega
    refine ev_iload_n rfl hC d_River_metEvents_4 ?_
    refine ev_aload_n rfl hC d_River_metEvents_5 ?_
    refine gv_River_eventCount hC d_River_metEvents_6 fl_River_21 (by first | assumption | decide) ?_
    refine ev_icmp_ge 36 hC d_River_metEvents_9 rfl (fun h => absurd h (by rw [hc]; exact nI_ge (by omega) (by omega))) (fun _ => ?_)
    refine ev_aload_n rfl hC d_River_metEvents_12 ?_
    refine gv_River_events hC d_River_metEvents_13 fl_River_33 (by first | assumption | decide) ?_
    refine ev_iload_n rfl hC d_River_metEvents_16 ?_
    refine gr_events hC d_River_metEvents_17 (by first | assumption | decide) (by first | assumption | omega) ?_
    refine gn_Event_met hC d_River_metEvents_18 fl_River_67 (by first | assumption | decide) (by first | assumption | omega) ?_
    refine ev_if_eq 30 hC d_River_metEvents_21 rfl (fun h_21 => ?_) (fun h_21 => ?_)
    · refine ev_iinc rfl (by decide) (nI_1 _) hC d_River_metEvents_30 ?_
      refine ev_goto 4 hC d_River_metEvents_33 rfl ?_
      exact ih (i + 1) M _ (by omega) hc (by rw [he.1, he.2, show setF (fun i => !decide (M.1 r (4 + 3 * i + 2) = 0)) (m + 1) i s = setF (fun i => !decide (M.1 r (4 + 3 * i + 2) = 0)) m (i + 1) s by rw [setF, if_neg (by simp [h_21])]]; exact ⟨rfl, rfl⟩)
    · refine ev_iload_n rfl hC d_River_metEvents_24 ?_
      refine ev_iconst (v := 1) rfl hC d_River_metEvents_25 ?_
      refine ev_iload_n rfl hC d_River_metEvents_26 ?_
      refine ev_ishl hC d_River_metEvents_27 ?_
      refine ev_ior hC d_River_metEvents_28 ?_
      refine ev_istore_n (by decide) hC d_River_metEvents_29 ?_
      refine ev_iinc rfl (by decide) (nI_1 _) hC d_River_metEvents_30 ?_
      refine ev_goto 4 hC d_River_metEvents_33 rfl ?_
      exact ih (i + 1) M _ (by omega) hc (by rw [he.1, he.2, show setF (fun i => !decide (M.1 r (4 + 3 * i + 2) = 0)) (m + 1) i s = setF (fun i => !decide (M.1 r (4 + 3 * i + 2) = 0)) m (i + 1) (s ||| ((1 : Int32) <<< (nI i &&& 31))) by rw [setF, if_pos (by simp [h_21])]]; exact ⟨rfl, rfl⟩)

set_option maxHeartbeats 2000000 in
set_option maxRecDepth 10000 in
theorem c_River_metEvents {G : ex_G} {M : ex_M} {r n : Nat} (hn : n ≤ 8) (hr : r < 3) (hc : M.1 r 2 = nI n) : Con G Y_River_metEvents 0 0 0 0 [.ref (ex_b G + aR r)] (ce G M) (some (.int (setF (fun i => !decide (M.1 r (4 + 3 * i + 2) = 0)) n 0 0))) (ce G (M)) := by
  refine Con.ofF (plainFor_of_name (by decide +kernel)) (Nat.le_of_ble_eq_true rfl) (fun C hC hR => ?_)
  show Ev G C Y_River_metEvents 0 [some (.ref (ex_b G + aR r))] [] 0 0 (ce G M)
  refine ev_iconst (v := 0) rfl hC d_River_metEvents_0 ?_
  refine ev_istore_n (by decide) hC d_River_metEvents_1 ?_
  refine ev_iconst (v := nI 0) rfl hC d_River_metEvents_2 ?_
  refine ev_istore_n (by decide) hC d_River_metEvents_3 ?_
  exact lp_River_metEvents hn hr hC hR n 0 M 0 (by omega) hc ⟨rfl, rfl⟩

set_option maxHeartbeats 4000000 in
set_option maxRecDepth 10000 in
theorem lp_River_allKnown {G : ex_G} {C : ex_C} {rr : Option Value} {ee : List va_E} {r n : Nat} (hn : n ≤ 8) (hr : r < 3) (hC : Cx G C Y_River_allKnown { frames := 1, cells := 0, slots := 0, locals := 20 }) (hR : Cr G C Y_River_allKnown 0 0 rr ee) :
    ∀ (m i : Nat) (M : ex_M) (s : Int32), i + m = n → M.1 r 3 = nI n ∧ (∀ j, j < n → ∃ k, k < 256 ∧ M.1 r (28 + 7 * j + 6) = nI k) → rr = some (.int (cntF (M.1 r) m i s)) ∧ ee = ce G M → Ev G C Y_River_allKnown 4 [some (.ref (ex_b G + aR r)), some (.int s), some (.int (nI i))] [] 0 0 (ce G (M)) := by
  intro m
  induction m with
  | zero =>
    intro i M s hm hc he
    refine ev_iload_n rfl hC d_River_allKnown_4 ?_
    refine ev_aload_n rfl hC d_River_allKnown_5 ?_
    refine gv_River_peopleCount hC d_River_allKnown_6 fl_River_18 (by first | assumption | decide) ?_
    refine ev_icmp_ge 33 hC d_River_allKnown_9 rfl (fun _ => ?_) (fun h => absurd (by rw [hc.1]; exact nI_le (by omega) (by omega)) h)
    refine ev_iload_n rfl hC d_River_allKnown_33 ?_
    exact ev_iret hC hR d_River_allKnown_34 rfl (by rw [he.1, cntF]) (he.2)
  | succ m ih =>
    intro i M s hm hc he
    have hi : i < 8 := by omega
    refine ev_iload_n rfl hC d_River_allKnown_4 ?_
    refine ev_aload_n rfl hC d_River_allKnown_5 ?_
    refine gv_River_peopleCount hC d_River_allKnown_6 fl_River_18 (by first | assumption | decide) ?_
    refine ev_icmp_ge 33 hC d_River_allKnown_9 rfl (fun h => absurd h (by rw [hc.1]; exact nI_ge (by omega) (by omega))) (fun _ => ?_)
    obtain ⟨kk, hk, ek⟩ := hc.2 i (by omega)
    refine ev_iload_n rfl hC d_River_allKnown_12 ?_
    refine ev_aload_n rfl hC d_River_allKnown_13 ?_
    refine gv_River_people hC d_River_allKnown_14 fl_River_26 (by first | assumption | decide) ?_
    refine ev_iload_n rfl hC d_River_allKnown_17 ?_
    refine gr_people hC d_River_allKnown_18 (by first | assumption | decide) (by first | assumption | omega) ?_
    refine gn_One_knows hC d_River_allKnown_19 fl_River_88 (by first | assumption | decide) (by first | assumption | omega) ?_
    rw [ek]
    refine cs_1 hC d_River_allKnown_22 (c_Int_bitCount (by first | assumption | omega)) mi_Int_bitCount ml_River_118 sm_Int_bitCount ⟨Nat.le_of_ble_eq_true rfl, Nat.le_of_ble_eq_true rfl⟩ ⟨Nat.le_of_ble_eq_true rfl, Nat.le_of_ble_eq_true rfl⟩ rfl rfl (Nat.le_of_ble_eq_true rfl) ?_
    refine ev_iadd hC d_River_allKnown_25 ?_
    refine ev_istore_n (by decide) hC d_River_allKnown_26 ?_
    refine ev_iinc rfl (by decide) (nI_1 _) hC d_River_allKnown_27 ?_
    refine ev_goto 4 hC d_River_allKnown_30 rfl ?_
    exact ih (i + 1) M _ (by omega) hc (by rw [he.1, he.2, cntF, ek, nI_clamp (by omega)]; exact ⟨rfl, rfl⟩)

set_option maxHeartbeats 2000000 in
set_option maxRecDepth 10000 in
theorem c_River_allKnown {G : ex_G} {M : ex_M} {r n : Nat} (hn : n ≤ 8) (hr : r < 3) (hc : M.1 r 3 = nI n) (hk : ∀ j, j < n → ∃ k, k < 256 ∧ M.1 r (28 + 7 * j + 6) = nI k) : Con G Y_River_allKnown 1 20 0 0 [.ref (ex_b G + aR r)] (ce G M) (some (.int (cntF (M.1 r) n 0 0))) (ce G (M)) := by
  refine Con.ofF (plainFor_of_name (by decide +kernel)) (Nat.le_of_ble_eq_true rfl) (fun C hC hR => ?_)
  show Ev G C Y_River_allKnown 0 [some (.ref (ex_b G + aR r))] [] 0 0 (ce G M)
  refine ev_iconst (v := 0) rfl hC d_River_allKnown_0 ?_
  refine ev_istore_n (by decide) hC d_River_allKnown_1 ?_
  refine ev_iconst (v := nI 0) rfl hC d_River_allKnown_2 ?_
  refine ev_istore_n (by decide) hC d_River_allKnown_3 ?_
  exact lp_River_allKnown hn hr hC hR n 0 M 0 (by omega) ⟨hc, hk⟩ ⟨rfl, rfl⟩

set_option maxHeartbeats 4000000 in
set_option maxRecDepth 10000 in
theorem lp_River_sendAway {G : ex_G} {C : ex_C} {ee : List va_E} {r n : Nat} {g : Int32} (hn : n ≤ 8) (hn0 : 0 < n) (hr : r < 3) (hC : Cx G C Y_River_sendAway { frames := 1, cells := 0, slots := 0, locals := 21 }) (hR : Cr G C Y_River_sendAway 0 0 none ee) :
    ∀ (m i : Nat) (M : ex_M), i + m = n - 1 → M.1 r 3 = nI n → ee = ce G (mI M r (upd (rp fGo m i (M.1 r)) 3 (nI (n - 1)))) → Ev G C Y_River_sendAway 2 [some (.ref (ex_b G + aR r)), some (.int g), some (.int (nI i))] [] 0 0 (ce G (M)) := by
  intro m
  induction m with
  | zero =>
    intro i M hm hc he
    refine ev_iload_n rfl hC d_River_sendAway_2 ?_
    refine ev_aload_n rfl hC d_River_sendAway_3 ?_
    refine gv_River_peopleCount hC d_River_sendAway_4 fl_River_18 (by first | assumption | decide) ?_
    refine ev_iconst (v := 1) rfl hC d_River_sendAway_7 ?_
    refine ev_isub hC d_River_sendAway_8 ?_
    refine ev_icmp_ge 35 hC d_River_sendAway_9 rfl (fun _ => ?_) (fun h => absurd (by rw [hc, show nI n - 1 = nI (n - 1) by rw [show n = n - 1 + 1 by omega]; exact nI_pred _]; exact nI_le (by omega) (by omega)) h)
    refine ev_aload_n rfl hC d_River_sendAway_35 ?_
    refine ev_dup rfl hC d_River_sendAway_36 ?_
    refine gv_River_peopleCount hC d_River_sendAway_37 fl_River_18 (by first | assumption | decide) ?_
    refine ev_iconst (v := 1) rfl hC d_River_sendAway_40 ?_
    refine ev_isub hC d_River_sendAway_41 ?_
    refine pv_River_peopleCount hC d_River_sendAway_42 fl_River_18 (by first | assumption | decide) ?_
    exact ev_vret hC hR d_River_sendAway_45 rfl rfl (by rw [he, rp, hc, show nI n - 1 = nI (n - 1) by rw [show n = n - 1 + 1 by omega]; exact nI_pred _])
  | succ m ih =>
    intro i M hm hc he
    have hi : i < 8 := by omega
    refine ev_iload_n rfl hC d_River_sendAway_2 ?_
    refine ev_aload_n rfl hC d_River_sendAway_3 ?_
    refine gv_River_peopleCount hC d_River_sendAway_4 fl_River_18 (by first | assumption | decide) ?_
    refine ev_iconst (v := 1) rfl hC d_River_sendAway_7 ?_
    refine ev_isub hC d_River_sendAway_8 ?_
    refine ev_icmp_ge 35 hC d_River_sendAway_9 rfl (fun h => absurd h (by rw [hc, show nI n - 1 = nI (n - 1) by rw [show n = n - 1 + 1 by omega]; exact nI_pred _]; exact nI_ge (by omega) (by omega))) (fun _ => ?_)
    refine ev_aload_n rfl hC d_River_sendAway_12 ?_
    refine gv_River_people hC d_River_sendAway_13 fl_River_26 (by first | assumption | decide) ?_
    refine ev_iload_n rfl hC d_River_sendAway_16 ?_
    refine gr_people hC d_River_sendAway_17 (by first | assumption | decide) (by first | assumption | omega) ?_
    refine ev_aload_n rfl hC d_River_sendAway_18 ?_
    refine gv_River_people hC d_River_sendAway_19 fl_River_26 (by first | assumption | decide) ?_
    refine ev_iload_n rfl hC d_River_sendAway_22 ?_
    refine ev_iconst (v := 1) rfl hC d_River_sendAway_23 ?_
    refine ev_iadd hC d_River_sendAway_24 ?_
    rw [nI_1]
    refine gr_people hC d_River_sendAway_25 (by first | assumption | decide) (by first | assumption | omega) ?_
    refine cv_One0 hC d_River_sendAway_26 (c_One_become_s hr hi (by omega) (by omega)) mi_One_become ml_River_38 im_One_become se_One_become rfl ⟨Nat.le_of_ble_eq_true rfl, Nat.le_of_ble_eq_true rfl⟩ ⟨Nat.le_of_ble_eq_true rfl, Nat.le_of_ble_eq_true rfl⟩ rfl rfl (Nat.le_of_ble_eq_true rfl) (by first | assumption | decide) (by first | assumption | omega) ?_
    refine ev_iinc rfl (by decide) (nI_1 _) hC d_River_sendAway_29 ?_
    refine ev_goto 2 hC d_River_sendAway_32 rfl ?_
    exact ih (i + 1) _ (by omega) (by simp only [mI, wr_s]; rw [oCpy_lo (by omega)]; exact hc) (by rw [he, rp, show fGo i (M.1 r) = oCpy (M.1 r) i (M.1 r) (i + 1) from rfl]; simp only [mI, wr_wr, wr_s])

set_option maxHeartbeats 2000000 in
set_option maxRecDepth 10000 in
theorem c_River_sendAway {G : ex_G} {M : ex_M} {r n g : Nat} (hn : n ≤ 8) (hr : r < 3) (hg : g < n) (hc : M.1 r 3 = nI n) : Con G Y_River_sendAway 1 21 0 0 [.ref (ex_b G + aR r), .int (nI g)] (ce G M) (none) (ce G (mI M r (sendAw g n (M.1 r)))) := by
  refine Con.ofF (plainFor_of_name (by decide +kernel)) (Nat.le_of_ble_eq_true rfl) (fun C hC hR => ?_)
  show Ev G C Y_River_sendAway 0 [some (.ref (ex_b G + aR r)), some (.int (nI g))] [] 0 0 (ce G M)
  refine ev_iload_n rfl hC d_River_sendAway_0 ?_
  refine ev_istore_n (by decide) hC d_River_sendAway_1 ?_
  exact lp_River_sendAway hn (by omega) hr hC hR (n - 1 - g) g M (by omega) hc rfl

set_option maxHeartbeats 4000000 in
set_option maxRecDepth 10000 in
theorem lp_River_become2 {G : ex_G} {C : ex_C} {ee : List va_E} {r r2 n : Nat} (hn : n ≤ 8) (hr : r < 3) (hr2 : r2 < 3) (hne : r2 ≠ r) (hC : Cx G C Y_River_become { frames := 1, cells := 0, slots := 0, locals := 21 }) (hR : Cr G C Y_River_become 0 0 none ee) :
    ∀ (m i : Nat) (M : ex_M), i + m = n → M.1 r 2 = nI n ∧ (∀ e, e < n → M.1 r2 (4 + 3 * e + 2) = 0 ∨ M.1 r2 (4 + 3 * e + 2) = 1) → ee = ce G (mI M r (rp (fCpE (M.1 r2)) m i (M.1 r))) → Ev G C Y_River_become 65 [some (.ref (ex_b G + aR r)), some (.ref (ex_b G + aR r2)), some (.int (nI i))] [] 0 0 (ce G (M)) := by
  intro m
  induction m with
  | zero =>
    intro i M hm hc he
    refine ev_iload_n rfl hC d_River_become_65 ?_
    refine ev_aload_n rfl hC d_River_become_66 ?_
    refine gv_River_eventCount hC d_River_become_67 fl_River_21 (by first | assumption | decide) ?_
    refine ev_icmp_ge 94 hC d_River_become_70 rfl (fun _ => ?_) (fun h => absurd (by rw [hc.1]; exact nI_le (by omega) (by omega)) h)
    exact ev_vret hC hR d_River_become_94 rfl rfl (by rw [he, rp, mI_id])
  | succ m ih =>
    intro i M hm hc he
    have hi : i < 8 := by omega
    refine ev_iload_n rfl hC d_River_become_65 ?_
    refine ev_aload_n rfl hC d_River_become_66 ?_
    refine gv_River_eventCount hC d_River_become_67 fl_River_21 (by first | assumption | decide) ?_
    refine ev_icmp_ge 94 hC d_River_become_70 rfl (fun h => absurd h (by rw [hc.1]; exact nI_ge (by omega) (by omega))) (fun _ => ?_)
    refine ev_aload_n rfl hC d_River_become_73 ?_
    refine gv_River_events hC d_River_become_74 fl_River_33 (by first | assumption | decide) ?_
    refine ev_iload_n rfl hC d_River_become_77 ?_
    refine gr_events hC d_River_become_78 (by first | assumption | decide) (by first | assumption | omega) ?_
    refine ev_aload_n rfl hC d_River_become_79 ?_
    refine gv_River_events hC d_River_become_80 fl_River_33 (by first | assumption | decide) ?_
    refine ev_iload_n rfl hC d_River_become_83 ?_
    refine gr_events hC d_River_become_84 (by first | assumption | decide) (by first | assumption | omega) ?_
    refine cv_Event0 hC d_River_become_85 (c_Event_become hr hi hr2 hi hne (hc.2 i (by omega))) mi_Event_become ml_River_42 im_Event_become se_Event_become rfl ⟨Nat.le_of_ble_eq_true rfl, Nat.le_of_ble_eq_true rfl⟩ ⟨Nat.le_of_ble_eq_true rfl, Nat.le_of_ble_eq_true rfl⟩ rfl rfl (Nat.le_of_ble_eq_true rfl) (by first | assumption | decide) (by first | assumption | omega) ?_
    refine ev_iinc rfl (by decide) (nI_1 _) hC d_River_become_88 ?_
    refine ev_goto 65 hC d_River_become_91 rfl ?_
    exact ih (i + 1) _ (by omega) (by simp only [mI, wr_s, wr_n hne]; rw [eCpy_lo (by omega)]; exact hc) (by rw [he, rp]; simp only [mI, wr_wr, wr_s, wr_n hne]; rfl)

set_option maxHeartbeats 4000000 in
set_option maxRecDepth 10000 in
theorem lp_River_become1 {G : ex_G} {C : ex_C} {ee : List va_E} {r r2 n ne : Nat} (hn : n ≤ 8) (hne8 : ne ≤ 8) (hr : r < 3) (hr2 : r2 < 3) (hne : r2 ≠ r) (hC : Cx G C Y_River_become { frames := 1, cells := 0, slots := 0, locals := 21 }) (hR : Cr G C Y_River_become 0 0 none ee) :
    ∀ (m i : Nat) (M : ex_M), i + m = n → M.1 r 3 = nI n ∧ M.1 r 2 = nI ne ∧ (∀ e, e < ne → M.1 r2 (4 + 3 * e + 2) = 0 ∨ M.1 r2 (4 + 3 * e + 2) = 1) → ee = ce G (mI M r (rp (fCpE (M.1 r2)) ne 0 (rp (fCpO (M.1 r2)) m i (M.1 r)))) → Ev G C Y_River_become 34 [some (.ref (ex_b G + aR r)), some (.ref (ex_b G + aR r2)), some (.int (nI i))] [] 0 0 (ce G (M)) := by
  intro m
  induction m with
  | zero =>
    intro i M hm hc he
    refine ev_iload_n rfl hC d_River_become_34 ?_
    refine ev_aload_n rfl hC d_River_become_35 ?_
    refine gv_River_peopleCount hC d_River_become_36 fl_River_18 (by first | assumption | decide) ?_
    refine ev_icmp_ge 63 hC d_River_become_39 rfl (fun _ => ?_) (fun h => absurd (by rw [hc.1]; exact nI_le (by omega) (by omega)) h)
    refine ev_iconst (v := nI 0) rfl hC d_River_become_63 ?_
    refine ev_istore_n (by decide) hC d_River_become_64 ?_
    exact lp_River_become2 hne8 hr hr2 hne hC hR ne 0 M (by omega) hc.2 (by rw [he, rp])
  | succ m ih =>
    intro i M hm hc he
    have hi : i < 8 := by omega
    refine ev_iload_n rfl hC d_River_become_34 ?_
    refine ev_aload_n rfl hC d_River_become_35 ?_
    refine gv_River_peopleCount hC d_River_become_36 fl_River_18 (by first | assumption | decide) ?_
    refine ev_icmp_ge 63 hC d_River_become_39 rfl (fun h => absurd h (by rw [hc.1]; exact nI_ge (by omega) (by omega))) (fun _ => ?_)
    refine ev_aload_n rfl hC d_River_become_42 ?_
    refine gv_River_people hC d_River_become_43 fl_River_26 (by first | assumption | decide) ?_
    refine ev_iload_n rfl hC d_River_become_46 ?_
    refine gr_people hC d_River_become_47 (by first | assumption | decide) (by first | assumption | omega) ?_
    refine ev_aload_n rfl hC d_River_become_48 ?_
    refine gv_River_people hC d_River_become_49 fl_River_26 (by first | assumption | decide) ?_
    refine ev_iload_n rfl hC d_River_become_52 ?_
    refine gr_people hC d_River_become_53 (by first | assumption | decide) (by first | assumption | omega) ?_
    refine cv_One0 hC d_River_become_54 (c_One_become_x hr hi hr2 hi hne) mi_One_become ml_River_38 im_One_become se_One_become rfl ⟨Nat.le_of_ble_eq_true rfl, Nat.le_of_ble_eq_true rfl⟩ ⟨Nat.le_of_ble_eq_true rfl, Nat.le_of_ble_eq_true rfl⟩ rfl rfl (Nat.le_of_ble_eq_true rfl) (by first | assumption | decide) (by first | assumption | omega) ?_
    refine ev_iinc rfl (by decide) (nI_1 _) hC d_River_become_57 ?_
    refine ev_goto 34 hC d_River_become_60 rfl ?_
    exact ih (i + 1) _ (by omega) (by simp only [mI, wr_s, wr_n hne]; rw [oCpy_lo (by omega), oCpy_lo (by omega)]; exact hc) (by rw [he, rp]; simp only [mI, wr_wr, wr_s, wr_n hne]; rfl)

set_option maxHeartbeats 2000000 in
set_option maxRecDepth 10000 in
theorem c_River_become {G : ex_G} {M : ex_M} {r r2 n ne : Nat} (hn : n ≤ 8) (hne8 : ne ≤ 8) (hr : r < 3) (hr2 : r2 < 3) (hne : r2 ≠ r) (hc : M.1 r2 3 = nI n) (hc2 : M.1 r2 2 = nI ne) (hm : ∀ e, e < ne → M.1 r2 (4 + 3 * e + 2) = 0 ∨ M.1 r2 (4 + 3 * e + 2) = 1) : Con G Y_River_become 1 21 0 0 [.ref (ex_b G + aR r), .ref (ex_b G + aR r2)] (ce G M) (none) (ce G (mI M r (becR (M.1 r) (M.1 r2) n ne))) := by
  refine Con.ofF (plainFor_of_name (by decide +kernel)) (Nat.le_of_ble_eq_true rfl) (fun C hC hR => ?_)
  show Ev G C Y_River_become 0 [some (.ref (ex_b G + aR r)), some (.ref (ex_b G + aR r2))] [] 0 0 (ce G M)
  refine ev_aload_n rfl hC d_River_become_0 ?_
  refine ev_aload_n rfl hC d_River_become_1 ?_
  refine gv_River_hour hC d_River_become_2 fl_River_9 (by first | assumption | decide) ?_
  refine pv_River_hour hC d_River_become_5 fl_River_9 (by first | assumption | decide) ?_
  refine ev_aload_n rfl hC d_River_become_8 ?_
  refine ev_aload_n rfl hC d_River_become_9 ?_
  refine gv_River_toll hC d_River_become_10 fl_River_15 (by first | assumption | decide) ?_
  refine pv_River_toll hC d_River_become_13 fl_River_15 (by first | assumption | decide) ?_
  refine ev_aload_n rfl hC d_River_become_16 ?_
  refine ev_aload_n rfl hC d_River_become_17 ?_
  refine gv_River_peopleCount hC d_River_become_18 fl_River_18 (by first | assumption | decide) ?_
  refine pv_River_peopleCount hC d_River_become_21 fl_River_18 (by first | assumption | decide) ?_
  refine ev_aload_n rfl hC d_River_become_24 ?_
  refine ev_aload_n rfl hC d_River_become_25 ?_
  refine gv_River_eventCount hC d_River_become_26 fl_River_21 (by first | assumption | decide) ?_
  refine pv_River_eventCount hC d_River_become_29 fl_River_21 (by first | assumption | decide) ?_
  refine ev_iconst (v := nI 0) rfl hC d_River_become_32 ?_
  refine ev_istore_n (by decide) hC d_River_become_33 ?_
  refine lp_River_become1 hn hne8 hr hr2 hne hC hR n 0 _ (by omega) ⟨?_, ?_, ?_⟩ ?_
  · simp only [mI, mJ, wr_wr, wr_s, wr_n hne]; rw [ud_n (by omega), ud_s]; exact hc
  · simp only [mI, mJ, wr_wr, wr_s, wr_n hne]; rw [ud_s]; exact hc2
  · simp only [mI, mJ, wr_wr, wr_s, wr_n hne]; exact hm
  · simp only [mI, mJ, wr_wr, wr_s, wr_n hne]; rfl
