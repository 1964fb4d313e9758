def R_hours (M : ex_M) (np ne : Nat) (n : Int32) : Int32 × ex_M := bif out n 1 72 then rbad M 0 else if M.1 10 0 + n ≤ 9999 then (sumF (hoursR (M.1 14 1) np ne (ix n) (M.1 10)) 2 np 0 0, mI M 10 (hoursR (M.1 14 1) np ne (ix n) (M.1 10))) else rbad M 4
def metR (a : Nat → Int32) (ne : Nat) : Int32 := setF (fun i => decide (a (4 + 3 * i + 2) = 1)) ne 0 0
def R_now (M : ex_M) (np ne : Nat) (w : Int32) : Int32 × ex_M := if w = 0 then (M.1 10 0, M) else if w = 1 then (M.1 10 0 - M.1 10 0 / 24 * 24, M) else if w = 2 then (sumF (M.1 10) 2 np 0 0, M) else if w = 3 then (sumF (M.1 10) 5 np 0 0, M) else if w = 4 then (lftS (M.1 10) np, M) else if w = 5 then (metR (M.1 10) ne, M) else rbad M 0
/-- what is only thought: the row is laid aside and put back -/
def asd (M : ex_M) : ex_M := mI M 12 (cpf 84 (M.1 10) (M.1 12))
def bck (M : ex_M) : ex_M := mI M 10 (cpf 84 (M.1 12) (M.1 10))
def thk (M : ex_M) (b : Nat → Int32) : ex_M := bck (mI (asd M) 10 b)
def R_on (M : ex_M) (np ne : Nat) (p n w : Int32) : Int32 × ex_M := bif out p 0 (M.1 10 3 - 1) || (out n 0 72 || out w 0 3) then rbad M 0 else (hoursR (M.1 14 1) np ne (ix n) (M.1 10) (28 + 7 * ix p + fld w), thk M (hoursR (M.1 14 1) np ne (ix n) (M.1 10)))
def orNR (M : ex_M) (v : Int32) : Int32 × ex_M := if 0 ≤ v then (v, M) else rbad M 3
/-- hours go until something stops them, 72 at most: how many, and the row -/
def srR (stop : (Nat → Int32) → Bool) (aw : Int32) (np ne : Nat) : Nat → Nat → (Nat → Int32) → Nat × (Nat → Int32)
  | 0, k, b => (k, b)
  | m + 1, k, b => bif stop b then (k, b) else srR stop aw np ne m (k + 1) (hourR aw np ne b)
def lrnR (stop : (Nat → Int32) → Bool) (z : Nat × (Nat → Int32)) : Int32 := bif stop z.2 then nI z.1 else -1
def zLea (M : ex_M) (np ne : Nat) (p e : Int32) := srR (fun b => hs1 (b (28 + 7 * ix p + 6)) e) (M.1 14 1) np ne 72 0 (M.1 10)
def R_learns (M : ex_M) (np ne : Nat) (p e : Int32) : Int32 × ex_M := bif out p 0 (M.1 10 3 - 1) || out e 0 (M.1 10 2 - 1) then rbad M 0 else orNR (thk M (zLea M np ne p e).2) (lrnR (fun b => hs1 (b (28 + 7 * ix p + 6)) e) (zLea M np ne p e))
def zBro (M : ex_M) (np ne : Nat) (p : Int32) := srR (fun b => !pays b (ix p)) (M.1 14 1) np ne 72 0 (M.1 10)
def R_broke (M : ex_M) (np ne : Nat) (p : Int32) : Int32 × ex_M := bif out p 0 (M.1 10 3 - 1) then rbad M 0 else orNR (thk M (zBro M np ne p).2) (lrnR (fun b => !pays b (ix p)) (zBro M np ne p))
def zFir (M : ex_M) (np ne : Nat) (e : Int32) := srR (fun b => !decide (whoR b np e = 0)) (M.1 14 1) np ne 72 0 (M.1 10)
/-- the least that is in a set -/
def lst (k : Nat) : Int32 := if k = 0 then -1 else nI (ntz k)
def R_first (M : ex_M) (np ne : Nat) (e : Int32) : Int32 × ex_M := bif out e 0 (M.1 10 2 - 1) then rbad M 0 else orNR (thk M (zFir M np ne e).2) (lst (ix (whoR (zFir M np ne e).2 np e)))
def R_met (M : ex_M) (np ne : Nat) (n : Int32) : Int32 × ex_M := bif out n 0 72 then rbad M 0 else (metR (hoursR (M.1 14 1) np ne (ix n) (M.1 10)) ne, thk M (hoursR (M.1 14 1) np ne (ix n) (M.1 10)))

set_option maxHeartbeats 4000000 in
set_option maxRecDepth 10000 in
theorem lp_Mod_hour2 {G : ex_G} {C : ex_C} {ee : List va_E} {aw x : Int32} {n ne : Nat} (hn : n ≤ 8) (hne : ne ≤ 8) (hC : Cx G C Y_Mod_hour { frames := 4, cells := 0, slots := 0, locals := 90 }) (hR : Cr G C Y_Mod_hour 0 0 none ee) :
    ∀ (m i : Nat) (M : ex_M), i + m = ne → M.1 14 1 = aw ∧ HK (M.1 10) n ne → ee = ce G (mI M 10 (upd (rp (fEvR aw n) m i (M.1 10)) 0 (rp (fEvR aw n) m i (M.1 10) 0 + 1))) → Ev G C Y_Mod_hour 82 [some (.ref (ex_b G + 71)), some (.int x), some (.int (nI i))] [] 0 0 (ce G (M)) := by
  intro m
  induction m with
  | zero =>
    intro i M hm hc he
    refine ev_iload_n rfl hC d_Mod_hour_82 ?_
    refine ev_aload_n rfl hC d_Mod_hour_83 ?_
    refine gv_Mod_now hC d_Mod_hour_84 fl_Mod_9  ?_
    refine ev_iconst (v := nI 2) rfl hC d_Mod_hour_87 ?_
    refine ga_now hC d_Mod_hour_88 (by first | assumption | omega) ?_
    refine ev_icmp_ge 152 hC d_Mod_hour_89 rfl (fun _ => ?_) (fun h => absurd (by rw [hc.2.2.2.1]; exact nI_le (by omega) (by omega)) h)
    refine ev_aload_n rfl hC d_Mod_hour_152 ?_
    refine gv_Mod_now hC d_Mod_hour_153 fl_Mod_9  ?_
    refine ev_iconst (v := nI 0) rfl hC d_Mod_hour_156 ?_
    refine ev_dup2 rfl rfl hC d_Mod_hour_157 ?_
    refine ga_now hC d_Mod_hour_158 (by first | assumption | omega) ?_
    refine ev_iconst (v := 1) rfl hC d_Mod_hour_159 ?_
    refine ev_iadd hC d_Mod_hour_160 ?_
    refine pa_now hC d_Mod_hour_161 (by first | assumption | omega) ?_
    exact ev_vret hC hR d_Mod_hour_162 rfl rfl (by rw [he]; rfl)
  | succ m ih =>
    intro i M hm hc he
    have hi : i < 8 := by omega
    refine ev_iload_n rfl hC d_Mod_hour_82 ?_
    refine ev_aload_n rfl hC d_Mod_hour_83 ?_
    refine gv_Mod_now hC d_Mod_hour_84 fl_Mod_9  ?_
    refine ev_iconst (v := nI 2) rfl hC d_Mod_hour_87 ?_
    refine ga_now hC d_Mod_hour_88 (by first | assumption | omega) ?_
    refine ev_icmp_ge 152 hC d_Mod_hour_89 rfl (fun h => absurd h (by rw [hc.2.2.2.1]; exact nI_ge (by omega) (by omega))) (fun _ => ?_)
    refine ev_aload_n rfl hC d_Mod_hour_92 ?_
    refine ev_iload_n rfl hC d_Mod_hour_93 ?_
    refine ev_iconst (v := nI 0) rfl hC d_Mod_hour_94 ?_
    refine cv_Mod1 hC d_Mod_hour_95 (c_Mod_eventIs (by omega) (by omega)) mi_Mod_eventIs ml_Mod_104 im_Mod_eventIs se_Mod_eventIs rfl ⟨Nat.le_of_ble_eq_true rfl, Nat.le_of_ble_eq_true rfl⟩ ⟨Nat.le_of_ble_eq_true rfl, Nat.le_of_ble_eq_true rfl⟩ rfl rfl (Nat.le_of_ble_eq_true rfl)  ?_
    refine ev_aload_n rfl hC d_Mod_hour_98 ?_
    refine gv_Mod_now hC d_Mod_hour_99 fl_Mod_9  ?_
    refine ev_iconst (v := nI 0) rfl hC d_Mod_hour_102 ?_
    refine ga_now hC d_Mod_hour_103 (by first | assumption | omega) ?_
    refine ev_icmp_ne 113 hC d_Mod_hour_104 rfl (fun h_104 => ?_) (fun h_104 => ?_)
    · refine ev_aload_n rfl hC d_Mod_hour_113 ?_
      refine ev_iload_n rfl hC d_Mod_hour_114 ?_
      refine ev_iconst (v := nI 0) rfl hC d_Mod_hour_115 ?_
      refine cv_Mod1 hC d_Mod_hour_116 (c_Mod_eventIs (by omega) (by omega)) mi_Mod_eventIs ml_Mod_104 im_Mod_eventIs se_Mod_eventIs rfl ⟨Nat.le_of_ble_eq_true rfl, Nat.le_of_ble_eq_true rfl⟩ ⟨Nat.le_of_ble_eq_true rfl, Nat.le_of_ble_eq_true rfl⟩ rfl rfl (Nat.le_of_ble_eq_true rfl)  ?_
      refine ev_bipush (v := 24) rfl hC d_Mod_hour_119 ?_
      refine ev_iadd hC d_Mod_hour_121 ?_
      refine ev_aload_n rfl hC d_Mod_hour_122 ?_
      refine gv_Mod_now hC d_Mod_hour_123 fl_Mod_9  ?_
      refine ev_iconst (v := nI 0) rfl hC d_Mod_hour_126 ?_
      refine ga_now hC d_Mod_hour_127 (by first | assumption | omega) ?_
      refine ev_icmp_ne 146 hC d_Mod_hour_128 rfl (fun h_128 => ?_) (fun h_128 => ?_)
      · refine ev_iinc rfl (by decide) (nI_1 _) hC d_Mod_hour_146 ?_
        refine ev_goto 82 hC d_Mod_hour_149 rfl ?_
        exact ih (i + 1) M (by omega) hc (by rw [he, rp, show fEvR aw n i (M.1 10) = M.1 10 by rw [fEvR, show fEv1 aw n i (M.1 10) = M.1 10 from if_neg h_104]; exact if_neg (fun z => h_128 z.1)])
      · refine ev_aload_n rfl hC d_Mod_hour_131 ?_
        refine ev_iload_n rfl hC d_Mod_hour_132 ?_
        refine ev_iconst (v := nI 2) rfl hC d_Mod_hour_133 ?_
        refine cv_Mod1 hC d_Mod_hour_134 (c_Mod_eventIs (by omega) (by omega)) mi_Mod_eventIs ml_Mod_104 im_Mod_eventIs se_Mod_eventIs rfl ⟨Nat.le_of_ble_eq_true rfl, Nat.le_of_ble_eq_true rfl⟩ ⟨Nat.le_of_ble_eq_true rfl, Nat.le_of_ble_eq_true rfl⟩ rfl rfl (Nat.le_of_ble_eq_true rfl)  ?_
        refine ev_if_ne 146 hC d_Mod_hour_137 rfl (fun h_137 => ?_) (fun h_137 => ?_)
        · refine ev_iinc rfl (by decide) (nI_1 _) hC d_Mod_hour_146 ?_
          refine ev_goto 82 hC d_Mod_hour_149 rfl ?_
          exact ih (i + 1) M (by omega) hc (by rw [he, rp, show fEvR aw n i (M.1 10) = M.1 10 by rw [fEvR, show fEv1 aw n i (M.1 10) = M.1 10 from if_neg h_104]; exact if_neg (fun z => h_137 z.2)])
        · refine ev_aload_n rfl hC d_Mod_hour_140 ?_
          refine ev_iload_n rfl hC d_Mod_hour_141 ?_
          refine ev_iconst (v := 1) rfl hC d_Mod_hour_142 ?_
          refine cv_Mod0 hC d_Mod_hour_143 (c_Mod_comesOn hi hc.1 hc.2) mi_Mod_comesOn ml_Mod_169 im_Mod_comesOn se_Mod_comesOn rfl ⟨Nat.le_of_ble_eq_true rfl, Nat.le_of_ble_eq_true rfl⟩ ⟨Nat.le_of_ble_eq_true rfl, Nat.le_of_ble_eq_true rfl⟩ rfl rfl (Nat.le_of_ble_eq_true rfl)  ?_
          refine ev_iinc rfl (by decide) (nI_1 _) hC d_Mod_hour_146 ?_
          refine ev_goto 82 hC d_Mod_hour_149 rfl ?_
          have ef : fEvR aw n i (M.1 10) = rp (fBefR aw i 1) n 0 (M.1 10) := by rw [fEvR, show fEv1 aw n i (M.1 10) = M.1 10 from if_neg h_104]; exact if_pos ⟨h_128, h_137⟩
          refine ih (i + 1) _ (by omega) ⟨hc.1, ?_⟩ ?_
          · simp only [mI, wr_wr, wr_s]
            rw [← ef]
            exact HK_fEvR hi hc.2
          · rw [he, rp, ef]
            simp only [mI, wr_wr, wr_s]
    · refine ev_aload_n rfl hC d_Mod_hour_107 ?_
      refine ev_iload_n rfl hC d_Mod_hour_108 ?_
      refine ev_iconst (v := 0) rfl hC d_Mod_hour_109 ?_
      refine cv_Mod0 hC d_Mod_hour_110 (c_Mod_comesOn hi hc.1 hc.2) mi_Mod_comesOn ml_Mod_169 im_Mod_comesOn se_Mod_comesOn rfl ⟨Nat.le_of_ble_eq_true rfl, Nat.le_of_ble_eq_true rfl⟩ ⟨Nat.le_of_ble_eq_true rfl, Nat.le_of_ble_eq_true rfl⟩ rfl rfl (Nat.le_of_ble_eq_true rfl)  ?_
      refine ev_aload_n rfl hC d_Mod_hour_113 ?_
      refine ev_iload_n rfl hC d_Mod_hour_114 ?_
      refine ev_iconst (v := nI 0) rfl hC d_Mod_hour_115 ?_
      refine cv_Mod1 hC d_Mod_hour_116 (c_Mod_eventIs (by omega) (by omega)) mi_Mod_eventIs ml_Mod_104 im_Mod_eventIs se_Mod_eventIs rfl ⟨Nat.le_of_ble_eq_true rfl, Nat.le_of_ble_eq_true rfl⟩ ⟨Nat.le_of_ble_eq_true rfl, Nat.le_of_ble_eq_true rfl⟩ rfl rfl (Nat.le_of_ble_eq_true rfl)  ?_
      refine ev_bipush (v := 24) rfl hC d_Mod_hour_119 ?_
      refine ev_iadd hC d_Mod_hour_121 ?_
      refine ev_aload_n rfl hC d_Mod_hour_122 ?_
      refine gv_Mod_now hC d_Mod_hour_123 fl_Mod_9  ?_
      refine ev_iconst (v := nI 0) rfl hC d_Mod_hour_126 ?_
      refine ga_now hC d_Mod_hour_127 (by first | assumption | omega) ?_
      refine ev_icmp_ne 146 hC d_Mod_hour_128 rfl (fun h_128 => ?_) (fun h_128 => ?_)
      · refine ev_iinc rfl (by decide) (nI_1 _) hC d_Mod_hour_146 ?_
        refine ev_goto 82 hC d_Mod_hour_149 rfl ?_
        simp only [mI, wr_s] at h_128
        have ef : fEvR aw n i (M.1 10) = rp (fBefR aw i 0) n 0 (M.1 10) := by rw [fEvR, show fEv1 aw n i (M.1 10) = rp (fBefR aw i 0) n 0 (M.1 10) from if_pos h_104]; exact if_neg (fun z => h_128 z.1)
        refine ih (i + 1) _ (by omega) ⟨hc.1, ?_⟩ ?_
        · simp only [mI, wr_wr, wr_s]
          rw [← ef]
          exact HK_fEvR hi hc.2
        · rw [he, rp, ef]
          simp only [mI, wr_wr, wr_s]
      · refine ev_aload_n rfl hC d_Mod_hour_131 ?_
        refine ev_iload_n rfl hC d_Mod_hour_132 ?_
        refine ev_iconst (v := nI 2) rfl hC d_Mod_hour_133 ?_
        refine cv_Mod1 hC d_Mod_hour_134 (c_Mod_eventIs (by omega) (by omega)) mi_Mod_eventIs ml_Mod_104 im_Mod_eventIs se_Mod_eventIs rfl ⟨Nat.le_of_ble_eq_true rfl, Nat.le_of_ble_eq_true rfl⟩ ⟨Nat.le_of_ble_eq_true rfl, Nat.le_of_ble_eq_true rfl⟩ rfl rfl (Nat.le_of_ble_eq_true rfl)  ?_
        refine ev_if_ne 146 hC d_Mod_hour_137 rfl (fun h_137 => ?_) (fun h_137 => ?_)
        · refine ev_iinc rfl (by decide) (nI_1 _) hC d_Mod_hour_146 ?_
          refine ev_goto 82 hC d_Mod_hour_149 rfl ?_
          simp only [mI, wr_s] at h_128 h_137
          have ef : fEvR aw n i (M.1 10) = rp (fBefR aw i 0) n 0 (M.1 10) := by rw [fEvR, show fEv1 aw n i (M.1 10) = rp (fBefR aw i 0) n 0 (M.1 10) from if_pos h_104]; exact if_neg (fun z => h_137 z.2)
          refine ih (i + 1) _ (by omega) ⟨hc.1, ?_⟩ ?_
          · simp only [mI, wr_wr, wr_s]
            rw [← ef]
            exact HK_fEvR hi hc.2
          · rw [he, rp, ef]
            simp only [mI, wr_wr, wr_s]
        · refine ev_aload_n rfl hC d_Mod_hour_140 ?_
          refine ev_iload_n rfl hC d_Mod_hour_141 ?_
          refine ev_iconst (v := 1) rfl hC d_Mod_hour_142 ?_
          refine cv_Mod0 hC d_Mod_hour_143 (c_Mod_comesOn hi (by exact hc.1) (by simp only [mI, wr_s]; exact HK_rpBefR hi hc.2)) mi_Mod_comesOn ml_Mod_169 im_Mod_comesOn se_Mod_comesOn rfl ⟨Nat.le_of_ble_eq_true rfl, Nat.le_of_ble_eq_true rfl⟩ ⟨Nat.le_of_ble_eq_true rfl, Nat.le_of_ble_eq_true rfl⟩ rfl rfl (Nat.le_of_ble_eq_true rfl)  ?_
          refine ev_iinc rfl (by decide) (nI_1 _) hC d_Mod_hour_146 ?_
          refine ev_goto 82 hC d_Mod_hour_149 rfl ?_
          simp only [mI, wr_s] at h_128 h_137
          have ef : fEvR aw n i (M.1 10) = rp (fBefR aw i 1) n 0 (rp (fBefR aw i 0) n 0 (M.1 10)) := by rw [fEvR, show fEv1 aw n i (M.1 10) = rp (fBefR aw i 0) n 0 (M.1 10) from if_pos h_104]; exact if_pos ⟨h_128, h_137⟩
          refine ih (i + 1) _ (by omega) ⟨hc.1, ?_⟩ ?_
          · simp only [mI, wr_wr, wr_s]
            rw [← ef]
            exact HK_fEvR hi hc.2
          · rw [he, rp, ef]
            simp only [mI, wr_wr, wr_s]

set_option maxHeartbeats 4000000 in
set_option maxRecDepth 10000 in
theorem lp_Mod_hour1 {G : ex_G} {C : ex_C} {ee : List va_E} {aw x : Int32} {n ne : Nat} (hn : n ≤ 8) (hne : ne ≤ 8) (hC : Cx G C Y_Mod_hour { frames := 4, cells := 0, slots := 0, locals := 90 }) (hR : Cr G C Y_Mod_hour 0 0 none ee) :
    ∀ (m i : Nat) (M : ex_M), i + m = n → M.1 14 1 = aw ∧ HK (M.1 10) n ne → ee = ce G (mI M 10 (upd (rp (fEvR aw n) ne 0 (rp (fMeetR aw ne) n 0 (rp (fTelP aw n) n 0 (rp (fCrossR aw x) m i (M.1 10))))) 0 ((rp (fEvR aw n) ne 0 (rp (fMeetR aw ne) n 0 (rp (fTelP aw n) n 0 (rp (fCrossR aw x) m i (M.1 10))))) 0 + 1))) → Ev G C Y_Mod_hour 12 [some (.ref (ex_b G + 71)), some (.int x), some (.int (nI i))] [] 0 0 (ce G (M)) := by
  intro m
  induction m with
  | zero =>
    intro i M hm hc he
    refine ev_iload_n rfl hC d_Mod_hour_12 ?_
    refine ev_aload_n rfl hC d_Mod_hour_13 ?_
    refine gv_Mod_now hC d_Mod_hour_14 fl_Mod_9  ?_
    refine ev_iconst (v := nI 3) rfl hC d_Mod_hour_17 ?_
    refine ga_now hC d_Mod_hour_18 (by first | assumption | omega) ?_
    refine ev_icmp_ge 72 hC d_Mod_hour_19 rfl (fun _ => ?_) (fun h => absurd (by rw [hc.2.1]; exact nI_le (by omega) (by omega)) h)
    refine ev_aload_n rfl hC d_Mod_hour_72 ?_
    refine cv_Mod0 hC d_Mod_hour_73 (c_Mod_tellersTell hc.1 hc.2) mi_Mod_tellersTell ml_Mod_163 im_Mod_tellersTell se_Mod_tellersTell rfl ⟨Nat.le_of_ble_eq_true rfl, Nat.le_of_ble_eq_true rfl⟩ ⟨Nat.le_of_ble_eq_true rfl, Nat.le_of_ble_eq_true rfl⟩ rfl rfl (Nat.le_of_ble_eq_true rfl)  ?_
    refine ev_aload_n rfl hC d_Mod_hour_76 ?_
    refine cv_Mod0 hC d_Mod_hour_77 (c_Mod_firemenMeet (by exact hc.1) (by simp only [mI, wr_s]; exact HK_b2 hc.2)) mi_Mod_firemenMeet ml_Mod_166 im_Mod_firemenMeet se_Mod_firemenMeet rfl ⟨Nat.le_of_ble_eq_true rfl, Nat.le_of_ble_eq_true rfl⟩ ⟨Nat.le_of_ble_eq_true rfl, Nat.le_of_ble_eq_true rfl⟩ rfl rfl (Nat.le_of_ble_eq_true rfl)  ?_
    refine ev_iconst (v := nI 0) rfl hC d_Mod_hour_80 ?_
    refine ev_istore_n (by decide) hC d_Mod_hour_81 ?_
    refine lp_Mod_hour2 hn hne hC hR ne 0 _ (by omega) ⟨hc.1, by simp only [mI, wr_wr, wr_s]; exact HK_b3 (HK_b2 hc.2)⟩ ?_
    rw [he]
    simp only [rp, mI, wr_wr, wr_s]
  | succ m ih =>
    intro i M hm hc he
    have hi : i < 8 := by omega
    refine ev_iload_n rfl hC d_Mod_hour_12 ?_
    refine ev_aload_n rfl hC d_Mod_hour_13 ?_
    refine gv_Mod_now hC d_Mod_hour_14 fl_Mod_9  ?_
    refine ev_iconst (v := nI 3) rfl hC d_Mod_hour_17 ?_
    refine ga_now hC d_Mod_hour_18 (by first | assumption | omega) ?_
    refine ev_icmp_ge 72 hC d_Mod_hour_19 rfl (fun h => absurd h (by rw [hc.2.1]; exact nI_ge (by omega) (by omega))) (fun _ => ?_)
    refine ev_aload_n rfl hC d_Mod_hour_22 ?_
    refine ev_iload_n rfl hC d_Mod_hour_23 ?_
    refine cv_Mod1 hC d_Mod_hour_24 (c_Mod_isThere ) mi_Mod_isThere ml_Mod_160 im_Mod_isThere se_Mod_isThere rfl ⟨Nat.le_of_ble_eq_true rfl, Nat.le_of_ble_eq_true rfl⟩ ⟨Nat.le_of_ble_eq_true rfl, Nat.le_of_ble_eq_true rfl⟩ rfl rfl (Nat.le_of_ble_eq_true rfl)  ?_
    refine eb_eq 66 hC d_Mod_hour_27 rfl (fun h_27 => ?_) (fun h_27 => ?_)
    · refine ev_iinc rfl (by decide) (nI_1 _) hC d_Mod_hour_66 ?_
      refine ev_goto 12 hC d_Mod_hour_69 rfl ?_
      rw [hc.1] at h_27
      exact ih (i + 1) M (by omega) hc (by rw [he, rp, show fCrossR aw x i (M.1 10) = M.1 10 from if_neg (fun z => by rw [z.1] at h_27; cases h_27)])
    · refine ev_aload_n rfl hC d_Mod_hour_30 ?_
      refine ev_iload_n rfl hC d_Mod_hour_31 ?_
      refine ev_aload_n rfl hC d_Mod_hour_32 ?_
      refine ev_iload_n rfl hC d_Mod_hour_33 ?_
      refine ev_iconst (v := nI 1) rfl hC d_Mod_hour_34 ?_
      refine cv_Mod1 hC d_Mod_hour_35 (c_Mod_oneIs (by omega) (by omega)) mi_Mod_oneIs ml_Mod_94 im_Mod_oneIs se_Mod_oneIs rfl ⟨Nat.le_of_ble_eq_true rfl, Nat.le_of_ble_eq_true rfl⟩ ⟨Nat.le_of_ble_eq_true rfl, Nat.le_of_ble_eq_true rfl⟩ rfl rfl (Nat.le_of_ble_eq_true rfl)  ?_
      refine ev_if_ne 45 hC d_Mod_hour_38 rfl (fun h_38 => ?_) (fun h_38 => ?_)
      · refine ev_iconst (v := nI 4) rfl hC d_Mod_hour_45 ?_
        refine cv_Mod1 hC d_Mod_hour_46 (c_Mod_oneIs (by omega) (by omega)) mi_Mod_oneIs ml_Mod_94 im_Mod_oneIs se_Mod_oneIs rfl ⟨Nat.le_of_ble_eq_true rfl, Nat.le_of_ble_eq_true rfl⟩ ⟨Nat.le_of_ble_eq_true rfl, Nat.le_of_ble_eq_true rfl⟩ rfl rfl (Nat.le_of_ble_eq_true rfl)  ?_
        refine ev_iload_n rfl hC d_Mod_hour_49 ?_
        refine ev_icmp_ne 66 hC d_Mod_hour_50 rfl (fun h_50 => ?_) (fun h_50 => ?_)
        · refine ev_iinc rfl (by decide) (nI_1 _) hC d_Mod_hour_66 ?_
          refine ev_goto 12 hC d_Mod_hour_69 rfl ?_
          rw [hc.1] at h_27
          exact ih (i + 1) M (by omega) hc (by rw [he, rp, show fCrossR aw x i (M.1 10) = M.1 10 from if_neg (fun z => h_50 (by have z2 := z.2.1; simpa [wants, h_38] using z2))])
        · refine ev_aload_n rfl hC d_Mod_hour_53 ?_
          refine ev_iload_n rfl hC d_Mod_hour_54 ?_
          refine cv_Mod1 hC d_Mod_hour_55 (c_Mod_canPay hi) mi_Mod_canPay ml_Mod_146 im_Mod_canPay se_Mod_canPay rfl ⟨Nat.le_of_ble_eq_true rfl, Nat.le_of_ble_eq_true rfl⟩ ⟨Nat.le_of_ble_eq_true rfl, Nat.le_of_ble_eq_true rfl⟩ rfl rfl (Nat.le_of_ble_eq_true rfl)  ?_
          refine eb_eq 66 hC d_Mod_hour_58 rfl (fun h_58 => ?_) (fun h_58 => ?_)
          · refine ev_iinc rfl (by decide) (nI_1 _) hC d_Mod_hour_66 ?_
            refine ev_goto 12 hC d_Mod_hour_69 rfl ?_
            rw [hc.1] at h_27
            exact ih (i + 1) M (by omega) hc (by rw [he, rp, show fCrossR aw x i (M.1 10) = M.1 10 from if_neg (fun z => by rw [z.2.2] at h_58; cases h_58)])
          · refine ev_aload_n rfl hC d_Mod_hour_61 ?_
            refine ev_iload_n rfl hC d_Mod_hour_62 ?_
            refine cv_Mod0 hC d_Mod_hour_63 (c_Mod_crosses hi) mi_Mod_crosses ml_Mod_150 im_Mod_crosses se_Mod_crosses rfl ⟨Nat.le_of_ble_eq_true rfl, Nat.le_of_ble_eq_true rfl⟩ ⟨Nat.le_of_ble_eq_true rfl, Nat.le_of_ble_eq_true rfl⟩ rfl rfl (Nat.le_of_ble_eq_true rfl)  ?_
            refine ev_iinc rfl (by decide) (nI_1 _) hC d_Mod_hour_66 ?_
            refine ev_goto 12 hC d_Mod_hour_69 rfl ?_
            rw [hc.1] at h_27
            refine ih (i + 1) _ (by omega) ⟨hc.1, by simp only [mI, wr_s]; exact HK_oOvR hi hc.2⟩ ?_
            rw [he, rp, show fCrossR aw x i (M.1 10) = oOvR (M.1 10) i from if_pos ⟨h_27, by simp [wants, h_38, h_50], h_58⟩]
            simp only [mI, wr_wr, wr_s]
      · refine ev_iconst (v := nI 3) rfl hC d_Mod_hour_41 ?_
        refine ev_goto 46 hC d_Mod_hour_42 rfl ?_
        refine cv_Mod1 hC d_Mod_hour_46 (c_Mod_oneIs (by omega) (by omega)) mi_Mod_oneIs ml_Mod_94 im_Mod_oneIs se_Mod_oneIs rfl ⟨Nat.le_of_ble_eq_true rfl, Nat.le_of_ble_eq_true rfl⟩ ⟨Nat.le_of_ble_eq_true rfl, Nat.le_of_ble_eq_true rfl⟩ rfl rfl (Nat.le_of_ble_eq_true rfl)  ?_
        refine ev_iload_n rfl hC d_Mod_hour_49 ?_
        refine ev_icmp_ne 66 hC d_Mod_hour_50 rfl (fun h_50 => ?_) (fun h_50 => ?_)
        · refine ev_iinc rfl (by decide) (nI_1 _) hC d_Mod_hour_66 ?_
          refine ev_goto 12 hC d_Mod_hour_69 rfl ?_
          rw [hc.1] at h_27
          exact ih (i + 1) M (by omega) hc (by rw [he, rp, show fCrossR aw x i (M.1 10) = M.1 10 from if_neg (fun z => h_50 (by have z2 := z.2.1; simpa [wants, h_38] using z2))])
        · refine ev_aload_n rfl hC d_Mod_hour_53 ?_
          refine ev_iload_n rfl hC d_Mod_hour_54 ?_
          refine cv_Mod1 hC d_Mod_hour_55 (c_Mod_canPay hi) mi_Mod_canPay ml_Mod_146 im_Mod_canPay se_Mod_canPay rfl ⟨Nat.le_of_ble_eq_true rfl, Nat.le_of_ble_eq_true rfl⟩ ⟨Nat.le_of_ble_eq_true rfl, Nat.le_of_ble_eq_true rfl⟩ rfl rfl (Nat.le_of_ble_eq_true rfl)  ?_
          refine eb_eq 66 hC d_Mod_hour_58 rfl (fun h_58 => ?_) (fun h_58 => ?_)
          · refine ev_iinc rfl (by decide) (nI_1 _) hC d_Mod_hour_66 ?_
            refine ev_goto 12 hC d_Mod_hour_69 rfl ?_
            rw [hc.1] at h_27
            exact ih (i + 1) M (by omega) hc (by rw [he, rp, show fCrossR aw x i (M.1 10) = M.1 10 from if_neg (fun z => by rw [z.2.2] at h_58; cases h_58)])
          · refine ev_aload_n rfl hC d_Mod_hour_61 ?_
            refine ev_iload_n rfl hC d_Mod_hour_62 ?_
            refine cv_Mod0 hC d_Mod_hour_63 (c_Mod_crosses hi) mi_Mod_crosses ml_Mod_150 im_Mod_crosses se_Mod_crosses rfl ⟨Nat.le_of_ble_eq_true rfl, Nat.le_of_ble_eq_true rfl⟩ ⟨Nat.le_of_ble_eq_true rfl, Nat.le_of_ble_eq_true rfl⟩ rfl rfl (Nat.le_of_ble_eq_true rfl)  ?_
            refine ev_iinc rfl (by decide) (nI_1 _) hC d_Mod_hour_66 ?_
            refine ev_goto 12 hC d_Mod_hour_69 rfl ?_
            rw [hc.1] at h_27
            refine ih (i + 1) _ (by omega) ⟨hc.1, by simp only [mI, wr_s]; exact HK_oOvR hi hc.2⟩ ?_
            rw [he, rp, show fCrossR aw x i (M.1 10) = oOvR (M.1 10) i from if_pos ⟨h_27, by simp [wants, h_38, h_50], h_58⟩]
            simp only [mI, wr_wr, wr_s]

set_option maxHeartbeats 2000000 in
set_option maxRecDepth 10000 in
theorem c_Mod_hour {G : ex_G} {M : ex_M} {aw : Int32} {n ne : Nat} (ha : M.1 14 1 = aw) (h : HK (M.1 10) n ne) : Con G Y_Mod_hour 4 90 0 0 [.ref (ex_b G + 71)] (ce G M) (none) (ce G (mI M 10 (hourR aw n ne (M.1 10)))) := by
  refine Con.ofF (plainFor_of_name (by decide +kernel)) (Nat.le_of_ble_eq_true rfl) (fun C hC hR => ?_)
  show Ev G C Y_Mod_hour 0 [some (.ref (ex_b G + 71))] [] 0 0 (ce G M)
  refine ev_aload_n rfl hC d_Mod_hour_0 ?_
  refine gv_Mod_now hC d_Mod_hour_1 fl_Mod_9  ?_
  refine ev_iconst (v := nI 0) rfl hC d_Mod_hour_4 ?_
  refine ga_now hC d_Mod_hour_5 (by first | assumption | omega) ?_
  refine ev_bipush (v := 24) rfl hC d_Mod_hour_6 ?_
  refine ev_irem (by decide) hC d_Mod_hour_8 ?_
  refine ev_istore_n (by decide) hC d_Mod_hour_9 ?_
  refine ev_iconst (v := nI 0) rfl hC d_Mod_hour_10 ?_
  refine ev_istore_n (by decide) hC d_Mod_hour_11 ?_
  exact lp_Mod_hour1 h.2.1 h.2.2.2.1 hC hR n 0 M (by omega) ⟨ha, h⟩ rfl

set_option maxHeartbeats 4000000 in
set_option maxRecDepth 10000 in
theorem lp_Mod_hoursGo {G : ex_G} {C : ex_C} {ee : List va_E} {aw : Int32} {n ne h : Nat} (hh : h < 2 ^ 30) (hC : Cx G C Y_Mod_hoursGo { frames := 5, cells := 0, slots := 0, locals := 112 }) (hR : Cr G C Y_Mod_hoursGo 0 0 none ee) :
    ∀ (m i : Nat) (M : ex_M), i + m = h → M.1 14 1 = aw ∧ HK (M.1 10) n ne → ee = ce G (mI M 10 (hoursR aw n ne m (M.1 10))) → Ev G C Y_Mod_hoursGo 2 [some (.ref (ex_b G + 71)), some (.int (nI h)), some (.int (nI i))] [] 0 0 (ce G (M)) := by
  intro m
  induction m with
  | zero =>
    intro i M hm hc he
    refine ev_iload_n rfl hC d_Mod_hoursGo_2 ?_
    refine ev_iload_n rfl hC d_Mod_hoursGo_3 ?_
    refine ev_icmp_ge 17 hC d_Mod_hoursGo_4 rfl (fun _ => ?_) (fun h => absurd (nI_le (by omega) (by omega)) h)
    exact ev_vret hC hR d_Mod_hoursGo_17 rfl rfl (by rw [he, hoursR, mI_id])
  | succ m ih =>
    intro i M hm hc he
    skip
    refine ev_iload_n rfl hC d_Mod_hoursGo_2 ?_
    refine ev_iload_n rfl hC d_Mod_hoursGo_3 ?_
    refine ev_icmp_ge 17 hC d_Mod_hoursGo_4 rfl (fun h => absurd h (nI_ge (by omega) (by omega))) (fun _ => ?_)
    refine ev_aload_n rfl hC d_Mod_hoursGo_7 ?_
    refine cv_Mod0 hC d_Mod_hoursGo_8 (c_Mod_hour hc.1 hc.2) mi_Mod_hour ml_Mod_172 im_Mod_hour se_Mod_hour rfl ⟨Nat.le_of_ble_eq_true rfl, Nat.le_of_ble_eq_true rfl⟩ ⟨Nat.le_of_ble_eq_true rfl, Nat.le_of_ble_eq_true rfl⟩ rfl rfl (Nat.le_of_ble_eq_true rfl)  ?_
    refine ev_iinc rfl (by decide) (nI_1 _) hC d_Mod_hoursGo_11 ?_
    refine ev_goto 2 hC d_Mod_hoursGo_14 rfl ?_
    exact ih (i + 1) _ (by omega) ⟨hc.1, by simp only [mI, wr_s]; exact HK_hourR hc.2⟩ (by rw [he, hoursR]; simp only [mI, wr_wr, wr_s])

set_option maxHeartbeats 2000000 in
set_option maxRecDepth 10000 in
theorem c_Mod_hoursGo {G : ex_G} {M : ex_M} {aw : Int32} {n ne h : Nat} (hh : h < 2 ^ 30) (ha : M.1 14 1 = aw) (hk : HK (M.1 10) n ne) : Con G Y_Mod_hoursGo 5 112 0 0 [.ref (ex_b G + 71), .int (nI h)] (ce G M) (none) (ce G (mI M 10 (hoursR aw n ne h (M.1 10)))) := by
  refine Con.ofF (plainFor_of_name (by decide +kernel)) (Nat.le_of_ble_eq_true rfl) (fun C hC hR => ?_)
  show Ev G C Y_Mod_hoursGo 0 [some (.ref (ex_b G + 71)), some (.int (nI h))] [] 0 0 (ce G M)
  refine ev_iconst (v := nI 0) rfl hC d_Mod_hoursGo_0 ?_
  refine ev_istore_n (by decide) hC d_Mod_hoursGo_1 ?_
  exact lp_Mod_hoursGo hh hC hR h 0 M (by omega) ⟨ha, hk⟩ rfl

set_option maxHeartbeats 4000000 in
set_option maxRecDepth 10000 in
theorem lp_Mod_sumOf {G : ex_G} {C : ex_C} {rr : Option Value} {ee : List va_E} {n f : Nat} (hn : n ≤ 8) (hf : f < 7) (hC : Cx G C Y_Mod_sumOf { frames := 2, cells := 0, slots := 0, locals := 43 }) (hR : Cr G C Y_Mod_sumOf 0 0 rr ee) :
    ∀ (m i : Nat) (M : ex_M) (s : Int32), i + m = n → M.1 10 3 = nI n → rr = some (.int (sumF (M.1 10) f m i s)) ∧ ee = ce G M → Ev G C Y_Mod_sumOf 4 [some (.ref (ex_b G + 71)), some (.int (nI f)), some (.int s), some (.int (nI i))] [] 0 0 (ce G (M)) := by
  intro m
  induction m with
  | zero =>
    intro i M s hm hc he
    refine ev_iload_n rfl hC d_Mod_sumOf_4 ?_
    refine ev_aload_n rfl hC d_Mod_sumOf_5 ?_
    refine gv_Mod_now hC d_Mod_sumOf_6 fl_Mod_9  ?_
    refine ev_iconst (v := nI 3) rfl hC d_Mod_sumOf_9 ?_
    refine ga_now hC d_Mod_sumOf_10 (by first | assumption | omega) ?_
    refine ev_icmp_ge 29 hC d_Mod_sumOf_11 rfl (fun _ => ?_) (fun h => absurd (by rw [hc]; exact nI_le (by omega) (by omega)) h)
    refine ev_iload_n rfl hC d_Mod_sumOf_29 ?_
    exact ev_iret hC hR d_Mod_sumOf_30 rfl (by rw [he.1, sumF]) (he.2)
  | succ m ih =>
    intro i M s hm hc he
    have hi : i < 8 := by omega
    refine ev_iload_n rfl hC d_Mod_sumOf_4 ?_
    refine ev_aload_n rfl hC d_Mod_sumOf_5 ?_
    refine gv_Mod_now hC d_Mod_sumOf_6 fl_Mod_9  ?_
    refine ev_iconst (v := nI 3) rfl hC d_Mod_sumOf_9 ?_
    refine ga_now hC d_Mod_sumOf_10 (by first | assumption | omega) ?_
    refine ev_icmp_ge 29 hC d_Mod_sumOf_11 rfl (fun h => absurd h (by rw [hc]; exact nI_ge (by omega) (by omega))) (fun _ => ?_)
    refine ev_iload_n rfl hC d_Mod_sumOf_14 ?_
    refine ev_aload_n rfl hC d_Mod_sumOf_15 ?_
    refine ev_iload_n rfl hC d_Mod_sumOf_16 ?_
    refine ev_iload_n rfl hC d_Mod_sumOf_17 ?_
    refine cv_Mod1 hC d_Mod_sumOf_18 (c_Mod_oneIs (by omega) (by omega)) mi_Mod_oneIs ml_Mod_94 im_Mod_oneIs se_Mod_oneIs rfl ⟨Nat.le_of_ble_eq_true rfl, Nat.le_of_ble_eq_true rfl⟩ ⟨Nat.le_of_ble_eq_true rfl, Nat.le_of_ble_eq_true rfl⟩ rfl rfl (Nat.le_of_ble_eq_true rfl)  ?_
    refine ev_iadd hC d_Mod_sumOf_21 ?_
    refine ev_istore_n (by decide) hC d_Mod_sumOf_22 ?_
    refine ev_iinc rfl (by decide) (nI_1 _) hC d_Mod_sumOf_23 ?_
    refine ev_goto 4 hC d_Mod_sumOf_26 rfl ?_
    exact ih (i + 1) M _ (by omega) hc (by rw [he.1, he.2, sumF]; exact ⟨rfl, rfl⟩)

set_option maxHeartbeats 2000000 in
set_option maxRecDepth 10000 in
theorem c_Mod_sumOf {G : ex_G} {M : ex_M} {n f : Nat} (hn : n ≤ 8) (hf : f < 7) (hc : M.1 10 3 = nI n) : Con G Y_Mod_sumOf 2 43 0 0 [.ref (ex_b G + 71), .int (nI f)] (ce G M) (some (.int (sumF (M.1 10) f n 0 0))) (ce G (M)) := by
  refine Con.ofF (plainFor_of_name (by decide +kernel)) (Nat.le_of_ble_eq_true rfl) (fun C hC hR => ?_)
  show Ev G C Y_Mod_sumOf 0 [some (.ref (ex_b G + 71)), some (.int (nI f))] [] 0 0 (ce G M)
  refine ev_iconst (v := 0) rfl hC d_Mod_sumOf_0 ?_
  refine ev_istore_n (by decide) hC d_Mod_sumOf_1 ?_
  refine ev_iconst (v := nI 0) rfl hC d_Mod_sumOf_2 ?_
  refine ev_istore_n (by decide) hC d_Mod_sumOf_3 ?_
  exact lp_Mod_sumOf hn hf hC hR n 0 M 0 (by omega) hc ⟨rfl, rfl⟩

set_option maxHeartbeats 2000000 in
set_option maxRecDepth 10000 in
theorem c_Mod_hours {G : ex_G} {M : ex_M} {np ne : Nat} {n : Int32} (w : WF (M.1 10) np ne) : Con G Y_Mod_hours 6 134 0 0 [.ref (ex_b G + 71), .int n] (ce G M) (some (.int (R_hours M np ne n).1)) (ce G ((R_hours M np ne n).2)) := by
  refine Con.ofF (plainFor_of_name (by decide +kernel)) (Nat.le_of_ble_eq_true rfl) (fun C hC hR => ?_)
  show Ev G C Y_Mod_hours 0 [some (.ref (ex_b G + 71)), some (.int n)] [] 0 0 (ce G M)
  obtain ⟨hc, hn, hc2, hn2, hmet, hkd, hkn⟩ := w
  refine ev_iload_n rfl hC d_Mod_hours_0 ?_
  refine ev_iconst (v := 1) rfl hC d_Mod_hours_1 ?_
  refine ev_bipush (v := 72) rfl hC d_Mod_hours_2 ?_
  refine cs_1 hC d_Mod_hours_4 (c_Mod_within ) mi_Mod_within ml_Mod_68 sm_Mod_within ⟨Nat.le_of_ble_eq_true rfl, Nat.le_of_ble_eq_true rfl⟩ ⟨Nat.le_of_ble_eq_true rfl, Nat.le_of_ble_eq_true rfl⟩ rfl rfl (Nat.le_of_ble_eq_true rfl) ?_
  refine en_ne 17 hC d_Mod_hours_7 rfl (fun h_7 => ?_) (fun h_7 => ?_)
  · refine ev_aload_n rfl hC d_Mod_hours_17 ?_
    refine gv_Mod_now hC d_Mod_hours_18 fl_Mod_9  ?_
    refine ev_iconst (v := nI 0) rfl hC d_Mod_hours_21 ?_
    refine ga_now hC d_Mod_hours_22 (by first | assumption | omega) ?_
    refine ev_iload_n rfl hC d_Mod_hours_23 ?_
    refine ev_iadd hC d_Mod_hours_24 ?_
    refine ev_sipush (v := 9999) rfl hC d_Mod_hours_25 ?_
    refine ev_icmp_le 38 hC d_Mod_hours_28 rfl (fun h_28 => ?_) (fun h_28 => ?_)
    · obtain ⟨n1, hn1, rfl⟩ := out_1 (n := 72) (by decide) h_7
      have cn : (nI n1).toNatClampNeg = n1 := nI_clamp (by omega)
      refine ev_aload_n rfl hC d_Mod_hours_38 ?_
      refine ev_iload_n rfl hC d_Mod_hours_39 ?_
      refine cv_Mod0 hC d_Mod_hours_40 (c_Mod_hoursGo (by omega) rfl (HK_of ⟨hc, hn, hc2, hn2, hmet, hkd, hkn⟩)) mi_Mod_hoursGo ml_Mod_175 im_Mod_hoursGo se_Mod_hoursGo rfl ⟨Nat.le_of_ble_eq_true rfl, Nat.le_of_ble_eq_true rfl⟩ ⟨Nat.le_of_ble_eq_true rfl, Nat.le_of_ble_eq_true rfl⟩ rfl rfl (Nat.le_of_ble_eq_true rfl)  ?_
      refine ev_aload_n rfl hC d_Mod_hours_43 ?_
      refine ev_iconst (v := nI 2) rfl hC d_Mod_hours_44 ?_
      refine cv_Mod1 hC d_Mod_hours_45 (c_Mod_sumOf hn (by omega) (by simp only [mI, wr_s]; exact (HK_hoursR n1 _ (HK_of ⟨hc, hn, hc2, hn2, hmet, hkd, hkn⟩)).1)) mi_Mod_sumOf ml_Mod_178 im_Mod_sumOf se_Mod_sumOf rfl ⟨Nat.le_of_ble_eq_true rfl, Nat.le_of_ble_eq_true rfl⟩ ⟨Nat.le_of_ble_eq_true rfl, Nat.le_of_ble_eq_true rfl⟩ rfl rfl (Nat.le_of_ble_eq_true rfl)  ?_
      exact ev_iret hC hR d_Mod_hours_48 rfl (by simp only [R_hours, rbad, h_7, h_28, ix, cn, if_true, if_false, cond_true, cond_false, decide_true, decide_false, Bool.not_true, Bool.not_false, Bool.or_true, Bool.true_or, Bool.or_false, Bool.false_or, Bool.and_true, Bool.and_false, Bool.true_and, Bool.false_and, Bool.or_self, Bool.and_self, eq_self] <;> first | rfl | (simp only [mI, wr_s])) (by simp only [R_hours, rbad, h_7, h_28, ix, cn, if_true, if_false, cond_true, cond_false, decide_true, decide_false, Bool.not_true, Bool.not_false, Bool.or_true, Bool.true_or, Bool.or_false, Bool.false_or, Bool.and_true, Bool.and_false, Bool.true_and, Bool.false_and, Bool.or_self, Bool.and_self, eq_self] <;> first | rfl | (simp only [mI, wr_s]))
    · refine ev_aload_n rfl hC d_Mod_hours_31 ?_
      refine ev_ldc kc_Mod_149 hC d_Mod_hours_32 ?_
      refine cv_Mod1 hC d_Mod_hours_34 (c_Mod_finding (k := 4) (by omega) (by decide +kernel)) mi_Mod_finding ml_Mod_82 im_Mod_finding se_Mod_finding rfl ⟨Nat.le_of_ble_eq_true rfl, Nat.le_of_ble_eq_true rfl⟩ ⟨Nat.le_of_ble_eq_true rfl, Nat.le_of_ble_eq_true rfl⟩ rfl rfl (Nat.le_of_ble_eq_true rfl)  ?_
      exact ev_iret hC hR d_Mod_hours_37 rfl (by simp only [R_hours, rbad, h_7, h_28, if_true, if_false, cond_true, cond_false, decide_true, decide_false, Bool.not_true, Bool.not_false, Bool.or_true, Bool.true_or, Bool.or_false, Bool.false_or, Bool.and_true, Bool.and_false, Bool.true_and, Bool.false_and, Bool.or_self, Bool.and_self, eq_self] <;> first | rfl | (simp only [mI, wr_s])) (by simp only [R_hours, rbad, h_7, h_28, if_true, if_false, cond_true, cond_false, decide_true, decide_false, Bool.not_true, Bool.not_false, Bool.or_true, Bool.true_or, Bool.or_false, Bool.false_or, Bool.and_true, Bool.and_false, Bool.true_and, Bool.false_and, Bool.or_self, Bool.and_self, eq_self] <;> first | rfl | (simp only [mI, wr_s]))
  · refine ev_aload_n rfl hC d_Mod_hours_10 ?_
    refine ev_ldc kc_Mod_63 hC d_Mod_hours_11 ?_
    refine cv_Mod1 hC d_Mod_hours_13 (c_Mod_finding (k := 0) (by omega) (by decide +kernel)) mi_Mod_finding ml_Mod_82 im_Mod_finding se_Mod_finding rfl ⟨Nat.le_of_ble_eq_true rfl, Nat.le_of_ble_eq_true rfl⟩ ⟨Nat.le_of_ble_eq_true rfl, Nat.le_of_ble_eq_true rfl⟩ rfl rfl (Nat.le_of_ble_eq_true rfl)  ?_
    exact ev_iret hC hR d_Mod_hours_16 rfl (by simp only [R_hours, rbad, h_7, if_true, if_false, cond_true, cond_false, decide_true, decide_false, Bool.not_true, Bool.not_false, Bool.or_true, Bool.true_or, Bool.or_false, Bool.false_or, Bool.and_true, Bool.and_false, Bool.true_and, Bool.false_and, Bool.or_self, Bool.and_self, eq_self] <;> first | rfl | (simp only [mI, wr_s])) (by simp only [R_hours, rbad, h_7, if_true, if_false, cond_true, cond_false, decide_true, decide_false, Bool.not_true, Bool.not_false, Bool.or_true, Bool.true_or, Bool.or_false, Bool.false_or, Bool.and_true, Bool.and_false, Bool.true_and, Bool.false_and, Bool.or_self, Bool.and_self, eq_self] <;> first | rfl | (simp only [mI, wr_s]))

set_option maxHeartbeats 4000000 in
set_option maxRecDepth 10000 in
theorem lp_Mod_metNow {G : ex_G} {C : ex_C} {rr : Option Value} {ee : List va_E} {n : Nat} (hn : n ≤ 8) (hC : Cx G C Y_Mod_metNow { frames := 2, cells := 0, slots := 0, locals := 43 }) (hR : Cr G C Y_Mod_metNow 0 0 rr ee) :
    ∀ (m i : Nat) (M : ex_M) (s : Int32), i + m = n → M.1 10 2 = nI n → rr = some (.int (setF (fun i => decide (M.1 10 (4 + 3 * i + 2) = 1)) m i s)) ∧ ee = ce G M → Ev G C Y_Mod_metNow 4 [some (.ref (ex_b G + 71)), some (.int s), some (.int (nI i))] [] 0 0 (ce G (M)) := by
  intro m
  induction m with
  | zero =>
    intro i M s hm hc he
    refine ev_iload_n rfl hC d_Mod_metNow_4 ?_
    refine ev_aload_n rfl hC d_Mod_metNow_5 ?_
    refine gv_Mod_now hC d_Mod_metNow_6 fl_Mod_9  ?_
    refine ev_iconst (v := nI 2) rfl hC d_Mod_metNow_9 ?_
    refine ga_now hC d_Mod_metNow_10 (by first | assumption | omega) ?_
    refine ev_icmp_ge 40 hC d_Mod_metNow_11 rfl (fun _ => ?_) (fun h => absurd (by rw [hc]; exact nI_le (by omega) (by omega)) h)
    refine ev_iload_n rfl hC d_Mod_metNow_40 ?_
    exact ev_iret hC hR d_Mod_metNow_41 rfl (by rw [he.1, setF]) (he.2)
  | succ m ih =>
    intro i M s hm hc he
    have hi : i < 8 := by omega
    refine ev_iload_n rfl hC d_Mod_metNow_4 ?_
    refine ev_aload_n rfl hC d_Mod_metNow_5 ?_
    refine gv_Mod_now hC d_Mod_metNow_6 fl_Mod_9  ?_
    refine ev_iconst (v := nI 2) rfl hC d_Mod_metNow_9 ?_
    refine ga_now hC d_Mod_metNow_10 (by first | assumption | omega) ?_
    refine ev_icmp_ge 40 hC d_Mod_metNow_11 rfl (fun h => absurd h (by rw [hc]; exact nI_ge (by omega) (by omega))) (fun _ => ?_)
    refine ev_iload_n rfl hC d_Mod_metNow_14 ?_
    refine ev_aload_n rfl hC d_Mod_metNow_15 ?_
    refine ev_iload_n rfl hC d_Mod_metNow_16 ?_
    refine ev_iconst (v := nI 2) rfl hC d_Mod_metNow_17 ?_
    refine cv_Mod1 hC d_Mod_metNow_18 (c_Mod_eventIs (by omega) (by omega)) mi_Mod_eventIs ml_Mod_104 im_Mod_eventIs se_Mod_eventIs rfl ⟨Nat.le_of_ble_eq_true rfl, Nat.le_of_ble_eq_true rfl⟩ ⟨Nat.le_of_ble_eq_true rfl, Nat.le_of_ble_eq_true rfl⟩ rfl rfl (Nat.le_of_ble_eq_true rfl)  ?_
    refine ev_iconst (v := 1) rfl hC d_Mod_metNow_21 ?_
    refine ev_icmp_ne 31 hC d_Mod_metNow_22 rfl (fun h_22 => ?_) (fun h_22 => ?_)
    · refine ev_iconst (v := 0) rfl hC d_Mod_metNow_31 ?_
      refine ev_ior hC d_Mod_metNow_32 ?_
      refine ev_istore_n (by decide) hC d_Mod_metNow_33 ?_
      refine ev_iinc rfl (by decide) (nI_1 _) hC d_Mod_metNow_34 ?_
      refine ev_goto 4 hC d_Mod_metNow_37 rfl ?_
      rw [or_0]
      exact ih (i + 1) M _ (by omega) hc (by rw [he.1, he.2, show setF (fun i => decide (M.1 10 (4 + 3 * i + 2) = 1)) (m + 1) i s = setF (fun i => decide (M.1 10 (4 + 3 * i + 2) = 1)) m (i + 1) s by rw [setF, if_neg (by simp [h_22])]]; exact ⟨rfl, rfl⟩)
    · refine ev_iconst (v := 1) rfl hC d_Mod_metNow_25 ?_
      refine ev_iload_n rfl hC d_Mod_metNow_26 ?_
      refine ev_ishl hC d_Mod_metNow_27 ?_
      refine ev_goto 32 hC d_Mod_metNow_28 rfl ?_
      refine ev_ior hC d_Mod_metNow_32 ?_
      refine ev_istore_n (by decide) hC d_Mod_metNow_33 ?_
      refine ev_iinc rfl (by decide) (nI_1 _) hC d_Mod_metNow_34 ?_
      refine ev_goto 4 hC d_Mod_metNow_37 rfl ?_
      exact ih (i + 1) M _ (by omega) hc (by rw [he.1, he.2, show setF (fun i => decide (M.1 10 (4 + 3 * i + 2) = 1)) (m + 1) i s = setF (fun i => decide (M.1 10 (4 + 3 * i + 2) = 1)) m (i + 1) (s ||| ((1 : Int32) <<< (nI i &&& 31))) by rw [setF, if_pos (by simp [h_22])]]; exact ⟨rfl, rfl⟩)

set_option maxHeartbeats 2000000 in
set_option maxRecDepth 10000 in
theorem c_Mod_metNow {G : ex_G} {M : ex_M} {n : Nat} (hn : n ≤ 8) (hc : M.1 10 2 = nI n) : Con G Y_Mod_metNow 2 43 0 0 [.ref (ex_b G + 71)] (ce G M) (some (.int (metR (M.1 10) n))) (ce G (M)) := by
  refine Con.ofF (plainFor_of_name (by decide +kernel)) (Nat.le_of_ble_eq_true rfl) (fun C hC hR => ?_)
  show Ev G C Y_Mod_metNow 0 [some (.ref (ex_b G + 71))] [] 0 0 (ce G M)
  refine ev_iconst (v := 0) rfl hC d_Mod_metNow_0 ?_
  refine ev_istore_n (by decide) hC d_Mod_metNow_1 ?_
  refine ev_iconst (v := nI 0) rfl hC d_Mod_metNow_2 ?_
  refine ev_istore_n (by decide) hC d_Mod_metNow_3 ?_
  exact lp_Mod_metNow hn hC hR n 0 M 0 (by omega) hc ⟨rfl, rfl⟩

set_option maxHeartbeats 4000000 in
set_option maxRecDepth 10000 in
theorem lp_Mod_onLeft {G : ex_G} {C : ex_C} {rr : Option Value} {ee : List va_E} {n : Nat} (hn : n ≤ 8) (hC : Cx G C Y_Mod_onLeft { frames := 2, cells := 0, slots := 0, locals := 43 }) (hR : Cr G C Y_Mod_onLeft 0 0 rr ee) :
    ∀ (m i : Nat) (M : ex_M) (s : Int32), i + m = n → M.1 10 3 = nI n → rr = some (.int (setF (fun i => decide (M.1 10 (28 + 7 * i + 1) = 1)) m i s)) ∧ ee = ce G M → Ev G C Y_Mod_onLeft 4 [some (.ref (ex_b G + 71)), some (.int s), some (.int (nI i))] [] 0 0 (ce G (M)) := by
  intro m
  induction m with
  | zero =>
    intro i M s hm hc he
    refine ev_iload_n rfl hC d_Mod_onLeft_4 ?_
    refine ev_aload_n rfl hC d_Mod_onLeft_5 ?_
    refine gv_Mod_now hC d_Mod_onLeft_6 fl_Mod_9  ?_
    refine ev_iconst (v := nI 3) rfl hC d_Mod_onLeft_9 ?_
    refine ga_now hC d_Mod_onLeft_10 (by first | assumption | omega) ?_
    refine ev_icmp_ge 40 hC d_Mod_onLeft_11 rfl (fun _ => ?_) (fun h => absurd (by rw [hc]; exact nI_le (by omega) (by omega)) h)
    refine ev_iload_n rfl hC d_Mod_onLeft_40 ?_
    exact ev_iret hC hR d_Mod_onLeft_41 rfl (by rw [he.1, setF]) (he.2)
  | succ m ih =>
    intro i M s hm hc he
    have hi : i < 8 := by omega
    refine ev_iload_n rfl hC d_Mod_onLeft_4 ?_
    refine ev_aload_n rfl hC d_Mod_onLeft_5 ?_
    refine gv_Mod_now hC d_Mod_onLeft_6 fl_Mod_9  ?_
    refine ev_iconst (v := nI 3) rfl hC d_Mod_onLeft_9 ?_
    refine ga_now hC d_Mod_onLeft_10 (by first | assumption | omega) ?_
    refine ev_icmp_ge 40 hC d_Mod_onLeft_11 rfl (fun h => absurd h (by rw [hc]; exact nI_ge (by omega) (by omega))) (fun _ => ?_)
    refine ev_iload_n rfl hC d_Mod_onLeft_14 ?_
    refine ev_aload_n rfl hC d_Mod_onLeft_15 ?_
    refine ev_iload_n rfl hC d_Mod_onLeft_16 ?_
    refine ev_iconst (v := nI 1) rfl hC d_Mod_onLeft_17 ?_
    refine cv_Mod1 hC d_Mod_onLeft_18 (c_Mod_oneIs (by omega) (by omega)) mi_Mod_oneIs ml_Mod_94 im_Mod_oneIs se_Mod_oneIs rfl ⟨Nat.le_of_ble_eq_true rfl, Nat.le_of_ble_eq_true rfl⟩ ⟨Nat.le_of_ble_eq_true rfl, Nat.le_of_ble_eq_true rfl⟩ rfl rfl (Nat.le_of_ble_eq_true rfl)  ?_
    refine ev_iconst (v := 1) rfl hC d_Mod_onLeft_21 ?_
    refine ev_icmp_ne 31 hC d_Mod_onLeft_22 rfl (fun h_22 => ?_) (fun h_22 => ?_)
    · refine ev_iconst (v := 0) rfl hC d_Mod_onLeft_31 ?_
      refine ev_ior hC d_Mod_onLeft_32 ?_
      refine ev_istore_n (by decide) hC d_Mod_onLeft_33 ?_
      refine ev_iinc rfl (by decide) (nI_1 _) hC d_Mod_onLeft_34 ?_
      refine ev_goto 4 hC d_Mod_onLeft_37 rfl ?_
      rw [or_0]
      exact ih (i + 1) M _ (by omega) hc (by rw [he.1, he.2, show setF (fun i => decide (M.1 10 (28 + 7 * i + 1) = 1)) (m + 1) i s = setF (fun i => decide (M.1 10 (28 + 7 * i + 1) = 1)) m (i + 1) s by rw [setF, if_neg (by simp [h_22])]]; exact ⟨rfl, rfl⟩)
    · refine ev_iconst (v := 1) rfl hC d_Mod_onLeft_25 ?_
      refine ev_iload_n rfl hC d_Mod_onLeft_26 ?_
      refine ev_ishl hC d_Mod_onLeft_27 ?_
      refine ev_goto 32 hC d_Mod_onLeft_28 rfl ?_
      refine ev_ior hC d_Mod_onLeft_32 ?_
      refine ev_istore_n (by decide) hC d_Mod_onLeft_33 ?_
      refine ev_iinc rfl (by decide) (nI_1 _) hC d_Mod_onLeft_34 ?_
      refine ev_goto 4 hC d_Mod_onLeft_37 rfl ?_
      exact ih (i + 1) M _ (by omega) hc (by rw [he.1, he.2, show setF (fun i => decide (M.1 10 (28 + 7 * i + 1) = 1)) (m + 1) i s = setF (fun i => decide (M.1 10 (28 + 7 * i + 1) = 1)) m (i + 1) (s ||| ((1 : Int32) <<< (nI i &&& 31))) by rw [setF, if_pos (by simp [h_22])]]; exact ⟨rfl, rfl⟩)

set_option maxHeartbeats 2000000 in
set_option maxRecDepth 10000 in
theorem c_Mod_onLeft {G : ex_G} {M : ex_M} {n : Nat} (hn : n ≤ 8) (hc : M.1 10 3 = nI n) : Con G Y_Mod_onLeft 2 43 0 0 [.ref (ex_b G + 71)] (ce G M) (some (.int (lftS (M.1 10) n))) (ce G (M)) := by
  refine Con.ofF (plainFor_of_name (by decide +kernel)) (Nat.le_of_ble_eq_true rfl) (fun C hC hR => ?_)
  show Ev G C Y_Mod_onLeft 0 [some (.ref (ex_b G + 71))] [] 0 0 (ce G M)
  refine ev_iconst (v := 0) rfl hC d_Mod_onLeft_0 ?_
  refine ev_istore_n (by decide) hC d_Mod_onLeft_1 ?_
  refine ev_iconst (v := nI 0) rfl hC d_Mod_onLeft_2 ?_
  refine ev_istore_n (by decide) hC d_Mod_onLeft_3 ?_
  exact lp_Mod_onLeft hn hC hR n 0 M 0 (by omega) hc ⟨rfl, rfl⟩

set_option maxHeartbeats 2000000 in
set_option maxRecDepth 10000 in
theorem c_Mod_now {G : ex_G} {M : ex_M} {np ne : Nat} {w0 : Int32} (w : WF (M.1 10) np ne) : Con G Y_Mod_now 3 66 0 0 [.ref (ex_b G + 71), .int w0] (ce G M) (some (.int (R_now M np ne w0).1)) (ce G ((R_now M np ne w0).2)) := by
  refine Con.ofF (plainFor_of_name (by decide +kernel)) (Nat.le_of_ble_eq_true rfl) (fun C hC hR => ?_)
  show Ev G C Y_Mod_now 0 [some (.ref (ex_b G + 71)), some (.int w0)] [] 0 0 (ce G M)
  obtain ⟨hc, hn, hc2, hn2, hmet, hkd, hkn⟩ := w
  refine ev_iload_n rfl hC d_Mod_now_0 ?_
  refine sx_Mod_now_1 hC (fun h_1 => ?_) (fun h_1 => ?_) (fun h_1 => ?_) (fun h_1 => ?_) (fun h_1 => ?_) (fun h_1 => ?_) (fun h_1 => ?_)
  · refine ev_aload_n rfl hC d_Mod_now_79 ?_
    refine ev_ldc kc_Mod_63 hC d_Mod_now_80 ?_
    refine cv_Mod1 hC d_Mod_now_82 (c_Mod_finding (k := 0) (by omega) (by decide +kernel)) mi_Mod_finding ml_Mod_82 im_Mod_finding se_Mod_finding rfl ⟨Nat.le_of_ble_eq_true rfl, Nat.le_of_ble_eq_true rfl⟩ ⟨Nat.le_of_ble_eq_true rfl, Nat.le_of_ble_eq_true rfl⟩ rfl rfl (Nat.le_of_ble_eq_true rfl)  ?_
    exact ev_iret hC hR d_Mod_now_85 rfl (by have e0 := sw_ne h_1 0 (by decide) (by decide); have e1 := sw_ne h_1 1 (by decide) (by decide); have e2 := sw_ne h_1 2 (by decide) (by decide); have e3 := sw_ne h_1 3 (by decide) (by decide); have e4 := sw_ne h_1 4 (by decide) (by decide); have e5 := sw_ne h_1 5 (by decide) (by decide); simp only [R_now, rbad, e0, e1, e2, e3, e4, e5, if_true, if_false, cond_true, cond_false, decide_true, decide_false, Bool.not_true, Bool.not_false, Bool.or_true, Bool.true_or, Bool.or_false, Bool.false_or, Bool.and_true, Bool.and_false, Bool.true_and, Bool.false_and, Bool.or_self, Bool.and_self, eq_self] <;> first | rfl | (rfl)) (by have e0 := sw_ne h_1 0 (by decide) (by decide); have e1 := sw_ne h_1 1 (by decide) (by decide); have e2 := sw_ne h_1 2 (by decide) (by decide); have e3 := sw_ne h_1 3 (by decide) (by decide); have e4 := sw_ne h_1 4 (by decide) (by decide); have e5 := sw_ne h_1 5 (by decide) (by decide); simp only [R_now, rbad, e0, e1, e2, e3, e4, e5, if_true, if_false, cond_true, cond_false, decide_true, decide_false, Bool.not_true, Bool.not_false, Bool.or_true, Bool.true_or, Bool.or_false, Bool.false_or, Bool.and_true, Bool.and_false, Bool.true_and, Bool.false_and, Bool.or_self, Bool.and_self, eq_self] <;> first | rfl | (rfl))
  · refine ev_aload_n rfl hC d_Mod_now_40 ?_
    refine gv_Mod_now hC d_Mod_now_41 fl_Mod_9  ?_
    refine ev_iconst (v := nI 0) rfl hC d_Mod_now_44 ?_
    refine ga_now hC d_Mod_now_45 (by first | assumption | omega) ?_
    exact ev_iret hC hR d_Mod_now_46 rfl (by subst h_1; simp only [R_now, rbad, if_true, if_false, cond_true, cond_false, decide_true, decide_false, Bool.not_true, Bool.not_false, Bool.or_true, Bool.true_or, Bool.or_false, Bool.false_or, Bool.and_true, Bool.and_false, Bool.true_and, Bool.false_and, Bool.or_self, Bool.and_self, eq_self] <;> first | rfl | (rfl)) (by subst h_1; simp only [R_now, rbad, if_true, if_false, cond_true, cond_false, decide_true, decide_false, Bool.not_true, Bool.not_false, Bool.or_true, Bool.true_or, Bool.or_false, Bool.false_or, Bool.and_true, Bool.and_false, Bool.true_and, Bool.false_and, Bool.or_self, Bool.and_self, eq_self] <;> first | rfl | (rfl))
  · refine ev_aload_n rfl hC d_Mod_now_47 ?_
    refine gv_Mod_now hC d_Mod_now_48 fl_Mod_9  ?_
    refine ev_iconst (v := nI 0) rfl hC d_Mod_now_51 ?_
    refine ga_now hC d_Mod_now_52 (by first | assumption | omega) ?_
    refine ev_bipush (v := 24) rfl hC d_Mod_now_53 ?_
    refine ev_irem (by decide) hC d_Mod_now_55 ?_
    exact ev_iret hC hR d_Mod_now_56 rfl (by subst h_1; simp only [R_now, rbad, if_true, if_false, cond_true, cond_false, decide_true, decide_false, Bool.not_true, Bool.not_false, Bool.or_true, Bool.true_or, Bool.or_false, Bool.false_or, Bool.and_true, Bool.and_false, Bool.true_and, Bool.false_and, Bool.or_self, Bool.and_self, eq_self] <;> first | rfl | (rfl)) (by subst h_1; simp only [R_now, rbad, if_true, if_false, cond_true, cond_false, decide_true, decide_false, Bool.not_true, Bool.not_false, Bool.or_true, Bool.true_or, Bool.or_false, Bool.false_or, Bool.and_true, Bool.and_false, Bool.true_and, Bool.false_and, Bool.or_self, Bool.and_self, eq_self] <;> first | rfl | (rfl))
  · refine ev_aload_n rfl hC d_Mod_now_57 ?_
    refine ev_iconst (v := nI 2) rfl hC d_Mod_now_58 ?_
    refine cv_Mod1 hC d_Mod_now_59 (c_Mod_sumOf hn (by omega) hc) mi_Mod_sumOf ml_Mod_178 im_Mod_sumOf se_Mod_sumOf rfl ⟨Nat.le_of_ble_eq_true rfl, Nat.le_of_ble_eq_true rfl⟩ ⟨Nat.le_of_ble_eq_true rfl, Nat.le_of_ble_eq_true rfl⟩ rfl rfl (Nat.le_of_ble_eq_true rfl)  ?_
    exact ev_iret hC hR d_Mod_now_62 rfl (by subst h_1; simp only [R_now, rbad, if_true, if_false, cond_true, cond_false, decide_true, decide_false, Bool.not_true, Bool.not_false, Bool.or_true, Bool.true_or, Bool.or_false, Bool.false_or, Bool.and_true, Bool.and_false, Bool.true_and, Bool.false_and, Bool.or_self, Bool.and_self, eq_self] <;> first | rfl | (rfl)) (by subst h_1; simp only [R_now, rbad, if_true, if_false, cond_true, cond_false, decide_true, decide_false, Bool.not_true, Bool.not_false, Bool.or_true, Bool.true_or, Bool.or_false, Bool.false_or, Bool.and_true, Bool.and_false, Bool.true_and, Bool.false_and, Bool.or_self, Bool.and_self, eq_self] <;> first | rfl | (rfl))
  · refine ev_aload_n rfl hC d_Mod_now_63 ?_
    refine ev_iconst (v := nI 5) rfl hC d_Mod_now_64 ?_
    refine cv_Mod1 hC d_Mod_now_65 (c_Mod_sumOf hn (by omega) hc) mi_Mod_sumOf ml_Mod_178 im_Mod_sumOf se_Mod_sumOf rfl ⟨Nat.le_of_ble_eq_true rfl, Nat.le_of_ble_eq_true rfl⟩ ⟨Nat.le_of_ble_eq_true rfl, Nat.le_of_ble_eq_true rfl⟩ rfl rfl (Nat.le_of_ble_eq_true rfl)  ?_
    exact ev_iret hC hR d_Mod_now_68 rfl (by subst h_1; simp only [R_now, rbad, if_true, if_false, cond_true, cond_false, decide_true, decide_false, Bool.not_true, Bool.not_false, Bool.or_true, Bool.true_or, Bool.or_false, Bool.false_or, Bool.and_true, Bool.and_false, Bool.true_and, Bool.false_and, Bool.or_self, Bool.and_self, eq_self] <;> first | rfl | (rfl)) (by subst h_1; simp only [R_now, rbad, if_true, if_false, cond_true, cond_false, decide_true, decide_false, Bool.not_true, Bool.not_false, Bool.or_true, Bool.true_or, Bool.or_false, Bool.false_or, Bool.and_true, Bool.and_false, Bool.true_and, Bool.false_and, Bool.or_self, Bool.and_self, eq_self] <;> first | rfl | (rfl))
  · refine ev_aload_n rfl hC d_Mod_now_69 ?_
    refine cv_Mod1 hC d_Mod_now_70 (c_Mod_onLeft hn hc) mi_Mod_onLeft ml_Mod_181 im_Mod_onLeft se_Mod_onLeft rfl ⟨Nat.le_of_ble_eq_true rfl, Nat.le_of_ble_eq_true rfl⟩ ⟨Nat.le_of_ble_eq_true rfl, Nat.le_of_ble_eq_true rfl⟩ rfl rfl (Nat.le_of_ble_eq_true rfl)  ?_
    exact ev_iret hC hR d_Mod_now_73 rfl (by subst h_1; simp only [R_now, rbad, if_true, if_false, cond_true, cond_false, decide_true, decide_false, Bool.not_true, Bool.not_false, Bool.or_true, Bool.true_or, Bool.or_false, Bool.false_or, Bool.and_true, Bool.and_false, Bool.true_and, Bool.false_and, Bool.or_self, Bool.and_self, eq_self] <;> first | rfl | (rfl)) (by subst h_1; simp only [R_now, rbad, if_true, if_false, cond_true, cond_false, decide_true, decide_false, Bool.not_true, Bool.not_false, Bool.or_true, Bool.true_or, Bool.or_false, Bool.false_or, Bool.and_true, Bool.and_false, Bool.true_and, Bool.false_and, Bool.or_self, Bool.and_self, eq_self] <;> first | rfl | (rfl))
  · refine ev_aload_n rfl hC d_Mod_now_74 ?_
    refine cv_Mod1 hC d_Mod_now_75 (c_Mod_metNow hn2 hc2) mi_Mod_metNow ml_Mod_185 im_Mod_metNow se_Mod_metNow rfl ⟨Nat.le_of_ble_eq_true rfl, Nat.le_of_ble_eq_true rfl⟩ ⟨Nat.le_of_ble_eq_true rfl, Nat.le_of_ble_eq_true rfl⟩ rfl rfl (Nat.le_of_ble_eq_true rfl)  ?_
    exact ev_iret hC hR d_Mod_now_78 rfl (by subst h_1; simp only [R_now, rbad, if_true, if_false, cond_true, cond_false, decide_true, decide_false, Bool.not_true, Bool.not_false, Bool.or_true, Bool.true_or, Bool.or_false, Bool.false_or, Bool.and_true, Bool.and_false, Bool.true_and, Bool.false_and, Bool.or_self, Bool.and_self, eq_self] <;> first | rfl | (rfl)) (by subst h_1; simp only [R_now, rbad, if_true, if_false, cond_true, cond_false, decide_true, decide_false, Bool.not_true, Bool.not_false, Bool.or_true, Bool.true_or, Bool.or_false, Bool.false_or, Bool.and_true, Bool.and_false, Bool.true_and, Bool.false_and, Bool.or_self, Bool.and_self, eq_self] <;> first | rfl | (rfl))
