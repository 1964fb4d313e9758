/-- does a trial fit the numbers: m of them from k on -/
def wsR (aw : Int32) (np ne j : Nat) (nums : Nat → Int64) : Nat → Nat → (Nat → Int32) → Bool × (Nat → Int32)
  | 0, _, b => (true, b)
  | m + 1, k, b => if nums k = (b (28 + 7 * j + 2)).toInt64 then wsR aw np ne j nums m (k + 1) (hourR aw np ne b) else (false, hourR aw np ne b)
def rdR (aw : Int32) (np ne j l : Nat) (nums : Nat → Int64) : Nat → Nat → Int32 × ex_M → Int32 × ex_M
  | 0, _, z => z
  | m + 1, v, z => rdR aw np ne j l nums m (v + 1) (if (wsR aw np ne j nums l 0 (muR j v (z.2.1 10))).1 = true then z.1 + 1 else z.1, thk (mI z.2 10 (muR j v (z.2.1 10))) (wsR aw np ne j nums l 0 (muR j v (z.2.1 10))).2)
def zRdR (M : ex_M) (np ne l : Nat) (s p : Int32) := rdR (M.1 14 1) np ne (ix p) l (nmR M (ix s)) 625 0 (0, M)
def R_read (M : ex_M) (np ne l : Nat) (s p : Int32) : Int32 × ex_M := if foR M s = 0 then (bif out p 0 (M.1 10 3 - 1) then rbad M 0 else ((zRdR M np ne l s p).1, mJ (mJ (zRdR M np ne l s p).2 10 (28 + 7 * ix p + 3) (M.1 10 (28 + 7 * ix p + 3))) 10 (28 + 7 * ix p + 4) (M.1 10 (28 + 7 * ix p + 4)))) else (foR M s, (rbadv M (foR M s)).2)
theorem m1_no24 : ∀ g, g ≤ 24 → ¬ (24 : Int32) ≤ nI g - 1 := by decide +kernel
theorem nmR_thk (M : ex_M) (b : Nat → Int32) (s : Nat) : nmR (thk M b) s = nmR M s := rfl

set_option maxHeartbeats 2000000 in
set_option maxRecDepth 10000 in
theorem lp_Mod_wasSo0 {G : ex_G} {C : ex_C} {rr : Option Value} {ee : List va_E} {M : ex_M} {s j i : Nat} (hs : s < 4) (hC : Cx G C Y_Mod_wasSo { frames := 5, cells := 0, slots := 0, locals := 112 }) (hR : Cr G C Y_Mod_wasSo 0 0 rr ee) :
    rr = some (.int 0) → ee = ce G (bck M) → Ev G C Y_Mod_wasSo 16 [some (.ref (ex_b G + 71)), some (.int (nI s)), some (.int (nI j)), some (.int 0), some (.int (nI i))] [] 0 0 (ce G (M)) := by
  intro hr he
  refine ev_iload rfl hC d_Mod_wasSo_16 ?_
  refine ev_aload_n rfl hC d_Mod_wasSo_18 ?_
  refine gv_Mod_sizes hC d_Mod_wasSo_19 fl_Mod_53  ?_
  refine ev_iload_n rfl hC d_Mod_wasSo_22 ?_
  refine ga_sizes hC d_Mod_wasSo_23 (by first | assumption | omega) ?_
  refine ev_icmp_ge 70 hC d_Mod_wasSo_24 rfl (fun h_24 => ?_) (fun h_24 => ?_)
  · refine ev_aload_n rfl hC d_Mod_wasSo_70 ?_
    refine gv_Mod_aside hC d_Mod_wasSo_71 fl_Mod_16  ?_
    refine ev_aload_n rfl hC d_Mod_wasSo_74 ?_
    refine gv_Mod_now hC d_Mod_wasSo_75 fl_Mod_9  ?_
    refine cs_0 hC d_Mod_wasSo_78 (c_cp_an) mi_Mod_copyRow ml_Mod_64 sm_Mod_copyRow ⟨Nat.le_of_ble_eq_true rfl, Nat.le_of_ble_eq_true rfl⟩ ⟨Nat.le_of_ble_eq_true rfl, Nat.le_of_ble_eq_true rfl⟩ rfl rfl (Nat.le_of_ble_eq_true rfl) ?_
    refine ev_iload_n rfl hC d_Mod_wasSo_81 ?_
    exact ev_zret hC hR d_Mod_wasSo_82 rfl (by first | exact bi_nar _ | decide) (hr) (he)
  · refine ev_iload_n rfl hC d_Mod_wasSo_27 ?_
    refine ev_if_eq 70 hC d_Mod_wasSo_28 rfl (fun _ => ?_) (fun h => absurd rfl h)
    refine ev_aload_n rfl hC d_Mod_wasSo_70 ?_
    refine gv_Mod_aside hC d_Mod_wasSo_71 fl_Mod_16  ?_
    refine ev_aload_n rfl hC d_Mod_wasSo_74 ?_
    refine gv_Mod_now hC d_Mod_wasSo_75 fl_Mod_9  ?_
    refine cs_0 hC d_Mod_wasSo_78 (c_cp_an) mi_Mod_copyRow ml_Mod_64 sm_Mod_copyRow ⟨Nat.le_of_ble_eq_true rfl, Nat.le_of_ble_eq_true rfl⟩ ⟨Nat.le_of_ble_eq_true rfl, Nat.le_of_ble_eq_true rfl⟩ rfl rfl (Nat.le_of_ble_eq_true rfl) ?_
    refine ev_iload_n rfl hC d_Mod_wasSo_81 ?_
    exact ev_zret hC hR d_Mod_wasSo_82 rfl (by first | exact bi_nar _ | decide) (hr) (he)

set_option maxHeartbeats 4000000 in
set_option maxRecDepth 10000 in
theorem lp_Mod_wasSo {G : ex_G} {C : ex_C} {rr : Option Value} {ee : List va_E} {aw : Int32} {n ne j s l : Nat} (hj : j < 8) (hs : s < 4) (hl : l ≤ 40) (hC : Cx G C Y_Mod_wasSo { frames := 5, cells := 0, slots := 0, locals := 112 }) (hR : Cr G C Y_Mod_wasSo 0 0 rr ee) :
    ∀ (m i : Nat) (M : ex_M), i + m = l → (M.1 14 1 = aw ∧ HK (M.1 10) n ne) ∧ M.1 18 s = nI l → rr = some (.int (bi (wsR aw n ne j (nmR M s) m i (M.1 10)).1)) ∧ ee = ce G (bck (mI M 10 (wsR aw n ne j (nmR M s) m i (M.1 10)).2)) → Ev G C Y_Mod_wasSo 16 [some (.ref (ex_b G + 71)), some (.int (nI s)), some (.int (nI j)), some (.int 1), some (.int (nI i))] [] 0 0 (ce G (M)) := by
  intro m
  induction m with
  | zero =>
    intro i M hm hc he
    refine ev_iload rfl hC d_Mod_wasSo_16 ?_
    refine ev_aload_n rfl hC d_Mod_wasSo_18 ?_
    refine gv_Mod_sizes hC d_Mod_wasSo_19 fl_Mod_53  ?_
    refine ev_iload_n rfl hC d_Mod_wasSo_22 ?_
    refine ga_sizes hC d_Mod_wasSo_23 (by first | assumption | omega) ?_
    refine ev_icmp_ge 70 hC d_Mod_wasSo_24 rfl (fun _ => ?_) (fun h => absurd (by rw [hc.2]; exact nI_le (by omega) (by omega)) h)
    refine ev_aload_n rfl hC d_Mod_wasSo_70 ?_
    refine gv_Mod_aside hC d_Mod_wasSo_71 fl_Mod_16  ?_
    refine ev_aload_n rfl hC d_Mod_wasSo_74 ?_
    refine gv_Mod_now hC d_Mod_wasSo_75 fl_Mod_9  ?_
    refine cs_0 hC d_Mod_wasSo_78 (c_cp_an) mi_Mod_copyRow ml_Mod_64 sm_Mod_copyRow ⟨Nat.le_of_ble_eq_true rfl, Nat.le_of_ble_eq_true rfl⟩ ⟨Nat.le_of_ble_eq_true rfl, Nat.le_of_ble_eq_true rfl⟩ rfl rfl (Nat.le_of_ble_eq_true rfl) ?_
    refine ev_iload_n rfl hC d_Mod_wasSo_81 ?_
    exact ev_zret hC hR d_Mod_wasSo_82 rfl (by first | exact bi_nar _ | decide) (by rw [he.1, wsR]; rfl) (by rw [he.2, wsR, mI_id])
  | succ m ih =>
    intro i M hm hc he
    have hi : i < 40 := by omega
    refine ev_iload rfl hC d_Mod_wasSo_16 ?_
    refine ev_aload_n rfl hC d_Mod_wasSo_18 ?_
    refine gv_Mod_sizes hC d_Mod_wasSo_19 fl_Mod_53  ?_
    refine ev_iload_n rfl hC d_Mod_wasSo_22 ?_
    refine ga_sizes hC d_Mod_wasSo_23 (by first | assumption | omega) ?_
    refine ev_icmp_ge 70 hC d_Mod_wasSo_24 rfl (fun h => absurd h (by rw [hc.2]; exact nI_ge (by omega) (by omega))) (fun _ => ?_)
    refine ev_iload_n rfl hC d_Mod_wasSo_27 ?_
    refine ev_if_eq 70 hC d_Mod_wasSo_28 rfl (fun h => absurd h (by decide)) (fun _ => ?_)
    refine ev_aload_n rfl hC d_Mod_wasSo_31 ?_
    refine gv_Mod_numbers hC d_Mod_wasSo_32 fl_Mod_56  ?_
    refine ev_bipush (v := nI 40) rfl hC d_Mod_wasSo_35 ?_
    refine ev_iload_n rfl hC d_Mod_wasSo_37 ?_
    refine ev_imul hC d_Mod_wasSo_38 ?_
    refine ev_iload rfl hC d_Mod_wasSo_39 ?_
    refine ev_iadd hC d_Mod_wasSo_41 ?_
    rw [pk_mul, nI_add]
    refine ga_numbers hC d_Mod_wasSo_42 (by first | assumption | omega) ?_
    refine ev_aload_n rfl hC d_Mod_wasSo_43 ?_
    refine ev_iload_n rfl hC d_Mod_wasSo_44 ?_
    refine ev_iconst (v := nI 2) rfl hC d_Mod_wasSo_45 ?_
    refine cv_Mod1 hC d_Mod_wasSo_46 (c_Mod_oneIs hj (by omega)) mi_Mod_oneIs ml_Mod_94 im_Mod_oneIs se_Mod_oneIs rfl ⟨Nat.le_of_ble_eq_true rfl, Nat.le_of_ble_eq_true rfl⟩ ⟨Nat.le_of_ble_eq_true rfl, Nat.le_of_ble_eq_true rfl⟩ rfl rfl (Nat.le_of_ble_eq_true rfl)  ?_
    refine ev_i2l hC d_Mod_wasSo_49 ?_
    refine ev_lcmp hC d_Mod_wasSo_50 ?_
    refine ev_if_ne 58 hC d_Mod_wasSo_51 rfl (fun h_51 => ?_) (fun h_51 => ?_)
    · refine ev_iconst (v := 0) rfl hC d_Mod_wasSo_58 ?_
      refine ev_istore_n (by decide) hC d_Mod_wasSo_59 ?_
      refine ev_aload_n rfl hC d_Mod_wasSo_60 ?_
      refine cv_Mod0 hC d_Mod_wasSo_61 (c_Mod_hour (aw := aw) (n := n) (ne := ne) hc.1.1 hc.1.2) mi_Mod_hour ml_Mod_172 im_Mod_hour se_Mod_hour rfl ⟨Nat.le_of_ble_eq_true rfl, Nat.le_of_ble_eq_true rfl⟩ ⟨Nat.le_of_ble_eq_true rfl, Nat.le_of_ble_eq_true rfl⟩ rfl rfl (Nat.le_of_ble_eq_true rfl)  ?_
      refine ev_iinc rfl (by decide) (nI_1 _) hC d_Mod_wasSo_64 ?_
      refine ev_goto 16 hC d_Mod_wasSo_67 rfl ?_
      rw [show (wsR aw n ne j (nmR M s) (m + 1) i (M.1 10)) = (false, hourR aw n ne (M.1 10)) from if_neg (fun e => h_51 ((lg_cmp_eq _ _).mpr e))] at he
      exact lp_Mod_wasSo0 hs hC hR he.1 he.2
    · refine ev_iconst (v := 1) rfl hC d_Mod_wasSo_54 ?_
      refine ev_goto 59 hC d_Mod_wasSo_55 rfl ?_
      refine ev_istore_n (by decide) hC d_Mod_wasSo_59 ?_
      refine ev_aload_n rfl hC d_Mod_wasSo_60 ?_
      refine cv_Mod0 hC d_Mod_wasSo_61 (c_Mod_hour (aw := aw) (n := n) (ne := ne) hc.1.1 hc.1.2) mi_Mod_hour ml_Mod_172 im_Mod_hour se_Mod_hour rfl ⟨Nat.le_of_ble_eq_true rfl, Nat.le_of_ble_eq_true rfl⟩ ⟨Nat.le_of_ble_eq_true rfl, Nat.le_of_ble_eq_true rfl⟩ rfl rfl (Nat.le_of_ble_eq_true rfl)  ?_
      refine ev_iinc rfl (by decide) (nI_1 _) hC d_Mod_wasSo_64 ?_
      refine ev_goto 16 hC d_Mod_wasSo_67 rfl ?_
      refine ih (i + 1) _ (by omega) ⟨⟨hc.1.1, by simp only [mI, wr_s]; exact HK_hourR hc.1.2⟩, by simp only [mI]; rw [wr_n (by decide)]; exact hc.2⟩ ?_
      rw [he.1, he.2, show (wsR aw n ne j (nmR M s) (m + 1) i (M.1 10)) = wsR aw n ne j (nmR M s) m (i + 1) (hourR aw n ne (M.1 10)) from if_pos ((lg_cmp_eq _ _).mp h_51)]
      simp only [mI, wr_wr, wr_s]
      exact ⟨rfl, rfl⟩

set_option maxHeartbeats 2000000 in
set_option maxRecDepth 10000 in
theorem c_Mod_wasSo {G : ex_G} {M : ex_M} {aw : Int32} {n ne j s l : Nat} (hj : j < 8) (hs : s < 4) (hl : l ≤ 40) (el : M.1 18 s = nI l) (ha : M.1 14 1 = aw) (hk : HK (M.1 10) n ne) : Con G Y_Mod_wasSo 5 112 0 0 [.ref (ex_b G + 71), .int (nI s), .int (nI j)] (ce G M) (some (.int (bi (wsR aw n ne j (nmR M s) l 0 (M.1 10)).1))) (ce G (thk M (wsR aw n ne j (nmR M s) l 0 (M.1 10)).2)) := by
  refine Con.ofF (plainFor_of_name (by decide +kernel)) (Nat.le_of_ble_eq_true rfl) (fun C hC hR => ?_)
  show Ev G C Y_Mod_wasSo 0 [some (.ref (ex_b G + 71)), some (.int (nI s)), some (.int (nI j))] [] 0 0 (ce G M)
  refine ev_aload_n rfl hC d_Mod_wasSo_0 ?_
  refine gv_Mod_now hC d_Mod_wasSo_1 fl_Mod_9  ?_
  refine ev_aload_n rfl hC d_Mod_wasSo_4 ?_
  refine gv_Mod_aside hC d_Mod_wasSo_5 fl_Mod_16  ?_
  refine cs_0 hC d_Mod_wasSo_8 (c_cp_na) mi_Mod_copyRow ml_Mod_64 sm_Mod_copyRow ⟨Nat.le_of_ble_eq_true rfl, Nat.le_of_ble_eq_true rfl⟩ ⟨Nat.le_of_ble_eq_true rfl, Nat.le_of_ble_eq_true rfl⟩ rfl rfl (Nat.le_of_ble_eq_true rfl) ?_
  refine ev_iconst (v := 1) rfl hC d_Mod_wasSo_11 ?_
  refine ev_istore_n (by decide) hC d_Mod_wasSo_12 ?_
  refine ev_iconst (v := nI 0) rfl hC d_Mod_wasSo_13 ?_
  refine ev_istore (by decide) hC d_Mod_wasSo_14 ?_
  refine lp_Mod_wasSo (aw := aw) (n := n) (ne := ne) hj hs hl hC hR l 0 (asd M) (by omega) ⟨⟨by rw [asd_14]; exact ha, by rw [asd_10]; exact hk⟩, by simp only [asd, mI]; rw [wr_n (by decide)]; exact el⟩ ?_
  rw [asd_10]
  exact ⟨rfl, rfl⟩

set_option maxHeartbeats 4000000 in
set_option maxRecDepth 10000 in
theorem lp_Mod_read2 {G : ex_G} {C : ex_C} {rr : Option Value} {ee : List va_E} {aw g0 e0 : Int32} {n ne j s l g k : Nat} {nm : Nat → Int64} (hj : j < 8) (hs : s < 4) (hl : l ≤ 40) (hg : g < 25) (hK : ∀ (M : ex_M) (c0 : Int32), ((M.1 14 1 = aw ∧ HK (M.1 10) n ne) ∧ M.1 18 s = nI l ∧ nmR M s = nm) → rr = some (.int (rdR aw n ne j l nm (25 * k) (25 * (g + 1)) (c0, M)).1) ∧ ee = ce G (mJ (mJ (rdR aw n ne j l nm (25 * k) (25 * (g + 1)) (c0, M)).2 10 (28 + 7 * j + 3) g0) 10 (28 + 7 * j + 4) e0) → Ev G C Y_Mod_read 60 [some (.ref (ex_b G + 71)), some (.int (nI s)), some (.int (nI j)), some (.int g0), some (.int e0), some (.int c0), some (.int (nI (g + 1) - 1))] [] 0 0 (ce G M)) (hC : Cx G C Y_Mod_read { frames := 6, cells := 0, slots := 0, locals := 136 }) (hR : Cr G C Y_Mod_read 0 0 rr ee) :
    ∀ (m i : Nat) (M : ex_M) (c0 : Int32), i + m = 25 → (M.1 14 1 = aw ∧ HK (M.1 10) n ne) ∧ M.1 18 s = nI l ∧ nmR M s = nm → rr = some (.int (rdR aw n ne j l nm (m + 25 * k) (25 * g + i) (c0, M)).1) ∧ ee = ce G (mJ (mJ (rdR aw n ne j l nm (m + 25 * k) (25 * g + i) (c0, M)).2 10 (28 + 7 * j + 3) g0) 10 (28 + 7 * j + 4) e0) → Ev G C Y_Mod_read 70 [some (.ref (ex_b G + 71)), some (.int (nI s)), some (.int (nI j)), some (.int g0), some (.int e0), some (.int c0), some (.int (nI g - 1)), some (.int (nI i - 1))] [] 0 0 (ce G (M)) := by
  intro m
  induction m with
  | zero =>
    intro i M c0 hm hc he
    refine ev_iload rfl hC d_Mod_read_70 ?_
    refine ev_bipush (v := 24) rfl hC d_Mod_read_72 ?_
    refine ev_icmp_ge 126 hC d_Mod_read_74 rfl (fun _ => ?_) (fun h => absurd (by rw [show i = 25 by omega]; decide) h)
    refine ev_iinc rfl (by decide) (m1_inc _) hC d_Mod_read_126 ?_
    refine ev_goto 60 hC d_Mod_read_129 rfl ?_
    refine Ev.take 7 ?_
    exact hK M c0 hc (by rw [he.1, he.2, show 0 + 25 * k = 25 * k by omega, show 25 * g + i = 25 * (g + 1) by omega]; exact ⟨rfl, rfl⟩)
  | succ m ih =>
    intro i M c0 hm hc he
    skip
    refine ev_iload rfl hC d_Mod_read_70 ?_
    refine ev_bipush (v := 24) rfl hC d_Mod_read_72 ?_
    refine ev_icmp_ge 126 hC d_Mod_read_74 rfl (fun h => absurd h (m1_no24 i (by omega))) (fun _ => ?_)
    refine ev_aload_n rfl hC d_Mod_read_77 ?_
    refine gv_Mod_now hC d_Mod_read_78 fl_Mod_9  ?_
    refine ev_iload_n rfl hC d_Mod_read_81 ?_
    refine ev_iconst (v := nI 3) rfl hC d_Mod_read_82 ?_
    refine cs_1 hC d_Mod_read_83 (c_Mod_at) mi_Mod_at ml_Mod_76 sm_Mod_at ⟨Nat.le_of_ble_eq_true rfl, Nat.le_of_ble_eq_true rfl⟩ ⟨Nat.le_of_ble_eq_true rfl, Nat.le_of_ble_eq_true rfl⟩ rfl rfl (Nat.le_of_ble_eq_true rfl) ?_
    refine ev_iload rfl hC d_Mod_read_86 ?_
    refine pa_now hC d_Mod_read_88 (by first | assumption | omega) ?_
    refine ev_aload_n rfl hC d_Mod_read_89 ?_
    refine gv_Mod_now hC d_Mod_read_90 fl_Mod_9  ?_
    refine ev_iload_n rfl hC d_Mod_read_93 ?_
    refine ev_iconst (v := nI 4) rfl hC d_Mod_read_94 ?_
    refine cs_1 hC d_Mod_read_95 (c_Mod_at) mi_Mod_at ml_Mod_76 sm_Mod_at ⟨Nat.le_of_ble_eq_true rfl, Nat.le_of_ble_eq_true rfl⟩ ⟨Nat.le_of_ble_eq_true rfl, Nat.le_of_ble_eq_true rfl⟩ rfl rfl (Nat.le_of_ble_eq_true rfl) ?_
    refine ev_iload rfl hC d_Mod_read_98 ?_
    refine pa_now hC d_Mod_read_100 (by first | assumption | omega) ?_
    refine ev_iload rfl hC d_Mod_read_101 ?_
    refine ev_aload_n rfl hC d_Mod_read_103 ?_
    refine ev_iload_n rfl hC d_Mod_read_104 ?_
    refine ev_iload_n rfl hC d_Mod_read_105 ?_
    refine cv_Mod1 hC d_Mod_read_106 (c_Mod_wasSo (aw := aw) (n := n) (ne := ne) (l := l) hj hs hl (by simp only [mJ, wr_n (show (18 : Nat) ≠ 10 by decide)]; exact hc.2.1) (by simp only [mJ, wr_n (show (14 : Nat) ≠ 10 by decide)]; exact hc.1.1) (by simp only [mJ, wr_s]; exact (HK_upd (HK_upd hc.1.2 (by omega) (by omega) (fun p hp => by omega)) (by omega) (by omega) (fun p hp => by omega)))) mi_Mod_wasSo ml_Mod_319 im_Mod_wasSo se_Mod_wasSo rfl ⟨Nat.le_of_ble_eq_true rfl, Nat.le_of_ble_eq_true rfl⟩ ⟨Nat.le_of_ble_eq_true rfl, Nat.le_of_ble_eq_true rfl⟩ rfl rfl (Nat.le_of_ble_eq_true rfl)  ?_
    refine eb_eq 116 hC d_Mod_read_109 rfl (fun h_109 => ?_) (fun h_109 => ?_)
    · refine ev_iconst (v := 0) rfl hC d_Mod_read_116 ?_
      refine ev_iadd hC d_Mod_read_117 ?_
      refine ev_istore (by decide) hC d_Mod_read_118 ?_
      refine ev_iinc rfl (by decide) (m1_inc _) hC d_Mod_read_120 ?_
      refine ev_goto 70 hC d_Mod_read_123 rfl ?_
      have hu : muR j (25 * g + i) (M.1 10) = upd (upd (M.1 10) (28 + 7 * j + 3) (nI g - 1)) (28 + 7 * j + 4) (nI i - 1) := by rw [muR, show (25 * g + i) / 25 = g by omega, show (25 * g + i) % 25 = i by omega]
      have en : nmR (mJ (mJ M 10 (28 + 7 * j + 3) (nI g - 1)) 10 (28 + 7 * j + 4) (nI i - 1)) s = nm := hc.2.2
      have er : (mJ (mJ M 10 (28 + 7 * j + 3) (nI g - 1)) 10 (28 + 7 * j + 4) (nI i - 1)).1 10 = upd (upd (M.1 10) (28 + 7 * j + 3) (nI g - 1)) (28 + 7 * j + 4) (nI i - 1) := by simp only [mJ, wr_s]
      have ew : mJ (mJ M 10 (28 + 7 * j + 3) (nI g - 1)) 10 (28 + 7 * j + 4) (nI i - 1) = mI M 10 (upd (upd (M.1 10) (28 + 7 * j + 3) (nI g - 1)) (28 + 7 * j + 4) (nI i - 1)) := by simp only [mI, mJ, wr_wr, wr_s]
      have h109 := h_109
      rw [en, er, ← hu] at h109
      refine Ev.take 8 ?_
      refine ih (i + 1) _ _ (by omega) ⟨⟨by rw [thk_n (by decide) (by decide)]; simp only [mJ, wr_n (show (14 : Nat) ≠ 10 by decide)]; exact hc.1.1, HK_thk (by simp only [mJ, wr_s]; exact (HK_upd (HK_upd hc.1.2 (by omega) (by omega) (fun p hp => by omega)) (by omega) (by omega) (fun p hp => by omega)))⟩, by rw [thk_n (by decide) (by decide)]; simp only [mJ, wr_n (show (18 : Nat) ≠ 10 by decide)]; exact hc.2.1, hc.2.2⟩ ?_
      rw [he.1, he.2, show m + 1 + 25 * k = m + 25 * k + 1 by omega, rdR, show 25 * g + i + 1 = 25 * g + (i + 1) by omega, if_neg (by rw [h109]; decide), en, er, ew, ← hu]
      exact ⟨by rw [Int32.add_zero], by rw [Int32.add_zero]⟩
    · refine ev_iconst (v := 1) rfl hC d_Mod_read_112 ?_
      refine ev_goto 117 hC d_Mod_read_113 rfl ?_
      refine ev_iadd hC d_Mod_read_117 ?_
      refine ev_istore (by decide) hC d_Mod_read_118 ?_
      refine ev_iinc rfl (by decide) (m1_inc _) hC d_Mod_read_120 ?_
      refine ev_goto 70 hC d_Mod_read_123 rfl ?_
      have hu : muR j (25 * g + i) (M.1 10) = upd (upd (M.1 10) (28 + 7 * j + 3) (nI g - 1)) (28 + 7 * j + 4) (nI i - 1) := by rw [muR, show (25 * g + i) / 25 = g by omega, show (25 * g + i) % 25 = i by omega]
      have en : nmR (mJ (mJ M 10 (28 + 7 * j + 3) (nI g - 1)) 10 (28 + 7 * j + 4) (nI i - 1)) s = nm := hc.2.2
      have er : (mJ (mJ M 10 (28 + 7 * j + 3) (nI g - 1)) 10 (28 + 7 * j + 4) (nI i - 1)).1 10 = upd (upd (M.1 10) (28 + 7 * j + 3) (nI g - 1)) (28 + 7 * j + 4) (nI i - 1) := by simp only [mJ, wr_s]
      have ew : mJ (mJ M 10 (28 + 7 * j + 3) (nI g - 1)) 10 (28 + 7 * j + 4) (nI i - 1) = mI M 10 (upd (upd (M.1 10) (28 + 7 * j + 3) (nI g - 1)) (28 + 7 * j + 4) (nI i - 1)) := by simp only [mI, mJ, wr_wr, wr_s]
      have h109 := h_109
      rw [en, er, ← hu] at h109
      refine Ev.take 8 ?_
      refine ih (i + 1) _ _ (by omega) ⟨⟨by rw [thk_n (by decide) (by decide)]; simp only [mJ, wr_n (show (14 : Nat) ≠ 10 by decide)]; exact hc.1.1, HK_thk (by simp only [mJ, wr_s]; exact (HK_upd (HK_upd hc.1.2 (by omega) (by omega) (fun p hp => by omega)) (by omega) (by omega) (fun p hp => by omega)))⟩, by rw [thk_n (by decide) (by decide)]; simp only [mJ, wr_n (show (18 : Nat) ≠ 10 by decide)]; exact hc.2.1, hc.2.2⟩ ?_
      rw [he.1, he.2, show m + 1 + 25 * k = m + 25 * k + 1 by omega, rdR, show 25 * g + i + 1 = 25 * g + (i + 1) by omega, if_pos h109, en, er, ew, ← hu]
      exact ⟨rfl, rfl⟩

set_option maxHeartbeats 4000000 in
set_option maxRecDepth 10000 in
theorem lp_Mod_read1 {G : ex_G} {C : ex_C} {rr : Option Value} {ee : List va_E} {aw g0 e0 : Int32} {n ne j s l : Nat} {nm : Nat → Int64} (hj : j < 8) (hs : s < 4) (hl : l ≤ 40) (hC : Cx G C Y_Mod_read { frames := 6, cells := 0, slots := 0, locals := 136 }) (hR : Cr G C Y_Mod_read 0 0 rr ee) :
    ∀ (m i : Nat) (M : ex_M) (c0 : Int32), i + m = 25 → (M.1 14 1 = aw ∧ HK (M.1 10) n ne) ∧ M.1 18 s = nI l ∧ nmR M s = nm → rr = some (.int (rdR aw n ne j l nm (25 * m) (25 * i) (c0, M)).1) ∧ ee = ce G (mJ (mJ (rdR aw n ne j l nm (25 * m) (25 * i) (c0, M)).2 10 (28 + 7 * j + 3) g0) 10 (28 + 7 * j + 4) e0) → Ev G C Y_Mod_read 60 [some (.ref (ex_b G + 71)), some (.int (nI s)), some (.int (nI j)), some (.int g0), some (.int e0), some (.int c0), some (.int (nI i - 1))] [] 0 0 (ce G (M)) := by
  intro m
  induction m with
  | zero =>
    intro i M c0 hm hc he
    refine ev_iload rfl hC d_Mod_read_60 ?_
    refine ev_bipush (v := 24) rfl hC d_Mod_read_62 ?_
    refine ev_icmp_ge 132 hC d_Mod_read_64 rfl (fun _ => ?_) (fun h => absurd (by rw [show i = 25 by omega]; decide) h)
    refine ev_aload_n rfl hC d_Mod_read_132 ?_
    refine gv_Mod_now hC d_Mod_read_133 fl_Mod_9  ?_
    refine ev_iload_n rfl hC d_Mod_read_136 ?_
    refine ev_iconst (v := nI 3) rfl hC d_Mod_read_137 ?_
    refine cs_1 hC d_Mod_read_138 (c_Mod_at) mi_Mod_at ml_Mod_76 sm_Mod_at ⟨Nat.le_of_ble_eq_true rfl, Nat.le_of_ble_eq_true rfl⟩ ⟨Nat.le_of_ble_eq_true rfl, Nat.le_of_ble_eq_true rfl⟩ rfl rfl (Nat.le_of_ble_eq_true rfl) ?_
    refine ev_iload_n rfl hC d_Mod_read_141 ?_
    refine pa_now hC d_Mod_read_142 (by first | assumption | omega) ?_
    refine ev_aload_n rfl hC d_Mod_read_143 ?_
    refine gv_Mod_now hC d_Mod_read_144 fl_Mod_9  ?_
    refine ev_iload_n rfl hC d_Mod_read_147 ?_
    refine ev_iconst (v := nI 4) rfl hC d_Mod_read_148 ?_
    refine cs_1 hC d_Mod_read_149 (c_Mod_at) mi_Mod_at ml_Mod_76 sm_Mod_at ⟨Nat.le_of_ble_eq_true rfl, Nat.le_of_ble_eq_true rfl⟩ ⟨Nat.le_of_ble_eq_true rfl, Nat.le_of_ble_eq_true rfl⟩ rfl rfl (Nat.le_of_ble_eq_true rfl) ?_
    refine ev_iload rfl hC d_Mod_read_152 ?_
    refine pa_now hC d_Mod_read_154 (by first | assumption | omega) ?_
    refine ev_iload rfl hC d_Mod_read_155 ?_
    exact ev_iret hC hR d_Mod_read_157 rfl (by rw [he.1, show 25 * 0 = 0 from rfl, rdR]) (by rw [he.2, show 25 * 0 = 0 from rfl, rdR])
  | succ m ih =>
    intro i M c0 hm hc he
    skip
    refine ev_iload rfl hC d_Mod_read_60 ?_
    refine ev_bipush (v := 24) rfl hC d_Mod_read_62 ?_
    refine ev_icmp_ge 132 hC d_Mod_read_64 rfl (fun h => absurd h (m1_no24 i (by omega))) (fun _ => ?_)
    refine ev_iconst (v := nI 0 - 1) (by decide) hC d_Mod_read_67 ?_
    refine ev_istore (by decide) hC d_Mod_read_68 ?_
    exact lp_Mod_read2 (g := i) (k := m) hj hs hl (by omega) (fun M2 c2 h2 he2 => ih (i + 1) M2 c2 (by omega) h2 he2) hC hR 25 0 M c0 (by omega) hc (by rw [he.1, he.2, show 25 * (m + 1) = 25 + 25 * m by omega, show 25 * i + 0 = 25 * i by omega]; exact ⟨rfl, rfl⟩)

set_option maxHeartbeats 2000000 in
set_option maxRecDepth 10000 in
theorem c_Mod_read {G : ex_G} {M : ex_M} {np ne l : Nat} {x p : Int32} (hl0 : ∀ s, s < 4 → x = nI s → l ≤ 40 ∧ M.1 18 s = nI l) (w : WF (M.1 10) np ne) : Con G Y_Mod_read 6 136 0 0 [.ref (ex_b G + 71), .int x, .int p] (ce G M) (some (.int (R_read M np ne l x p).1)) (ce G ((R_read M np ne l x p).2)) := by
  refine Con.ofF (plainFor_of_name (by decide +kernel)) (Nat.le_of_ble_eq_true rfl) (fun C hC hR => ?_)
  show Ev G C Y_Mod_read 0 [some (.ref (ex_b G + 71)), some (.int x), some (.int p)] [] 0 0 (ce G M)
  obtain ⟨hc, hn, hc2, hn2, hmet, hkd, hkn⟩ := w
  refine ev_aload_n rfl hC d_Mod_read_0 ?_
  refine ev_iload_n rfl hC d_Mod_read_1 ?_
  refine cv_Mod1 hC d_Mod_read_2 (c_Mod_lacks ) mi_Mod_lacks ml_Mod_314 im_Mod_lacks se_Mod_lacks rfl ⟨Nat.le_of_ble_eq_true rfl, Nat.le_of_ble_eq_true rfl⟩ ⟨Nat.le_of_ble_eq_true rfl, Nat.le_of_ble_eq_true rfl⟩ rfl rfl (Nat.le_of_ble_eq_true rfl)  ?_
  refine ev_if_ne 16 hC d_Mod_read_5 rfl (fun h_5 => ?_) (fun h_5 => ?_)
  · refine ev_aload_n rfl hC d_Mod_read_16 ?_
    refine ev_aload_n rfl hC d_Mod_read_17 ?_
    refine ev_iload_n rfl hC d_Mod_read_18 ?_
    refine cv_Mod1 hC d_Mod_read_19 (c_Mod_lacks ) mi_Mod_lacks ml_Mod_314 im_Mod_lacks se_Mod_lacks rfl ⟨Nat.le_of_ble_eq_true rfl, Nat.le_of_ble_eq_true rfl⟩ ⟨Nat.le_of_ble_eq_true rfl, Nat.le_of_ble_eq_true rfl⟩ rfl rfl (Nat.le_of_ble_eq_true rfl)  ?_
    refine ev_if_eq 33 hC d_Mod_read_22 rfl (fun h_22 => ?_) (fun h_22 => ?_)
    · refine ev_ldc kc_Mod_63 hC d_Mod_read_33 ?_
      refine cv_Mod1 hC d_Mod_read_35 (c_Mod_finding (k := 0) (by omega) (by decide +kernel)) mi_Mod_finding ml_Mod_82 im_Mod_finding se_Mod_finding rfl ⟨Nat.le_of_ble_eq_true rfl, Nat.le_of_ble_eq_true rfl⟩ ⟨Nat.le_of_ble_eq_true rfl, Nat.le_of_ble_eq_true rfl⟩ rfl rfl (Nat.le_of_ble_eq_true rfl)  ?_
      exact ev_iret hC hR d_Mod_read_38 rfl (by exact absurd h_22 h_5) (by exact absurd h_22 h_5)
    · refine ev_aload_n rfl hC d_Mod_read_25 ?_
      refine ev_iload_n rfl hC d_Mod_read_26 ?_
      refine cv_Mod1 hC d_Mod_read_27 (c_Mod_lacks ) mi_Mod_lacks ml_Mod_314 im_Mod_lacks se_Mod_lacks rfl ⟨Nat.le_of_ble_eq_true rfl, Nat.le_of_ble_eq_true rfl⟩ ⟨Nat.le_of_ble_eq_true rfl, Nat.le_of_ble_eq_true rfl⟩ rfl rfl (Nat.le_of_ble_eq_true rfl)  ?_
      refine ev_goto 35 hC d_Mod_read_30 rfl ?_
      refine cv_Mod1 hC d_Mod_read_35 (c_Mod_finding_fo (foR_n h_22)) mi_Mod_finding ml_Mod_82 im_Mod_finding se_Mod_finding rfl ⟨Nat.le_of_ble_eq_true rfl, Nat.le_of_ble_eq_true rfl⟩ ⟨Nat.le_of_ble_eq_true rfl, Nat.le_of_ble_eq_true rfl⟩ rfl rfl (Nat.le_of_ble_eq_true rfl)  ?_
      exact ev_iret hC hR d_Mod_read_38 rfl (by rw [R_read, if_neg h_5]) (by rw [R_read, if_neg h_5])
  · refine ev_aload_n rfl hC d_Mod_read_8 ?_
    refine ev_iload_n rfl hC d_Mod_read_9 ?_
    refine cv_Mod1 hC d_Mod_read_10 (c_Mod_isOne ) mi_Mod_isOne ml_Mod_122 im_Mod_isOne se_Mod_isOne rfl ⟨Nat.le_of_ble_eq_true rfl, Nat.le_of_ble_eq_true rfl⟩ ⟨Nat.le_of_ble_eq_true rfl, Nat.le_of_ble_eq_true rfl⟩ rfl rfl (Nat.le_of_ble_eq_true rfl)  ?_
    refine en_ne 39 hC d_Mod_read_13 rfl (fun h_13 => ?_) (fun h_13 => ?_)
    · obtain ⟨s, hs, rfl, hms⟩ := foR_0 h_5
      have cs : (nI s).toNatClampNeg = s := nI_clamp (by omega)
      obtain ⟨hl, el⟩ := hl0 s hs rfl
      obtain ⟨i, hi, rfl⟩ := out_ix hc hn h_13
      have ci : (nI i).toNatClampNeg = i := nI_clamp (by omega)
      refine ev_aload_n rfl hC d_Mod_read_39 ?_
      refine ev_iload_n rfl hC d_Mod_read_40 ?_
      refine ev_iconst (v := nI 3) rfl hC d_Mod_read_41 ?_
      refine cv_Mod1 hC d_Mod_read_42 (c_Mod_oneIs (by omega) (by omega)) mi_Mod_oneIs ml_Mod_94 im_Mod_oneIs se_Mod_oneIs rfl ⟨Nat.le_of_ble_eq_true rfl, Nat.le_of_ble_eq_true rfl⟩ ⟨Nat.le_of_ble_eq_true rfl, Nat.le_of_ble_eq_true rfl⟩ rfl rfl (Nat.le_of_ble_eq_true rfl)  ?_
      refine ev_istore_n (by decide) hC d_Mod_read_45 ?_
      refine ev_aload_n rfl hC d_Mod_read_46 ?_
      refine ev_iload_n rfl hC d_Mod_read_47 ?_
      refine ev_iconst (v := nI 4) rfl hC d_Mod_read_48 ?_
      refine cv_Mod1 hC d_Mod_read_49 (c_Mod_oneIs (by omega) (by omega)) mi_Mod_oneIs ml_Mod_94 im_Mod_oneIs se_Mod_oneIs rfl ⟨Nat.le_of_ble_eq_true rfl, Nat.le_of_ble_eq_true rfl⟩ ⟨Nat.le_of_ble_eq_true rfl, Nat.le_of_ble_eq_true rfl⟩ rfl rfl (Nat.le_of_ble_eq_true rfl)  ?_
      refine ev_istore (by decide) hC d_Mod_read_52 ?_
      refine ev_iconst (v := 0) rfl hC d_Mod_read_54 ?_
      refine ev_istore (by decide) hC d_Mod_read_55 ?_
      refine ev_iconst (v := nI 0 - 1) (by decide) hC d_Mod_read_57 ?_
      refine ev_istore (by decide) hC d_Mod_read_58 ?_
      refine lp_Mod_read1 (aw := M.1 14 1) (n := np) (ne := ne) (j := i) (nm := nmR M s) (by omega) hs hl hC hR 25 0 M 0 (by omega) ⟨⟨rfl, (HK_of ⟨hc, hn, hc2, hn2, hmet, hkd, hkn⟩)⟩, el, rfl⟩ ?_
      rw [R_read, if_pos h_5]
      simp only [h_13, zRdR, ix, ci, cs, cond_false]
      exact ⟨trivial, trivial⟩
    · refine ev_aload_n rfl hC d_Mod_read_16 ?_
      refine ev_aload_n rfl hC d_Mod_read_17 ?_
      refine ev_iload_n rfl hC d_Mod_read_18 ?_
      refine cv_Mod1 hC d_Mod_read_19 (c_Mod_lacks ) mi_Mod_lacks ml_Mod_314 im_Mod_lacks se_Mod_lacks rfl ⟨Nat.le_of_ble_eq_true rfl, Nat.le_of_ble_eq_true rfl⟩ ⟨Nat.le_of_ble_eq_true rfl, Nat.le_of_ble_eq_true rfl⟩ rfl rfl (Nat.le_of_ble_eq_true rfl)  ?_
      refine ev_if_eq 33 hC d_Mod_read_22 rfl (fun h_22 => ?_) (fun h_22 => ?_)
      · refine ev_ldc kc_Mod_63 hC d_Mod_read_33 ?_
        refine cv_Mod1 hC d_Mod_read_35 (c_Mod_finding (k := 0) (by omega) (by decide +kernel)) mi_Mod_finding ml_Mod_82 im_Mod_finding se_Mod_finding rfl ⟨Nat.le_of_ble_eq_true rfl, Nat.le_of_ble_eq_true rfl⟩ ⟨Nat.le_of_ble_eq_true rfl, Nat.le_of_ble_eq_true rfl⟩ rfl rfl (Nat.le_of_ble_eq_true rfl)  ?_
        exact ev_iret hC hR d_Mod_read_38 rfl (by rw [R_read, if_pos h_5]; simp only [h_13, rbad, cond_true] <;> rfl) (by rw [R_read, if_pos h_5]; simp only [h_13, rbad, cond_true])
      · refine ev_aload_n rfl hC d_Mod_read_25 ?_
        refine ev_iload_n rfl hC d_Mod_read_26 ?_
        refine cv_Mod1 hC d_Mod_read_27 (c_Mod_lacks ) mi_Mod_lacks ml_Mod_314 im_Mod_lacks se_Mod_lacks rfl ⟨Nat.le_of_ble_eq_true rfl, Nat.le_of_ble_eq_true rfl⟩ ⟨Nat.le_of_ble_eq_true rfl, Nat.le_of_ble_eq_true rfl⟩ rfl rfl (Nat.le_of_ble_eq_true rfl)  ?_
        refine ev_goto 35 hC d_Mod_read_30 rfl ?_
        refine cv_Mod1 hC d_Mod_read_35 (c_Mod_finding_fo (foR_n h_22)) mi_Mod_finding ml_Mod_82 im_Mod_finding se_Mod_finding rfl ⟨Nat.le_of_ble_eq_true rfl, Nat.le_of_ble_eq_true rfl⟩ ⟨Nat.le_of_ble_eq_true rfl, Nat.le_of_ble_eq_true rfl⟩ rfl rfl (Nat.le_of_ble_eq_true rfl)  ?_
        exact ev_iret hC hR d_Mod_read_38 rfl (by exact absurd h_5 h_22) (by exact absurd h_5 h_22)
