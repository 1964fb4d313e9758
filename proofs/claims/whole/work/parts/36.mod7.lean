theorem thk_10 (M : ex_M) (b : Nat → Int32) : (thk M b).1 10 = cpf 84 (cpf 84 (M.1 10) (M.1 12)) b := by
  simp only [thk, bck, asd, mI, wr_s, wr_n (show (12 : Nat) ≠ 10 by decide)]
theorem thk_n {M : ex_M} {b : Nat → Int32} {q : Nat} (h : q ≠ 10) (h2 : q ≠ 12) : (thk M b).1 q = M.1 q := by
  simp only [thk, bck, asd, mI, wr_n h, wr_n h2]
theorem cpf_lt {a b : Nat → Int32} {k j : Nat} (h : j < k) : cpf k a b j = a j := by unfold cpf; rw [if_pos h]
theorem HK_ext {a b : Nat → Int32} {np ne : Nat} (h : HK a np ne) (e : ∀ j, j < 84 → b j = a j) : HK b np ne := by
  obtain ⟨e1, e2, e3, e4, e5, e6⟩ := h
  refine ⟨by rw [e 3 (by omega)]; exact e1, e2, by rw [e 2 (by omega)]; exact e3, e4, fun p hp => ?_, fun p hp => ?_⟩
  · rw [e _ (by omega)]; exact e5 p hp
  · rw [e _ (by omega)]; exact e6 p hp
theorem thk_eq {M : ex_M} {b : Nat → Int32} {j : Nat} (h : j < 84) : (thk M b).1 10 j = M.1 10 j := by rw [thk_10, cpf_lt h, cpf_lt h]
theorem HK_thk {M : ex_M} {b : Nat → Int32} {np ne : Nat} (h : HK (M.1 10) np ne) : HK ((thk M b).1 10) np ne := HK_ext h (fun _ hj => thk_eq hj)
theorem HK_kd {a : Nat → Int32} {np ne i k : Nat} (h : HK a np ne) (hi : i < 8) (hk : k < 6) : HK (upd a (28 + 7 * i + 0) (nI k)) np ne := by
  obtain ⟨e1, e2, e3, e4, e5, e6⟩ := h
  refine ⟨by rw [ud_n (by omega)]; exact e1, e2, by rw [ud_n (by omega)]; exact e3, e4, fun p hp => ?_, fun p hp => ?_⟩
  · by_cases hpi : p = i
    · subst hpi; rw [ud_s]; exact ⟨k, hk, rfl⟩
    · rw [ud_n (by omega)]; exact e5 p hp
  · rw [ud_n (by omega)]; exact e6 p hp
/-- one trial in the reference's row -/
def prb (M : ex_M) (aw : Int32) (np ne h : Nat) (b : Nat → Int32) : ex_M := thk (mI M 10 b) (hoursR aw np ne h b)
def mxI (x y : Int32) : Int32 := if x < y then y else x
/-- the first of so many by which one place of the row brings most -/
def lpW (aw : Int32) (np ne h j pl : Nat) : Nat → Nat → ex_M × Int32 × Int32 → ex_M × Int32 × Int32
  | 0, _, z => z
  | m + 1, v, z => lpW aw np ne h j pl m (v + 1) (prb z.1 aw np ne h (upd (z.1.1 10) pl (nI v)), if hoursR aw np ne h (upd (z.1.1 10) pl (nI v)) (28 + 7 * j + 2) ≤ z.2.2 then z.2.1 else nI v, mxI z.2.2 (hoursR aw np ne h (upd (z.1.1 10) pl (nI v)) (28 + 7 * j + 2)))
def bwR (M : ex_M) (aw : Int32) (np ne h j pl mn : Nat) : Int32 × ex_M := ((lpW aw np ne h j pl mn 0 (M, 0, -1)).2.1, mJ (lpW aw np ne h j pl mn 0 (M, 0, -1)).1 10 pl (M.1 10 pl))
def R_bank (M : ex_M) (np ne : Nat) (p n : Int32) : Int32 × ex_M := bif out p 0 (M.1 10 3 - 1) || out n 0 72 then rbad M 0 else bwR M (M.1 14 1) np ne (ix n) (ix p) (28 + 7 * ix p + 1) 2
def R_kind (M : ex_M) (np ne : Nat) (p n : Int32) : Int32 × ex_M := bif out p 0 (M.1 10 3 - 1) || out n 0 72 then rbad M 0 else bwR M (M.1 14 1) np ne (ix n) (ix p) (28 + 7 * ix p + 0) 6
/-- the clocks by which one brings most: richest in row 14, place 2 -/
def lpF (aw : Int32) (np ne h j : Nat) : Nat → Nat → ex_M × Int32 → ex_M × Int32
  | 0, _, z => z
  | m + 1, v, z => lpF aw np ne h j m (v + 1) (mJ (prb z.1 aw np ne h (muC j v (z.1.1 10))) 14 2 (mxI (z.1.1 14 2) (hoursR aw np ne h (muC j v (z.1.1 10)) (28 + 7 * j + 2))), if hoursR aw np ne h (muC j v (z.1.1 10)) (28 + 7 * j + 2) ≤ z.1.1 14 2 then z.2 else nI v)
def zFc (M : ex_M) (aw : Int32) (np ne h j : Nat) := lpF aw np ne h j 576 0 (mJ M 14 2 (-1), 0)
def fcR (M : ex_M) (aw : Int32) (np ne h j : Nat) : Int32 × ex_M := ((zFc M aw np ne h j).2, mJ (mJ (zFc M aw np ne h j).1 10 (28 + 7 * j + 3) (M.1 10 (28 + 7 * j + 3))) 10 (28 + 7 * j + 4) (M.1 10 (28 + 7 * j + 4)))
def R_clocks (M : ex_M) (np ne : Nat) (p n : Int32) : Int32 × ex_M := bif out p 0 (M.1 10 3 - 1) || out n 0 48 then rbad M 0 else fcR M (M.1 14 1) np ne (ix n) (ix p)
def R_rich (M : ex_M) (np ne : Nat) (p n : Int32) : Int32 × ex_M := bif out p 0 (M.1 10 3 - 1) || out n 0 48 then rbad M 0 else (if 0 ≤ (fcR M (M.1 14 1) np ne (ix n) (ix p)).1 then (fcR M (M.1 14 1) np ne (ix n) (ix p)).2.1 14 2 else 0, (fcR M (M.1 14 1) np ne (ix n) (ix p)).2)
def brR (aw : Int32) (np ne h : Nat) (v : Int32) : Nat → ex_M → Int32 × ex_M
  | 0, M => (-1, M)
  | m + 1, M => if v ≤ sumF (hoursR aw np ne h (M.1 10)) 2 np 0 0 then (nI m, thk M (hoursR aw np ne h (M.1 10))) else brR aw np ne h v m (mJ (thk M (hoursR aw np ne h (M.1 10))) 10 1 (nI m - 1))
def zBr (M : ex_M) (np ne : Nat) (v n : Int32) := brR (M.1 14 1) np ne (ix n) v 100 (mJ M 10 1 99)
def R_bears (M : ex_M) (np ne : Nat) (v n : Int32) : Int32 × ex_M := bif out v 0 99999 || out n 0 48 then rbad M 0 else orNR (mJ (zBr M np ne v n).2 10 1 (M.1 10 1)) (zBr M np ne v n).1
def R_sum (M : ex_M) (np ne : Nat) (e n : Int32) : Int32 × ex_M := bif out e 0 (M.1 10 2 - 1) || out n 0 72 then rbad M 0 else
  (sumF (hoursR (M.1 14 1) np ne (ix n) (M.1 10)) 2 np 0 0 - sumF (hoursR (M.1 14 1) np ne (ix n) (upd ((thk M (hoursR (M.1 14 1) np ne (ix n) (M.1 10))).1 10) (4 + 3 * ix e + 1) 0)) 2 np 0 0,
   mJ (prb (thk M (hoursR (M.1 14 1) np ne (ix n) (M.1 10))) (M.1 14 1) np ne (ix n) (upd ((thk M (hoursR (M.1 14 1) np ne (ix n) (M.1 10))).1 10) (4 + 3 * ix e + 1) 0)) 10 (4 + 3 * ix e + 1) (M.1 10 (4 + 3 * ix e + 1)))

set_option maxHeartbeats 4000000 in
set_option maxRecDepth 10000 in
theorem lp_Mod_bestWith {G : ex_G} {C : ex_C} {rr : Option Value} {ee : List va_E} {aw was : Int32} {n ne h j pl mn : Nat} (hj : j < 8) (hh : h < 2 ^ 30) (hpl : pl < 84) (hmn : mn < 100) (hset : ∀ v a, v < mn → HK a n ne → HK (upd a pl (nI v)) n ne) (hC : Cx G C Y_Mod_bestWith { frames := 8, cells := 0, slots := 0, locals := 179 }) (hR : Cr G C Y_Mod_bestWith 0 0 rr ee) :
    ∀ (m i : Nat) (M : ex_M) (b mo : Int32), i + m = mn → M.1 14 1 = aw ∧ HK (M.1 10) n ne → rr = some (.int (lpW aw n ne h j pl m i (M, b, mo)).2.1) ∧ ee = ce G (mJ (lpW aw n ne h j pl m i (M, b, mo)).1 10 pl was) → Ev G C Y_Mod_bestWith 17 [some (.ref (ex_b G + 71)), some (.int (nI pl)), some (.int (nI mn)), some (.int (nI j)), some (.int (nI h)), some (.int was), some (.int b), some (.int mo), some (.int (nI i))] [] 0 0 (ce G (M)) := by
  intro m
  induction m with
  | zero =>
    intro i M b mo hm hc he
    refine ev_iload rfl hC d_Mod_bestWith_17 ?_
    refine ev_iload_n rfl hC d_Mod_bestWith_19 ?_
    refine ev_icmp_ge 71 hC d_Mod_bestWith_20 rfl (fun _ => ?_) (fun h => absurd (nI_le (by omega) (by omega)) h)
    refine ev_aload_n rfl hC d_Mod_bestWith_71 ?_
    refine gv_Mod_now hC d_Mod_bestWith_72 fl_Mod_9  ?_
    refine ev_iload_n rfl hC d_Mod_bestWith_75 ?_
    refine ev_iload rfl hC d_Mod_bestWith_76 ?_
    refine pa_now hC d_Mod_bestWith_78 (by first | assumption | omega) ?_
    refine ev_iload rfl hC d_Mod_bestWith_79 ?_
    exact ev_iret hC hR d_Mod_bestWith_81 rfl (by rw [he.1, lpW]) (by rw [he.2, lpW])
  | succ m ih =>
    intro i M b mo hm hc he
    skip
    refine ev_iload rfl hC d_Mod_bestWith_17 ?_
    refine ev_iload_n rfl hC d_Mod_bestWith_19 ?_
    refine ev_icmp_ge 71 hC d_Mod_bestWith_20 rfl (fun h => absurd h (nI_ge (by omega) (by omega))) (fun _ => ?_)
    refine ev_aload_n rfl hC d_Mod_bestWith_23 ?_
    refine gv_Mod_now hC d_Mod_bestWith_24 fl_Mod_9  ?_
    refine ev_iload_n rfl hC d_Mod_bestWith_27 ?_
    refine ev_iload rfl hC d_Mod_bestWith_28 ?_
    refine pa_now hC d_Mod_bestWith_30 (by first | assumption | omega) ?_
    refine ev_aload_n rfl hC d_Mod_bestWith_31 ?_
    refine ev_iload_n rfl hC d_Mod_bestWith_32 ?_
    refine ev_iload rfl hC d_Mod_bestWith_33 ?_
    refine cv_Mod1 hC d_Mod_bestWith_35 (c_Mod_purseOn (aw := aw) (n := n) (ne := ne) hj hh (by simp only [mJ]; rw [wr_n (by decide)]; exact hc.1) (by simp only [mJ, wr_s]; exact hset i _ (by omega) hc.2)) mi_Mod_purseOn ml_Mod_208 im_Mod_purseOn se_Mod_purseOn rfl ⟨Nat.le_of_ble_eq_true rfl, Nat.le_of_ble_eq_true rfl⟩ ⟨Nat.le_of_ble_eq_true rfl, Nat.le_of_ble_eq_true rfl⟩ rfl rfl (Nat.le_of_ble_eq_true rfl)  ?_
    refine ev_istore (by decide) hC d_Mod_bestWith_38 ?_
    refine ev_iload rfl hC d_Mod_bestWith_40 ?_
    refine ev_iload rfl hC d_Mod_bestWith_42 ?_
    refine ev_icmp_le 52 hC d_Mod_bestWith_44 rfl (fun h_44 => ?_) (fun h_44 => ?_)
    · refine ev_iload rfl hC d_Mod_bestWith_52 ?_
      refine ev_istore (by decide) hC d_Mod_bestWith_54 ?_
      refine ev_iload rfl hC d_Mod_bestWith_56 ?_
      refine ev_iload rfl hC d_Mod_bestWith_58 ?_
      refine cs_1 hC d_Mod_bestWith_60 (c_Math_max ) mi_Math_max ml_Mod_110 sm_Math_max ⟨Nat.le_of_ble_eq_true rfl, Nat.le_of_ble_eq_true rfl⟩ ⟨Nat.le_of_ble_eq_true rfl, Nat.le_of_ble_eq_true rfl⟩ rfl rfl (Nat.le_of_ble_eq_true rfl) ?_
      refine ev_istore (by decide) hC d_Mod_bestWith_63 ?_
      refine ev_iinc rfl (by decide) (nI_1 _) hC d_Mod_bestWith_65 ?_
      refine ev_goto 17 hC d_Mod_bestWith_68 rfl ?_
      refine Ev.take 9 ?_
      simp only [mJ, wr_s] at h_44
      refine ih (i + 1) _ _ _ (by omega) ⟨by rw [thk_n (by decide) (by decide)]; simp only [mJ]; rw [wr_n (by decide)]; exact hc.1, HK_thk (by simp only [mJ, wr_s]; exact hset i _ (by omega) hc.2)⟩ ?_
      rw [he.1, he.2, lpW, if_pos h_44]
      simp only [prb, mxI, mI, mJ, wr_s]
      exact ⟨trivial, trivial⟩
    · refine ev_iload rfl hC d_Mod_bestWith_47 ?_
      refine ev_goto 54 hC d_Mod_bestWith_49 rfl ?_
      refine ev_istore (by decide) hC d_Mod_bestWith_54 ?_
      refine ev_iload rfl hC d_Mod_bestWith_56 ?_
      refine ev_iload rfl hC d_Mod_bestWith_58 ?_
      refine cs_1 hC d_Mod_bestWith_60 (c_Math_max ) mi_Math_max ml_Mod_110 sm_Math_max ⟨Nat.le_of_ble_eq_true rfl, Nat.le_of_ble_eq_true rfl⟩ ⟨Nat.le_of_ble_eq_true rfl, Nat.le_of_ble_eq_true rfl⟩ rfl rfl (Nat.le_of_ble_eq_true rfl) ?_
      refine ev_istore (by decide) hC d_Mod_bestWith_63 ?_
      refine ev_iinc rfl (by decide) (nI_1 _) hC d_Mod_bestWith_65 ?_
      refine ev_goto 17 hC d_Mod_bestWith_68 rfl ?_
      refine Ev.take 9 ?_
      simp only [mJ, wr_s] at h_44
      refine ih (i + 1) _ _ _ (by omega) ⟨by rw [thk_n (by decide) (by decide)]; simp only [mJ]; rw [wr_n (by decide)]; exact hc.1, HK_thk (by simp only [mJ, wr_s]; exact hset i _ (by omega) hc.2)⟩ ?_
      rw [he.1, he.2, lpW, if_neg h_44]
      simp only [prb, mxI, mI, mJ, wr_s]
      exact ⟨trivial, trivial⟩

set_option maxHeartbeats 2000000 in
set_option maxRecDepth 10000 in
theorem c_Mod_bestWith {G : ex_G} {M : ex_M} {aw : Int32} {n ne h j pl mn : Nat} (hj : j < 8) (hh : h < 2 ^ 30) (hpl : pl < 84) (hmn : mn < 100) (hset : ∀ v a, v < mn → HK a n ne → HK (upd a pl (nI v)) n ne) (ha : M.1 14 1 = aw) (hk : HK (M.1 10) n ne) : Con G Y_Mod_bestWith 8 179 0 0 [.ref (ex_b G + 71), .int (nI pl), .int (nI mn), .int (nI j), .int (nI h)] (ce G M) (some (.int (bwR M aw n ne h j pl mn).1)) (ce G ((bwR M aw n ne h j pl mn).2)) := by
  refine Con.ofF (plainFor_of_name (by decide +kernel)) (Nat.le_of_ble_eq_true rfl) (fun C hC hR => ?_)
  show Ev G C Y_Mod_bestWith 0 [some (.ref (ex_b G + 71)), some (.int (nI pl)), some (.int (nI mn)), some (.int (nI j)), some (.int (nI h))] [] 0 0 (ce G M)
  refine ev_aload_n rfl hC d_Mod_bestWith_0 ?_
  refine gv_Mod_now hC d_Mod_bestWith_1 fl_Mod_9  ?_
  refine ev_iload_n rfl hC d_Mod_bestWith_4 ?_
  refine ga_now hC d_Mod_bestWith_5 (by first | assumption | omega) ?_
  refine ev_istore (by decide) hC d_Mod_bestWith_6 ?_
  refine ev_iconst (v := 0) rfl hC d_Mod_bestWith_8 ?_
  refine ev_istore (by decide) hC d_Mod_bestWith_9 ?_
  refine ev_iconst (v := -1) rfl hC d_Mod_bestWith_11 ?_
  refine ev_istore (by decide) hC d_Mod_bestWith_12 ?_
  refine ev_iconst (v := nI 0) rfl hC d_Mod_bestWith_14 ?_
  refine ev_istore (by decide) hC d_Mod_bestWith_15 ?_
  exact lp_Mod_bestWith hj hh hpl hmn hset hC hR mn 0 M 0 (-1) (by omega) ⟨ha, hk⟩ ⟨rfl, rfl⟩

set_option maxHeartbeats 2000000 in
set_option maxRecDepth 10000 in
theorem c_Mod_bank {G : ex_G} {M : ex_M} {np ne : Nat} {p n : Int32} (w : WF (M.1 10) np ne) : Con G Y_Mod_bank 9 208 0 0 [.ref (ex_b G + 71), .int p, .int n] (ce G M) (some (.int (R_bank M np ne p n).1)) (ce G ((R_bank M np ne p n).2)) := by
  refine Con.ofF (plainFor_of_name (by decide +kernel)) (Nat.le_of_ble_eq_true rfl) (fun C hC hR => ?_)
  show Ev G C Y_Mod_bank 0 [some (.ref (ex_b G + 71)), some (.int p), some (.int n)] [] 0 0 (ce G M)
  obtain ⟨hc, hn, hc2, hn2, hmet, hkd, hkn⟩ := w
  refine ev_aload_n rfl hC d_Mod_bank_0 ?_
  refine ev_iload_n rfl hC d_Mod_bank_1 ?_
  refine cv_Mod1 hC d_Mod_bank_2 (c_Mod_isOne ) mi_Mod_isOne ml_Mod_122 im_Mod_isOne se_Mod_isOne rfl ⟨Nat.le_of_ble_eq_true rfl, Nat.le_of_ble_eq_true rfl⟩ ⟨Nat.le_of_ble_eq_true rfl, Nat.le_of_ble_eq_true rfl⟩ rfl rfl (Nat.le_of_ble_eq_true rfl)  ?_
  refine en_eq 33 hC d_Mod_bank_5 rfl (fun h_5 => ?_) (fun h_5 => ?_)
  · refine ev_aload_n rfl hC d_Mod_bank_33 ?_
    refine ev_ldc kc_Mod_63 hC d_Mod_bank_34 ?_
    refine cv_Mod1 hC d_Mod_bank_36 (c_Mod_finding (k := 0) (by omega) (by decide +kernel)) mi_Mod_finding ml_Mod_82 im_Mod_finding se_Mod_finding rfl ⟨Nat.le_of_ble_eq_true rfl, Nat.le_of_ble_eq_true rfl⟩ ⟨Nat.le_of_ble_eq_true rfl, Nat.le_of_ble_eq_true rfl⟩ rfl rfl (Nat.le_of_ble_eq_true rfl)  ?_
    exact ev_iret hC hR d_Mod_bank_39 rfl (by simp only [R_bank, rbad, h_5, if_true, if_false, cond_true, cond_false, decide_true, decide_false, Bool.not_true, Bool.not_false, Bool.or_true, Bool.true_or, Bool.or_false, Bool.false_or, Bool.and_true, Bool.and_false, Bool.true_and, Bool.false_and, Bool.or_self, Bool.and_self, eq_self] <;> first | rfl | (rfl)) (by simp only [R_bank, rbad, h_5, if_true, if_false, cond_true, cond_false, decide_true, decide_false, Bool.not_true, Bool.not_false, Bool.or_true, Bool.true_or, Bool.or_false, Bool.false_or, Bool.and_true, Bool.and_false, Bool.true_and, Bool.false_and, Bool.or_self, Bool.and_self, eq_self] <;> first | rfl | (rfl))
  · refine ev_iload_n rfl hC d_Mod_bank_8 ?_
    refine ev_iconst (v := 0) rfl hC d_Mod_bank_9 ?_
    refine ev_bipush (v := 72) rfl hC d_Mod_bank_10 ?_
    refine cs_1 hC d_Mod_bank_12 (c_Mod_within ) mi_Mod_within ml_Mod_68 sm_Mod_within ⟨Nat.le_of_ble_eq_true rfl, Nat.le_of_ble_eq_true rfl⟩ ⟨Nat.le_of_ble_eq_true rfl, Nat.le_of_ble_eq_true rfl⟩ rfl rfl (Nat.le_of_ble_eq_true rfl) ?_
    refine en_eq 33 hC d_Mod_bank_15 rfl (fun h_15 => ?_) (fun h_15 => ?_)
    · refine ev_aload_n rfl hC d_Mod_bank_33 ?_
      refine ev_ldc kc_Mod_63 hC d_Mod_bank_34 ?_
      refine cv_Mod1 hC d_Mod_bank_36 (c_Mod_finding (k := 0) (by omega) (by decide +kernel)) mi_Mod_finding ml_Mod_82 im_Mod_finding se_Mod_finding rfl ⟨Nat.le_of_ble_eq_true rfl, Nat.le_of_ble_eq_true rfl⟩ ⟨Nat.le_of_ble_eq_true rfl, Nat.le_of_ble_eq_true rfl⟩ rfl rfl (Nat.le_of_ble_eq_true rfl)  ?_
      exact ev_iret hC hR d_Mod_bank_39 rfl (by simp only [R_bank, rbad, h_5, h_15, if_true, if_false, cond_true, cond_false, decide_true, decide_false, Bool.not_true, Bool.not_false, Bool.or_true, Bool.true_or, Bool.or_false, Bool.false_or, Bool.and_true, Bool.and_false, Bool.true_and, Bool.false_and, Bool.or_self, Bool.and_self, eq_self] <;> first | rfl | (rfl)) (by simp only [R_bank, rbad, h_5, h_15, if_true, if_false, cond_true, cond_false, decide_true, decide_false, Bool.not_true, Bool.not_false, Bool.or_true, Bool.true_or, Bool.or_false, Bool.false_or, Bool.and_true, Bool.and_false, Bool.true_and, Bool.false_and, Bool.or_self, Bool.and_self, eq_self] <;> first | rfl | (rfl))
    · obtain ⟨i, hi, rfl⟩ := out_ix hc hn h_5
      have ci : (nI i).toNatClampNeg = i := nI_clamp (by omega)
      obtain ⟨n1, hn1, rfl⟩ := out_nat (n := 72) (by decide) h_15
      have cn : (nI n1).toNatClampNeg = n1 := nI_clamp (by omega)
      refine ev_aload_n rfl hC d_Mod_bank_18 ?_
      refine ev_iload_n rfl hC d_Mod_bank_19 ?_
      refine ev_iconst (v := nI 1) rfl hC d_Mod_bank_20 ?_
      refine cs_1 hC d_Mod_bank_21 (c_Mod_at) mi_Mod_at ml_Mod_76 sm_Mod_at ⟨Nat.le_of_ble_eq_true rfl, Nat.le_of_ble_eq_true rfl⟩ ⟨Nat.le_of_ble_eq_true rfl, Nat.le_of_ble_eq_true rfl⟩ rfl rfl (Nat.le_of_ble_eq_true rfl) ?_
      refine ev_iconst (v := nI 2) rfl hC d_Mod_bank_24 ?_
      refine ev_iload_n rfl hC d_Mod_bank_25 ?_
      refine ev_iload_n rfl hC d_Mod_bank_26 ?_
      refine cv_Mod1 hC d_Mod_bank_27 (c_Mod_bestWith (mn := 2) (by omega) (by omega) (by omega) (by omega) (fun v a hv ha => HK_upd ha (by omega) (by omega) (fun p hp => by omega)) rfl (HK_of ⟨hc, hn, hc2, hn2, hmet, hkd, hkn⟩)) mi_Mod_bestWith ml_Mod_218 im_Mod_bestWith se_Mod_bestWith rfl ⟨Nat.le_of_ble_eq_true rfl, Nat.le_of_ble_eq_true rfl⟩ ⟨Nat.le_of_ble_eq_true rfl, Nat.le_of_ble_eq_true rfl⟩ rfl rfl (Nat.le_of_ble_eq_true rfl)  ?_
      refine ev_goto 39 hC d_Mod_bank_30 rfl ?_
      exact ev_iret hC hR d_Mod_bank_39 rfl (by simp only [R_bank, rbad, h_5, h_15, ix, ci, cn, if_true, if_false, cond_true, cond_false, decide_true, decide_false, Bool.not_true, Bool.not_false, Bool.or_true, Bool.true_or, Bool.or_false, Bool.false_or, Bool.and_true, Bool.and_false, Bool.true_and, Bool.false_and, Bool.or_self, Bool.and_self, eq_self] <;> first | rfl | (rfl)) (by simp only [R_bank, rbad, h_5, h_15, ix, ci, cn, if_true, if_false, cond_true, cond_false, decide_true, decide_false, Bool.not_true, Bool.not_false, Bool.or_true, Bool.true_or, Bool.or_false, Bool.false_or, Bool.and_true, Bool.and_false, Bool.true_and, Bool.false_and, Bool.or_self, Bool.and_self, eq_self] <;> first | rfl | (rfl))

set_option maxHeartbeats 2000000 in
set_option maxRecDepth 10000 in
theorem c_Mod_kind {G : ex_G} {M : ex_M} {np ne : Nat} {p n : Int32} (w : WF (M.1 10) np ne) : Con G Y_Mod_kind 9 208 0 0 [.ref (ex_b G + 71), .int p, .int n] (ce G M) (some (.int (R_kind M np ne p n).1)) (ce G ((R_kind M np ne p n).2)) := by
  refine Con.ofF (plainFor_of_name (by decide +kernel)) (Nat.le_of_ble_eq_true rfl) (fun C hC hR => ?_)
  show Ev G C Y_Mod_kind 0 [some (.ref (ex_b G + 71)), some (.int p), some (.int n)] [] 0 0 (ce G M)
  obtain ⟨hc, hn, hc2, hn2, hmet, hkd, hkn⟩ := w
  refine ev_aload_n rfl hC d_Mod_kind_0 ?_
  refine ev_iload_n rfl hC d_Mod_kind_1 ?_
  refine cv_Mod1 hC d_Mod_kind_2 (c_Mod_isOne ) mi_Mod_isOne ml_Mod_122 im_Mod_isOne se_Mod_isOne rfl ⟨Nat.le_of_ble_eq_true rfl, Nat.le_of_ble_eq_true rfl⟩ ⟨Nat.le_of_ble_eq_true rfl, Nat.le_of_ble_eq_true rfl⟩ rfl rfl (Nat.le_of_ble_eq_true rfl)  ?_
  refine en_eq 34 hC d_Mod_kind_5 rfl (fun h_5 => ?_) (fun h_5 => ?_)
  · refine ev_aload_n rfl hC d_Mod_kind_34 ?_
    refine ev_ldc kc_Mod_63 hC d_Mod_kind_35 ?_
    refine cv_Mod1 hC d_Mod_kind_37 (c_Mod_finding (k := 0) (by omega) (by decide +kernel)) mi_Mod_finding ml_Mod_82 im_Mod_finding se_Mod_finding rfl ⟨Nat.le_of_ble_eq_true rfl, Nat.le_of_ble_eq_true rfl⟩ ⟨Nat.le_of_ble_eq_true rfl, Nat.le_of_ble_eq_true rfl⟩ rfl rfl (Nat.le_of_ble_eq_true rfl)  ?_
    exact ev_iret hC hR d_Mod_kind_40 rfl (by simp only [R_kind, rbad, h_5, if_true, if_false, cond_true, cond_false, decide_true, decide_false, Bool.not_true, Bool.not_false, Bool.or_true, Bool.true_or, Bool.or_false, Bool.false_or, Bool.and_true, Bool.and_false, Bool.true_and, Bool.false_and, Bool.or_self, Bool.and_self, eq_self] <;> first | rfl | (rfl)) (by simp only [R_kind, rbad, h_5, if_true, if_false, cond_true, cond_false, decide_true, decide_false, Bool.not_true, Bool.not_false, Bool.or_true, Bool.true_or, Bool.or_false, Bool.false_or, Bool.and_true, Bool.and_false, Bool.true_and, Bool.false_and, Bool.or_self, Bool.and_self, eq_self] <;> first | rfl | (rfl))
  · refine ev_iload_n rfl hC d_Mod_kind_8 ?_
    refine ev_iconst (v := 0) rfl hC d_Mod_kind_9 ?_
    refine ev_bipush (v := 72) rfl hC d_Mod_kind_10 ?_
    refine cs_1 hC d_Mod_kind_12 (c_Mod_within ) mi_Mod_within ml_Mod_68 sm_Mod_within ⟨Nat.le_of_ble_eq_true rfl, Nat.le_of_ble_eq_true rfl⟩ ⟨Nat.le_of_ble_eq_true rfl, Nat.le_of_ble_eq_true rfl⟩ rfl rfl (Nat.le_of_ble_eq_true rfl) ?_
    refine en_eq 34 hC d_Mod_kind_15 rfl (fun h_15 => ?_) (fun h_15 => ?_)
    · refine ev_aload_n rfl hC d_Mod_kind_34 ?_
      refine ev_ldc kc_Mod_63 hC d_Mod_kind_35 ?_
      refine cv_Mod1 hC d_Mod_kind_37 (c_Mod_finding (k := 0) (by omega) (by decide +kernel)) mi_Mod_finding ml_Mod_82 im_Mod_finding se_Mod_finding rfl ⟨Nat.le_of_ble_eq_true rfl, Nat.le_of_ble_eq_true rfl⟩ ⟨Nat.le_of_ble_eq_true rfl, Nat.le_of_ble_eq_true rfl⟩ rfl rfl (Nat.le_of_ble_eq_true rfl)  ?_
      exact ev_iret hC hR d_Mod_kind_40 rfl (by simp only [R_kind, rbad, h_5, h_15, if_true, if_false, cond_true, cond_false, decide_true, decide_false, Bool.not_true, Bool.not_false, Bool.or_true, Bool.true_or, Bool.or_false, Bool.false_or, Bool.and_true, Bool.and_false, Bool.true_and, Bool.false_and, Bool.or_self, Bool.and_self, eq_self] <;> first | rfl | (rfl)) (by simp only [R_kind, rbad, h_5, h_15, if_true, if_false, cond_true, cond_false, decide_true, decide_false, Bool.not_true, Bool.not_false, Bool.or_true, Bool.true_or, Bool.or_false, Bool.false_or, Bool.and_true, Bool.and_false, Bool.true_and, Bool.false_and, Bool.or_self, Bool.and_self, eq_self] <;> first | rfl | (rfl))
    · obtain ⟨i, hi, rfl⟩ := out_ix hc hn h_5
      have ci : (nI i).toNatClampNeg = i := nI_clamp (by omega)
      obtain ⟨n1, hn1, rfl⟩ := out_nat (n := 72) (by decide) h_15
      have cn : (nI n1).toNatClampNeg = n1 := nI_clamp (by omega)
      refine ev_aload_n rfl hC d_Mod_kind_18 ?_
      refine ev_iload_n rfl hC d_Mod_kind_19 ?_
      refine ev_iconst (v := nI 0) rfl hC d_Mod_kind_20 ?_
      refine cs_1 hC d_Mod_kind_21 (c_Mod_at) mi_Mod_at ml_Mod_76 sm_Mod_at ⟨Nat.le_of_ble_eq_true rfl, Nat.le_of_ble_eq_true rfl⟩ ⟨Nat.le_of_ble_eq_true rfl, Nat.le_of_ble_eq_true rfl⟩ rfl rfl (Nat.le_of_ble_eq_true rfl) ?_
      refine ev_bipush (v := nI 6) rfl hC d_Mod_kind_24 ?_
      refine ev_iload_n rfl hC d_Mod_kind_26 ?_
      refine ev_iload_n rfl hC d_Mod_kind_27 ?_
      refine cv_Mod1 hC d_Mod_kind_28 (c_Mod_bestWith (mn := 6) (by omega) (by omega) (by omega) (by omega) (fun v a hv ha => HK_kd ha (by omega) hv) rfl (HK_of ⟨hc, hn, hc2, hn2, hmet, hkd, hkn⟩)) mi_Mod_bestWith ml_Mod_218 im_Mod_bestWith se_Mod_bestWith rfl ⟨Nat.le_of_ble_eq_true rfl, Nat.le_of_ble_eq_true rfl⟩ ⟨Nat.le_of_ble_eq_true rfl, Nat.le_of_ble_eq_true rfl⟩ rfl rfl (Nat.le_of_ble_eq_true rfl)  ?_
      refine ev_goto 40 hC d_Mod_kind_31 rfl ?_
      exact ev_iret hC hR d_Mod_kind_40 rfl (by simp only [R_kind, rbad, h_5, h_15, ix, ci, cn, if_true, if_false, cond_true, cond_false, decide_true, decide_false, Bool.not_true, Bool.not_false, Bool.or_true, Bool.true_or, Bool.or_false, Bool.false_or, Bool.and_true, Bool.and_false, Bool.true_and, Bool.false_and, Bool.or_self, Bool.and_self, eq_self] <;> first | rfl | (rfl)) (by simp only [R_kind, rbad, h_5, h_15, ix, ci, cn, if_true, if_false, cond_true, cond_false, decide_true, decide_false, Bool.not_true, Bool.not_false, Bool.or_true, Bool.true_or, Bool.or_false, Bool.false_or, Bool.and_true, Bool.and_false, Bool.true_and, Bool.false_and, Bool.or_self, Bool.and_self, eq_self] <;> first | rfl | (rfl))

set_option maxHeartbeats 4000000 in
set_option maxRecDepth 10000 in
theorem lp_Mod_findClocks {G : ex_G} {C : ex_C} {rr : Option Value} {ee : List va_E} {aw g0 c0 : Int32} {n ne h j : Nat} (hj : j < 8) (hh : h < 2 ^ 30) (hC : Cx G C Y_Mod_findClocks { frames := 8, cells := 0, slots := 0, locals := 179 }) (hR : Cr G C Y_Mod_findClocks 0 0 rr ee) :
    ∀ (m i : Nat) (M : ex_M) (b : Int32), i + m = 576 → M.1 14 1 = aw ∧ HK (M.1 10) n ne → rr = some (.int (lpF aw n ne h j m i (M, b)).2) ∧ ee = ce G (mJ (mJ (lpF aw n ne h j m i (M, b)).1 10 (28 + 7 * j + 3) g0) 10 (28 + 7 * j + 4) c0) → Ev G C Y_Mod_findClocks 26 [some (.ref (ex_b G + 71)), some (.int (nI j)), some (.int (nI h)), some (.int g0), some (.int c0), some (.int b), some (.int (nI i))] [] 0 0 (ce G (M)) := by
  intro m
  induction m with
  | zero =>
    intro i M b hm hc he
    refine ev_iload rfl hC d_Mod_findClocks_26 ?_
    refine ev_sipush (v := 576) rfl hC d_Mod_findClocks_28 ?_
    refine ev_icmp_ge 109 hC d_Mod_findClocks_31 rfl (fun _ => ?_) (fun h => absurd (by rw [show (576 : Int32) = nI 576 from rfl]; exact nI_le (by omega) (by omega)) h)
    refine ev_aload_n rfl hC d_Mod_findClocks_109 ?_
    refine gv_Mod_now hC d_Mod_findClocks_110 fl_Mod_9  ?_
    refine ev_iload_n rfl hC d_Mod_findClocks_113 ?_
    refine ev_iconst (v := nI 3) rfl hC d_Mod_findClocks_114 ?_
    refine cs_1 hC d_Mod_findClocks_115 (c_Mod_at) mi_Mod_at ml_Mod_76 sm_Mod_at ⟨Nat.le_of_ble_eq_true rfl, Nat.le_of_ble_eq_true rfl⟩ ⟨Nat.le_of_ble_eq_true rfl, Nat.le_of_ble_eq_true rfl⟩ rfl rfl (Nat.le_of_ble_eq_true rfl) ?_
    refine ev_iload_n rfl hC d_Mod_findClocks_118 ?_
    refine pa_now hC d_Mod_findClocks_119 (by first | assumption | omega) ?_
    refine ev_aload_n rfl hC d_Mod_findClocks_120 ?_
    refine gv_Mod_now hC d_Mod_findClocks_121 fl_Mod_9  ?_
    refine ev_iload_n rfl hC d_Mod_findClocks_124 ?_
    refine ev_iconst (v := nI 4) rfl hC d_Mod_findClocks_125 ?_
    refine cs_1 hC d_Mod_findClocks_126 (c_Mod_at) mi_Mod_at ml_Mod_76 sm_Mod_at ⟨Nat.le_of_ble_eq_true rfl, Nat.le_of_ble_eq_true rfl⟩ ⟨Nat.le_of_ble_eq_true rfl, Nat.le_of_ble_eq_true rfl⟩ rfl rfl (Nat.le_of_ble_eq_true rfl) ?_
    refine ev_iload rfl hC d_Mod_findClocks_129 ?_
    refine pa_now hC d_Mod_findClocks_131 (by first | assumption | omega) ?_
    refine ev_iload rfl hC d_Mod_findClocks_132 ?_
    exact ev_iret hC hR d_Mod_findClocks_134 rfl (by rw [he.1, lpF]) (by rw [he.2, lpF])
  | succ m ih =>
    intro i M b hm hc he
    skip
    refine ev_iload rfl hC d_Mod_findClocks_26 ?_
    refine ev_sipush (v := 576) rfl hC d_Mod_findClocks_28 ?_
    refine ev_icmp_ge 109 hC d_Mod_findClocks_31 rfl (fun h => absurd h (by rw [show (576 : Int32) = nI 576 from rfl]; exact nI_ge (by omega) (by omega))) (fun _ => ?_)
    refine ev_aload_n rfl hC d_Mod_findClocks_34 ?_
    refine gv_Mod_now hC d_Mod_findClocks_35 fl_Mod_9  ?_
    refine ev_iload_n rfl hC d_Mod_findClocks_38 ?_
    refine ev_iconst (v := nI 3) rfl hC d_Mod_findClocks_39 ?_
    refine cs_1 hC d_Mod_findClocks_40 (c_Mod_at) mi_Mod_at ml_Mod_76 sm_Mod_at ⟨Nat.le_of_ble_eq_true rfl, Nat.le_of_ble_eq_true rfl⟩ ⟨Nat.le_of_ble_eq_true rfl, Nat.le_of_ble_eq_true rfl⟩ rfl rfl (Nat.le_of_ble_eq_true rfl) ?_
    refine ev_iload rfl hC d_Mod_findClocks_43 ?_
    refine ev_bipush (v := 24) rfl hC d_Mod_findClocks_45 ?_
    refine ev_idiv (by decide) hC d_Mod_findClocks_47 ?_
    rw [show (24 : Int32) = nI 24 from rfl, pk_div (by omega) (by omega) (by omega)]
    refine pa_now hC d_Mod_findClocks_48 (by first | assumption | omega) ?_
    refine ev_aload_n rfl hC d_Mod_findClocks_49 ?_
    refine gv_Mod_now hC d_Mod_findClocks_50 fl_Mod_9  ?_
    refine ev_iload_n rfl hC d_Mod_findClocks_53 ?_
    refine ev_iconst (v := nI 4) rfl hC d_Mod_findClocks_54 ?_
    refine cs_1 hC d_Mod_findClocks_55 (c_Mod_at) mi_Mod_at ml_Mod_76 sm_Mod_at ⟨Nat.le_of_ble_eq_true rfl, Nat.le_of_ble_eq_true rfl⟩ ⟨Nat.le_of_ble_eq_true rfl, Nat.le_of_ble_eq_true rfl⟩ rfl rfl (Nat.le_of_ble_eq_true rfl) ?_
    refine ev_iload rfl hC d_Mod_findClocks_58 ?_
    refine ev_bipush (v := 24) rfl hC d_Mod_findClocks_60 ?_
    refine ev_irem (by decide) hC d_Mod_findClocks_62 ?_
    rw [show (24 : Int32) = nI 24 from rfl, pk_rem (by omega) (by omega) (by omega)]
    refine pa_now hC d_Mod_findClocks_63 (by first | assumption | omega) ?_
    refine ev_aload_n rfl hC d_Mod_findClocks_64 ?_
    refine ev_iload_n rfl hC d_Mod_findClocks_65 ?_
    refine ev_iload_n rfl hC d_Mod_findClocks_66 ?_
    refine cv_Mod1 hC d_Mod_findClocks_67 (c_Mod_purseOn (aw := aw) (n := n) (ne := ne) hj hh (by simp only [mJ, wr_n (show (14 : Nat) ≠ 10 by decide)]; exact hc.1) (by simp only [mJ, wr_s, wr_wr]; exact HK_upd (HK_upd hc.2 (by omega) (by omega) (fun p hp => by omega)) (by omega) (by omega) (fun p hp => by omega))) mi_Mod_purseOn ml_Mod_208 im_Mod_purseOn se_Mod_purseOn rfl ⟨Nat.le_of_ble_eq_true rfl, Nat.le_of_ble_eq_true rfl⟩ ⟨Nat.le_of_ble_eq_true rfl, Nat.le_of_ble_eq_true rfl⟩ rfl rfl (Nat.le_of_ble_eq_true rfl)  ?_
    refine ev_istore (by decide) hC d_Mod_findClocks_70 ?_
    refine ev_iload rfl hC d_Mod_findClocks_72 ?_
    refine ev_aload_n rfl hC d_Mod_findClocks_74 ?_
    refine gv_Mod_richFound hC d_Mod_findClocks_75 fl_Mod_205  ?_
    refine ev_icmp_le 86 hC d_Mod_findClocks_78 rfl (fun h_78 => ?_) (fun h_78 => ?_)
    · refine ev_iload rfl hC d_Mod_findClocks_86 ?_
      refine ev_istore (by decide) hC d_Mod_findClocks_88 ?_
      refine ev_aload_n rfl hC d_Mod_findClocks_90 ?_
      refine ev_aload_n rfl hC d_Mod_findClocks_91 ?_
      refine gv_Mod_richFound hC d_Mod_findClocks_92 fl_Mod_205  ?_
      refine ev_iload rfl hC d_Mod_findClocks_95 ?_
      refine cs_1 hC d_Mod_findClocks_97 (c_Math_max ) mi_Math_max ml_Mod_110 sm_Math_max ⟨Nat.le_of_ble_eq_true rfl, Nat.le_of_ble_eq_true rfl⟩ ⟨Nat.le_of_ble_eq_true rfl, Nat.le_of_ble_eq_true rfl⟩ rfl rfl (Nat.le_of_ble_eq_true rfl) ?_
      refine pv_Mod_richFound hC d_Mod_findClocks_100 fl_Mod_205  ?_
      refine ev_iinc rfl (by decide) (nI_1 _) hC d_Mod_findClocks_103 ?_
      refine ev_goto 26 hC d_Mod_findClocks_106 rfl ?_
      refine Ev.take 7 ?_
      simp only [mJ, wr_s, wr_wr, thk_n (show (14 : Nat) ≠ 10 by decide) (show (14 : Nat) ≠ 12 by decide), wr_n (show (14 : Nat) ≠ 10 by decide)] at h_78
      refine ih (i + 1) _ _ (by omega) ⟨by simp only [mJ, wr_s]; rw [ud_n (by decide)]; simp only [thk_n (show (14 : Nat) ≠ 10 by decide) (show (14 : Nat) ≠ 12 by decide), wr_n (show (14 : Nat) ≠ 10 by decide)]; exact hc.1, by simp only [mJ, wr_n (show (10 : Nat) ≠ 14 by decide)]; exact HK_thk (by simp only [mJ, wr_s, wr_wr]; exact HK_upd (HK_upd hc.2 (by omega) (by omega) (fun p hp => by omega)) (by omega) (by omega) (fun p hp => by omega))⟩ ?_
      rw [he.1, he.2, lpF, show muC j i (M.1 10) = upd (upd (M.1 10) (28 + 7 * j + 3) (nI (i / 24))) (28 + 7 * j + 4) (nI (i % 24)) from rfl, if_pos h_78]
      simp only [prb, mxI, mI, mJ, wr_s, wr_wr, thk_n (show (14 : Nat) ≠ 10 by decide) (show (14 : Nat) ≠ 12 by decide), wr_n (show (14 : Nat) ≠ 10 by decide)]
      exact ⟨trivial, trivial⟩
    · refine ev_iload rfl hC d_Mod_findClocks_81 ?_
      refine ev_goto 88 hC d_Mod_findClocks_83 rfl ?_
      refine ev_istore (by decide) hC d_Mod_findClocks_88 ?_
      refine ev_aload_n rfl hC d_Mod_findClocks_90 ?_
      refine ev_aload_n rfl hC d_Mod_findClocks_91 ?_
      refine gv_Mod_richFound hC d_Mod_findClocks_92 fl_Mod_205  ?_
      refine ev_iload rfl hC d_Mod_findClocks_95 ?_
      refine cs_1 hC d_Mod_findClocks_97 (c_Math_max ) mi_Math_max ml_Mod_110 sm_Math_max ⟨Nat.le_of_ble_eq_true rfl, Nat.le_of_ble_eq_true rfl⟩ ⟨Nat.le_of_ble_eq_true rfl, Nat.le_of_ble_eq_true rfl⟩ rfl rfl (Nat.le_of_ble_eq_true rfl) ?_
      refine pv_Mod_richFound hC d_Mod_findClocks_100 fl_Mod_205  ?_
      refine ev_iinc rfl (by decide) (nI_1 _) hC d_Mod_findClocks_103 ?_
      refine ev_goto 26 hC d_Mod_findClocks_106 rfl ?_
      refine Ev.take 7 ?_
      simp only [mJ, wr_s, wr_wr, thk_n (show (14 : Nat) ≠ 10 by decide) (show (14 : Nat) ≠ 12 by decide), wr_n (show (14 : Nat) ≠ 10 by decide)] at h_78
      refine ih (i + 1) _ _ (by omega) ⟨by simp only [mJ, wr_s]; rw [ud_n (by decide)]; simp only [thk_n (show (14 : Nat) ≠ 10 by decide) (show (14 : Nat) ≠ 12 by decide), wr_n (show (14 : Nat) ≠ 10 by decide)]; exact hc.1, by simp only [mJ, wr_n (show (10 : Nat) ≠ 14 by decide)]; exact HK_thk (by simp only [mJ, wr_s, wr_wr]; exact HK_upd (HK_upd hc.2 (by omega) (by omega) (fun p hp => by omega)) (by omega) (by omega) (fun p hp => by omega))⟩ ?_
      rw [he.1, he.2, lpF, show muC j i (M.1 10) = upd (upd (M.1 10) (28 + 7 * j + 3) (nI (i / 24))) (28 + 7 * j + 4) (nI (i % 24)) from rfl, if_neg h_78]
      simp only [prb, mxI, mI, mJ, wr_s, wr_wr, thk_n (show (14 : Nat) ≠ 10 by decide) (show (14 : Nat) ≠ 12 by decide), wr_n (show (14 : Nat) ≠ 10 by decide)]
      exact ⟨trivial, trivial⟩

set_option maxHeartbeats 2000000 in
set_option maxRecDepth 10000 in
theorem c_Mod_findClocks {G : ex_G} {M : ex_M} {aw : Int32} {n ne h j : Nat} (hj : j < 8) (hh : h < 2 ^ 30) (ha : M.1 14 1 = aw) (hk : HK (M.1 10) n ne) : Con G Y_Mod_findClocks 8 179 0 0 [.ref (ex_b G + 71), .int (nI j), .int (nI h)] (ce G M) (some (.int (fcR M aw n ne h j).1)) (ce G ((fcR M aw n ne h j).2)) := by
  refine Con.ofF (plainFor_of_name (by decide +kernel)) (Nat.le_of_ble_eq_true rfl) (fun C hC hR => ?_)
  show Ev G C Y_Mod_findClocks 0 [some (.ref (ex_b G + 71)), some (.int (nI j)), some (.int (nI h))] [] 0 0 (ce G M)
  refine ev_aload_n rfl hC d_Mod_findClocks_0 ?_
  refine ev_iload_n rfl hC d_Mod_findClocks_1 ?_
  refine ev_iconst (v := nI 3) rfl hC d_Mod_findClocks_2 ?_
  refine cv_Mod1 hC d_Mod_findClocks_3 (c_Mod_oneIs hj (by omega)) mi_Mod_oneIs ml_Mod_94 im_Mod_oneIs se_Mod_oneIs rfl ⟨Nat.le_of_ble_eq_true rfl, Nat.le_of_ble_eq_true rfl⟩ ⟨Nat.le_of_ble_eq_true rfl, Nat.le_of_ble_eq_true rfl⟩ rfl rfl (Nat.le_of_ble_eq_true rfl)  ?_
  refine ev_istore_n (by decide) hC d_Mod_findClocks_6 ?_
  refine ev_aload_n rfl hC d_Mod_findClocks_7 ?_
  refine ev_iload_n rfl hC d_Mod_findClocks_8 ?_
  refine ev_iconst (v := nI 4) rfl hC d_Mod_findClocks_9 ?_
  refine cv_Mod1 hC d_Mod_findClocks_10 (c_Mod_oneIs hj (by omega)) mi_Mod_oneIs ml_Mod_94 im_Mod_oneIs se_Mod_oneIs rfl ⟨Nat.le_of_ble_eq_true rfl, Nat.le_of_ble_eq_true rfl⟩ ⟨Nat.le_of_ble_eq_true rfl, Nat.le_of_ble_eq_true rfl⟩ rfl rfl (Nat.le_of_ble_eq_true rfl)  ?_
  refine ev_istore (by decide) hC d_Mod_findClocks_13 ?_
  refine ev_iconst (v := 0) rfl hC d_Mod_findClocks_15 ?_
  refine ev_istore (by decide) hC d_Mod_findClocks_16 ?_
  refine ev_aload_n rfl hC d_Mod_findClocks_18 ?_
  refine ev_iconst (v := -1) rfl hC d_Mod_findClocks_19 ?_
  refine pv_Mod_richFound hC d_Mod_findClocks_20 fl_Mod_205  ?_
  refine ev_iconst (v := nI 0) rfl hC d_Mod_findClocks_23 ?_
  refine ev_istore (by decide) hC d_Mod_findClocks_24 ?_
  exact lp_Mod_findClocks (aw := aw) (n := n) (ne := ne) hj hh hC hR 576 0 _ 0 (by omega) ⟨by simp only [mJ, wr_s]; rw [ud_n (by decide)]; exact ha, by simp only [mJ, wr_n (show (10 : Nat) ≠ 14 by decide)]; exact hk⟩ ⟨rfl, rfl⟩

set_option maxHeartbeats 2000000 in
set_option maxRecDepth 10000 in
theorem c_Mod_clocks {G : ex_G} {M : ex_M} {np ne : Nat} {p n : Int32} (w : WF (M.1 10) np ne) : Con G Y_Mod_clocks 9 206 0 0 [.ref (ex_b G + 71), .int p, .int n] (ce G M) (some (.int (R_clocks M np ne p n).1)) (ce G ((R_clocks M np ne p n).2)) := by
  refine Con.ofF (plainFor_of_name (by decide +kernel)) (Nat.le_of_ble_eq_true rfl) (fun C hC hR => ?_)
  show Ev G C Y_Mod_clocks 0 [some (.ref (ex_b G + 71)), some (.int p), some (.int n)] [] 0 0 (ce G M)
  obtain ⟨hc, hn, hc2, hn2, hmet, hkd, hkn⟩ := w
  refine ev_aload_n rfl hC d_Mod_clocks_0 ?_
  refine ev_iload_n rfl hC d_Mod_clocks_1 ?_
  refine cv_Mod1 hC d_Mod_clocks_2 (c_Mod_isOne ) mi_Mod_isOne ml_Mod_122 im_Mod_isOne se_Mod_isOne rfl ⟨Nat.le_of_ble_eq_true rfl, Nat.le_of_ble_eq_true rfl⟩ ⟨Nat.le_of_ble_eq_true rfl, Nat.le_of_ble_eq_true rfl⟩ rfl rfl (Nat.le_of_ble_eq_true rfl)  ?_
  refine en_eq 27 hC d_Mod_clocks_5 rfl (fun h_5 => ?_) (fun h_5 => ?_)
  · refine ev_aload_n rfl hC d_Mod_clocks_27 ?_
    refine ev_ldc kc_Mod_63 hC d_Mod_clocks_28 ?_
    refine cv_Mod1 hC d_Mod_clocks_30 (c_Mod_finding (k := 0) (by omega) (by decide +kernel)) mi_Mod_finding ml_Mod_82 im_Mod_finding se_Mod_finding rfl ⟨Nat.le_of_ble_eq_true rfl, Nat.le_of_ble_eq_true rfl⟩ ⟨Nat.le_of_ble_eq_true rfl, Nat.le_of_ble_eq_true rfl⟩ rfl rfl (Nat.le_of_ble_eq_true rfl)  ?_
    exact ev_iret hC hR d_Mod_clocks_33 rfl (by simp only [R_clocks, rbad, h_5, if_true, if_false, cond_true, cond_false, decide_true, decide_false, Bool.not_true, Bool.not_false, Bool.or_true, Bool.true_or, Bool.or_false, Bool.false_or, Bool.and_true, Bool.and_false, Bool.true_and, Bool.false_and, Bool.or_self, Bool.and_self, eq_self] <;> first | rfl | (rfl)) (by simp only [R_clocks, rbad, h_5, if_true, if_false, cond_true, cond_false, decide_true, decide_false, Bool.not_true, Bool.not_false, Bool.or_true, Bool.true_or, Bool.or_false, Bool.false_or, Bool.and_true, Bool.and_false, Bool.true_and, Bool.false_and, Bool.or_self, Bool.and_self, eq_self] <;> first | rfl | (rfl))
  · refine ev_iload_n rfl hC d_Mod_clocks_8 ?_
    refine ev_iconst (v := 0) rfl hC d_Mod_clocks_9 ?_
    refine ev_bipush (v := 48) rfl hC d_Mod_clocks_10 ?_
    refine cs_1 hC d_Mod_clocks_12 (c_Mod_within ) mi_Mod_within ml_Mod_68 sm_Mod_within ⟨Nat.le_of_ble_eq_true rfl, Nat.le_of_ble_eq_true rfl⟩ ⟨Nat.le_of_ble_eq_true rfl, Nat.le_of_ble_eq_true rfl⟩ rfl rfl (Nat.le_of_ble_eq_true rfl) ?_
    refine en_eq 27 hC d_Mod_clocks_15 rfl (fun h_15 => ?_) (fun h_15 => ?_)
    · refine ev_aload_n rfl hC d_Mod_clocks_27 ?_
      refine ev_ldc kc_Mod_63 hC d_Mod_clocks_28 ?_
      refine cv_Mod1 hC d_Mod_clocks_30 (c_Mod_finding (k := 0) (by omega) (by decide +kernel)) mi_Mod_finding ml_Mod_82 im_Mod_finding se_Mod_finding rfl ⟨Nat.le_of_ble_eq_true rfl, Nat.le_of_ble_eq_true rfl⟩ ⟨Nat.le_of_ble_eq_true rfl, Nat.le_of_ble_eq_true rfl⟩ rfl rfl (Nat.le_of_ble_eq_true rfl)  ?_
      exact ev_iret hC hR d_Mod_clocks_33 rfl (by simp only [R_clocks, rbad, h_5, h_15, if_true, if_false, cond_true, cond_false, decide_true, decide_false, Bool.not_true, Bool.not_false, Bool.or_true, Bool.true_or, Bool.or_false, Bool.false_or, Bool.and_true, Bool.and_false, Bool.true_and, Bool.false_and, Bool.or_self, Bool.and_self, eq_self] <;> first | rfl | (rfl)) (by simp only [R_clocks, rbad, h_5, h_15, if_true, if_false, cond_true, cond_false, decide_true, decide_false, Bool.not_true, Bool.not_false, Bool.or_true, Bool.true_or, Bool.or_false, Bool.false_or, Bool.and_true, Bool.and_false, Bool.true_and, Bool.false_and, Bool.or_self, Bool.and_self, eq_self] <;> first | rfl | (rfl))
    · obtain ⟨i, hi, rfl⟩ := out_ix hc hn h_5
      have ci : (nI i).toNatClampNeg = i := nI_clamp (by omega)
      obtain ⟨n1, hn1, rfl⟩ := out_nat (n := 48) (by decide) h_15
      have cn : (nI n1).toNatClampNeg = n1 := nI_clamp (by omega)
      refine ev_aload_n rfl hC d_Mod_clocks_18 ?_
      refine ev_iload_n rfl hC d_Mod_clocks_19 ?_
      refine ev_iload_n rfl hC d_Mod_clocks_20 ?_
      refine cv_Mod1 hC d_Mod_clocks_21 (c_Mod_findClocks (by omega) (by omega) rfl (HK_of ⟨hc, hn, hc2, hn2, hmet, hkd, hkn⟩)) mi_Mod_findClocks ml_Mod_211 im_Mod_findClocks se_Mod_findClocks rfl ⟨Nat.le_of_ble_eq_true rfl, Nat.le_of_ble_eq_true rfl⟩ ⟨Nat.le_of_ble_eq_true rfl, Nat.le_of_ble_eq_true rfl⟩ rfl rfl (Nat.le_of_ble_eq_true rfl)  ?_
      refine ev_goto 33 hC d_Mod_clocks_24 rfl ?_
      exact ev_iret hC hR d_Mod_clocks_33 rfl (by simp only [R_clocks, rbad, h_5, h_15, ix, ci, cn, if_true, if_false, cond_true, cond_false, decide_true, decide_false, Bool.not_true, Bool.not_false, Bool.or_true, Bool.true_or, Bool.or_false, Bool.false_or, Bool.and_true, Bool.and_false, Bool.true_and, Bool.false_and, Bool.or_self, Bool.and_self, eq_self] <;> first | rfl | (rfl)) (by simp only [R_clocks, rbad, h_5, h_15, ix, ci, cn, if_true, if_false, cond_true, cond_false, decide_true, decide_false, Bool.not_true, Bool.not_false, Bool.or_true, Bool.true_or, Bool.or_false, Bool.false_or, Bool.and_true, Bool.and_false, Bool.true_and, Bool.false_and, Bool.or_self, Bool.and_self, eq_self] <;> first | rfl | (rfl))

set_option maxHeartbeats 2000000 in
set_option maxRecDepth 10000 in
theorem c_Mod_rich {G : ex_G} {M : ex_M} {np ne : Nat} {p n : Int32} (w : WF (M.1 10) np ne) : Con G Y_Mod_rich 9 206 0 0 [.ref (ex_b G + 71), .int p, .int n] (ce G M) (some (.int (R_rich M np ne p n).1)) (ce G ((R_rich M np ne p n).2)) := by
  refine Con.ofF (plainFor_of_name (by decide +kernel)) (Nat.le_of_ble_eq_true rfl) (fun C hC hR => ?_)
  show Ev G C Y_Mod_rich 0 [some (.ref (ex_b G + 71)), some (.int p), some (.int n)] [] 0 0 (ce G M)
  obtain ⟨hc, hn, hc2, hn2, hmet, hkd, hkn⟩ := w
  refine ev_aload_n rfl hC d_Mod_rich_0 ?_
  refine ev_iload_n rfl hC d_Mod_rich_1 ?_
  refine cv_Mod1 hC d_Mod_rich_2 (c_Mod_isOne ) mi_Mod_isOne ml_Mod_122 im_Mod_isOne se_Mod_isOne rfl ⟨Nat.le_of_ble_eq_true rfl, Nat.le_of_ble_eq_true rfl⟩ ⟨Nat.le_of_ble_eq_true rfl, Nat.le_of_ble_eq_true rfl⟩ rfl rfl (Nat.le_of_ble_eq_true rfl)  ?_
  refine en_eq 18 hC d_Mod_rich_5 rfl (fun h_5 => ?_) (fun h_5 => ?_)
  · refine ev_aload_n rfl hC d_Mod_rich_18 ?_
    refine ev_ldc kc_Mod_63 hC d_Mod_rich_19 ?_
    refine cv_Mod1 hC d_Mod_rich_21 (c_Mod_finding (k := 0) (by omega) (by decide +kernel)) mi_Mod_finding ml_Mod_82 im_Mod_finding se_Mod_finding rfl ⟨Nat.le_of_ble_eq_true rfl, Nat.le_of_ble_eq_true rfl⟩ ⟨Nat.le_of_ble_eq_true rfl, Nat.le_of_ble_eq_true rfl⟩ rfl rfl (Nat.le_of_ble_eq_true rfl)  ?_
    exact ev_iret hC hR d_Mod_rich_24 rfl (by simp only [R_rich, rbad, h_5, if_true, if_false, cond_true, cond_false, decide_true, decide_false, Bool.not_true, Bool.not_false, Bool.or_true, Bool.true_or, Bool.or_false, Bool.false_or, Bool.and_true, Bool.and_false, Bool.true_and, Bool.false_and, Bool.or_self, Bool.and_self, eq_self] <;> first | rfl | (rfl)) (by simp only [R_rich, rbad, h_5, if_true, if_false, cond_true, cond_false, decide_true, decide_false, Bool.not_true, Bool.not_false, Bool.or_true, Bool.true_or, Bool.or_false, Bool.false_or, Bool.and_true, Bool.and_false, Bool.true_and, Bool.false_and, Bool.or_self, Bool.and_self, eq_self] <;> first | rfl | (rfl))
  · refine ev_iload_n rfl hC d_Mod_rich_8 ?_
    refine ev_iconst (v := 0) rfl hC d_Mod_rich_9 ?_
    refine ev_bipush (v := 48) rfl hC d_Mod_rich_10 ?_
    refine cs_1 hC d_Mod_rich_12 (c_Mod_within ) mi_Mod_within ml_Mod_68 sm_Mod_within ⟨Nat.le_of_ble_eq_true rfl, Nat.le_of_ble_eq_true rfl⟩ ⟨Nat.le_of_ble_eq_true rfl, Nat.le_of_ble_eq_true rfl⟩ rfl rfl (Nat.le_of_ble_eq_true rfl) ?_
    refine en_ne 25 hC d_Mod_rich_15 rfl (fun h_15 => ?_) (fun h_15 => ?_)
    · obtain ⟨i, hi, rfl⟩ := out_ix hc hn h_5
      have ci : (nI i).toNatClampNeg = i := nI_clamp (by omega)
      obtain ⟨n1, hn1, rfl⟩ := out_nat (n := 48) (by decide) h_15
      have cn : (nI n1).toNatClampNeg = n1 := nI_clamp (by omega)
      refine ev_aload_n rfl hC d_Mod_rich_25 ?_
      refine ev_iload_n rfl hC d_Mod_rich_26 ?_
      refine ev_iload_n rfl hC d_Mod_rich_27 ?_
      refine cv_Mod1 hC d_Mod_rich_28 (c_Mod_findClocks (by omega) (by omega) rfl (HK_of ⟨hc, hn, hc2, hn2, hmet, hkd, hkn⟩)) mi_Mod_findClocks ml_Mod_211 im_Mod_findClocks se_Mod_findClocks rfl ⟨Nat.le_of_ble_eq_true rfl, Nat.le_of_ble_eq_true rfl⟩ ⟨Nat.le_of_ble_eq_true rfl, Nat.le_of_ble_eq_true rfl⟩ rfl rfl (Nat.le_of_ble_eq_true rfl)  ?_
      refine ev_if_ge 38 hC d_Mod_rich_31 rfl (fun h_31 => ?_) (fun h_31 => ?_)
      · refine ev_aload_n rfl hC d_Mod_rich_38 ?_
        refine gv_Mod_richFound hC d_Mod_rich_39 fl_Mod_205  ?_
        exact ev_iret hC hR d_Mod_rich_42 rfl (by simp only [R_rich, h_5, h_15, ix, ci, cn, if_pos h_31, if_true, if_false, cond_true, cond_false, decide_true, decide_false, Bool.not_true, Bool.not_false, Bool.or_true, Bool.true_or, Bool.or_false, Bool.false_or, Bool.and_true, Bool.and_false, Bool.true_and, Bool.false_and, Bool.or_self, Bool.and_self, eq_self]) (by simp only [R_rich, h_5, h_15, ix, ci, cn, if_true, if_false, cond_true, cond_false, decide_true, decide_false, Bool.not_true, Bool.not_false, Bool.or_true, Bool.true_or, Bool.or_false, Bool.false_or, Bool.and_true, Bool.and_false, Bool.true_and, Bool.false_and, Bool.or_self, Bool.and_self, eq_self])
      · refine ev_iconst (v := 0) rfl hC d_Mod_rich_34 ?_
        refine ev_goto 42 hC d_Mod_rich_35 rfl ?_
        exact ev_iret hC hR d_Mod_rich_42 rfl (by simp only [R_rich, h_5, h_15, ix, ci, cn, if_neg h_31, if_true, if_false, cond_true, cond_false, decide_true, decide_false, Bool.not_true, Bool.not_false, Bool.or_true, Bool.true_or, Bool.or_false, Bool.false_or, Bool.and_true, Bool.and_false, Bool.true_and, Bool.false_and, Bool.or_self, Bool.and_self, eq_self]) (by simp only [R_rich, h_5, h_15, ix, ci, cn, if_true, if_false, cond_true, cond_false, decide_true, decide_false, Bool.not_true, Bool.not_false, Bool.or_true, Bool.true_or, Bool.or_false, Bool.false_or, Bool.and_true, Bool.and_false, Bool.true_and, Bool.false_and, Bool.or_self, Bool.and_self, eq_self])
    · refine ev_aload_n rfl hC d_Mod_rich_18 ?_
      refine ev_ldc kc_Mod_63 hC d_Mod_rich_19 ?_
      refine cv_Mod1 hC d_Mod_rich_21 (c_Mod_finding (k := 0) (by omega) (by decide +kernel)) mi_Mod_finding ml_Mod_82 im_Mod_finding se_Mod_finding rfl ⟨Nat.le_of_ble_eq_true rfl, Nat.le_of_ble_eq_true rfl⟩ ⟨Nat.le_of_ble_eq_true rfl, Nat.le_of_ble_eq_true rfl⟩ rfl rfl (Nat.le_of_ble_eq_true rfl)  ?_
      exact ev_iret hC hR d_Mod_rich_24 rfl (by simp only [R_rich, rbad, h_5, h_15, if_true, if_false, cond_true, cond_false, decide_true, decide_false, Bool.not_true, Bool.not_false, Bool.or_true, Bool.true_or, Bool.or_false, Bool.false_or, Bool.and_true, Bool.and_false, Bool.true_and, Bool.false_and, Bool.or_self, Bool.and_self, eq_self] <;> first | rfl | (rfl)) (by simp only [R_rich, rbad, h_5, h_15, if_true, if_false, cond_true, cond_false, decide_true, decide_false, Bool.not_true, Bool.not_false, Bool.or_true, Bool.true_or, Bool.or_false, Bool.false_or, Bool.and_true, Bool.and_false, Bool.true_and, Bool.false_and, Bool.or_self, Bool.and_self, eq_self] <;> first | rfl | (rfl))

set_option maxHeartbeats 2000000 in
set_option maxRecDepth 10000 in
theorem c_Mod_allOn {G : ex_G} {M : ex_M} {aw : Int32} {n ne h : Nat} (hh : h < 2 ^ 30) (ha : M.1 14 1 = aw) (hk : HK (M.1 10) n ne) : Con G Y_Mod_allOn 6 134 0 0 [.ref (ex_b G + 71), .int (nI h)] (ce G M) (some (.int (sumF (hoursR aw n ne h (M.1 10)) 2 n 0 0))) (ce G (thk M (hoursR aw n ne h (M.1 10)))) := by
  refine Con.ofF (plainFor_of_name (by decide +kernel)) (Nat.le_of_ble_eq_true rfl) (fun C hC hR => ?_)
  show Ev G C Y_Mod_allOn 0 [some (.ref (ex_b G + 71)), some (.int (nI h))] [] 0 0 (ce G M)
  refine ev_aload_n rfl hC d_Mod_allOn_0 ?_
  refine gv_Mod_now hC d_Mod_allOn_1 fl_Mod_9  ?_
  refine ev_aload_n rfl hC d_Mod_allOn_4 ?_
  refine gv_Mod_aside hC d_Mod_allOn_5 fl_Mod_16  ?_
  refine cs_0 hC d_Mod_allOn_8 (c_cp_na) mi_Mod_copyRow ml_Mod_64 sm_Mod_copyRow ⟨Nat.le_of_ble_eq_true rfl, Nat.le_of_ble_eq_true rfl⟩ ⟨Nat.le_of_ble_eq_true rfl, Nat.le_of_ble_eq_true rfl⟩ rfl rfl (Nat.le_of_ble_eq_true rfl) ?_
  refine ev_aload_n rfl hC d_Mod_allOn_11 ?_
  refine ev_iload_n rfl hC d_Mod_allOn_12 ?_
  refine cv_Mod0 hC d_Mod_allOn_13 (c_Mod_hoursGo (aw := aw) (n := n) (ne := ne) hh (by rw [asd_14]; exact ha) (by rw [asd_10]; exact hk)) mi_Mod_hoursGo ml_Mod_175 im_Mod_hoursGo se_Mod_hoursGo rfl ⟨Nat.le_of_ble_eq_true rfl, Nat.le_of_ble_eq_true rfl⟩ ⟨Nat.le_of_ble_eq_true rfl, Nat.le_of_ble_eq_true rfl⟩ rfl rfl (Nat.le_of_ble_eq_true rfl)  ?_
  refine ev_aload_n rfl hC d_Mod_allOn_16 ?_
  refine ev_aload_n rfl hC d_Mod_allOn_17 ?_
  refine ev_iconst (v := nI 2) rfl hC d_Mod_allOn_18 ?_
  refine cv_Mod1 hC d_Mod_allOn_19 (c_Mod_sumOf hk.2.1 (by omega) (by rw [asd_10]; simp only [mI, wr_s]; exact (HK_hoursR h _ hk).1)) mi_Mod_sumOf ml_Mod_178 im_Mod_sumOf se_Mod_sumOf rfl ⟨Nat.le_of_ble_eq_true rfl, Nat.le_of_ble_eq_true rfl⟩ ⟨Nat.le_of_ble_eq_true rfl, Nat.le_of_ble_eq_true rfl⟩ rfl rfl (Nat.le_of_ble_eq_true rfl)  ?_
  refine cv_Mod1 hC d_Mod_allOn_22 (c_Mod_putBack ) mi_Mod_putBack ml_Mod_188 im_Mod_putBack se_Mod_putBack rfl ⟨Nat.le_of_ble_eq_true rfl, Nat.le_of_ble_eq_true rfl⟩ ⟨Nat.le_of_ble_eq_true rfl, Nat.le_of_ble_eq_true rfl⟩ rfl rfl (Nat.le_of_ble_eq_true rfl)  ?_
  exact ev_iret hC hR d_Mod_allOn_25 rfl (by rw [asd_10]; simp only [mI, wr_s]) (by rw [asd_10]; rfl)

set_option maxHeartbeats 2000000 in
set_option maxRecDepth 10000 in
theorem c_Mod_sum {G : ex_G} {M : ex_M} {np ne : Nat} {e n : Int32} (w : WF (M.1 10) np ne) : Con G Y_Mod_sum 7 155 0 0 [.ref (ex_b G + 71), .int e, .int n] (ce G M) (some (.int (R_sum M np ne e n).1)) (ce G ((R_sum M np ne e n).2)) := by
  refine Con.ofF (plainFor_of_name (by decide +kernel)) (Nat.le_of_ble_eq_true rfl) (fun C hC hR => ?_)
  show Ev G C Y_Mod_sum 0 [some (.ref (ex_b G + 71)), some (.int e), some (.int n)] [] 0 0 (ce G M)
  obtain ⟨hc, hn, hc2, hn2, hmet, hkd, hkn⟩ := w
  refine ev_aload_n rfl hC d_Mod_sum_0 ?_
  refine ev_iload_n rfl hC d_Mod_sum_1 ?_
  refine cv_Mod1 hC d_Mod_sum_2 (c_Mod_isEvent ) mi_Mod_isEvent ml_Mod_101 im_Mod_isEvent se_Mod_isEvent rfl ⟨Nat.le_of_ble_eq_true rfl, Nat.le_of_ble_eq_true rfl⟩ ⟨Nat.le_of_ble_eq_true rfl, Nat.le_of_ble_eq_true rfl⟩ rfl rfl (Nat.le_of_ble_eq_true rfl)  ?_
  refine en_eq 18 hC d_Mod_sum_5 rfl (fun h_5 => ?_) (fun h_5 => ?_)
  · refine ev_aload_n rfl hC d_Mod_sum_18 ?_
    refine ev_ldc kc_Mod_63 hC d_Mod_sum_19 ?_
    refine cv_Mod1 hC d_Mod_sum_21 (c_Mod_finding (k := 0) (by omega) (by decide +kernel)) mi_Mod_finding ml_Mod_82 im_Mod_finding se_Mod_finding rfl ⟨Nat.le_of_ble_eq_true rfl, Nat.le_of_ble_eq_true rfl⟩ ⟨Nat.le_of_ble_eq_true rfl, Nat.le_of_ble_eq_true rfl⟩ rfl rfl (Nat.le_of_ble_eq_true rfl)  ?_
    exact ev_iret hC hR d_Mod_sum_24 rfl (by simp only [R_sum, rbad, h_5, if_true, if_false, cond_true, cond_false, decide_true, decide_false, Bool.not_true, Bool.not_false, Bool.or_true, Bool.true_or, Bool.or_false, Bool.false_or, Bool.and_true, Bool.and_false, Bool.true_and, Bool.false_and, Bool.or_self, Bool.and_self, eq_self] <;> first | rfl | (rfl)) (by simp only [R_sum, rbad, h_5, if_true, if_false, cond_true, cond_false, decide_true, decide_false, Bool.not_true, Bool.not_false, Bool.or_true, Bool.true_or, Bool.or_false, Bool.false_or, Bool.and_true, Bool.and_false, Bool.true_and, Bool.false_and, Bool.or_self, Bool.and_self, eq_self] <;> first | rfl | (rfl))
  · refine ev_iload_n rfl hC d_Mod_sum_8 ?_
    refine ev_iconst (v := 0) rfl hC d_Mod_sum_9 ?_
    refine ev_bipush (v := 72) rfl hC d_Mod_sum_10 ?_
    refine cs_1 hC d_Mod_sum_12 (c_Mod_within ) mi_Mod_within ml_Mod_68 sm_Mod_within ⟨Nat.le_of_ble_eq_true rfl, Nat.le_of_ble_eq_true rfl⟩ ⟨Nat.le_of_ble_eq_true rfl, Nat.le_of_ble_eq_true rfl⟩ rfl rfl (Nat.le_of_ble_eq_true rfl) ?_
    refine en_ne 25 hC d_Mod_sum_15 rfl (fun h_15 => ?_) (fun h_15 => ?_)
    · obtain ⟨i, hi, rfl⟩ := out_ix hc2 hn2 h_5
      have ci : (nI i).toNatClampNeg = i := nI_clamp (by omega)
      obtain ⟨n1, hn1, rfl⟩ := out_nat (n := 72) (by decide) h_15
      have cn : (nI n1).toNatClampNeg = n1 := nI_clamp (by omega)
      refine ev_aload_n rfl hC d_Mod_sum_25 ?_
      refine ev_iload_n rfl hC d_Mod_sum_26 ?_
      refine cv_Mod1 hC d_Mod_sum_27 (c_Mod_allOn (by omega) rfl (HK_of ⟨hc, hn, hc2, hn2, hmet, hkd, hkn⟩)) mi_Mod_allOn ml_Mod_215 im_Mod_allOn se_Mod_allOn rfl ⟨Nat.le_of_ble_eq_true rfl, Nat.le_of_ble_eq_true rfl⟩ ⟨Nat.le_of_ble_eq_true rfl, Nat.le_of_ble_eq_true rfl⟩ rfl rfl (Nat.le_of_ble_eq_true rfl)  ?_
      refine ev_istore_n (by decide) hC d_Mod_sum_30 ?_
      refine ev_aload_n rfl hC d_Mod_sum_31 ?_
      refine ev_iload_n rfl hC d_Mod_sum_32 ?_
      refine ev_iconst (v := nI 1) rfl hC d_Mod_sum_33 ?_
      refine cs_1 hC d_Mod_sum_34 (c_Mod_atEvent) mi_Mod_atEvent ml_Mod_72 sm_Mod_atEvent ⟨Nat.le_of_ble_eq_true rfl, Nat.le_of_ble_eq_true rfl⟩ ⟨Nat.le_of_ble_eq_true rfl, Nat.le_of_ble_eq_true rfl⟩ rfl rfl (Nat.le_of_ble_eq_true rfl) ?_
      refine ev_iconst (v := 0) rfl hC d_Mod_sum_37 ?_
      refine cv_Mod1 hC d_Mod_sum_38 (c_Mod_become (by omega)) mi_Mod_become ml_Mod_79 im_Mod_become se_Mod_become rfl ⟨Nat.le_of_ble_eq_true rfl, Nat.le_of_ble_eq_true rfl⟩ ⟨Nat.le_of_ble_eq_true rfl, Nat.le_of_ble_eq_true rfl⟩ rfl rfl (Nat.le_of_ble_eq_true rfl)  ?_
      refine ev_istore (by decide) hC d_Mod_sum_41 ?_
      refine ev_aload_n rfl hC d_Mod_sum_43 ?_
      refine ev_iload_n rfl hC d_Mod_sum_44 ?_
      refine cv_Mod1 hC d_Mod_sum_45 (c_Mod_allOn (aw := M.1 14 1) (n := np) (ne := ne) (by omega) (by simp only [mJ, wr_n (show (14 : Nat) ≠ 10 by decide), thk_n (show (14 : Nat) ≠ 10 by decide) (show (14 : Nat) ≠ 12 by decide)]) (by simp only [mJ, wr_s]; exact HK_upd (HK_thk (HK_of ⟨hc, hn, hc2, hn2, hmet, hkd, hkn⟩)) (by omega) (by omega) (fun p hp => by omega))) mi_Mod_allOn ml_Mod_215 im_Mod_allOn se_Mod_allOn rfl ⟨Nat.le_of_ble_eq_true rfl, Nat.le_of_ble_eq_true rfl⟩ ⟨Nat.le_of_ble_eq_true rfl, Nat.le_of_ble_eq_true rfl⟩ rfl rfl (Nat.le_of_ble_eq_true rfl)  ?_
      refine ev_istore (by decide) hC d_Mod_sum_48 ?_
      refine ev_aload_n rfl hC d_Mod_sum_50 ?_
      refine gv_Mod_now hC d_Mod_sum_51 fl_Mod_9  ?_
      refine ev_iload_n rfl hC d_Mod_sum_54 ?_
      refine ev_iconst (v := nI 1) rfl hC d_Mod_sum_55 ?_
      refine cs_1 hC d_Mod_sum_56 (c_Mod_atEvent) mi_Mod_atEvent ml_Mod_72 sm_Mod_atEvent ⟨Nat.le_of_ble_eq_true rfl, Nat.le_of_ble_eq_true rfl⟩ ⟨Nat.le_of_ble_eq_true rfl, Nat.le_of_ble_eq_true rfl⟩ rfl rfl (Nat.le_of_ble_eq_true rfl) ?_
      refine ev_iload rfl hC d_Mod_sum_59 ?_
      refine pa_now hC d_Mod_sum_61 (by first | assumption | omega) ?_
      refine ev_iload_n rfl hC d_Mod_sum_62 ?_
      refine ev_iload rfl hC d_Mod_sum_63 ?_
      refine ev_isub hC d_Mod_sum_65 ?_
      exact ev_iret hC hR d_Mod_sum_66 rfl (by simp only [R_sum, rbad, h_5, h_15, ix, ci, cn, prb, mI, mJ, wr_s, if_true, if_false, cond_true, cond_false, decide_true, decide_false, Bool.not_true, Bool.not_false, Bool.or_true, Bool.true_or, Bool.or_false, Bool.false_or, Bool.and_true, Bool.and_false, Bool.true_and, Bool.false_and, Bool.or_self, Bool.and_self, eq_self] <;> rfl) (by simp only [R_sum, rbad, h_5, h_15, ix, ci, cn, prb, mI, mJ, wr_s, if_true, if_false, cond_true, cond_false, decide_true, decide_false, Bool.not_true, Bool.not_false, Bool.or_true, Bool.true_or, Bool.or_false, Bool.false_or, Bool.and_true, Bool.and_false, Bool.true_and, Bool.false_and, Bool.or_self, Bool.and_self, eq_self]; rw [thk_eq (j := 4 + 3 * i + 1) (by omega)])
    · refine ev_aload_n rfl hC d_Mod_sum_18 ?_
      refine ev_ldc kc_Mod_63 hC d_Mod_sum_19 ?_
      refine cv_Mod1 hC d_Mod_sum_21 (c_Mod_finding (k := 0) (by omega) (by decide +kernel)) mi_Mod_finding ml_Mod_82 im_Mod_finding se_Mod_finding rfl ⟨Nat.le_of_ble_eq_true rfl, Nat.le_of_ble_eq_true rfl⟩ ⟨Nat.le_of_ble_eq_true rfl, Nat.le_of_ble_eq_true rfl⟩ rfl rfl (Nat.le_of_ble_eq_true rfl)  ?_
      exact ev_iret hC hR d_Mod_sum_24 rfl (by simp only [R_sum, rbad, h_5, h_15, if_true, if_false, cond_true, cond_false, decide_true, decide_false, Bool.not_true, Bool.not_false, Bool.or_true, Bool.true_or, Bool.or_false, Bool.false_or, Bool.and_true, Bool.and_false, Bool.true_and, Bool.false_and, Bool.or_self, Bool.and_self, eq_self] <;> first | rfl | (rfl)) (by simp only [R_sum, rbad, h_5, h_15, if_true, if_false, cond_true, cond_false, decide_true, decide_false, Bool.not_true, Bool.not_false, Bool.or_true, Bool.true_or, Bool.or_false, Bool.false_or, Bool.and_true, Bool.and_false, Bool.true_and, Bool.false_and, Bool.or_self, Bool.and_self, eq_self] <;> first | rfl | (rfl))
