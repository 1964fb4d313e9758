theorem HK_or {a : Nat → Int32} {np ne p i : Nat} {k0 : Int32} (hp : p < np) (hi : i < 8) (hk0 : ∃ k, k < 256 ∧ k0 = nI k) (h : HK a np ne) : HK (upd a (28 + 7 * p + 6) (k0 ||| ((1 : Int32) <<< (nI i &&& 31)))) np ne := by
  obtain ⟨k, hk, rfl⟩ := hk0
  rw [one_shl i hi, fa_or]
  exact HK_kn h hp (Nat.or_lt_two_pow (n := 8) hk (Nat.pow_lt_pow_right (by omega) hi))
/-- one more event known -/
def nwB (j i : Nat) (k0 : Int32) (a : Nat → Int32) : Nat → Int32 := upd a (28 + 7 * j + 6) (k0 ||| ((1 : Int32) <<< (nI i &&& 31)))
def nwV (aw : Int32) (np ne h j i : Nat) (k0 : Int32) (a : Nat → Int32) : Int32 := bif hs1 k0 (nI i) then -1 else hoursR aw np ne h (nwB j i k0 a) (28 + 7 * j + 2)
def nwM (aw : Int32) (np ne h j i : Nat) (k0 : Int32) (M : ex_M) : ex_M := bif hs1 k0 (nI i) then mI M 10 (nwB j i k0 (M.1 10)) else prb M aw np ne h (nwB j i k0 (M.1 10))
def lpN (aw : Int32) (np ne h j : Nat) (k0 : Int32) : Nat → Nat → ex_M × Int32 × Int32 → ex_M × Int32 × Int32
  | 0, _, z => z
  | m + 1, i, z => lpN aw np ne h j k0 m (i + 1) (nwM aw np ne h j i k0 z.1, if nwV aw np ne h j i k0 (z.1.1 10) ≤ z.2.2 then z.2.1 else nI i, mxI z.2.2 (nwV aw np ne h j i k0 (z.1.1 10)))
def zNwR (M : ex_M) (np ne : Nat) (p n : Int32) := lpN (M.1 14 1) np ne (ix n) (ix p) (M.1 10 (28 + 7 * ix p + 6)) ne 0 (thk M (hoursR (M.1 14 1) np ne (ix n) (M.1 10)), -1, hoursR (M.1 14 1) np ne (ix n) (M.1 10) (28 + 7 * ix p + 2))
def R_news (M : ex_M) (np ne : Nat) (p n : Int32) : Int32 × ex_M := bif out p 0 (M.1 10 3 - 1) || out n 0 72 then rbad M 0 else orNR (mJ (zNwR M np ne p n).1 10 (28 + 7 * ix p + 6) (M.1 10 (28 + 7 * ix p + 6))) (zNwR M np ne p n).2.1
/-- how many are met with one away -/
def mtV (aw : Int32) (np ne h : Nat) (a : Nat → Int32) : Int32 := nI (popc (ix (metR (hoursR aw np ne h a) ne)))
def lpD (np ne h : Nat) : Nat → Nat → ex_M × Int32 × Int32 → ex_M × Int32 × Int32
  | 0, _, z => z
  | m + 1, i, z => lpD np ne h m (i + 1) (thk (mJ z.1 14 1 (nI i)) (hoursR (nI i) np ne h (z.1.1 10)), if z.2.2 ≤ mtV (nI i) np ne h (z.1.1 10) then z.2.1 else nI i, if mtV (nI i) np ne h (z.1.1 10) < z.2.2 then mtV (nI i) np ne h (z.1.1 10) else z.2.2)
def zNdR (M : ex_M) (np ne : Nat) (n : Int32) := lpD np ne (ix n) np 0 (thk M (hoursR (M.1 14 1) np ne (ix n) (M.1 10)), -1, mtV (M.1 14 1) np ne (ix n) (M.1 10))
def R_needed (M : ex_M) (np ne : Nat) (n : Int32) : Int32 × ex_M := bif out n 0 72 then rbad M 0 else orNR (mJ (zNdR M np ne n).1 14 1 (-1)) (zNdR M np ne n).2.1
theorem metR_N (a : Nat → Int32) {ne : Nat} (hn : ne ≤ 8) : ∃ k, k < 256 ∧ metR a ne = nI k := ⟨_, (setF_256 hn).2, (setF_256 hn).1⟩
theorem c_bitsM {G : ex_G} {M : ex_M} {b : Nat → Int32} {ne : Nat} (hn : ne ≤ 8) : Con G Y_Mod_bits 0 0 0 0 [.int (metR b ne)] (ce G M) (some (.int (nI (popc (ix (metR b ne)))))) (ce G M) := by
  obtain ⟨k, hk, e⟩ := metR_N b hn
  rw [e, show ix (nI k) = k from nI_clamp (by omega)]
  exact c_Mod_bits hk

set_option maxHeartbeats 4000000 in
set_option maxRecDepth 10000 in
theorem lp_Mod_news {G : ex_G} {C : ex_C} {rr : Option Value} {ee : List va_E} {aw k0 : Int32} {n ne h j : Nat} (hne : ne ≤ 8) (hj : j < 8) (hh : h < 2 ^ 30) (hset : ∀ i a, i < 8 → HK a n ne → HK (upd a (28 + 7 * j + 6) (k0 ||| ((1 : Int32) <<< (nI i &&& 31)))) n ne) (hC : Cx G C Y_Mod_news { frames := 8, cells := 0, slots := 0, locals := 179 }) (hR : Cr G C Y_Mod_news 0 0 rr ee) :
    ∀ (m i : Nat) (M : ex_M) (b mo : Int32), i + m = ne → M.1 14 1 = aw ∧ HK (M.1 10) n ne → rr = some (.int (orNR (mJ (lpN aw n ne h j k0 m i (M, b, mo)).1 10 (28 + 7 * j + 6) k0) (lpN aw n ne h j k0 m i (M, b, mo)).2.1).1) ∧ ee = ce G (orNR (mJ (lpN aw n ne h j k0 m i (M, b, mo)).1 10 (28 + 7 * j + 6) k0) (lpN aw n ne h j k0 m i (M, b, mo)).2.1).2 → Ev G C Y_Mod_news 47 [some (.ref (ex_b G + 71)), some (.int (nI j)), some (.int (nI h)), some (.int k0), some (.int mo), some (.int b), some (.int (nI i))] [] 0 0 (ce G (M)) := by
  intro m
  induction m with
  | zero =>
    intro i M b mo hm hc he
    refine ev_iload rfl hC d_Mod_news_47 ?_
    refine ev_aload_n rfl hC d_Mod_news_49 ?_
    refine gv_Mod_now hC d_Mod_news_50 fl_Mod_9  ?_
    refine ev_iconst (v := nI 2) rfl hC d_Mod_news_53 ?_
    refine ga_now hC d_Mod_news_54 (by first | assumption | omega) ?_
    refine ev_icmp_ge 127 hC d_Mod_news_55 rfl (fun _ => ?_) (fun h => absurd (by rw [hc.2.2.2.1]; exact nI_le (by omega) (by omega)) h)
    refine ev_aload_n rfl hC d_Mod_news_127 ?_
    refine gv_Mod_now hC d_Mod_news_128 fl_Mod_9  ?_
    refine ev_iload_n rfl hC d_Mod_news_131 ?_
    refine ev_bipush (v := nI 6) rfl hC d_Mod_news_132 ?_
    refine cs_1 hC d_Mod_news_134 (c_Mod_at) mi_Mod_at ml_Mod_76 sm_Mod_at ⟨Nat.le_of_ble_eq_true rfl, Nat.le_of_ble_eq_true rfl⟩ ⟨Nat.le_of_ble_eq_true rfl, Nat.le_of_ble_eq_true rfl⟩ rfl rfl (Nat.le_of_ble_eq_true rfl) ?_
    refine ev_iload_n rfl hC d_Mod_news_137 ?_
    refine pa_now hC d_Mod_news_138 (by first | assumption | omega) ?_
    refine ev_aload_n rfl hC d_Mod_news_139 ?_
    refine ev_iload rfl hC d_Mod_news_140 ?_
    refine cv_Mod1 hC d_Mod_news_142 (c_Mod_orNone ) mi_Mod_orNone ml_Mod_199 im_Mod_orNone se_Mod_orNone rfl ⟨Nat.le_of_ble_eq_true rfl, Nat.le_of_ble_eq_true rfl⟩ ⟨Nat.le_of_ble_eq_true rfl, Nat.le_of_ble_eq_true rfl⟩ rfl rfl (Nat.le_of_ble_eq_true rfl)  ?_
    exact ev_iret hC hR d_Mod_news_145 rfl (by rw [he.1, lpN]) (by rw [he.2, lpN])
  | succ m ih =>
    intro i M b mo hm hc he
    have hi : i < 8 := by have := hc.2.2.2.2.1; omega
    refine ev_iload rfl hC d_Mod_news_47 ?_
    refine ev_aload_n rfl hC d_Mod_news_49 ?_
    refine gv_Mod_now hC d_Mod_news_50 fl_Mod_9  ?_
    refine ev_iconst (v := nI 2) rfl hC d_Mod_news_53 ?_
    refine ga_now hC d_Mod_news_54 (by first | assumption | omega) ?_
    refine ev_icmp_ge 127 hC d_Mod_news_55 rfl (fun h => absurd h (by rw [hc.2.2.2.1]; exact nI_ge (by omega) (by omega))) (fun _ => ?_)
    refine ev_aload_n rfl hC d_Mod_news_58 ?_
    refine gv_Mod_now hC d_Mod_news_59 fl_Mod_9  ?_
    refine ev_iload_n rfl hC d_Mod_news_62 ?_
    refine ev_bipush (v := nI 6) rfl hC d_Mod_news_63 ?_
    refine cs_1 hC d_Mod_news_65 (c_Mod_at) mi_Mod_at ml_Mod_76 sm_Mod_at ⟨Nat.le_of_ble_eq_true rfl, Nat.le_of_ble_eq_true rfl⟩ ⟨Nat.le_of_ble_eq_true rfl, Nat.le_of_ble_eq_true rfl⟩ rfl rfl (Nat.le_of_ble_eq_true rfl) ?_
    refine ev_iload_n rfl hC d_Mod_news_68 ?_
    refine ev_iconst (v := 1) rfl hC d_Mod_news_69 ?_
    refine ev_iload rfl hC d_Mod_news_70 ?_
    refine ev_ishl hC d_Mod_news_72 ?_
    refine ev_ior hC d_Mod_news_73 ?_
    refine pa_now hC d_Mod_news_74 (by first | assumption | omega) ?_
    refine ev_iload_n rfl hC d_Mod_news_75 ?_
    refine ev_iload rfl hC d_Mod_news_76 ?_
    refine cs_1 hC d_Mod_news_78 (c_Mod_has ) mi_Mod_has ml_Mod_97 sm_Mod_has ⟨Nat.le_of_ble_eq_true rfl, Nat.le_of_ble_eq_true rfl⟩ ⟨Nat.le_of_ble_eq_true rfl, Nat.le_of_ble_eq_true rfl⟩ rfl rfl (Nat.le_of_ble_eq_true rfl) ?_
    refine eb_eq 88 hC d_Mod_news_81 rfl (fun h_81 => ?_) (fun h_81 => ?_)
    · refine ev_aload_n rfl hC d_Mod_news_88 ?_
      refine ev_iload_n rfl hC d_Mod_news_89 ?_
      refine ev_iload_n rfl hC d_Mod_news_90 ?_
      refine cv_Mod1 hC d_Mod_news_91 (c_Mod_purseOn (aw := aw) (n := n) (ne := ne) hj hh (by simp only [mJ, wr_n (show (14 : Nat) ≠ 10 by decide)]; exact hc.1) (by simp only [mJ, wr_s]; exact hset i _ (by omega) hc.2)) mi_Mod_purseOn ml_Mod_208 im_Mod_purseOn se_Mod_purseOn rfl ⟨Nat.le_of_ble_eq_true rfl, Nat.le_of_ble_eq_true rfl⟩ ⟨Nat.le_of_ble_eq_true rfl, Nat.le_of_ble_eq_true rfl⟩ rfl rfl (Nat.le_of_ble_eq_true rfl)  ?_
      refine ev_istore (by decide) hC d_Mod_news_94 ?_
      refine ev_iload rfl hC d_Mod_news_96 ?_
      refine ev_iload rfl hC d_Mod_news_98 ?_
      refine ev_icmp_le 108 hC d_Mod_news_100 rfl (fun h_100 => ?_) (fun h_100 => ?_)
      · refine ev_iload rfl hC d_Mod_news_108 ?_
        refine ev_istore (by decide) hC d_Mod_news_110 ?_
        refine ev_iload rfl hC d_Mod_news_112 ?_
        refine ev_iload rfl hC d_Mod_news_114 ?_
        refine cs_1 hC d_Mod_news_116 (c_Math_max ) mi_Math_max ml_Mod_110 sm_Math_max ⟨Nat.le_of_ble_eq_true rfl, Nat.le_of_ble_eq_true rfl⟩ ⟨Nat.le_of_ble_eq_true rfl, Nat.le_of_ble_eq_true rfl⟩ rfl rfl (Nat.le_of_ble_eq_true rfl) ?_
        refine ev_istore (by decide) hC d_Mod_news_119 ?_
        refine ev_iinc rfl (by decide) (nI_1 _) hC d_Mod_news_121 ?_
        refine ev_goto 47 hC d_Mod_news_124 rfl ?_
        refine Ev.take 7 ?_
        have h81 : hs1 k0 (nI i) = false := h_81
        simp only [mJ, wr_s] at h_100
        refine ih (i + 1) _ _ _ (by omega) ⟨by rw [thk_n (by decide) (by decide)]; simp only [mJ, wr_n (show (14 : Nat) ≠ 10 by decide)]; exact hc.1, HK_thk (by simp only [mJ, wr_s]; exact hset i _ (by omega) hc.2)⟩ ?_
        rw [he.1, he.2, lpN, show nwV aw n ne h j i k0 (M.1 10) = hoursR aw n ne h (upd (M.1 10) (28 + 7 * j + 6) (k0 ||| ((1 : Int32) <<< (nI i &&& 31)))) (28 + 7 * j + 2) by rw [nwV, h81]; rfl, show nwM aw n ne h j i k0 M = prb M aw n ne h (nwB j i k0 (M.1 10)) by rw [nwM, h81]; rfl, if_pos h_100]
        simp only [prb, nwB, mxI, mI, mJ, wr_s]
        exact ⟨trivial, trivial⟩
      · refine ev_iload rfl hC d_Mod_news_103 ?_
        refine ev_goto 110 hC d_Mod_news_105 rfl ?_
        refine ev_istore (by decide) hC d_Mod_news_110 ?_
        refine ev_iload rfl hC d_Mod_news_112 ?_
        refine ev_iload rfl hC d_Mod_news_114 ?_
        refine cs_1 hC d_Mod_news_116 (c_Math_max ) mi_Math_max ml_Mod_110 sm_Math_max ⟨Nat.le_of_ble_eq_true rfl, Nat.le_of_ble_eq_true rfl⟩ ⟨Nat.le_of_ble_eq_true rfl, Nat.le_of_ble_eq_true rfl⟩ rfl rfl (Nat.le_of_ble_eq_true rfl) ?_
        refine ev_istore (by decide) hC d_Mod_news_119 ?_
        refine ev_iinc rfl (by decide) (nI_1 _) hC d_Mod_news_121 ?_
        refine ev_goto 47 hC d_Mod_news_124 rfl ?_
        refine Ev.take 7 ?_
        have h81 : hs1 k0 (nI i) = false := h_81
        simp only [mJ, wr_s] at h_100
        refine ih (i + 1) _ _ _ (by omega) ⟨by rw [thk_n (by decide) (by decide)]; simp only [mJ, wr_n (show (14 : Nat) ≠ 10 by decide)]; exact hc.1, HK_thk (by simp only [mJ, wr_s]; exact hset i _ (by omega) hc.2)⟩ ?_
        rw [he.1, he.2, lpN, show nwV aw n ne h j i k0 (M.1 10) = hoursR aw n ne h (upd (M.1 10) (28 + 7 * j + 6) (k0 ||| ((1 : Int32) <<< (nI i &&& 31)))) (28 + 7 * j + 2) by rw [nwV, h81]; rfl, show nwM aw n ne h j i k0 M = prb M aw n ne h (nwB j i k0 (M.1 10)) by rw [nwM, h81]; rfl, if_neg h_100]
        simp only [prb, nwB, mxI, mI, mJ, wr_s]
        exact ⟨trivial, trivial⟩
    · refine ev_iconst (v := -1) rfl hC d_Mod_news_84 ?_
      refine ev_goto 94 hC d_Mod_news_85 rfl ?_
      refine ev_istore (by decide) hC d_Mod_news_94 ?_
      refine ev_iload rfl hC d_Mod_news_96 ?_
      refine ev_iload rfl hC d_Mod_news_98 ?_
      refine ev_icmp_le 108 hC d_Mod_news_100 rfl (fun h_100 => ?_) (fun h_100 => ?_)
      · refine ev_iload rfl hC d_Mod_news_108 ?_
        refine ev_istore (by decide) hC d_Mod_news_110 ?_
        refine ev_iload rfl hC d_Mod_news_112 ?_
        refine ev_iload rfl hC d_Mod_news_114 ?_
        refine cs_1 hC d_Mod_news_116 (c_Math_max ) mi_Math_max ml_Mod_110 sm_Math_max ⟨Nat.le_of_ble_eq_true rfl, Nat.le_of_ble_eq_true rfl⟩ ⟨Nat.le_of_ble_eq_true rfl, Nat.le_of_ble_eq_true rfl⟩ rfl rfl (Nat.le_of_ble_eq_true rfl) ?_
        refine ev_istore (by decide) hC d_Mod_news_119 ?_
        refine ev_iinc rfl (by decide) (nI_1 _) hC d_Mod_news_121 ?_
        refine ev_goto 47 hC d_Mod_news_124 rfl ?_
        refine Ev.take 7 ?_
        have h81 : hs1 k0 (nI i) = true := h_81
        refine ih (i + 1) _ _ _ (by omega) ⟨by simp only [mJ, wr_n (show (14 : Nat) ≠ 10 by decide)]; exact hc.1, by simp only [mJ, wr_s]; exact hset i _ (by omega) hc.2⟩ ?_
        rw [he.1, he.2, lpN, show nwV aw n ne h j i k0 (M.1 10) = -1 by rw [nwV, h81]; rfl, show nwM aw n ne h j i k0 M = mI M 10 (nwB j i k0 (M.1 10)) by rw [nwM, h81]; rfl, if_pos h_100]
        simp only [prb, nwB, mxI, mI, mJ, wr_s]
        exact ⟨trivial, trivial⟩
      · refine ev_iload rfl hC d_Mod_news_103 ?_
        refine ev_goto 110 hC d_Mod_news_105 rfl ?_
        refine ev_istore (by decide) hC d_Mod_news_110 ?_
        refine ev_iload rfl hC d_Mod_news_112 ?_
        refine ev_iload rfl hC d_Mod_news_114 ?_
        refine cs_1 hC d_Mod_news_116 (c_Math_max ) mi_Math_max ml_Mod_110 sm_Math_max ⟨Nat.le_of_ble_eq_true rfl, Nat.le_of_ble_eq_true rfl⟩ ⟨Nat.le_of_ble_eq_true rfl, Nat.le_of_ble_eq_true rfl⟩ rfl rfl (Nat.le_of_ble_eq_true rfl) ?_
        refine ev_istore (by decide) hC d_Mod_news_119 ?_
        refine ev_iinc rfl (by decide) (nI_1 _) hC d_Mod_news_121 ?_
        refine ev_goto 47 hC d_Mod_news_124 rfl ?_
        refine Ev.take 7 ?_
        have h81 : hs1 k0 (nI i) = true := h_81
        refine ih (i + 1) _ _ _ (by omega) ⟨by simp only [mJ, wr_n (show (14 : Nat) ≠ 10 by decide)]; exact hc.1, by simp only [mJ, wr_s]; exact hset i _ (by omega) hc.2⟩ ?_
        rw [he.1, he.2, lpN, show nwV aw n ne h j i k0 (M.1 10) = -1 by rw [nwV, h81]; rfl, show nwM aw n ne h j i k0 M = mI M 10 (nwB j i k0 (M.1 10)) by rw [nwM, h81]; rfl, if_neg h_100]
        simp only [prb, nwB, mxI, mI, mJ, wr_s]
        exact ⟨trivial, trivial⟩

set_option maxHeartbeats 2000000 in
set_option maxRecDepth 10000 in
theorem c_Mod_news {G : ex_G} {M : ex_M} {np ne : Nat} {p n : Int32} (w : WF (M.1 10) np ne) : Con G Y_Mod_news 8 179 0 0 [.ref (ex_b G + 71), .int p, .int n] (ce G M) (some (.int (R_news M np ne p n).1)) (ce G ((R_news M np ne p n).2)) := by
  refine Con.ofF (plainFor_of_name (by decide +kernel)) (Nat.le_of_ble_eq_true rfl) (fun C hC hR => ?_)
  show Ev G C Y_Mod_news 0 [some (.ref (ex_b G + 71)), some (.int p), some (.int n)] [] 0 0 (ce G M)
  obtain ⟨hc, hn, hc2, hn2, hmet, hkd, hkn⟩ := w
  refine ev_aload_n rfl hC d_Mod_news_0 ?_
  refine ev_iload_n rfl hC d_Mod_news_1 ?_
  refine cv_Mod1 hC d_Mod_news_2 (c_Mod_isOne ) mi_Mod_isOne ml_Mod_122 im_Mod_isOne se_Mod_isOne rfl ⟨Nat.le_of_ble_eq_true rfl, Nat.le_of_ble_eq_true rfl⟩ ⟨Nat.le_of_ble_eq_true rfl, Nat.le_of_ble_eq_true rfl⟩ rfl rfl (Nat.le_of_ble_eq_true rfl)  ?_
  refine en_eq 18 hC d_Mod_news_5 rfl (fun h_5 => ?_) (fun h_5 => ?_)
  · refine ev_aload_n rfl hC d_Mod_news_18 ?_
    refine ev_ldc kc_Mod_63 hC d_Mod_news_19 ?_
    refine cv_Mod1 hC d_Mod_news_21 (c_Mod_finding (k := 0) (by omega) (by decide +kernel)) mi_Mod_finding ml_Mod_82 im_Mod_finding se_Mod_finding rfl ⟨Nat.le_of_ble_eq_true rfl, Nat.le_of_ble_eq_true rfl⟩ ⟨Nat.le_of_ble_eq_true rfl, Nat.le_of_ble_eq_true rfl⟩ rfl rfl (Nat.le_of_ble_eq_true rfl)  ?_
    exact ev_iret hC hR d_Mod_news_24 rfl (by simp only [R_news, rbad, h_5, if_true, if_false, cond_true, cond_false, decide_true, decide_false, Bool.not_true, Bool.not_false, Bool.or_true, Bool.true_or, Bool.or_false, Bool.false_or, Bool.and_true, Bool.and_false, Bool.true_and, Bool.false_and, Bool.or_self, Bool.and_self, eq_self] <;> first | rfl | (rfl)) (by simp only [R_news, rbad, h_5, if_true, if_false, cond_true, cond_false, decide_true, decide_false, Bool.not_true, Bool.not_false, Bool.or_true, Bool.true_or, Bool.or_false, Bool.false_or, Bool.and_true, Bool.and_false, Bool.true_and, Bool.false_and, Bool.or_self, Bool.and_self, eq_self] <;> first | rfl | (rfl))
  · refine ev_iload_n rfl hC d_Mod_news_8 ?_
    refine ev_iconst (v := 0) rfl hC d_Mod_news_9 ?_
    refine ev_bipush (v := 72) rfl hC d_Mod_news_10 ?_
    refine cs_1 hC d_Mod_news_12 (c_Mod_within ) mi_Mod_within ml_Mod_68 sm_Mod_within ⟨Nat.le_of_ble_eq_true rfl, Nat.le_of_ble_eq_true rfl⟩ ⟨Nat.le_of_ble_eq_true rfl, Nat.le_of_ble_eq_true rfl⟩ rfl rfl (Nat.le_of_ble_eq_true rfl) ?_
    refine en_ne 25 hC d_Mod_news_15 rfl (fun h_15 => ?_) (fun h_15 => ?_)
    · obtain ⟨i, hi, rfl⟩ := out_ix hc hn h_5
      have ci : (nI i).toNatClampNeg = i := nI_clamp (by omega)
      obtain ⟨n1, hn1, rfl⟩ := out_nat (n := 72) (by decide) h_15
      have cn : (nI n1).toNatClampNeg = n1 := nI_clamp (by omega)
      refine ev_aload_n rfl hC d_Mod_news_25 ?_
      refine ev_iload_n rfl hC d_Mod_news_26 ?_
      refine ev_bipush (v := nI 6) rfl hC d_Mod_news_27 ?_
      refine cv_Mod1 hC d_Mod_news_29 (c_Mod_oneIs (by omega) (by omega)) mi_Mod_oneIs ml_Mod_94 im_Mod_oneIs se_Mod_oneIs rfl ⟨Nat.le_of_ble_eq_true rfl, Nat.le_of_ble_eq_true rfl⟩ ⟨Nat.le_of_ble_eq_true rfl, Nat.le_of_ble_eq_true rfl⟩ rfl rfl (Nat.le_of_ble_eq_true rfl)  ?_
      refine ev_istore_n (by decide) hC d_Mod_news_32 ?_
      refine ev_aload_n rfl hC d_Mod_news_33 ?_
      refine ev_iload_n rfl hC d_Mod_news_34 ?_
      refine ev_iload_n rfl hC d_Mod_news_35 ?_
      refine cv_Mod1 hC d_Mod_news_36 (c_Mod_purseOn (by omega) (by omega) rfl (HK_of ⟨hc, hn, hc2, hn2, hmet, hkd, hkn⟩)) mi_Mod_purseOn ml_Mod_208 im_Mod_purseOn se_Mod_purseOn rfl ⟨Nat.le_of_ble_eq_true rfl, Nat.le_of_ble_eq_true rfl⟩ ⟨Nat.le_of_ble_eq_true rfl, Nat.le_of_ble_eq_true rfl⟩ rfl rfl (Nat.le_of_ble_eq_true rfl)  ?_
      refine ev_istore (by decide) hC d_Mod_news_39 ?_
      refine ev_iconst (v := -1) rfl hC d_Mod_news_41 ?_
      refine ev_istore (by decide) hC d_Mod_news_42 ?_
      refine ev_iconst (v := nI 0) rfl hC d_Mod_news_44 ?_
      refine ev_istore (by decide) hC d_Mod_news_45 ?_
      refine lp_Mod_news (aw := M.1 14 1) (n := np) (ne := ne) (j := i) hn2 (by omega) (by omega) (fun x a hx ha => HK_or (by omega) hx (hkn i (by omega)) ha) hC hR ne 0 _ _ _ (by omega) ⟨by rw [thk_n (by decide) (by decide)], HK_thk (HK_of ⟨hc, hn, hc2, hn2, hmet, hkd, hkn⟩)⟩ ?_
      simp only [R_news, zNwR, h_5, h_15, ix, ci, cn, if_true, if_false, cond_true, cond_false, decide_true, decide_false, Bool.not_true, Bool.not_false, Bool.or_true, Bool.true_or, Bool.or_false, Bool.false_or, Bool.and_true, Bool.and_false, Bool.true_and, Bool.false_and, Bool.or_self, Bool.and_self, eq_self]
      exact ⟨trivial, trivial⟩
    · refine ev_aload_n rfl hC d_Mod_news_18 ?_
      refine ev_ldc kc_Mod_63 hC d_Mod_news_19 ?_
      refine cv_Mod1 hC d_Mod_news_21 (c_Mod_finding (k := 0) (by omega) (by decide +kernel)) mi_Mod_finding ml_Mod_82 im_Mod_finding se_Mod_finding rfl ⟨Nat.le_of_ble_eq_true rfl, Nat.le_of_ble_eq_true rfl⟩ ⟨Nat.le_of_ble_eq_true rfl, Nat.le_of_ble_eq_true rfl⟩ rfl rfl (Nat.le_of_ble_eq_true rfl)  ?_
      exact ev_iret hC hR d_Mod_news_24 rfl (by simp only [R_news, rbad, h_5, h_15, if_true, if_false, cond_true, cond_false, decide_true, decide_false, Bool.not_true, Bool.not_false, Bool.or_true, Bool.true_or, Bool.or_false, Bool.false_or, Bool.and_true, Bool.and_false, Bool.true_and, Bool.false_and, Bool.or_self, Bool.and_self, eq_self] <;> first | rfl | (rfl)) (by simp only [R_news, rbad, h_5, h_15, if_true, if_false, cond_true, cond_false, decide_true, decide_false, Bool.not_true, Bool.not_false, Bool.or_true, Bool.true_or, Bool.or_false, Bool.false_or, Bool.and_true, Bool.and_false, Bool.true_and, Bool.false_and, Bool.or_self, Bool.and_self, eq_self] <;> first | rfl | (rfl))

set_option maxHeartbeats 4000000 in
set_option maxRecDepth 10000 in
theorem lp_Mod_needed {G : ex_G} {C : ex_C} {rr : Option Value} {ee : List va_E} {n ne h : Nat} (hn : n ≤ 8) (hh : h < 2 ^ 30) (hC : Cx G C Y_Mod_needed { frames := 7, cells := 0, slots := 0, locals := 155 }) (hR : Cr G C Y_Mod_needed 0 0 rr ee) :
    ∀ (m i : Nat) (M : ex_M) (b le : Int32), i + m = n → HK (M.1 10) n ne → rr = some (.int (orNR (mJ (lpD n ne h m i (M, b, le)).1 14 1 (-1)) (lpD n ne h m i (M, b, le)).2.1).1) ∧ ee = ce G (orNR (mJ (lpD n ne h m i (M, b, le)).1 14 1 (-1)) (lpD n ne h m i (M, b, le)).2.1).2 → Ev G C Y_Mod_needed 31 [some (.ref (ex_b G + 71)), some (.int (nI h)), some (.int le), some (.int b), some (.int (nI i))] [] 0 0 (ce G (M)) := by
  intro m
  induction m with
  | zero =>
    intro i M b le hm hc he
    refine ev_iload rfl hC d_Mod_needed_31 ?_
    refine ev_aload_n rfl hC d_Mod_needed_33 ?_
    refine gv_Mod_now hC d_Mod_needed_34 fl_Mod_9  ?_
    refine ev_iconst (v := nI 3) rfl hC d_Mod_needed_37 ?_
    refine ga_now hC d_Mod_needed_38 (by first | assumption | omega) ?_
    refine ev_icmp_ge 84 hC d_Mod_needed_39 rfl (fun _ => ?_) (fun h => absurd (by rw [hc.1]; exact nI_le (by omega) (by omega)) h)
    refine ev_aload_n rfl hC d_Mod_needed_84 ?_
    refine ev_iconst (v := -1) rfl hC d_Mod_needed_85 ?_
    refine pv_Mod_away hC d_Mod_needed_86 fl_Mod_22  ?_
    refine ev_aload_n rfl hC d_Mod_needed_89 ?_
    refine ev_iload_n rfl hC d_Mod_needed_90 ?_
    refine cv_Mod1 hC d_Mod_needed_91 (c_Mod_orNone ) mi_Mod_orNone ml_Mod_199 im_Mod_orNone se_Mod_orNone rfl ⟨Nat.le_of_ble_eq_true rfl, Nat.le_of_ble_eq_true rfl⟩ ⟨Nat.le_of_ble_eq_true rfl, Nat.le_of_ble_eq_true rfl⟩ rfl rfl (Nat.le_of_ble_eq_true rfl)  ?_
    exact ev_iret hC hR d_Mod_needed_94 rfl (by rw [he.1, lpD]) (by rw [he.2, lpD])
  | succ m ih =>
    intro i M b le hm hc he
    skip
    refine ev_iload rfl hC d_Mod_needed_31 ?_
    refine ev_aload_n rfl hC d_Mod_needed_33 ?_
    refine gv_Mod_now hC d_Mod_needed_34 fl_Mod_9  ?_
    refine ev_iconst (v := nI 3) rfl hC d_Mod_needed_37 ?_
    refine ga_now hC d_Mod_needed_38 (by first | assumption | omega) ?_
    refine ev_icmp_ge 84 hC d_Mod_needed_39 rfl (fun h => absurd h (by rw [hc.1]; have := hc.2.1; exact nI_ge (by omega) (by omega))) (fun _ => ?_)
    refine ev_aload_n rfl hC d_Mod_needed_42 ?_
    refine ev_iload rfl hC d_Mod_needed_43 ?_
    refine pv_Mod_away hC d_Mod_needed_45 fl_Mod_22  ?_
    refine ev_aload_n rfl hC d_Mod_needed_48 ?_
    refine ev_iload_n rfl hC d_Mod_needed_49 ?_
    refine cv_Mod1 hC d_Mod_needed_50 (c_Mod_metOn (aw := nI i) (n := n) (ne := ne) hh (by simp only [mJ, wr_s, ud_s]) (by simp only [mJ, wr_n (show (10 : Nat) ≠ 14 by decide)]; exact hc)) mi_Mod_metOn ml_Mod_202 im_Mod_metOn se_Mod_metOn rfl ⟨Nat.le_of_ble_eq_true rfl, Nat.le_of_ble_eq_true rfl⟩ ⟨Nat.le_of_ble_eq_true rfl, Nat.le_of_ble_eq_true rfl⟩ rfl rfl (Nat.le_of_ble_eq_true rfl)  ?_
    refine cs_1 hC d_Mod_needed_53 (c_bitsM hc.2.2.2.1) mi_Mod_bits ml_Mod_154 sm_Mod_bits ⟨Nat.le_of_ble_eq_true rfl, Nat.le_of_ble_eq_true rfl⟩ ⟨Nat.le_of_ble_eq_true rfl, Nat.le_of_ble_eq_true rfl⟩ rfl rfl (Nat.le_of_ble_eq_true rfl) ?_
    refine ev_istore (by decide) hC d_Mod_needed_56 ?_
    refine ev_iload rfl hC d_Mod_needed_58 ?_
    refine ev_iload_n rfl hC d_Mod_needed_60 ?_
    refine ev_icmp_ge 69 hC d_Mod_needed_61 rfl (fun h_61 => ?_) (fun h_61 => ?_)
    · refine ev_iload_n rfl hC d_Mod_needed_69 ?_
      refine ev_istore_n (by decide) hC d_Mod_needed_70 ?_
      refine ev_iload_n rfl hC d_Mod_needed_71 ?_
      refine ev_iload rfl hC d_Mod_needed_72 ?_
      refine cs_1 hC d_Mod_needed_74 (c_Math_min ) mi_Math_min ml_Mod_139 sm_Math_min ⟨Nat.le_of_ble_eq_true rfl, Nat.le_of_ble_eq_true rfl⟩ ⟨Nat.le_of_ble_eq_true rfl, Nat.le_of_ble_eq_true rfl⟩ rfl rfl (Nat.le_of_ble_eq_true rfl) ?_
      refine ev_istore_n (by decide) hC d_Mod_needed_77 ?_
      refine ev_iinc rfl (by decide) (nI_1 _) hC d_Mod_needed_78 ?_
      refine ev_goto 31 hC d_Mod_needed_81 rfl ?_
      refine Ev.take 5 ?_
      simp only [mJ, wr_n (show (10 : Nat) ≠ 14 by decide)] at h_61
      refine ih (i + 1) _ _ _ (by omega) (HK_thk (by simp only [mJ, wr_n (show (10 : Nat) ≠ 14 by decide)]; exact hc)) ?_
      have h61 : le ≤ mtV (nI i) n ne h (M.1 10) := h_61
      rw [he.1, he.2, lpD, if_pos h61]
      simp only [mtV, mJ, wr_n (show (10 : Nat) ≠ 14 by decide)]
      exact ⟨rfl, rfl⟩
    · refine ev_iload rfl hC d_Mod_needed_64 ?_
      refine ev_goto 70 hC d_Mod_needed_66 rfl ?_
      refine ev_istore_n (by decide) hC d_Mod_needed_70 ?_
      refine ev_iload_n rfl hC d_Mod_needed_71 ?_
      refine ev_iload rfl hC d_Mod_needed_72 ?_
      refine cs_1 hC d_Mod_needed_74 (c_Math_min ) mi_Math_min ml_Mod_139 sm_Math_min ⟨Nat.le_of_ble_eq_true rfl, Nat.le_of_ble_eq_true rfl⟩ ⟨Nat.le_of_ble_eq_true rfl, Nat.le_of_ble_eq_true rfl⟩ rfl rfl (Nat.le_of_ble_eq_true rfl) ?_
      refine ev_istore_n (by decide) hC d_Mod_needed_77 ?_
      refine ev_iinc rfl (by decide) (nI_1 _) hC d_Mod_needed_78 ?_
      refine ev_goto 31 hC d_Mod_needed_81 rfl ?_
      refine Ev.take 5 ?_
      simp only [mJ, wr_n (show (10 : Nat) ≠ 14 by decide)] at h_61
      refine ih (i + 1) _ _ _ (by omega) (HK_thk (by simp only [mJ, wr_n (show (10 : Nat) ≠ 14 by decide)]; exact hc)) ?_
      have h61 : ¬ le ≤ mtV (nI i) n ne h (M.1 10) := h_61
      rw [he.1, he.2, lpD, if_neg h61]
      simp only [mtV, mJ, wr_n (show (10 : Nat) ≠ 14 by decide)]
      exact ⟨rfl, rfl⟩

set_option maxHeartbeats 2000000 in
set_option maxRecDepth 10000 in
theorem c_Mod_needed {G : ex_G} {M : ex_M} {np ne : Nat} {n : Int32} (w : WF (M.1 10) np ne) : Con G Y_Mod_needed 7 155 0 0 [.ref (ex_b G + 71), .int n] (ce G M) (some (.int (R_needed M np ne n).1)) (ce G ((R_needed M np ne n).2)) := by
  refine Con.ofF (plainFor_of_name (by decide +kernel)) (Nat.le_of_ble_eq_true rfl) (fun C hC hR => ?_)
  show Ev G C Y_Mod_needed 0 [some (.ref (ex_b G + 71)), some (.int n)] [] 0 0 (ce G M)
  obtain ⟨hc, hn, hc2, hn2, hmet, hkd, hkn⟩ := w
  refine ev_iload_n rfl hC d_Mod_needed_0 ?_
  refine ev_iconst (v := 0) rfl hC d_Mod_needed_1 ?_
  refine ev_bipush (v := 72) rfl hC d_Mod_needed_2 ?_
  refine cs_1 hC d_Mod_needed_4 (c_Mod_within ) mi_Mod_within ml_Mod_68 sm_Mod_within ⟨Nat.le_of_ble_eq_true rfl, Nat.le_of_ble_eq_true rfl⟩ ⟨Nat.le_of_ble_eq_true rfl, Nat.le_of_ble_eq_true rfl⟩ rfl rfl (Nat.le_of_ble_eq_true rfl) ?_
  refine en_ne 17 hC d_Mod_needed_7 rfl (fun h_7 => ?_) (fun h_7 => ?_)
  · obtain ⟨n1, hn1, rfl⟩ := out_nat (n := 72) (by decide) h_7
    have cn : (nI n1).toNatClampNeg = n1 := nI_clamp (by omega)
    refine ev_aload_n rfl hC d_Mod_needed_17 ?_
    refine ev_iload_n rfl hC d_Mod_needed_18 ?_
    refine cv_Mod1 hC d_Mod_needed_19 (c_Mod_metOn (by omega) rfl (HK_of ⟨hc, hn, hc2, hn2, hmet, hkd, hkn⟩)) mi_Mod_metOn ml_Mod_202 im_Mod_metOn se_Mod_metOn rfl ⟨Nat.le_of_ble_eq_true rfl, Nat.le_of_ble_eq_true rfl⟩ ⟨Nat.le_of_ble_eq_true rfl, Nat.le_of_ble_eq_true rfl⟩ rfl rfl (Nat.le_of_ble_eq_true rfl)  ?_
    refine cs_1 hC d_Mod_needed_22 (c_bitsM hn2) mi_Mod_bits ml_Mod_154 sm_Mod_bits ⟨Nat.le_of_ble_eq_true rfl, Nat.le_of_ble_eq_true rfl⟩ ⟨Nat.le_of_ble_eq_true rfl, Nat.le_of_ble_eq_true rfl⟩ rfl rfl (Nat.le_of_ble_eq_true rfl) ?_
    refine ev_istore_n (by decide) hC d_Mod_needed_25 ?_
    refine ev_iconst (v := -1) rfl hC d_Mod_needed_26 ?_
    refine ev_istore_n (by decide) hC d_Mod_needed_27 ?_
    refine ev_iconst (v := nI 0) rfl hC d_Mod_needed_28 ?_
    refine ev_istore (by decide) hC d_Mod_needed_29 ?_
    refine lp_Mod_needed (n := np) (ne := ne) hn (by omega) hC hR np 0 _ _ _ (by omega) (HK_thk (HK_of ⟨hc, hn, hc2, hn2, hmet, hkd, hkn⟩)) ?_
    simp only [R_needed, zNdR, mtV, h_7, ix, cn, if_true, if_false, cond_true, cond_false, decide_true, decide_false, Bool.not_true, Bool.not_false, Bool.or_true, Bool.true_or, Bool.or_false, Bool.false_or, Bool.and_true, Bool.and_false, Bool.true_and, Bool.false_and, Bool.or_self, Bool.and_self, eq_self]
    exact ⟨trivial, trivial⟩
  · refine ev_aload_n rfl hC d_Mod_needed_10 ?_
    refine ev_ldc kc_Mod_63 hC d_Mod_needed_11 ?_
    refine cv_Mod1 hC d_Mod_needed_13 (c_Mod_finding (k := 0) (by omega) (by decide +kernel)) mi_Mod_finding ml_Mod_82 im_Mod_finding se_Mod_finding rfl ⟨Nat.le_of_ble_eq_true rfl, Nat.le_of_ble_eq_true rfl⟩ ⟨Nat.le_of_ble_eq_true rfl, Nat.le_of_ble_eq_true rfl⟩ rfl rfl (Nat.le_of_ble_eq_true rfl)  ?_
    exact ev_iret hC hR d_Mod_needed_16 rfl (by simp only [R_needed, rbad, h_7, if_true, if_false, cond_true, cond_false, decide_true, decide_false, Bool.not_true, Bool.not_false, Bool.or_true, Bool.true_or, Bool.or_false, Bool.false_or, Bool.and_true, Bool.and_false, Bool.true_and, Bool.false_and, Bool.or_self, Bool.and_self, eq_self] <;> first | rfl | (rfl)) (by simp only [R_needed, rbad, h_7, if_true, if_false, cond_true, cond_false, decide_true, decide_false, Bool.not_true, Bool.not_false, Bool.or_true, Bool.true_or, Bool.or_false, Bool.false_or, Bool.and_true, Bool.and_false, Bool.true_and, Bool.false_and, Bool.or_self, Bool.and_self, eq_self] <;> first | rfl | (rfl))
