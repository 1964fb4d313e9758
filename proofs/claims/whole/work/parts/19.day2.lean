theorem ex_ll_take : ∀ (L : List (Option Value)) (n k : Nat) (q : Nat × Value), q ∈ ex_ll k (L.take n) → q ∈ ex_ll k L
  | [], n, k, q, h => by simpa using h
  | a :: t, 0, k, q, h => by simp [ex_ll] at h
  | none :: t, n + 1, k, q, h => by
    simp only [List.take_succ_cons, ex_ll] at h ⊢
    exact ex_ll_take t n (k + 1) q h
  | some v :: t, n + 1, k, q, h => by
    simp only [List.take_succ_cons, ex_ll, List.mem_cons] at h ⊢
    exact h.imp id (ex_ll_take t n (k + 1) q)
/-- a local that is no longer read is forgotten -/
theorem Ev.take {G : ex_G} {C : ex_C} {Y : ex_Y} {pc cl sl : Nat} {L : List (Option Value)} {S : List Value} {es : List va_E} (n : Nat) (h : Ev G C Y pc (L.take n) S cl sl es) : Ev G C Y pc L S cl sl es := by
  obtain ⟨p, e, R, s, m, args, below, meth, c, Q⟩ := C
  exact fun H locs ls hl hw hS => h H locs ls (ex_has_sub hl (ex_ll_take L n 0)) hw hS
theorem fa_and (a b : Nat) : nI a &&& nI b = nI (a &&& b) := by
  apply Int32.toBitVec_inj.1
  show BitVec.ofNat 32 a &&& BitVec.ofNat 32 b = BitVec.ofNat 32 (a &&& b)
  apply BitVec.eq_of_getLsbD_eq
  intro i hi
  simp [hi]
theorem fa_or (a b : Nat) : nI a ||| nI b = nI (a ||| b) := by
  apply Int32.toBitVec_inj.1
  show BitVec.ofNat 32 a ||| BitVec.ofNat 32 b = BitVec.ofNat 32 (a ||| b)
  apply BitVec.eq_of_getLsbD_eq
  intro i hi
  simp [hi]
theorem fb_xorI (a b : Nat) : nI a ^^^ nI b = nI (a ^^^ b) := by
  apply Int32.toBitVec_inj.1
  show BitVec.ofNat 32 a ^^^ BitVec.ofNat 32 b = BitVec.ofNat 32 (a ^^^ b)
  apply BitVec.eq_of_getLsbD_eq
  intro i hi
  simp [hi]
def frs (a b : Nat) : Nat := a &&& (b ^^^ 4294967295)
theorem frs_lt {a b : Nat} (h : a < 256) : frs a b < 256 := Nat.lt_of_le_of_lt Nat.and_le_left h
theorem frs_eq (a b : Nat) : nI a &&& (nI b ^^^ (-1)) = nI (frs a b) := by rw [show (-1 : Int32) = nI 4294967295 from rfl, fb_xorI, fa_and]; rfl
def setN (p : Nat → Bool) : Nat → Nat → Nat → Nat
  | 0, _, s => s
  | m + 1, i, s => setN p m (i + 1) (if p i then s ||| 2 ^ i else s)
theorem one_shl : ∀ i, i < 8 → (1 : Int32) <<< (nI i &&& 31) = nI (2 ^ i) := by decide +kernel
theorem setF_N {p : Nat → Bool} : ∀ m i s, i + m ≤ 8 → setF p m i (nI s) = nI (setN p m i s)
  | 0, _, _, _ => rfl
  | m + 1, i, s, h => by
    rw [setF, setN]
    by_cases hp : p i = true
    · rw [if_pos hp, if_pos hp, one_shl i (by omega), fa_or, setF_N m (i + 1) _ (by omega)]
    · rw [if_neg hp, if_neg hp, setF_N m (i + 1) _ (by omega)]
theorem setN_lt {p : Nat → Bool} : ∀ m i s, s < 2 ^ i → setN p m i s < 2 ^ (i + m)
  | 0, _, _, h => h
  | m + 1, i, s, h => by
    rw [setN, show i + (m + 1) = i + 1 + m by omega]
    apply setN_lt
    have h2 : (2 : Nat) ^ i < 2 ^ (i + 1) := Nat.pow_lt_pow_right (by omega) (by omega)
    split
    · exact Nat.or_lt_two_pow (Nat.lt_trans h h2) h2
    · exact Nat.lt_trans h h2
theorem setF_256 {p : Nat → Bool} {n : Nat} (hn : n ≤ 8) : setF p n 0 0 = nI (setN p n 0 0) ∧ setN p n 0 0 < 256 := by
  refine ⟨setF_N n 0 0 (by omega), Nat.lt_of_lt_of_le (setN_lt n 0 0 (by omega)) ?_⟩
  exact Nat.pow_le_pow_right (by omega) (show 0 + n ≤ 8 by omega)
/-! the trial -/
theorem fCpO_lo {q : Nat → Int32} {i k : Nat} {b : Nat → Int32} (h : k < 28) : fCpO q i b k = b k := oCpy_lo h
theorem fCpE_lo {q : Nat → Int32} {i k : Nat} {b : Nat → Int32} (h : k < 4) : fCpE q i b k = b k := eCpy_lo h
theorem becR_lo {a q : Nat → Int32} {np ne k : Nat} (h : k < 4) : becR a q np ne k = q k := by
  unfold becR
  rw [rp_keep (fun i b => fCpE_lo h), rp_keep (fun i b => fCpO_lo (by omega))]
  rcases (by omega : k = 0 ∨ k = 1 ∨ k = 2 ∨ k = 3) with e | e | e | e <;> subst e <;> simp [upd]
def tr0 (M : ex_M) (np ne : Nat) : ex_M := mI M 1 (becR (M.1 1) (M.1 0) np ne)
def tro (M : ex_M) (np ne : Nat) : Nat → Int32 := becR (M.1 1) (M.1 0) np ne
/-- hours go until something stops them: when, and the row then -/
def srch (stop : (Nat → Int32) → Bool) (np ne : Nat) : Nat → Nat → (Nat → Int32) → Option Nat × (Nat → Int32)
  | 0, _, b => (none, b)
  | m + 1, k, b => bif stop b then (some k, b) else srch stop np ne m (k + 1) (hourC np ne b)
def finS (M : ex_M) (z : Option Nat × (Nat → Int32)) : Int32 × ex_M := match z.1 with
  | some k => (nI k, mI M 1 z.2)
  | none => bad (mI M 1 z.2) 3
theorem finS_mI (M : ex_M) (b : Nat → Int32) (z : Option Nat × (Nat → Int32)) : finS (mI M 1 b) z = finS M z := by
  unfold finS
  cases z.1 <;> simp only [bad, mI, mJ, wr_wr]
def D_hours (M : ex_M) (np ne : Nat) (n : Int32) : Int32 × ex_M := bif out n 1 72 then bad M 0 else if M.1 0 0 + n ≤ 9999 then (sumF (hoursC np ne (ix n) (M.1 0)) 2 np 0 0, mI M 0 (hoursC np ne (ix n) (M.1 0))) else bad M 4
def metS (a : Nat → Int32) (ne : Nat) : Int32 := setF (fun i => !decide (a (4 + 3 * i + 2) = 0)) ne 0 0
def lftS (a : Nat → Int32) (np : Nat) : Int32 := setF (fun i => decide (a (28 + 7 * i + 1) = 1)) np 0 0
def D_now (M : ex_M) (np ne : Nat) (w : Int32) : Int32 × ex_M := if w = 0 then (M.1 0 0, M) else if w = 1 then (M.1 0 0 - M.1 0 0 / 24 * 24, M) else if w = 2 then (sumF (M.1 0) 2 np 0 0, M) else if w = 3 then (sumF (M.1 0) 5 np 0 0, M) else if w = 4 then (lftS (M.1 0) np, M) else if w = 5 then (metS (M.1 0) ne, M) else bad M 0
def fld (w : Int32) : Nat := if w = 0 then 2 else if w = 1 then 1 else if w = 2 then 5 else 6
def D_on (M : ex_M) (np ne : Nat) (p n w : Int32) : Int32 × ex_M := bif out p 0 (M.1 0 3 - 1) || (out n 0 72 || out w 0 3) then bad M 0 else (hoursC np ne (ix n) (tro M np ne) (28 + 7 * ix p + fld w), mI M 1 (hoursC np ne (ix n) (tro M np ne)))
def D_learns (M : ex_M) (np ne : Nat) (p e : Int32) : Int32 × ex_M := bif out p 0 (M.1 0 3 - 1) || out e 0 (M.1 0 2 - 1) then bad M 0 else finS M (srch (fun b => hb (b (28 + 7 * ix p + 6)) e) np ne 73 0 (tro M np ne))
def D_broke (M : ex_M) (np ne : Nat) (p : Int32) : Int32 × ex_M := bif out p 0 (M.1 0 3 - 1) then bad M 0 else finS M (srch (fun b => !pays b (ix p)) np ne 73 0 (tro M np ne))
def finF (M : ex_M) (np : Nat) (e : Int32) (z : Option Nat × (Nat → Int32)) : Int32 × ex_M := match z.1 with
  | some _ => (nI (ntz (ix (whoK z.2 np e))), mI M 1 z.2)
  | none => bad (mI M 1 z.2) 3
theorem finF_mI (M : ex_M) (np : Nat) (e : Int32) (b : Nat → Int32) (z : Option Nat × (Nat → Int32)) : finF (mI M 1 b) np e z = finF M np e z := by
  unfold finF
  cases z.1 <;> simp only [bad, mI, mJ, wr_wr]
def D_first (M : ex_M) (np ne : Nat) (e : Int32) : Int32 × ex_M := bif out e 0 (M.1 0 2 - 1) then bad M 0 else finF M np e (srch (fun b => !decide (whoK b np e = 0)) np ne 73 0 (tro M np ne))
def D_met (M : ex_M) (np ne : Nat) (n : Int32) : Int32 × ex_M := bif out n 0 72 then bad M 0 else (metS (hoursC np ne (ix n) (tro M np ne)) ne, mI M 1 (hoursC np ne (ix n) (tro M np ne)))
theorem out_1 {v : Int32} {n : Nat} (hn : n < 2 ^ 31) (h : out v 1 (nI n) = false) : ∃ i, i ≤ n ∧ v = nI i := by
  obtain ⟨h1, h2⟩ := out_rg h
  have h3 : ¬ v < 0 := by
    intro h0
    rw [Int32.lt_iff_toInt_lt] at h0
    rw [Int32.le_iff_toInt_le] at h1
    have : (1 : Int32).toInt = 1 := rfl
    have : (0 : Int32).toInt = 0 := rfl
    omega
  obtain ⟨j, hj, rfl⟩ := nI_of h3
  exact ⟨j, (nI_leI hj hn).mp h2, rfl⟩

set_option maxHeartbeats 2000000 in
set_option maxRecDepth 10000 in
theorem c_Day_tells {G : ex_G} {M : ex_M} {np ne : Nat} {p q : Int32} (w : WF (M.1 0) np ne) : Con G Y_Day_tells 2 43 0 0 [.ref (ex_b G + 0), .int p, .int q] (ce G M) (some (.int (D_tells M p q).1)) (ce G ((D_tells M p q).2)) := by
  refine Con.ofF (plainFor_of_name (by decide +kernel)) (Nat.le_of_ble_eq_true rfl) (fun C hC hR => ?_)
  show Ev G C Y_Day_tells 0 [some (.ref (ex_b G + 0)), some (.int p), some (.int q)] [] 0 0 (ce G M)
  obtain ⟨hc, hn, hc2, hn2, hmet, hkd, hkn⟩ := w
  refine ev_aload_n rfl hC d_Day_tells_0 ?_
  refine ev_iload_n rfl hC d_Day_tells_1 ?_
  refine cv_Day1 hC d_Day_tells_2 (c_Day_noOne ) mi_Day_noOne ml_Day_108 im_Day_noOne se_Day_noOne rfl ⟨Nat.le_of_ble_eq_true rfl, Nat.le_of_ble_eq_true rfl⟩ ⟨Nat.le_of_ble_eq_true rfl, Nat.le_of_ble_eq_true rfl⟩ rfl rfl (Nat.le_of_ble_eq_true rfl)  ?_
  refine eb_ne 21 hC d_Day_tells_5 rfl (fun h_5 => ?_) (fun h_5 => ?_)
  · refine ev_aload_n rfl hC d_Day_tells_21 ?_
    refine ev_ldc kc_Day_55 hC d_Day_tells_22 ?_
    refine cv_Day1 hC d_Day_tells_24 (c_Day_refuse (k := 0) (by omega) (by decide +kernel)) mi_Day_refuse ml_Day_56 im_Day_refuse se_Day_refuse rfl ⟨Nat.le_of_ble_eq_true rfl, Nat.le_of_ble_eq_true rfl⟩ ⟨Nat.le_of_ble_eq_true rfl, Nat.le_of_ble_eq_true rfl⟩ rfl rfl (Nat.le_of_ble_eq_true rfl)  ?_
    exact ev_iret hC hR d_Day_tells_27 rfl (by simp only [D_tells, bad, h_5, if_true, if_false, cond_true, cond_false, decide_true, decide_false, Bool.not_true, Bool.not_false, Bool.or_true, Bool.true_or, Bool.or_false, Bool.false_or, Bool.and_true, Bool.and_false, Bool.true_and, Bool.false_and, Bool.or_self, Bool.and_self, eq_self] <;> first | rfl | (rfl)) (by simp only [D_tells, bad, h_5, if_true, if_false, cond_true, cond_false, decide_true, decide_false, Bool.not_true, Bool.not_false, Bool.or_true, Bool.true_or, Bool.or_false, Bool.false_or, Bool.and_true, Bool.and_false, Bool.true_and, Bool.false_and, Bool.or_self, Bool.and_self, eq_self] <;> first | rfl | (rfl))
  · refine ev_aload_n rfl hC d_Day_tells_8 ?_
    refine ev_iload_n rfl hC d_Day_tells_9 ?_
    refine cv_Day1 hC d_Day_tells_10 (c_Day_noOne ) mi_Day_noOne ml_Day_108 im_Day_noOne se_Day_noOne rfl ⟨Nat.le_of_ble_eq_true rfl, Nat.le_of_ble_eq_true rfl⟩ ⟨Nat.le_of_ble_eq_true rfl, Nat.le_of_ble_eq_true rfl⟩ rfl rfl (Nat.le_of_ble_eq_true rfl)  ?_
    refine eb_ne 21 hC d_Day_tells_13 rfl (fun h_13 => ?_) (fun h_13 => ?_)
    · refine ev_aload_n rfl hC d_Day_tells_21 ?_
      refine ev_ldc kc_Day_55 hC d_Day_tells_22 ?_
      refine cv_Day1 hC d_Day_tells_24 (c_Day_refuse (k := 0) (by omega) (by decide +kernel)) mi_Day_refuse ml_Day_56 im_Day_refuse se_Day_refuse rfl ⟨Nat.le_of_ble_eq_true rfl, Nat.le_of_ble_eq_true rfl⟩ ⟨Nat.le_of_ble_eq_true rfl, Nat.le_of_ble_eq_true rfl⟩ rfl rfl (Nat.le_of_ble_eq_true rfl)  ?_
      exact ev_iret hC hR d_Day_tells_27 rfl (by simp only [D_tells, bad, h_5, h_13, if_true, if_false, cond_true, cond_false, decide_true, decide_false, Bool.not_true, Bool.not_false, Bool.or_true, Bool.true_or, Bool.or_false, Bool.false_or, Bool.and_true, Bool.and_false, Bool.true_and, Bool.false_and, Bool.or_self, Bool.and_self, eq_self] <;> first | rfl | (rfl)) (by simp only [D_tells, bad, h_5, h_13, if_true, if_false, cond_true, cond_false, decide_true, decide_false, Bool.not_true, Bool.not_false, Bool.or_true, Bool.true_or, Bool.or_false, Bool.false_or, Bool.and_true, Bool.and_false, Bool.true_and, Bool.false_and, Bool.or_self, Bool.and_self, eq_self] <;> first | rfl | (rfl))
    · refine ev_iload_n rfl hC d_Day_tells_16 ?_
      refine ev_iload_n rfl hC d_Day_tells_17 ?_
      refine ev_icmp_ne 28 hC d_Day_tells_18 rfl (fun h_18 => ?_) (fun h_18 => ?_)
      · obtain ⟨i, hi, rfl⟩ := out_ix hc hn h_5
        have ci : (nI i).toNatClampNeg = i := nI_clamp (by omega)
        obtain ⟨j, hj, rfl⟩ := out_ix hc hn h_13
        have cj : (nI j).toNatClampNeg = j := nI_clamp (by omega)
        obtain ⟨ka, hka, ea⟩ := hkn i hi
        obtain ⟨kb, hkb, eb⟩ := hkn j hj
        refine ev_aload_n rfl hC d_Day_tells_28 ?_
        refine gv_Day_present hC d_Day_tells_29 fl_Day_12  ?_
        refine gn_River_people hC d_Day_tells_32 fl_Day_111 (by first | assumption | decide) ?_
        refine ev_iload_n rfl hC d_Day_tells_35 ?_
        refine gr_people hC d_Day_tells_36 (by first | assumption | decide) (by first | assumption | omega) ?_
        refine ev_astore_n (by decide) hC d_Day_tells_37 ?_
        refine ev_aload_n rfl hC d_Day_tells_38 ?_
        refine gv_Day_present hC d_Day_tells_39 fl_Day_12  ?_
        refine gn_River_people hC d_Day_tells_42 fl_Day_111 (by first | assumption | decide) ?_
        refine ev_iload_n rfl hC d_Day_tells_45 ?_
        refine gr_people hC d_Day_tells_46 (by first | assumption | decide) (by first | assumption | omega) ?_
        refine ev_astore (by decide) hC d_Day_tells_47 ?_
        refine ev_aload_n rfl hC d_Day_tells_49 ?_
        refine gn_One_bank hC d_Day_tells_50 fl_Day_120 (by first | assumption | decide) (by first | assumption | omega) ?_
        refine ev_aload rfl hC d_Day_tells_53 ?_
        refine gn_One_bank hC d_Day_tells_55 fl_Day_120 (by first | assumption | decide) (by first | assumption | omega) ?_
        refine ev_icmp_eq 68 hC d_Day_tells_58 rfl (fun h_58 => ?_) (fun h_58 => ?_)
        · refine ev_aload_n rfl hC d_Day_tells_68 ?_
          refine gn_One_knows hC d_Day_tells_69 fl_Day_135 (by first | assumption | decide) (by first | assumption | omega) ?_
          refine ev_aload rfl hC d_Day_tells_72 ?_
          refine gn_One_knows hC d_Day_tells_74 fl_Day_135 (by first | assumption | decide) (by first | assumption | omega) ?_
          refine ev_iconst (v := -1) rfl hC d_Day_tells_77 ?_
          refine ev_ixor hC d_Day_tells_78 ?_
          refine ev_iand hC d_Day_tells_79 ?_
          refine ev_istore (by decide) hC d_Day_tells_80 ?_
          refine ev_aload rfl hC d_Day_tells_82 ?_
          refine ev_dup rfl hC d_Day_tells_84 ?_
          refine gn_One_knows hC d_Day_tells_85 fl_Day_135 (by first | assumption | decide) (by first | assumption | omega) ?_
          refine ev_iload rfl hC d_Day_tells_88 ?_
          refine ev_ior hC d_Day_tells_90 ?_
          refine pn_One_knows hC d_Day_tells_91 fl_Day_135 (by first | assumption | decide) (by first | assumption | omega) ?_
          refine ev_iload rfl hC d_Day_tells_94 ?_
          rw [ea, eb, frs_eq]
          refine cs_1 hC d_Day_tells_96 (c_Int_bitCount (frs_lt hka)) mi_Int_bitCount ml_Day_160 sm_Int_bitCount ⟨Nat.le_of_ble_eq_true rfl, Nat.le_of_ble_eq_true rfl⟩ ⟨Nat.le_of_ble_eq_true rfl, Nat.le_of_ble_eq_true rfl⟩ rfl rfl (Nat.le_of_ble_eq_true rfl) ?_
          exact ev_iret hC hR d_Day_tells_99 rfl (by simp only [D_tells, bad, h_5, h_13, h_18, h_58, ix, ci, cj, ea, eb, frs_eq, if_true, if_false, cond_true, cond_false, decide_true, decide_false, Bool.not_true, Bool.not_false, Bool.or_true, Bool.true_or, Bool.or_false, Bool.false_or, Bool.and_true, Bool.and_false, Bool.true_and, Bool.false_and, Bool.or_self, Bool.and_self, eq_self] <;> (first | rfl | (rw [nI_clamp (by have := frs_lt (b := kb) hka; omega)]))) (by simp only [D_tells, bad, h_5, h_13, h_18, h_58, ix, ci, cj, ea, eb, frs_eq, if_true, if_false, cond_true, cond_false, decide_true, decide_false, Bool.not_true, Bool.not_false, Bool.or_true, Bool.true_or, Bool.or_false, Bool.false_or, Bool.and_true, Bool.and_false, Bool.true_and, Bool.false_and, Bool.or_self, Bool.and_self, eq_self] <;> (first | rfl | (rw [nI_clamp (by have := frs_lt (b := kb) hka; omega)])))
        · refine ev_aload_n rfl hC d_Day_tells_61 ?_
          refine ev_ldc kc_Day_155 hC d_Day_tells_62 ?_
          refine cv_Day1 hC d_Day_tells_64 (c_Day_refuse (k := 4) (by omega) (by decide +kernel)) mi_Day_refuse ml_Day_56 im_Day_refuse se_Day_refuse rfl ⟨Nat.le_of_ble_eq_true rfl, Nat.le_of_ble_eq_true rfl⟩ ⟨Nat.le_of_ble_eq_true rfl, Nat.le_of_ble_eq_true rfl⟩ rfl rfl (Nat.le_of_ble_eq_true rfl)  ?_
          exact ev_iret hC hR d_Day_tells_67 rfl (by simp only [D_tells, bad, h_5, h_13, h_18, h_58, ix, ci, cj, if_true, if_false, cond_true, cond_false, decide_true, decide_false, Bool.not_true, Bool.not_false, Bool.or_true, Bool.true_or, Bool.or_false, Bool.false_or, Bool.and_true, Bool.and_false, Bool.true_and, Bool.false_and, Bool.or_self, Bool.and_self, eq_self] <;> rfl) (by simp only [D_tells, bad, h_5, h_13, h_18, h_58, ix, ci, cj, if_true, if_false, cond_true, cond_false, decide_true, decide_false, Bool.not_true, Bool.not_false, Bool.or_true, Bool.true_or, Bool.or_false, Bool.false_or, Bool.and_true, Bool.and_false, Bool.true_and, Bool.false_and, Bool.or_self, Bool.and_self, eq_self] <;> rfl)
      · refine ev_aload_n rfl hC d_Day_tells_21 ?_
        refine ev_ldc kc_Day_55 hC d_Day_tells_22 ?_
        refine cv_Day1 hC d_Day_tells_24 (c_Day_refuse (k := 0) (by omega) (by decide +kernel)) mi_Day_refuse ml_Day_56 im_Day_refuse se_Day_refuse rfl ⟨Nat.le_of_ble_eq_true rfl, Nat.le_of_ble_eq_true rfl⟩ ⟨Nat.le_of_ble_eq_true rfl, Nat.le_of_ble_eq_true rfl⟩ rfl rfl (Nat.le_of_ble_eq_true rfl)  ?_
        exact ev_iret hC hR d_Day_tells_27 rfl (by simp only [D_tells, bad, h_5, h_13, h_18, if_true, if_false, cond_true, cond_false, decide_true, decide_false, Bool.not_true, Bool.not_false, Bool.or_true, Bool.true_or, Bool.or_false, Bool.false_or, Bool.and_true, Bool.and_false, Bool.true_and, Bool.false_and, Bool.or_self, Bool.and_self, eq_self] <;> first | rfl | (rfl)) (by simp only [D_tells, bad, h_5, h_13, h_18, if_true, if_false, cond_true, cond_false, decide_true, decide_false, Bool.not_true, Bool.not_false, Bool.or_true, Bool.true_or, Bool.or_false, Bool.false_or, Bool.and_true, Bool.and_false, Bool.true_and, Bool.false_and, Bool.or_self, Bool.and_self, eq_self] <;> first | rfl | (rfl))

set_option maxHeartbeats 2000000 in
set_option maxRecDepth 10000 in
theorem c_Day_hours {G : ex_G} {M : ex_M} {np ne : Nat} {n : Int32} (w : WF (M.1 0) np ne) : Con G Y_Day_hours 5 115 0 0 [.ref (ex_b G + 0), .int n] (ce G M) (some (.int (D_hours M np ne n).1)) (ce G ((D_hours M np ne n).2)) := by
  refine Con.ofF (plainFor_of_name (by decide +kernel)) (Nat.le_of_ble_eq_true rfl) (fun C hC hR => ?_)
  show Ev G C Y_Day_hours 0 [some (.ref (ex_b G + 0)), some (.int n)] [] 0 0 (ce G M)
  obtain ⟨hc, hn, hc2, hn2, hmet, hkd, hkn⟩ := w
  refine ev_iload_n rfl hC d_Day_hours_0 ?_
  refine ev_iconst (v := 1) rfl hC d_Day_hours_1 ?_
  refine ev_bipush (v := 72) rfl hC d_Day_hours_2 ?_
  refine cs_1 hC d_Day_hours_4 (c_Day_outside ) mi_Day_outside ml_Day_51 sm_Day_outside ⟨Nat.le_of_ble_eq_true rfl, Nat.le_of_ble_eq_true rfl⟩ ⟨Nat.le_of_ble_eq_true rfl, Nat.le_of_ble_eq_true rfl⟩ rfl rfl (Nat.le_of_ble_eq_true rfl) ?_
  refine eb_eq 17 hC d_Day_hours_7 rfl (fun h_7 => ?_) (fun h_7 => ?_)
  · refine ev_aload_n rfl hC d_Day_hours_17 ?_
    refine gv_Day_present hC d_Day_hours_18 fl_Day_12  ?_
    refine gn_River_hour hC d_Day_hours_21 fl_Day_95 (by first | assumption | decide) ?_
    refine ev_iload_n rfl hC d_Day_hours_24 ?_
    refine ev_iadd hC d_Day_hours_25 ?_
    refine ev_sipush (v := 9999) rfl hC d_Day_hours_26 ?_
    refine ev_icmp_le 39 hC d_Day_hours_29 rfl (fun h_29 => ?_) (fun h_29 => ?_)
    · obtain ⟨n1, hn1, rfl⟩ := out_1 (n := 72) (by decide) h_7
      have cn : (nI n1).toNatClampNeg = n1 := nI_clamp (by omega)
      refine ev_aload_n rfl hC d_Day_hours_39 ?_
      refine gv_Day_present hC d_Day_hours_40 fl_Day_12  ?_
      refine ev_iload_n rfl hC d_Day_hours_43 ?_
      refine cv_River0 hC d_Day_hours_44 (c_River_passHours hn hn2 (by decide) (by omega) hc hc2) mi_River_passHours ml_Day_165 im_River_passHours se_River_passHours rfl ⟨Nat.le_of_ble_eq_true rfl, Nat.le_of_ble_eq_true rfl⟩ ⟨Nat.le_of_ble_eq_true rfl, Nat.le_of_ble_eq_true rfl⟩ rfl rfl (Nat.le_of_ble_eq_true rfl) (by first | assumption | decide) ?_
      refine ev_aload_n rfl hC d_Day_hours_47 ?_
      refine gv_Day_present hC d_Day_hours_48 fl_Day_12  ?_
      refine cv_River1 hC d_Day_hours_51 (c_River_allPurses hn (by decide) (by simp only [mI, wr_s]; rw [hoursC_cnt hn2 (by omega) (by omega)]; exact hc)) mi_River_allPurses ml_Day_168 im_River_allPurses se_River_allPurses rfl ⟨Nat.le_of_ble_eq_true rfl, Nat.le_of_ble_eq_true rfl⟩ ⟨Nat.le_of_ble_eq_true rfl, Nat.le_of_ble_eq_true rfl⟩ rfl rfl (Nat.le_of_ble_eq_true rfl) (by first | assumption | decide) ?_
      exact ev_iret hC hR d_Day_hours_54 rfl (by simp only [D_hours, bad, h_7, h_29, ix, cn, if_true, if_false, cond_true, cond_false, decide_true, decide_false, Bool.not_true, Bool.not_false, Bool.or_true, Bool.true_or, Bool.or_false, Bool.false_or, Bool.and_true, Bool.and_false, Bool.true_and, Bool.false_and, Bool.or_self, Bool.and_self, eq_self] <;> first | rfl | (simp only [mI, wr_s])) (by simp only [D_hours, bad, h_7, h_29, ix, cn, if_true, if_false, cond_true, cond_false, decide_true, decide_false, Bool.not_true, Bool.not_false, Bool.or_true, Bool.true_or, Bool.or_false, Bool.false_or, Bool.and_true, Bool.and_false, Bool.true_and, Bool.false_and, Bool.or_self, Bool.and_self, eq_self] <;> first | rfl | (simp only [mI, wr_s]))
    · refine ev_aload_n rfl hC d_Day_hours_32 ?_
      refine ev_ldc kc_Day_155 hC d_Day_hours_33 ?_
      refine cv_Day1 hC d_Day_hours_35 (c_Day_refuse (k := 4) (by omega) (by decide +kernel)) mi_Day_refuse ml_Day_56 im_Day_refuse se_Day_refuse rfl ⟨Nat.le_of_ble_eq_true rfl, Nat.le_of_ble_eq_true rfl⟩ ⟨Nat.le_of_ble_eq_true rfl, Nat.le_of_ble_eq_true rfl⟩ rfl rfl (Nat.le_of_ble_eq_true rfl)  ?_
      exact ev_iret hC hR d_Day_hours_38 rfl (by simp only [D_hours, bad, h_7, h_29, if_true, if_false, cond_true, cond_false, decide_true, decide_false, Bool.not_true, Bool.not_false, Bool.or_true, Bool.true_or, Bool.or_false, Bool.false_or, Bool.and_true, Bool.and_false, Bool.true_and, Bool.false_and, Bool.or_self, Bool.and_self, eq_self] <;> first | rfl | (simp only [mI, wr_s])) (by simp only [D_hours, bad, h_7, h_29, if_true, if_false, cond_true, cond_false, decide_true, decide_false, Bool.not_true, Bool.not_false, Bool.or_true, Bool.true_or, Bool.or_false, Bool.false_or, Bool.and_true, Bool.and_false, Bool.true_and, Bool.false_and, Bool.or_self, Bool.and_self, eq_self] <;> first | rfl | (simp only [mI, wr_s]))
  · refine ev_aload_n rfl hC d_Day_hours_10 ?_
    refine ev_ldc kc_Day_55 hC d_Day_hours_11 ?_
    refine cv_Day1 hC d_Day_hours_13 (c_Day_refuse (k := 0) (by omega) (by decide +kernel)) mi_Day_refuse ml_Day_56 im_Day_refuse se_Day_refuse rfl ⟨Nat.le_of_ble_eq_true rfl, Nat.le_of_ble_eq_true rfl⟩ ⟨Nat.le_of_ble_eq_true rfl, Nat.le_of_ble_eq_true rfl⟩ rfl rfl (Nat.le_of_ble_eq_true rfl)  ?_
    exact ev_iret hC hR d_Day_hours_16 rfl (by simp only [D_hours, bad, h_7, if_true, if_false, cond_true, cond_false, decide_true, decide_false, Bool.not_true, Bool.not_false, Bool.or_true, Bool.true_or, Bool.or_false, Bool.false_or, Bool.and_true, Bool.and_false, Bool.true_and, Bool.false_and, Bool.or_self, Bool.and_self, eq_self] <;> first | rfl | (simp only [mI, wr_s])) (by simp only [D_hours, bad, h_7, if_true, if_false, cond_true, cond_false, decide_true, decide_false, Bool.not_true, Bool.not_false, Bool.or_true, Bool.true_or, Bool.or_false, Bool.false_or, Bool.and_true, Bool.and_false, Bool.true_and, Bool.false_and, Bool.or_self, Bool.and_self, eq_self] <;> first | rfl | (simp only [mI, wr_s]))

set_option maxHeartbeats 2000000 in
set_option maxRecDepth 10000 in
theorem c_Day_now {G : ex_G} {M : ex_M} {np ne : Nat} {w0 : Int32} (w : WF (M.1 0) np ne) : Con G Y_Day_now 1 22 0 0 [.ref (ex_b G + 0), .int w0] (ce G M) (some (.int (D_now M np ne w0).1)) (ce G ((D_now M np ne w0).2)) := by
  refine Con.ofF (plainFor_of_name (by decide +kernel)) (Nat.le_of_ble_eq_true rfl) (fun C hC hR => ?_)
  show Ev G C Y_Day_now 0 [some (.ref (ex_b G + 0)), some (.int w0)] [] 0 0 (ce G M)
  obtain ⟨hc, hn, hc2, hn2, hmet, hkd, hkn⟩ := w
  refine ev_iload_n rfl hC d_Day_now_0 ?_
  refine sx_Day_now_1 hC (fun h_1 => ?_) (fun h_1 => ?_) (fun h_1 => ?_) (fun h_1 => ?_) (fun h_1 => ?_) (fun h_1 => ?_) (fun h_1 => ?_)
  · refine ev_aload_n rfl hC d_Day_now_91 ?_
    refine ev_ldc kc_Day_55 hC d_Day_now_92 ?_
    refine cv_Day1 hC d_Day_now_94 (c_Day_refuse (k := 0) (by omega) (by decide +kernel)) mi_Day_refuse ml_Day_56 im_Day_refuse se_Day_refuse rfl ⟨Nat.le_of_ble_eq_true rfl, Nat.le_of_ble_eq_true rfl⟩ ⟨Nat.le_of_ble_eq_true rfl, Nat.le_of_ble_eq_true rfl⟩ rfl rfl (Nat.le_of_ble_eq_true rfl)  ?_
    exact ev_iret hC hR d_Day_now_97 rfl (by have e0 := sw_ne h_1 0 (by decide) (by decide); have e1 := sw_ne h_1 1 (by decide) (by decide); have e2 := sw_ne h_1 2 (by decide) (by decide); have e3 := sw_ne h_1 3 (by decide) (by decide); have e4 := sw_ne h_1 4 (by decide) (by decide); have e5 := sw_ne h_1 5 (by decide) (by decide); simp only [D_now, bad, lftS, metS, e0, e1, e2, e3, e4, e5, if_true, if_false, cond_true, cond_false, decide_true, decide_false, Bool.not_true, Bool.not_false, Bool.or_true, Bool.true_or, Bool.or_false, Bool.false_or, Bool.and_true, Bool.and_false, Bool.true_and, Bool.false_and, Bool.or_self, Bool.and_self, eq_self] <;> first | rfl | (rfl)) (by have e0 := sw_ne h_1 0 (by decide) (by decide); have e1 := sw_ne h_1 1 (by decide) (by decide); have e2 := sw_ne h_1 2 (by decide) (by decide); have e3 := sw_ne h_1 3 (by decide) (by decide); have e4 := sw_ne h_1 4 (by decide) (by decide); have e5 := sw_ne h_1 5 (by decide) (by decide); simp only [D_now, bad, lftS, metS, e0, e1, e2, e3, e4, e5, if_true, if_false, cond_true, cond_false, decide_true, decide_false, Bool.not_true, Bool.not_false, Bool.or_true, Bool.true_or, Bool.or_false, Bool.false_or, Bool.and_true, Bool.and_false, Bool.true_and, Bool.false_and, Bool.or_self, Bool.and_self, eq_self] <;> first | rfl | (rfl))
  · refine ev_aload_n rfl hC d_Day_now_40 ?_
    refine gv_Day_present hC d_Day_now_41 fl_Day_12  ?_
    refine gn_River_hour hC d_Day_now_44 fl_Day_95 (by first | assumption | decide) ?_
    exact ev_iret hC hR d_Day_now_47 rfl (by subst h_1; simp only [D_now, bad, lftS, metS, if_true, if_false, cond_true, cond_false, decide_true, decide_false, Bool.not_true, Bool.not_false, Bool.or_true, Bool.true_or, Bool.or_false, Bool.false_or, Bool.and_true, Bool.and_false, Bool.true_and, Bool.false_and, Bool.or_self, Bool.and_self, eq_self] <;> first | rfl | (rfl)) (by subst h_1; simp only [D_now, bad, lftS, metS, if_true, if_false, cond_true, cond_false, decide_true, decide_false, Bool.not_true, Bool.not_false, Bool.or_true, Bool.true_or, Bool.or_false, Bool.false_or, Bool.and_true, Bool.and_false, Bool.true_and, Bool.false_and, Bool.or_self, Bool.and_self, eq_self] <;> first | rfl | (rfl))
  · refine ev_aload_n rfl hC d_Day_now_48 ?_
    refine gv_Day_present hC d_Day_now_49 fl_Day_12  ?_
    refine gn_River_hour hC d_Day_now_52 fl_Day_95 (by first | assumption | decide) ?_
    refine ev_bipush (v := 24) rfl hC d_Day_now_55 ?_
    refine ev_irem (by decide) hC d_Day_now_57 ?_
    exact ev_iret hC hR d_Day_now_58 rfl (by subst h_1; simp only [D_now, bad, lftS, metS, if_true, if_false, cond_true, cond_false, decide_true, decide_false, Bool.not_true, Bool.not_false, Bool.or_true, Bool.true_or, Bool.or_false, Bool.false_or, Bool.and_true, Bool.and_false, Bool.true_and, Bool.false_and, Bool.or_self, Bool.and_self, eq_self] <;> first | rfl | (rfl)) (by subst h_1; simp only [D_now, bad, lftS, metS, if_true, if_false, cond_true, cond_false, decide_true, decide_false, Bool.not_true, Bool.not_false, Bool.or_true, Bool.true_or, Bool.or_false, Bool.false_or, Bool.and_true, Bool.and_false, Bool.true_and, Bool.false_and, Bool.or_self, Bool.and_self, eq_self] <;> first | rfl | (rfl))
  · refine ev_aload_n rfl hC d_Day_now_59 ?_
    refine gv_Day_present hC d_Day_now_60 fl_Day_12  ?_
    refine cv_River1 hC d_Day_now_63 (c_River_allPurses hn (by decide) hc) mi_River_allPurses ml_Day_168 im_River_allPurses se_River_allPurses rfl ⟨Nat.le_of_ble_eq_true rfl, Nat.le_of_ble_eq_true rfl⟩ ⟨Nat.le_of_ble_eq_true rfl, Nat.le_of_ble_eq_true rfl⟩ rfl rfl (Nat.le_of_ble_eq_true rfl) (by first | assumption | decide) ?_
    exact ev_iret hC hR d_Day_now_66 rfl (by subst h_1; simp only [D_now, bad, lftS, metS, if_true, if_false, cond_true, cond_false, decide_true, decide_false, Bool.not_true, Bool.not_false, Bool.or_true, Bool.true_or, Bool.or_false, Bool.false_or, Bool.and_true, Bool.and_false, Bool.true_and, Bool.false_and, Bool.or_self, Bool.and_self, eq_self] <;> first | rfl | (rfl)) (by subst h_1; simp only [D_now, bad, lftS, metS, if_true, if_false, cond_true, cond_false, decide_true, decide_false, Bool.not_true, Bool.not_false, Bool.or_true, Bool.true_or, Bool.or_false, Bool.false_or, Bool.and_true, Bool.and_false, Bool.true_and, Bool.false_and, Bool.or_self, Bool.and_self, eq_self] <;> first | rfl | (rfl))
  · refine ev_aload_n rfl hC d_Day_now_67 ?_
    refine gv_Day_present hC d_Day_now_68 fl_Day_12  ?_
    refine cv_River1 hC d_Day_now_71 (c_River_allCrossed hn (by decide) hc) mi_River_allCrossed ml_Day_172 im_River_allCrossed se_River_allCrossed rfl ⟨Nat.le_of_ble_eq_true rfl, Nat.le_of_ble_eq_true rfl⟩ ⟨Nat.le_of_ble_eq_true rfl, Nat.le_of_ble_eq_true rfl⟩ rfl rfl (Nat.le_of_ble_eq_true rfl) (by first | assumption | decide) ?_
    exact ev_iret hC hR d_Day_now_74 rfl (by subst h_1; simp only [D_now, bad, lftS, metS, if_true, if_false, cond_true, cond_false, decide_true, decide_false, Bool.not_true, Bool.not_false, Bool.or_true, Bool.true_or, Bool.or_false, Bool.false_or, Bool.and_true, Bool.and_false, Bool.true_and, Bool.false_and, Bool.or_self, Bool.and_self, eq_self] <;> first | rfl | (rfl)) (by subst h_1; simp only [D_now, bad, lftS, metS, if_true, if_false, cond_true, cond_false, decide_true, decide_false, Bool.not_true, Bool.not_false, Bool.or_true, Bool.true_or, Bool.or_false, Bool.false_or, Bool.and_true, Bool.and_false, Bool.true_and, Bool.false_and, Bool.or_self, Bool.and_self, eq_self] <;> first | rfl | (rfl))
  · refine ev_aload_n rfl hC d_Day_now_75 ?_
    refine gv_Day_present hC d_Day_now_76 fl_Day_12  ?_
    refine cv_River1 hC d_Day_now_79 (c_River_thoseOnLeft hn (by decide) hc) mi_River_thoseOnLeft ml_Day_175 im_River_thoseOnLeft se_River_thoseOnLeft rfl ⟨Nat.le_of_ble_eq_true rfl, Nat.le_of_ble_eq_true rfl⟩ ⟨Nat.le_of_ble_eq_true rfl, Nat.le_of_ble_eq_true rfl⟩ rfl rfl (Nat.le_of_ble_eq_true rfl) (by first | assumption | decide) ?_
    exact ev_iret hC hR d_Day_now_82 rfl (by subst h_1; simp only [D_now, bad, lftS, metS, if_true, if_false, cond_true, cond_false, decide_true, decide_false, Bool.not_true, Bool.not_false, Bool.or_true, Bool.true_or, Bool.or_false, Bool.false_or, Bool.and_true, Bool.and_false, Bool.true_and, Bool.false_and, Bool.or_self, Bool.and_self, eq_self] <;> first | rfl | (rfl)) (by subst h_1; simp only [D_now, bad, lftS, metS, if_true, if_false, cond_true, cond_false, decide_true, decide_false, Bool.not_true, Bool.not_false, Bool.or_true, Bool.true_or, Bool.or_false, Bool.false_or, Bool.and_true, Bool.and_false, Bool.true_and, Bool.false_and, Bool.or_self, Bool.and_self, eq_self] <;> first | rfl | (rfl))
  · refine ev_aload_n rfl hC d_Day_now_83 ?_
    refine gv_Day_present hC d_Day_now_84 fl_Day_12  ?_
    refine cv_River1 hC d_Day_now_87 (c_River_metEvents hn2 (by decide) hc2) mi_River_metEvents ml_Day_178 im_River_metEvents se_River_metEvents rfl ⟨Nat.le_of_ble_eq_true rfl, Nat.le_of_ble_eq_true rfl⟩ ⟨Nat.le_of_ble_eq_true rfl, Nat.le_of_ble_eq_true rfl⟩ rfl rfl (Nat.le_of_ble_eq_true rfl) (by first | assumption | decide) ?_
    exact ev_iret hC hR d_Day_now_90 rfl (by subst h_1; simp only [D_now, bad, lftS, metS, if_true, if_false, cond_true, cond_false, decide_true, decide_false, Bool.not_true, Bool.not_false, Bool.or_true, Bool.true_or, Bool.or_false, Bool.false_or, Bool.and_true, Bool.and_false, Bool.true_and, Bool.false_and, Bool.or_self, Bool.and_self, eq_self] <;> first | rfl | (rfl)) (by subst h_1; simp only [D_now, bad, lftS, metS, if_true, if_false, cond_true, cond_false, decide_true, decide_false, Bool.not_true, Bool.not_false, Bool.or_true, Bool.true_or, Bool.or_false, Bool.false_or, Bool.and_true, Bool.and_false, Bool.true_and, Bool.false_and, Bool.or_self, Bool.and_self, eq_self] <;> first | rfl | (rfl))

set_option maxHeartbeats 2000000 in
set_option maxRecDepth 10000 in
theorem c_Day_startTrial {G : ex_G} {M : ex_M} {np ne : Nat} (w : WF (M.1 0) np ne) : Con G Y_Day_startTrial 2 43 0 0 [.ref (ex_b G + 0)] (ce G M) (none) (ce G (tr0 M np ne)) := by
  refine Con.ofF (plainFor_of_name (by decide +kernel)) (Nat.le_of_ble_eq_true rfl) (fun C hC hR => ?_)
  show Ev G C Y_Day_startTrial 0 [some (.ref (ex_b G + 0))] [] 0 0 (ce G M)
  obtain ⟨hc, hn, hc2, hn2, hmet, hkd, hkn⟩ := w
  refine ev_aload_n rfl hC d_Day_startTrial_0 ?_
  refine gv_Day_trial hC d_Day_startTrial_1 fl_Day_16  ?_
  refine ev_aload_n rfl hC d_Day_startTrial_4 ?_
  refine gv_Day_present hC d_Day_startTrial_5 fl_Day_12  ?_
  refine cv_River0 hC d_Day_startTrial_8 (c_River_become hn hn2 (by decide) (by decide) (by decide) hc hc2 hmet) mi_River_become ml_Day_239 im_River_become se_River_become rfl ⟨Nat.le_of_ble_eq_true rfl, Nat.le_of_ble_eq_true rfl⟩ ⟨Nat.le_of_ble_eq_true rfl, Nat.le_of_ble_eq_true rfl⟩ rfl rfl (Nat.le_of_ble_eq_true rfl) (by first | assumption | decide) ?_
  exact ev_vret hC hR d_Day_startTrial_11 rfl rfl (rfl)

set_option maxHeartbeats 2000000 in
set_option maxRecDepth 10000 in
theorem c_Day_on {G : ex_G} {M : ex_M} {np ne : Nat} {p n w0 : Int32} (w : WF (M.1 0) np ne) : Con G Y_Day_on 5 115 0 0 [.ref (ex_b G + 0), .int p, .int n, .int w0] (ce G M) (some (.int (D_on M np ne p n w0).1)) (ce G ((D_on M np ne p n w0).2)) := by
  refine Con.ofF (plainFor_of_name (by decide +kernel)) (Nat.le_of_ble_eq_true rfl) (fun C hC hR => ?_)
  show Ev G C Y_Day_on 0 [some (.ref (ex_b G + 0)), some (.int p), some (.int n), some (.int w0)] [] 0 0 (ce G M)
  obtain ⟨hc, hn, hc2, hn2, hmet, hkd, hkn⟩ := w
  refine ev_aload_n rfl hC d_Day_on_0 ?_
  refine ev_iload_n rfl hC d_Day_on_1 ?_
  refine cv_Day1 hC d_Day_on_2 (c_Day_noOne ) mi_Day_noOne ml_Day_108 im_Day_noOne se_Day_noOne rfl ⟨Nat.le_of_ble_eq_true rfl, Nat.le_of_ble_eq_true rfl⟩ ⟨Nat.le_of_ble_eq_true rfl, Nat.le_of_ble_eq_true rfl⟩ rfl rfl (Nat.le_of_ble_eq_true rfl)  ?_
  refine eb_ne 27 hC d_Day_on_5 rfl (fun h_5 => ?_) (fun h_5 => ?_)
  · refine ev_aload_n rfl hC d_Day_on_27 ?_
    refine ev_ldc kc_Day_55 hC d_Day_on_28 ?_
    refine cv_Day1 hC d_Day_on_30 (c_Day_refuse (k := 0) (by omega) (by decide +kernel)) mi_Day_refuse ml_Day_56 im_Day_refuse se_Day_refuse rfl ⟨Nat.le_of_ble_eq_true rfl, Nat.le_of_ble_eq_true rfl⟩ ⟨Nat.le_of_ble_eq_true rfl, Nat.le_of_ble_eq_true rfl⟩ rfl rfl (Nat.le_of_ble_eq_true rfl)  ?_
    exact ev_iret hC hR d_Day_on_33 rfl (by simp only [D_on, bad, h_5, if_true, if_false, cond_true, cond_false, decide_true, decide_false, Bool.not_true, Bool.not_false, Bool.or_true, Bool.true_or, Bool.or_false, Bool.false_or, Bool.and_true, Bool.and_false, Bool.true_and, Bool.false_and, Bool.or_self, Bool.and_self, eq_self] <;> first | rfl | (rfl)) (by simp only [D_on, bad, h_5, if_true, if_false, cond_true, cond_false, decide_true, decide_false, Bool.not_true, Bool.not_false, Bool.or_true, Bool.true_or, Bool.or_false, Bool.false_or, Bool.and_true, Bool.and_false, Bool.true_and, Bool.false_and, Bool.or_self, Bool.and_self, eq_self] <;> first | rfl | (rfl))
  · refine ev_iload_n rfl hC d_Day_on_8 ?_
    refine ev_iconst (v := 0) rfl hC d_Day_on_9 ?_
    refine ev_bipush (v := 72) rfl hC d_Day_on_10 ?_
    refine cs_1 hC d_Day_on_12 (c_Day_outside ) mi_Day_outside ml_Day_51 sm_Day_outside ⟨Nat.le_of_ble_eq_true rfl, Nat.le_of_ble_eq_true rfl⟩ ⟨Nat.le_of_ble_eq_true rfl, Nat.le_of_ble_eq_true rfl⟩ rfl rfl (Nat.le_of_ble_eq_true rfl) ?_
    refine eb_ne 27 hC d_Day_on_15 rfl (fun h_15 => ?_) (fun h_15 => ?_)
    · refine ev_aload_n rfl hC d_Day_on_27 ?_
      refine ev_ldc kc_Day_55 hC d_Day_on_28 ?_
      refine cv_Day1 hC d_Day_on_30 (c_Day_refuse (k := 0) (by omega) (by decide +kernel)) mi_Day_refuse ml_Day_56 im_Day_refuse se_Day_refuse rfl ⟨Nat.le_of_ble_eq_true rfl, Nat.le_of_ble_eq_true rfl⟩ ⟨Nat.le_of_ble_eq_true rfl, Nat.le_of_ble_eq_true rfl⟩ rfl rfl (Nat.le_of_ble_eq_true rfl)  ?_
      exact ev_iret hC hR d_Day_on_33 rfl (by simp only [D_on, bad, h_5, h_15, if_true, if_false, cond_true, cond_false, decide_true, decide_false, Bool.not_true, Bool.not_false, Bool.or_true, Bool.true_or, Bool.or_false, Bool.false_or, Bool.and_true, Bool.and_false, Bool.true_and, Bool.false_and, Bool.or_self, Bool.and_self, eq_self] <;> first | rfl | (rfl)) (by simp only [D_on, bad, h_5, h_15, if_true, if_false, cond_true, cond_false, decide_true, decide_false, Bool.not_true, Bool.not_false, Bool.or_true, Bool.true_or, Bool.or_false, Bool.false_or, Bool.and_true, Bool.and_false, Bool.true_and, Bool.false_and, Bool.or_self, Bool.and_self, eq_self] <;> first | rfl | (rfl))
    · refine ev_iload_n rfl hC d_Day_on_18 ?_
      refine ev_iconst (v := 0) rfl hC d_Day_on_19 ?_
      refine ev_iconst (v := 3) rfl hC d_Day_on_20 ?_
      refine cs_1 hC d_Day_on_21 (c_Day_outside ) mi_Day_outside ml_Day_51 sm_Day_outside ⟨Nat.le_of_ble_eq_true rfl, Nat.le_of_ble_eq_true rfl⟩ ⟨Nat.le_of_ble_eq_true rfl, Nat.le_of_ble_eq_true rfl⟩ rfl rfl (Nat.le_of_ble_eq_true rfl) ?_
      refine eb_eq 34 hC d_Day_on_24 rfl (fun h_24 => ?_) (fun h_24 => ?_)
      · obtain ⟨i, hi, rfl⟩ := out_ix hc hn h_5
        have ci : (nI i).toNatClampNeg = i := nI_clamp (by omega)
        obtain ⟨n1, hn1, rfl⟩ := out_nat (n := 72) (by decide) h_15
        have cn : (nI n1).toNatClampNeg = n1 := nI_clamp (by omega)
        refine ev_aload_n rfl hC d_Day_on_34 ?_
        refine cv_Day0 hC d_Day_on_35 (c_Day_startTrial ⟨hc, hn, hc2, hn2, hmet, hkd, hkn⟩) mi_Day_startTrial ml_Day_181 im_Day_startTrial se_Day_startTrial rfl ⟨Nat.le_of_ble_eq_true rfl, Nat.le_of_ble_eq_true rfl⟩ ⟨Nat.le_of_ble_eq_true rfl, Nat.le_of_ble_eq_true rfl⟩ rfl rfl (Nat.le_of_ble_eq_true rfl)  ?_
        refine ev_aload_n rfl hC d_Day_on_38 ?_
        refine gv_Day_trial hC d_Day_on_39 fl_Day_16  ?_
        refine ev_iload_n rfl hC d_Day_on_42 ?_
        refine cv_River0 hC d_Day_on_43 (c_River_passHours hn hn2 (by decide) (by omega) (by simp only [tr0, mI, wr_s]; rw [becR_lo (by omega)]; exact hc) (by simp only [tr0, mI, wr_s]; rw [becR_lo (by omega)]; exact hc2)) mi_River_passHours ml_Day_165 im_River_passHours se_River_passHours rfl ⟨Nat.le_of_ble_eq_true rfl, Nat.le_of_ble_eq_true rfl⟩ ⟨Nat.le_of_ble_eq_true rfl, Nat.le_of_ble_eq_true rfl⟩ rfl rfl (Nat.le_of_ble_eq_true rfl) (by first | assumption | decide) ?_
        refine ev_aload_n rfl hC d_Day_on_46 ?_
        refine gv_Day_trial hC d_Day_on_47 fl_Day_16  ?_
        refine gn_River_people hC d_Day_on_50 fl_Day_111 (by first | assumption | decide) ?_
        refine ev_iload_n rfl hC d_Day_on_53 ?_
        refine gr_people hC d_Day_on_54 (by first | assumption | decide) (by first | assumption | omega) ?_
        refine ev_astore (by decide) hC d_Day_on_55 ?_
        refine ev_iload_n rfl hC d_Day_on_57 ?_
        refine sx_Day_on_58 hC (fun h_58 => ?_) (fun h_58 => ?_) (fun h_58 => ?_) (fun h_58 => ?_)
        · refine ev_aload rfl hC d_Day_on_102 ?_
          refine gn_One_knows hC d_Day_on_104 fl_Day_135 (by first | assumption | decide) (by first | assumption | omega) ?_
          exact ev_iret hC hR d_Day_on_107 rfl (by have e0 := sw_ne h_58 0 (by decide) (by decide); have e1 := sw_ne h_58 1 (by decide) (by decide); have e2 := sw_ne h_58 2 (by decide) (by decide); simp only [D_on, bad, h_5, h_15, h_24, ix, ci, cn, tr0, tro, mI, wr_wr, wr_s, fld, e0, e1, e2, if_true, if_false, cond_true, cond_false, decide_true, decide_false, Bool.not_true, Bool.not_false, Bool.or_true, Bool.true_or, Bool.or_false, Bool.false_or, Bool.and_true, Bool.and_false, Bool.true_and, Bool.false_and, Bool.or_self, Bool.and_self, eq_self] <;> rfl) (by have e0 := sw_ne h_58 0 (by decide) (by decide); have e1 := sw_ne h_58 1 (by decide) (by decide); have e2 := sw_ne h_58 2 (by decide) (by decide); simp only [D_on, bad, h_5, h_15, h_24, ix, ci, cn, tr0, tro, mI, wr_wr, wr_s, fld, e0, e1, e2, if_true, if_false, cond_true, cond_false, decide_true, decide_false, Bool.not_true, Bool.not_false, Bool.or_true, Bool.true_or, Bool.or_false, Bool.false_or, Bool.and_true, Bool.and_false, Bool.true_and, Bool.false_and, Bool.or_self, Bool.and_self, eq_self] <;> rfl)
        · refine ev_aload rfl hC d_Day_on_84 ?_
          refine gn_One_purse hC d_Day_on_86 fl_Day_123 (by first | assumption | decide) (by first | assumption | omega) ?_
          exact ev_iret hC hR d_Day_on_89 rfl (by subst h_58; simp only [D_on, bad, h_5, h_15, h_24, ix, ci, cn, tr0, tro, mI, wr_wr, wr_s, fld, if_true, if_false, cond_true, cond_false, decide_true, decide_false, Bool.not_true, Bool.not_false, Bool.or_true, Bool.true_or, Bool.or_false, Bool.false_or, Bool.and_true, Bool.and_false, Bool.true_and, Bool.false_and, Bool.or_self, Bool.and_self, eq_self] <;> rfl) (by subst h_58; simp only [D_on, bad, h_5, h_15, h_24, ix, ci, cn, tr0, tro, mI, wr_wr, wr_s, fld, if_true, if_false, cond_true, cond_false, decide_true, decide_false, Bool.not_true, Bool.not_false, Bool.or_true, Bool.true_or, Bool.or_false, Bool.false_or, Bool.and_true, Bool.and_false, Bool.true_and, Bool.false_and, Bool.or_self, Bool.and_self, eq_self] <;> rfl)
        · refine ev_aload rfl hC d_Day_on_90 ?_
          refine gn_One_bank hC d_Day_on_92 fl_Day_120 (by first | assumption | decide) (by first | assumption | omega) ?_
          exact ev_iret hC hR d_Day_on_95 rfl (by subst h_58; simp only [D_on, bad, h_5, h_15, h_24, ix, ci, cn, tr0, tro, mI, wr_wr, wr_s, fld, if_true, if_false, cond_true, cond_false, decide_true, decide_false, Bool.not_true, Bool.not_false, Bool.or_true, Bool.true_or, Bool.or_false, Bool.false_or, Bool.and_true, Bool.and_false, Bool.true_and, Bool.false_and, Bool.or_self, Bool.and_self, eq_self] <;> rfl) (by subst h_58; simp only [D_on, bad, h_5, h_15, h_24, ix, ci, cn, tr0, tro, mI, wr_wr, wr_s, fld, if_true, if_false, cond_true, cond_false, decide_true, decide_false, Bool.not_true, Bool.not_false, Bool.or_true, Bool.true_or, Bool.or_false, Bool.false_or, Bool.and_true, Bool.and_false, Bool.true_and, Bool.false_and, Bool.or_self, Bool.and_self, eq_self] <;> rfl)
        · refine ev_aload rfl hC d_Day_on_96 ?_
          refine gn_One_crossed hC d_Day_on_98 fl_Day_132 (by first | assumption | decide) (by first | assumption | omega) ?_
          exact ev_iret hC hR d_Day_on_101 rfl (by subst h_58; simp only [D_on, bad, h_5, h_15, h_24, ix, ci, cn, tr0, tro, mI, wr_wr, wr_s, fld, if_true, if_false, cond_true, cond_false, decide_true, decide_false, Bool.not_true, Bool.not_false, Bool.or_true, Bool.true_or, Bool.or_false, Bool.false_or, Bool.and_true, Bool.and_false, Bool.true_and, Bool.false_and, Bool.or_self, Bool.and_self, eq_self] <;> rfl) (by subst h_58; simp only [D_on, bad, h_5, h_15, h_24, ix, ci, cn, tr0, tro, mI, wr_wr, wr_s, fld, if_true, if_false, cond_true, cond_false, decide_true, decide_false, Bool.not_true, Bool.not_false, Bool.or_true, Bool.true_or, Bool.or_false, Bool.false_or, Bool.and_true, Bool.and_false, Bool.true_and, Bool.false_and, Bool.or_self, Bool.and_self, eq_self] <;> rfl)
      · refine ev_aload_n rfl hC d_Day_on_27 ?_
        refine ev_ldc kc_Day_55 hC d_Day_on_28 ?_
        refine cv_Day1 hC d_Day_on_30 (c_Day_refuse (k := 0) (by omega) (by decide +kernel)) mi_Day_refuse ml_Day_56 im_Day_refuse se_Day_refuse rfl ⟨Nat.le_of_ble_eq_true rfl, Nat.le_of_ble_eq_true rfl⟩ ⟨Nat.le_of_ble_eq_true rfl, Nat.le_of_ble_eq_true rfl⟩ rfl rfl (Nat.le_of_ble_eq_true rfl)  ?_
        exact ev_iret hC hR d_Day_on_33 rfl (by simp only [D_on, bad, h_5, h_15, h_24, if_true, if_false, cond_true, cond_false, decide_true, decide_false, Bool.not_true, Bool.not_false, Bool.or_true, Bool.true_or, Bool.or_false, Bool.false_or, Bool.and_true, Bool.and_false, Bool.true_and, Bool.false_and, Bool.or_self, Bool.and_self, eq_self] <;> first | rfl | (rfl)) (by simp only [D_on, bad, h_5, h_15, h_24, if_true, if_false, cond_true, cond_false, decide_true, decide_false, Bool.not_true, Bool.not_false, Bool.or_true, Bool.true_or, Bool.or_false, Bool.false_or, Bool.and_true, Bool.and_false, Bool.true_and, Bool.false_and, Bool.or_self, Bool.and_self, eq_self] <;> first | rfl | (rfl))

set_option maxHeartbeats 2000000 in
set_option maxRecDepth 10000 in
theorem c_Day_met {G : ex_G} {M : ex_M} {np ne : Nat} {n : Int32} (w : WF (M.1 0) np ne) : Con G Y_Day_met 5 115 0 0 [.ref (ex_b G + 0), .int n] (ce G M) (some (.int (D_met M np ne n).1)) (ce G ((D_met M np ne n).2)) := by
  refine Con.ofF (plainFor_of_name (by decide +kernel)) (Nat.le_of_ble_eq_true rfl) (fun C hC hR => ?_)
  show Ev G C Y_Day_met 0 [some (.ref (ex_b G + 0)), some (.int n)] [] 0 0 (ce G M)
  obtain ⟨hc, hn, hc2, hn2, hmet, hkd, hkn⟩ := w
  refine ev_iload_n rfl hC d_Day_met_0 ?_
  refine ev_iconst (v := 0) rfl hC d_Day_met_1 ?_
  refine ev_bipush (v := 72) rfl hC d_Day_met_2 ?_
  refine cs_1 hC d_Day_met_4 (c_Day_outside ) mi_Day_outside ml_Day_51 sm_Day_outside ⟨Nat.le_of_ble_eq_true rfl, Nat.le_of_ble_eq_true rfl⟩ ⟨Nat.le_of_ble_eq_true rfl, Nat.le_of_ble_eq_true rfl⟩ rfl rfl (Nat.le_of_ble_eq_true rfl) ?_
  refine eb_eq 17 hC d_Day_met_7 rfl (fun h_7 => ?_) (fun h_7 => ?_)
  · obtain ⟨n1, hn1, rfl⟩ := out_nat (n := 72) (by decide) h_7
    have cn : (nI n1).toNatClampNeg = n1 := nI_clamp (by omega)
    refine ev_aload_n rfl hC d_Day_met_17 ?_
    refine cv_Day0 hC d_Day_met_18 (c_Day_startTrial ⟨hc, hn, hc2, hn2, hmet, hkd, hkn⟩) mi_Day_startTrial ml_Day_181 im_Day_startTrial se_Day_startTrial rfl ⟨Nat.le_of_ble_eq_true rfl, Nat.le_of_ble_eq_true rfl⟩ ⟨Nat.le_of_ble_eq_true rfl, Nat.le_of_ble_eq_true rfl⟩ rfl rfl (Nat.le_of_ble_eq_true rfl)  ?_
    refine ev_aload_n rfl hC d_Day_met_21 ?_
    refine gv_Day_trial hC d_Day_met_22 fl_Day_16  ?_
    refine ev_iload_n rfl hC d_Day_met_25 ?_
    refine cv_River0 hC d_Day_met_26 (c_River_passHours hn hn2 (by decide) (by omega) (by simp only [tr0, mI, wr_s]; rw [becR_lo (by omega)]; exact hc) (by simp only [tr0, mI, wr_s]; rw [becR_lo (by omega)]; exact hc2)) mi_River_passHours ml_Day_165 im_River_passHours se_River_passHours rfl ⟨Nat.le_of_ble_eq_true rfl, Nat.le_of_ble_eq_true rfl⟩ ⟨Nat.le_of_ble_eq_true rfl, Nat.le_of_ble_eq_true rfl⟩ rfl rfl (Nat.le_of_ble_eq_true rfl) (by first | assumption | decide) ?_
    refine ev_aload_n rfl hC d_Day_met_29 ?_
    refine gv_Day_trial hC d_Day_met_30 fl_Day_16  ?_
    refine cv_River1 hC d_Day_met_33 (c_River_metEvents hn2 (by decide) (by simp only [tr0, mI, wr_wr, wr_s]; rw [hoursC_cnt hn2 (by omega) (by omega), becR_lo (by omega)]; exact hc2)) mi_River_metEvents ml_Day_178 im_River_metEvents se_River_metEvents rfl ⟨Nat.le_of_ble_eq_true rfl, Nat.le_of_ble_eq_true rfl⟩ ⟨Nat.le_of_ble_eq_true rfl, Nat.le_of_ble_eq_true rfl⟩ rfl rfl (Nat.le_of_ble_eq_true rfl) (by first | assumption | decide) ?_
    exact ev_iret hC hR d_Day_met_36 rfl (by simp only [D_met, bad, h_7, ix, cn, metS, tr0, tro, mI, wr_wr, wr_s, if_true, if_false, cond_true, cond_false, decide_true, decide_false, Bool.not_true, Bool.not_false, Bool.or_true, Bool.true_or, Bool.or_false, Bool.false_or, Bool.and_true, Bool.and_false, Bool.true_and, Bool.false_and, Bool.or_self, Bool.and_self, eq_self] <;> first | rfl | (rfl)) (by simp only [D_met, bad, h_7, ix, cn, metS, tr0, tro, mI, wr_wr, wr_s, if_true, if_false, cond_true, cond_false, decide_true, decide_false, Bool.not_true, Bool.not_false, Bool.or_true, Bool.true_or, Bool.or_false, Bool.false_or, Bool.and_true, Bool.and_false, Bool.true_and, Bool.false_and, Bool.or_self, Bool.and_self, eq_self] <;> first | rfl | (rfl))
  · refine ev_aload_n rfl hC d_Day_met_10 ?_
    refine ev_ldc kc_Day_55 hC d_Day_met_11 ?_
    refine cv_Day1 hC d_Day_met_13 (c_Day_refuse (k := 0) (by omega) (by decide +kernel)) mi_Day_refuse ml_Day_56 im_Day_refuse se_Day_refuse rfl ⟨Nat.le_of_ble_eq_true rfl, Nat.le_of_ble_eq_true rfl⟩ ⟨Nat.le_of_ble_eq_true rfl, Nat.le_of_ble_eq_true rfl⟩ rfl rfl (Nat.le_of_ble_eq_true rfl)  ?_
    exact ev_iret hC hR d_Day_met_16 rfl (by simp only [D_met, bad, h_7, if_true, if_false, cond_true, cond_false, decide_true, decide_false, Bool.not_true, Bool.not_false, Bool.or_true, Bool.true_or, Bool.or_false, Bool.false_or, Bool.and_true, Bool.and_false, Bool.true_and, Bool.false_and, Bool.or_self, Bool.and_self, eq_self] <;> first | rfl | (rfl)) (by simp only [D_met, bad, h_7, if_true, if_false, cond_true, cond_false, decide_true, decide_false, Bool.not_true, Bool.not_false, Bool.or_true, Bool.true_or, Bool.or_false, Bool.false_or, Bool.and_true, Bool.and_false, Bool.true_and, Bool.false_and, Bool.or_self, Bool.and_self, eq_self] <;> first | rfl | (rfl))

set_option maxHeartbeats 4000000 in
set_option maxRecDepth 10000 in
theorem lp_Day_learns {G : ex_G} {C : ex_C} {rr : Option Value} {ee : List va_E} {np ne j e : Nat} (hn : np ≤ 8) (hn2 : ne ≤ 8) (hj : j < 8) (hC : Cx G C Y_Day_learns { frames := 4, cells := 0, slots := 0, locals := 93 }) (hR : Cr G C Y_Day_learns 0 0 rr ee) :
    ∀ (m i : Nat) (M : ex_M), i + m = 73 → (M.1 1 3 = nI np ∧ M.1 1 2 = nI ne) → rr = some (.int (finS M (srch (fun b => hb (b (28 + 7 * j + 6)) (nI e)) np ne m i (M.1 1))).1) ∧ ee = ce G (finS M (srch (fun b => hb (b (28 + 7 * j + 6)) (nI e)) np ne m i (M.1 1))).2 → Ev G C Y_Day_learns 29 [some (.ref (ex_b G + 0)), some (.int (nI j)), some (.int (nI e)), some (.int (nI i))] [] 0 0 (ce G (M)) := by
  intro m
  induction m with
  | zero =>
    intro i M hm hc he
    refine ev_iload_n rfl hC d_Day_learns_29 ?_
    refine ev_bipush (v := 72) rfl hC d_Day_learns_30 ?_
    refine ev_icmp_gt 66 hC d_Day_learns_32 rfl (fun _ => ?_) (fun h => absurd (by rw [show (72 : Int32) = nI 72 from rfl]; exact nI_lt (by omega) (by omega)) h)
    refine ev_aload_n rfl hC d_Day_learns_66 ?_
    refine ev_ldc kc_Day_190 hC d_Day_learns_67 ?_
    refine cv_Day1 hC d_Day_learns_69 (c_Day_refuse (k := 3) (by omega) (by decide +kernel)) mi_Day_refuse ml_Day_56 im_Day_refuse se_Day_refuse rfl ⟨Nat.le_of_ble_eq_true rfl, Nat.le_of_ble_eq_true rfl⟩ ⟨Nat.le_of_ble_eq_true rfl, Nat.le_of_ble_eq_true rfl⟩ rfl rfl (Nat.le_of_ble_eq_true rfl)  ?_
    exact ev_iret hC hR d_Day_learns_72 rfl (by rw [he.1, srch]; rfl) (by rw [he.2, srch]; simp only [finS, bad, mI, mJ, wr_id])
  | succ m ih =>
    intro i M hm hc he
    skip
    refine ev_iload_n rfl hC d_Day_learns_29 ?_
    refine ev_bipush (v := 72) rfl hC d_Day_learns_30 ?_
    refine ev_icmp_gt 66 hC d_Day_learns_32 rfl (fun h => absurd h (by rw [show (72 : Int32) = nI 72 from rfl]; exact nI_nlt (by omega) (by omega))) (fun _ => ?_)
    refine ev_aload_n rfl hC d_Day_learns_35 ?_
    refine gv_Day_trial hC d_Day_learns_36 fl_Day_16  ?_
    refine gn_River_people hC d_Day_learns_39 fl_Day_111 (by first | assumption | decide) ?_
    refine ev_iload_n rfl hC d_Day_learns_42 ?_
    refine gr_people hC d_Day_learns_43 (by first | assumption | decide) (by first | assumption | omega) ?_
    refine ev_iload_n rfl hC d_Day_learns_44 ?_
    refine cv_One1 hC d_Day_learns_45 (c_One_hasHeard (by first | assumption | omega) (by first | assumption | omega)) mi_One_hasHeard ml_Day_184 im_One_hasHeard se_One_hasHeard rfl ⟨Nat.le_of_ble_eq_true rfl, Nat.le_of_ble_eq_true rfl⟩ ⟨Nat.le_of_ble_eq_true rfl, Nat.le_of_ble_eq_true rfl⟩ rfl rfl (Nat.le_of_ble_eq_true rfl) (by first | assumption | decide) (by first | assumption | omega) ?_
    refine eb_eq 53 hC d_Day_learns_48 rfl (fun h_48 => ?_) (fun h_48 => ?_)
    · refine ev_aload_n rfl hC d_Day_learns_53 ?_
      refine gv_Day_trial hC d_Day_learns_54 fl_Day_16  ?_
      refine cv_River0 hC d_Day_learns_57 (c_River_passHour hn hn2 (by decide) hc.1 hc.2) mi_River_passHour ml_Day_187 im_River_passHour se_River_passHour rfl ⟨Nat.le_of_ble_eq_true rfl, Nat.le_of_ble_eq_true rfl⟩ ⟨Nat.le_of_ble_eq_true rfl, Nat.le_of_ble_eq_true rfl⟩ rfl rfl (Nat.le_of_ble_eq_true rfl) (by first | assumption | decide) ?_
      refine ev_iinc rfl (by decide) (nI_1 _) hC d_Day_learns_60 ?_
      refine ev_goto 29 hC d_Day_learns_63 rfl ?_
      refine ih (i + 1) _ (by omega) (by simp only [mI, wr_s]; exact ⟨(hourC_cnt hn2 (by omega) (by omega)).trans hc.1, (hourC_cnt hn2 (by omega) (by omega)).trans hc.2⟩) ?_
      rw [he.1, he.2, show srch (fun b => hb (b (28 + 7 * j + 6)) (nI e)) np ne (m + 1) i (M.1 1) = srch (fun b => hb (b (28 + 7 * j + 6)) (nI e)) np ne m (i + 1) (hourC np ne (M.1 1)) by rw [srch]; simp only [h_48, cond_false, Bool.not_true, Bool.not_false, decide_true]]
      simp only [finS_mI, wr_s]
      exact ⟨trivial, trivial⟩
    · refine ev_iload_n rfl hC d_Day_learns_51 ?_
      exact ev_iret hC hR d_Day_learns_52 rfl (by rw [he.1, show srch (fun b => hb (b (28 + 7 * j + 6)) (nI e)) np ne (m + 1) i (M.1 1) = (some i, M.1 1) by rw [srch]; simp only [h_48, cond_true, Bool.not_false, decide_false]]; rfl) (by rw [he.2, show srch (fun b => hb (b (28 + 7 * j + 6)) (nI e)) np ne (m + 1) i (M.1 1) = (some i, M.1 1) by rw [srch]; simp only [h_48, cond_true, Bool.not_false, decide_false]]; simp only [finS, mI_id])

set_option maxHeartbeats 2000000 in
set_option maxRecDepth 10000 in
theorem c_Day_learns {G : ex_G} {M : ex_M} {np ne : Nat} {p e : Int32} (w : WF (M.1 0) np ne) : Con G Y_Day_learns 4 93 0 0 [.ref (ex_b G + 0), .int p, .int e] (ce G M) (some (.int (D_learns M np ne p e).1)) (ce G ((D_learns M np ne p e).2)) := by
  refine Con.ofF (plainFor_of_name (by decide +kernel)) (Nat.le_of_ble_eq_true rfl) (fun C hC hR => ?_)
  show Ev G C Y_Day_learns 0 [some (.ref (ex_b G + 0)), some (.int p), some (.int e)] [] 0 0 (ce G M)
  obtain ⟨hc, hn, hc2, hn2, hmet, hkd, hkn⟩ := w
  refine ev_aload_n rfl hC d_Day_learns_0 ?_
  refine ev_iload_n rfl hC d_Day_learns_1 ?_
  refine cv_Day1 hC d_Day_learns_2 (c_Day_noOne ) mi_Day_noOne ml_Day_108 im_Day_noOne se_Day_noOne rfl ⟨Nat.le_of_ble_eq_true rfl, Nat.le_of_ble_eq_true rfl⟩ ⟨Nat.le_of_ble_eq_true rfl, Nat.le_of_ble_eq_true rfl⟩ rfl rfl (Nat.le_of_ble_eq_true rfl)  ?_
  refine eb_ne 16 hC d_Day_learns_5 rfl (fun h_5 => ?_) (fun h_5 => ?_)
  · refine ev_aload_n rfl hC d_Day_learns_16 ?_
    refine ev_ldc kc_Day_55 hC d_Day_learns_17 ?_
    refine cv_Day1 hC d_Day_learns_19 (c_Day_refuse (k := 0) (by omega) (by decide +kernel)) mi_Day_refuse ml_Day_56 im_Day_refuse se_Day_refuse rfl ⟨Nat.le_of_ble_eq_true rfl, Nat.le_of_ble_eq_true rfl⟩ ⟨Nat.le_of_ble_eq_true rfl, Nat.le_of_ble_eq_true rfl⟩ rfl rfl (Nat.le_of_ble_eq_true rfl)  ?_
    exact ev_iret hC hR d_Day_learns_22 rfl (by simp only [D_learns, bad, h_5, if_true, if_false, cond_true, cond_false, decide_true, decide_false, Bool.not_true, Bool.not_false, Bool.or_true, Bool.true_or, Bool.or_false, Bool.false_or, Bool.and_true, Bool.and_false, Bool.true_and, Bool.false_and, Bool.or_self, Bool.and_self, eq_self] <;> first | rfl | (rfl)) (by simp only [D_learns, bad, h_5, if_true, if_false, cond_true, cond_false, decide_true, decide_false, Bool.not_true, Bool.not_false, Bool.or_true, Bool.true_or, Bool.or_false, Bool.false_or, Bool.and_true, Bool.and_false, Bool.true_and, Bool.false_and, Bool.or_self, Bool.and_self, eq_self] <;> first | rfl | (rfl))
  · refine ev_aload_n rfl hC d_Day_learns_8 ?_
    refine ev_iload_n rfl hC d_Day_learns_9 ?_
    refine cv_Day1 hC d_Day_learns_10 (c_Day_noEvent ) mi_Day_noEvent ml_Day_73 im_Day_noEvent se_Day_noEvent rfl ⟨Nat.le_of_ble_eq_true rfl, Nat.le_of_ble_eq_true rfl⟩ ⟨Nat.le_of_ble_eq_true rfl, Nat.le_of_ble_eq_true rfl⟩ rfl rfl (Nat.le_of_ble_eq_true rfl)  ?_
    refine eb_eq 23 hC d_Day_learns_13 rfl (fun h_13 => ?_) (fun h_13 => ?_)
    · obtain ⟨i, hi, rfl⟩ := out_ix hc hn h_5
      have ci : (nI i).toNatClampNeg = i := nI_clamp (by omega)
      obtain ⟨j, hj, rfl⟩ := out_ix hc2 hn2 h_13
      refine ev_aload_n rfl hC d_Day_learns_23 ?_
      refine cv_Day0 hC d_Day_learns_24 (c_Day_startTrial ⟨hc, hn, hc2, hn2, hmet, hkd, hkn⟩) mi_Day_startTrial ml_Day_181 im_Day_startTrial se_Day_startTrial rfl ⟨Nat.le_of_ble_eq_true rfl, Nat.le_of_ble_eq_true rfl⟩ ⟨Nat.le_of_ble_eq_true rfl, Nat.le_of_ble_eq_true rfl⟩ rfl rfl (Nat.le_of_ble_eq_true rfl)  ?_
      refine ev_iconst (v := nI 0) rfl hC d_Day_learns_27 ?_
      refine ev_istore_n (by decide) hC d_Day_learns_28 ?_
      refine lp_Day_learns hn hn2 (by omega) hC hR 73 0 _ (by omega) (by simp only [tr0, mI, wr_s]; rw [becR_lo (by omega), becR_lo (by omega)]; exact ⟨hc, hc2⟩) ?_
      simp only [D_learns, h_5, h_13, ix, ci, tr0, tro, finS_mI, wr_s, if_true, if_false, cond_true, cond_false, decide_true, decide_false, Bool.not_true, Bool.not_false, Bool.or_true, Bool.true_or, Bool.or_false, Bool.false_or, Bool.and_true, Bool.and_false, Bool.true_and, Bool.false_and, Bool.or_self, Bool.and_self, eq_self]
      exact ⟨trivial, trivial⟩
    · refine ev_aload_n rfl hC d_Day_learns_16 ?_
      refine ev_ldc kc_Day_55 hC d_Day_learns_17 ?_
      refine cv_Day1 hC d_Day_learns_19 (c_Day_refuse (k := 0) (by omega) (by decide +kernel)) mi_Day_refuse ml_Day_56 im_Day_refuse se_Day_refuse rfl ⟨Nat.le_of_ble_eq_true rfl, Nat.le_of_ble_eq_true rfl⟩ ⟨Nat.le_of_ble_eq_true rfl, Nat.le_of_ble_eq_true rfl⟩ rfl rfl (Nat.le_of_ble_eq_true rfl)  ?_
      exact ev_iret hC hR d_Day_learns_22 rfl (by simp only [D_learns, bad, h_5, h_13, if_true, if_false, cond_true, cond_false, decide_true, decide_false, Bool.not_true, Bool.not_false, Bool.or_true, Bool.true_or, Bool.or_false, Bool.false_or, Bool.and_true, Bool.and_false, Bool.true_and, Bool.false_and, Bool.or_self, Bool.and_self, eq_self] <;> first | rfl | (rfl)) (by simp only [D_learns, bad, h_5, h_13, if_true, if_false, cond_true, cond_false, decide_true, decide_false, Bool.not_true, Bool.not_false, Bool.or_true, Bool.true_or, Bool.or_false, Bool.false_or, Bool.and_true, Bool.and_false, Bool.true_and, Bool.false_and, Bool.or_self, Bool.and_self, eq_self] <;> first | rfl | (rfl))

set_option maxHeartbeats 4000000 in
set_option maxRecDepth 10000 in
theorem lp_Day_broke {G : ex_G} {C : ex_C} {rr : Option Value} {ee : List va_E} {np ne j : Nat} (hn : np ≤ 8) (hn2 : ne ≤ 8) (hj : j < 8) (hC : Cx G C Y_Day_broke { frames := 4, cells := 0, slots := 0, locals := 93 }) (hR : Cr G C Y_Day_broke 0 0 rr ee) :
    ∀ (m i : Nat) (M : ex_M), i + m = 73 → (M.1 1 3 = nI np ∧ M.1 1 2 = nI ne) → rr = some (.int (finS M (srch (fun b => !pays b j) np ne m i (M.1 1))).1) ∧ ee = ce G (finS M (srch (fun b => !pays b j) np ne m i (M.1 1))).2 → Ev G C Y_Day_broke 21 [some (.ref (ex_b G + 0)), some (.int (nI j)), some (.int (nI i))] [] 0 0 (ce G (M)) := by
  intro m
  induction m with
  | zero =>
    intro i M hm hc he
    refine ev_iload_n rfl hC d_Day_broke_21 ?_
    refine ev_bipush (v := 72) rfl hC d_Day_broke_22 ?_
    refine ev_icmp_gt 64 hC d_Day_broke_24 rfl (fun _ => ?_) (fun h => absurd (by rw [show (72 : Int32) = nI 72 from rfl]; exact nI_lt (by omega) (by omega)) h)
    refine ev_aload_n rfl hC d_Day_broke_64 ?_
    refine ev_ldc kc_Day_190 hC d_Day_broke_65 ?_
    refine cv_Day1 hC d_Day_broke_67 (c_Day_refuse (k := 3) (by omega) (by decide +kernel)) mi_Day_refuse ml_Day_56 im_Day_refuse se_Day_refuse rfl ⟨Nat.le_of_ble_eq_true rfl, Nat.le_of_ble_eq_true rfl⟩ ⟨Nat.le_of_ble_eq_true rfl, Nat.le_of_ble_eq_true rfl⟩ rfl rfl (Nat.le_of_ble_eq_true rfl)  ?_
    exact ev_iret hC hR d_Day_broke_70 rfl (by rw [he.1, srch]; rfl) (by rw [he.2, srch]; simp only [finS, bad, mI, mJ, wr_id])
  | succ m ih =>
    intro i M hm hc he
    skip
    refine ev_iload_n rfl hC d_Day_broke_21 ?_
    refine ev_bipush (v := 72) rfl hC d_Day_broke_22 ?_
    refine ev_icmp_gt 64 hC d_Day_broke_24 rfl (fun h => absurd h (by rw [show (72 : Int32) = nI 72 from rfl]; exact nI_nlt (by omega) (by omega))) (fun _ => ?_)
    refine ev_aload_n rfl hC d_Day_broke_27 ?_
    refine gv_Day_trial hC d_Day_broke_28 fl_Day_16  ?_
    refine gn_River_people hC d_Day_broke_31 fl_Day_111 (by first | assumption | decide) ?_
    refine ev_iload_n rfl hC d_Day_broke_34 ?_
    refine gr_people hC d_Day_broke_35 (by first | assumption | decide) (by first | assumption | omega) ?_
    refine ev_aload_n rfl hC d_Day_broke_36 ?_
    refine gv_Day_trial hC d_Day_broke_37 fl_Day_16  ?_
    refine gn_River_toll hC d_Day_broke_40 fl_Day_60 (by first | assumption | decide) ?_
    refine cv_One1 hC d_Day_broke_43 (c_One_canPay (by first | assumption | omega) (by first | assumption | omega)) mi_One_canPay ml_Day_152 im_One_canPay se_One_canPay rfl ⟨Nat.le_of_ble_eq_true rfl, Nat.le_of_ble_eq_true rfl⟩ ⟨Nat.le_of_ble_eq_true rfl, Nat.le_of_ble_eq_true rfl⟩ rfl rfl (Nat.le_of_ble_eq_true rfl) (by first | assumption | decide) (by first | assumption | omega) ?_
    refine eb_ne 51 hC d_Day_broke_46 rfl (fun h_46 => ?_) (fun h_46 => ?_)
    · refine ev_aload_n rfl hC d_Day_broke_51 ?_
      refine gv_Day_trial hC d_Day_broke_52 fl_Day_16  ?_
      refine cv_River0 hC d_Day_broke_55 (c_River_passHour hn hn2 (by decide) hc.1 hc.2) mi_River_passHour ml_Day_187 im_River_passHour se_River_passHour rfl ⟨Nat.le_of_ble_eq_true rfl, Nat.le_of_ble_eq_true rfl⟩ ⟨Nat.le_of_ble_eq_true rfl, Nat.le_of_ble_eq_true rfl⟩ rfl rfl (Nat.le_of_ble_eq_true rfl) (by first | assumption | decide) ?_
      refine ev_iinc rfl (by decide) (nI_1 _) hC d_Day_broke_58 ?_
      refine ev_goto 21 hC d_Day_broke_61 rfl ?_
      refine ih (i + 1) _ (by omega) (by simp only [mI, wr_s]; exact ⟨(hourC_cnt hn2 (by omega) (by omega)).trans hc.1, (hourC_cnt hn2 (by omega) (by omega)).trans hc.2⟩) ?_
      rw [he.1, he.2, show srch (fun b => !pays b j) np ne (m + 1) i (M.1 1) = srch (fun b => !pays b j) np ne m (i + 1) (hourC np ne (M.1 1)) by rw [srch]; simp only [pays, h_46, cond_false, Bool.not_true, Bool.not_false, decide_true]]
      simp only [finS_mI, wr_s]
      exact ⟨trivial, trivial⟩
    · refine ev_iload_n rfl hC d_Day_broke_49 ?_
      exact ev_iret hC hR d_Day_broke_50 rfl (by rw [he.1, show srch (fun b => !pays b j) np ne (m + 1) i (M.1 1) = (some i, M.1 1) by rw [srch]; simp only [pays, h_46, cond_true, Bool.not_false, decide_false]]; rfl) (by rw [he.2, show srch (fun b => !pays b j) np ne (m + 1) i (M.1 1) = (some i, M.1 1) by rw [srch]; simp only [pays, h_46, cond_true, Bool.not_false, decide_false]]; simp only [finS, mI_id])

set_option maxHeartbeats 2000000 in
set_option maxRecDepth 10000 in
theorem c_Day_broke {G : ex_G} {M : ex_M} {np ne : Nat} {p : Int32} (w : WF (M.1 0) np ne) : Con G Y_Day_broke 4 93 0 0 [.ref (ex_b G + 0), .int p] (ce G M) (some (.int (D_broke M np ne p).1)) (ce G ((D_broke M np ne p).2)) := by
  refine Con.ofF (plainFor_of_name (by decide +kernel)) (Nat.le_of_ble_eq_true rfl) (fun C hC hR => ?_)
  show Ev G C Y_Day_broke 0 [some (.ref (ex_b G + 0)), some (.int p)] [] 0 0 (ce G M)
  obtain ⟨hc, hn, hc2, hn2, hmet, hkd, hkn⟩ := w
  refine ev_aload_n rfl hC d_Day_broke_0 ?_
  refine ev_iload_n rfl hC d_Day_broke_1 ?_
  refine cv_Day1 hC d_Day_broke_2 (c_Day_noOne ) mi_Day_noOne ml_Day_108 im_Day_noOne se_Day_noOne rfl ⟨Nat.le_of_ble_eq_true rfl, Nat.le_of_ble_eq_true rfl⟩ ⟨Nat.le_of_ble_eq_true rfl, Nat.le_of_ble_eq_true rfl⟩ rfl rfl (Nat.le_of_ble_eq_true rfl)  ?_
  refine eb_eq 15 hC d_Day_broke_5 rfl (fun h_5 => ?_) (fun h_5 => ?_)
  · obtain ⟨i, hi, rfl⟩ := out_ix hc hn h_5
    have ci : (nI i).toNatClampNeg = i := nI_clamp (by omega)
    refine ev_aload_n rfl hC d_Day_broke_15 ?_
    refine cv_Day0 hC d_Day_broke_16 (c_Day_startTrial ⟨hc, hn, hc2, hn2, hmet, hkd, hkn⟩) mi_Day_startTrial ml_Day_181 im_Day_startTrial se_Day_startTrial rfl ⟨Nat.le_of_ble_eq_true rfl, Nat.le_of_ble_eq_true rfl⟩ ⟨Nat.le_of_ble_eq_true rfl, Nat.le_of_ble_eq_true rfl⟩ rfl rfl (Nat.le_of_ble_eq_true rfl)  ?_
    refine ev_iconst (v := nI 0) rfl hC d_Day_broke_19 ?_
    refine ev_istore_n (by decide) hC d_Day_broke_20 ?_
    refine lp_Day_broke hn hn2 (by omega) hC hR 73 0 _ (by omega) (by simp only [tr0, mI, wr_s]; rw [becR_lo (by omega), becR_lo (by omega)]; exact ⟨hc, hc2⟩) ?_
    simp only [D_broke, h_5, ix, ci, tr0, tro, finS_mI, wr_s, if_true, if_false, cond_true, cond_false, decide_true, decide_false, Bool.not_true, Bool.not_false, Bool.or_true, Bool.true_or, Bool.or_false, Bool.false_or, Bool.and_true, Bool.and_false, Bool.true_and, Bool.false_and, Bool.or_self, Bool.and_self, eq_self]
    exact ⟨trivial, trivial⟩
  · refine ev_aload_n rfl hC d_Day_broke_8 ?_
    refine ev_ldc kc_Day_55 hC d_Day_broke_9 ?_
    refine cv_Day1 hC d_Day_broke_11 (c_Day_refuse (k := 0) (by omega) (by decide +kernel)) mi_Day_refuse ml_Day_56 im_Day_refuse se_Day_refuse rfl ⟨Nat.le_of_ble_eq_true rfl, Nat.le_of_ble_eq_true rfl⟩ ⟨Nat.le_of_ble_eq_true rfl, Nat.le_of_ble_eq_true rfl⟩ rfl rfl (Nat.le_of_ble_eq_true rfl)  ?_
    exact ev_iret hC hR d_Day_broke_14 rfl (by simp only [D_broke, bad, h_5, if_true, if_false, cond_true, cond_false, decide_true, decide_false, Bool.not_true, Bool.not_false, Bool.or_true, Bool.true_or, Bool.or_false, Bool.false_or, Bool.and_true, Bool.and_false, Bool.true_and, Bool.false_and, Bool.or_self, Bool.and_self, eq_self] <;> first | rfl | (rfl)) (by simp only [D_broke, bad, h_5, if_true, if_false, cond_true, cond_false, decide_true, decide_false, Bool.not_true, Bool.not_false, Bool.or_true, Bool.true_or, Bool.or_false, Bool.false_or, Bool.and_true, Bool.and_false, Bool.true_and, Bool.false_and, Bool.or_self, Bool.and_self, eq_self] <;> first | rfl | (rfl))

set_option maxHeartbeats 4000000 in
set_option maxRecDepth 10000 in
theorem lp_Day_first {G : ex_G} {C : ex_C} {rr : Option Value} {ee : List va_E} {np ne e : Nat} (hn : np ≤ 8) (hn2 : ne ≤ 8) (hC : Cx G C Y_Day_first { frames := 4, cells := 0, slots := 0, locals := 93 }) (hR : Cr G C Y_Day_first 0 0 rr ee) :
    ∀ (m i : Nat) (M : ex_M), i + m = 73 → (M.1 1 3 = nI np ∧ M.1 1 2 = nI ne) → rr = some (.int (finF M np (nI e) (srch (fun b => !decide (whoK b np (nI e) = 0)) np ne m i (M.1 1))).1) ∧ ee = ce G (finF M np (nI e) (srch (fun b => !decide (whoK b np (nI e) = 0)) np ne m i (M.1 1))).2 → Ev G C Y_Day_first 21 [some (.ref (ex_b G + 0)), some (.int (nI e)), some (.int (nI i))] [] 0 0 (ce G (M)) := by
  intro m
  induction m with
  | zero =>
    intro i M hm hc he
    refine ev_iload_n rfl hC d_Day_first_21 ?_
    refine ev_bipush (v := 72) rfl hC d_Day_first_22 ?_
    refine ev_icmp_gt 58 hC d_Day_first_24 rfl (fun _ => ?_) (fun h => absurd (by rw [show (72 : Int32) = nI 72 from rfl]; exact nI_lt (by omega) (by omega)) h)
    refine ev_aload_n rfl hC d_Day_first_58 ?_
    refine ev_ldc kc_Day_190 hC d_Day_first_59 ?_
    refine cv_Day1 hC d_Day_first_61 (c_Day_refuse (k := 3) (by omega) (by decide +kernel)) mi_Day_refuse ml_Day_56 im_Day_refuse se_Day_refuse rfl ⟨Nat.le_of_ble_eq_true rfl, Nat.le_of_ble_eq_true rfl⟩ ⟨Nat.le_of_ble_eq_true rfl, Nat.le_of_ble_eq_true rfl⟩ rfl rfl (Nat.le_of_ble_eq_true rfl)  ?_
    exact ev_iret hC hR d_Day_first_64 rfl (by rw [he.1, srch]; rfl) (by rw [he.2, srch]; simp only [finF, bad, mI, mJ, wr_id])
  | succ m ih =>
    intro i M hm hc he
    skip
    refine ev_iload_n rfl hC d_Day_first_21 ?_
    refine ev_bipush (v := 72) rfl hC d_Day_first_22 ?_
    refine ev_icmp_gt 58 hC d_Day_first_24 rfl (fun h => absurd h (by rw [show (72 : Int32) = nI 72 from rfl]; exact nI_nlt (by omega) (by omega))) (fun _ => ?_)
    refine ev_aload_n rfl hC d_Day_first_27 ?_
    refine gv_Day_trial hC d_Day_first_28 fl_Day_16  ?_
    refine ev_iload_n rfl hC d_Day_first_31 ?_
    refine cv_River1 hC d_Day_first_32 (c_River_thoseWhoKnow hn (by decide) hc.1) mi_River_thoseWhoKnow ml_Day_92 im_River_thoseWhoKnow se_River_thoseWhoKnow rfl ⟨Nat.le_of_ble_eq_true rfl, Nat.le_of_ble_eq_true rfl⟩ ⟨Nat.le_of_ble_eq_true rfl, Nat.le_of_ble_eq_true rfl⟩ rfl rfl (Nat.le_of_ble_eq_true rfl) (by first | assumption | decide) ?_
    refine ev_istore_n (by decide) hC d_Day_first_35 ?_
    refine ev_iload_n rfl hC d_Day_first_36 ?_
    refine ev_if_eq 45 hC d_Day_first_37 rfl (fun h_37 => ?_) (fun h_37 => ?_)
    · refine ev_aload_n rfl hC d_Day_first_45 ?_
      refine gv_Day_trial hC d_Day_first_46 fl_Day_16  ?_
      refine cv_River0 hC d_Day_first_49 (c_River_passHour hn hn2 (by decide) hc.1 hc.2) mi_River_passHour ml_Day_187 im_River_passHour se_River_passHour rfl ⟨Nat.le_of_ble_eq_true rfl, Nat.le_of_ble_eq_true rfl⟩ ⟨Nat.le_of_ble_eq_true rfl, Nat.le_of_ble_eq_true rfl⟩ rfl rfl (Nat.le_of_ble_eq_true rfl) (by first | assumption | decide) ?_
      refine ev_iinc rfl (by decide) (nI_1 _) hC d_Day_first_52 ?_
      refine ev_goto 21 hC d_Day_first_55 rfl ?_
      refine Ev.take 3 ?_
      refine ih (i + 1) _ (by omega) (by simp only [mI, wr_s]; exact ⟨(hourC_cnt hn2 (by omega) (by omega)).trans hc.1, (hourC_cnt hn2 (by omega) (by omega)).trans hc.2⟩) ?_
      rw [he.1, he.2, show srch (fun b => !decide (whoK b np (nI e) = 0)) np ne (m + 1) i (M.1 1) = srch (fun b => !decide (whoK b np (nI e) = 0)) np ne m (i + 1) (hourC np ne (M.1 1)) by rw [srch]; simp only [whoK, h_37, cond_false, Bool.not_true, Bool.not_false, decide_true]]
      simp only [finF_mI, wr_s]
      exact ⟨trivial, trivial⟩
    · obtain ⟨ekw, hkw⟩ := setF_256 (p := fun i => hb (M.1 1 (28 + 7 * i + 6)) (nI e)) hn
      refine ev_iload_n rfl hC d_Day_first_40 ?_
      rw [ekw]
      refine cs_1 hC d_Day_first_41 (c_Int_numberOfTrailingZeros hkw (fun z => h_37 (by rw [ekw, z]; rfl))) mi_Int_numberOfTrailingZeros ml_Day_191 sm_Int_numberOfTrailingZeros ⟨Nat.le_of_ble_eq_true rfl, Nat.le_of_ble_eq_true rfl⟩ ⟨Nat.le_of_ble_eq_true rfl, Nat.le_of_ble_eq_true rfl⟩ rfl rfl (Nat.le_of_ble_eq_true rfl) ?_
      exact ev_iret hC hR d_Day_first_44 rfl (by rw [he.1, show srch (fun b => !decide (whoK b np (nI e) = 0)) np ne (m + 1) i (M.1 1) = (some i, M.1 1) by rw [srch]; simp only [whoK, h_37, cond_true, Bool.not_false, decide_false]]; (simp only [finF, whoK, ekw, ix]; rw [nI_clamp (by omega)])) (by rw [he.2, show srch (fun b => !decide (whoK b np (nI e) = 0)) np ne (m + 1) i (M.1 1) = (some i, M.1 1) by rw [srch]; simp only [whoK, h_37, cond_true, Bool.not_false, decide_false]]; simp only [finF, mI_id])

set_option maxHeartbeats 2000000 in
set_option maxRecDepth 10000 in
theorem c_Day_first {G : ex_G} {M : ex_M} {np ne : Nat} {e : Int32} (w : WF (M.1 0) np ne) : Con G Y_Day_first 4 93 0 0 [.ref (ex_b G + 0), .int e] (ce G M) (some (.int (D_first M np ne e).1)) (ce G ((D_first M np ne e).2)) := by
  refine Con.ofF (plainFor_of_name (by decide +kernel)) (Nat.le_of_ble_eq_true rfl) (fun C hC hR => ?_)
  show Ev G C Y_Day_first 0 [some (.ref (ex_b G + 0)), some (.int e)] [] 0 0 (ce G M)
  obtain ⟨hc, hn, hc2, hn2, hmet, hkd, hkn⟩ := w
  refine ev_aload_n rfl hC d_Day_first_0 ?_
  refine ev_iload_n rfl hC d_Day_first_1 ?_
  refine cv_Day1 hC d_Day_first_2 (c_Day_noEvent ) mi_Day_noEvent ml_Day_73 im_Day_noEvent se_Day_noEvent rfl ⟨Nat.le_of_ble_eq_true rfl, Nat.le_of_ble_eq_true rfl⟩ ⟨Nat.le_of_ble_eq_true rfl, Nat.le_of_ble_eq_true rfl⟩ rfl rfl (Nat.le_of_ble_eq_true rfl)  ?_
  refine eb_eq 15 hC d_Day_first_5 rfl (fun h_5 => ?_) (fun h_5 => ?_)
  · obtain ⟨j, hj, rfl⟩ := out_ix hc2 hn2 h_5
    refine ev_aload_n rfl hC d_Day_first_15 ?_
    refine cv_Day0 hC d_Day_first_16 (c_Day_startTrial ⟨hc, hn, hc2, hn2, hmet, hkd, hkn⟩) mi_Day_startTrial ml_Day_181 im_Day_startTrial se_Day_startTrial rfl ⟨Nat.le_of_ble_eq_true rfl, Nat.le_of_ble_eq_true rfl⟩ ⟨Nat.le_of_ble_eq_true rfl, Nat.le_of_ble_eq_true rfl⟩ rfl rfl (Nat.le_of_ble_eq_true rfl)  ?_
    refine ev_iconst (v := nI 0) rfl hC d_Day_first_19 ?_
    refine ev_istore_n (by decide) hC d_Day_first_20 ?_
    refine lp_Day_first hn hn2  hC hR 73 0 _ (by omega) (by simp only [tr0, mI, wr_s]; rw [becR_lo (by omega), becR_lo (by omega)]; exact ⟨hc, hc2⟩) ?_
    simp only [D_first, h_5, tr0, tro, finF_mI, wr_s, if_true, if_false, cond_true, cond_false, decide_true, decide_false, Bool.not_true, Bool.not_false, Bool.or_true, Bool.true_or, Bool.or_false, Bool.false_or, Bool.and_true, Bool.and_false, Bool.true_and, Bool.false_and, Bool.or_self, Bool.and_self, eq_self]
    exact ⟨trivial, trivial⟩
  · refine ev_aload_n rfl hC d_Day_first_8 ?_
    refine ev_ldc kc_Day_55 hC d_Day_first_9 ?_
    refine cv_Day1 hC d_Day_first_11 (c_Day_refuse (k := 0) (by omega) (by decide +kernel)) mi_Day_refuse ml_Day_56 im_Day_refuse se_Day_refuse rfl ⟨Nat.le_of_ble_eq_true rfl, Nat.le_of_ble_eq_true rfl⟩ ⟨Nat.le_of_ble_eq_true rfl, Nat.le_of_ble_eq_true rfl⟩ rfl rfl (Nat.le_of_ble_eq_true rfl)  ?_
    exact ev_iret hC hR d_Day_first_14 rfl (by simp only [D_first, bad, h_5, if_true, if_false, cond_true, cond_false, decide_true, decide_false, Bool.not_true, Bool.not_false, Bool.or_true, Bool.true_or, Bool.or_false, Bool.false_or, Bool.and_true, Bool.and_false, Bool.true_and, Bool.false_and, Bool.or_self, Bool.and_self, eq_self] <;> first | rfl | (rfl)) (by simp only [D_first, bad, h_5, if_true, if_false, cond_true, cond_false, decide_true, decide_false, Bool.not_true, Bool.not_false, Bool.or_true, Bool.true_or, Bool.or_false, Bool.false_or, Bool.and_true, Bool.and_false, Bool.true_and, Bool.false_and, Bool.or_self, Bool.and_self, eq_self] <;> first | rfl | (rfl))
