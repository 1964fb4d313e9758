/-! the reference: images, counts, tape -/
def R_wipe (M : ex_M) : Int32 × ex_M := (M.1 14 3, mJ M 14 3 0)
def R_image (M : ex_M) : Int32 × ex_M := (1, mJ (mI M 11 (cpf 84 (M.1 10) (M.1 11))) 14 0 1)
def R_undo (M : ex_M) : Int32 × ex_M := if M.1 14 0 = 0 then rbad M 3 else (M.1 11 3, mI M 10 (cpf 84 (M.1 11) (M.1 10)))
def R_tear (M : ex_M) : Int32 × ex_M := (if M.1 14 0 = 0 then 0 else 1, mJ M 14 0 0)
def R_count (M : ex_M) (np : Nat) (w : Int32) : Int32 × ex_M := if w = 0 then (M.1 10 3, M) else if w = 1 then (M.1 10 2, M) else if w = 2 then (M.1 14 3, M) else if w = 3 then (cntF (M.1 10) np 0 0, M) else rbad M 0
def R_status (M : ex_M) (w : Int32) : Int32 × ex_M := bif out w (-1) 6 then rbad M 0 else (M.1 13 (ix (w + 1)), M)
theorem out_m1 {w : Int32} (h : out w (-1) 6 = false) : ∃ i, i < 8 ∧ w + 1 = nI i := by
  obtain ⟨h1, h2⟩ := out_rg h
  have e1 : (w + 1).toInt = w.toInt + 1 := by
    rw [Int32.le_iff_toInt_le] at h1 h2
    have a1 : (-1 : Int32).toInt = -1 := rfl
    have a2 : (6 : Int32).toInt = 6 := rfl
    rw [a1] at h1
    rw [a2] at h2
    rw [Int32.toInt_add, show (1 : Int32).toInt = 1 from rfl]
    apply Int.bmod_eq_of_le <;> omega
  rw [Int32.le_iff_toInt_le] at h1 h2
  have a1 : (-1 : Int32).toInt = -1 := rfl
  have a2 : (6 : Int32).toInt = 6 := rfl
  rw [a1] at h1
  rw [a2] at h2
  obtain ⟨j, hj, ej⟩ := nI_of (x := w + 1) (by rw [Int32.lt_iff_toInt_lt, e1]; have : (0 : Int32).toInt = 0 := rfl; omega)
  refine ⟨j, ?_, ej⟩
  have q : (nI j).toInt = (j : Int) := nI_toInt hj
  rw [ej, q] at e1
  omega
def rapp (M : ex_M) (l : Nat) (v : Int32) : ex_M := mJ (mJ M 15 l v) 14 3 (nI (l + 1))
def shR (b : Int32) (m : Nat) : Int32 := (b >>> ((8 * nI m) &&& 31)) &&& 255
def fdR (b : Int32) : Nat → Nat → ex_M → ex_M
  | 0, _, M => M
  | m + 1, l, M => fdR b m (l + 1) (rapp M l (shR b m))
theorem rapp_3 (M : ex_M) (l : Nat) (v : Int32) : (rapp M l v).1 14 3 = nI (l + 1) := by simp only [rapp, mJ, wr_s, ud_s]
theorem fdR_3 (b : Int32) : ∀ m l M, M.1 14 3 = nI l → (fdR b m l M).1 14 3 = nI (l + m)
  | 0, _, _, h => h
  | m + 1, l, M, h => by rw [fdR, fdR_3 b m (l + 1) _ (rapp_3 M l _), show l + 1 + m = l + (m + 1) by omega]
def R_feed (M : ex_M) (b n : Int32) : Int32 × ex_M := bif out n 1 4 then rbad M 0 else if M.1 14 3 + n ≤ 120 then (M.1 14 3 + n, fdR b (ix n) (ix (M.1 14 3)) M) else rbad M 1

set_option maxHeartbeats 2000000 in
set_option maxRecDepth 10000 in
theorem c_Mod_wipe {G : ex_G} {M : ex_M}  : Con G Y_Mod_wipe 0 0 0 0 [.ref (ex_b G + 71)] (ce G M) (some (.int (R_wipe M).1)) (ce G ((R_wipe M).2)) := by
  refine Con.ofF (plainFor_of_name (by decide +kernel)) (Nat.le_of_ble_eq_true rfl) (fun C hC hR => ?_)
  show Ev G C Y_Mod_wipe 0 [some (.ref (ex_b G + 71))] [] 0 0 (ce G M)
  refine ev_aload_n rfl hC d_Mod_wipe_0 ?_
  refine gv_Mod_taped hC d_Mod_wipe_1 fl_Mod_222  ?_
  refine ev_istore_n (by decide) hC d_Mod_wipe_4 ?_
  refine ev_aload_n rfl hC d_Mod_wipe_5 ?_
  refine ev_iconst (v := 0) rfl hC d_Mod_wipe_6 ?_
  refine pv_Mod_taped hC d_Mod_wipe_7 fl_Mod_222  ?_
  refine ev_iload_n rfl hC d_Mod_wipe_10 ?_
  exact ev_iret hC hR d_Mod_wipe_11 rfl (rfl) (rfl)

set_option maxHeartbeats 2000000 in
set_option maxRecDepth 10000 in
theorem c_Mod_image {G : ex_G} {M : ex_M}  : Con G Y_Mod_image 1 22 0 0 [.ref (ex_b G + 71)] (ce G M) (some (.int (R_image M).1)) (ce G ((R_image M).2)) := by
  refine Con.ofF (plainFor_of_name (by decide +kernel)) (Nat.le_of_ble_eq_true rfl) (fun C hC hR => ?_)
  show Ev G C Y_Mod_image 0 [some (.ref (ex_b G + 71))] [] 0 0 (ce G M)
  refine ev_aload_n rfl hC d_Mod_image_0 ?_
  refine gv_Mod_now hC d_Mod_image_1 fl_Mod_9  ?_
  refine ev_aload_n rfl hC d_Mod_image_4 ?_
  refine gv_Mod_kept hC d_Mod_image_5 fl_Mod_13  ?_
  refine cs_0 hC d_Mod_image_8 (c_cp_nk) mi_Mod_copyRow ml_Mod_64 sm_Mod_copyRow ⟨Nat.le_of_ble_eq_true rfl, Nat.le_of_ble_eq_true rfl⟩ ⟨Nat.le_of_ble_eq_true rfl, Nat.le_of_ble_eq_true rfl⟩ rfl rfl (Nat.le_of_ble_eq_true rfl) ?_
  refine ev_aload_n rfl hC d_Mod_image_11 ?_
  refine ev_iconst (v := 1) rfl hC d_Mod_image_12 ?_
  refine pv_Mod_isKept (by first | exact Or.inl rfl | exact Or.inr rfl | exact bi_or _ | assumption) hC d_Mod_image_13 fl_Mod_322  ?_
  refine ev_iconst (v := 1) rfl hC d_Mod_image_16 ?_
  exact ev_iret hC hR d_Mod_image_17 rfl (rfl) (rfl)

set_option maxHeartbeats 2000000 in
set_option maxRecDepth 10000 in
theorem c_Mod_undo {G : ex_G} {M : ex_M}  : Con G Y_Mod_undo 1 22 0 0 [.ref (ex_b G + 71)] (ce G M) (some (.int (R_undo M).1)) (ce G ((R_undo M).2)) := by
  refine Con.ofF (plainFor_of_name (by decide +kernel)) (Nat.le_of_ble_eq_true rfl) (fun C hC hR => ?_)
  show Ev G C Y_Mod_undo 0 [some (.ref (ex_b G + 71))] [] 0 0 (ce G M)
  refine ev_aload_n rfl hC d_Mod_undo_0 ?_
  refine gv_Mod_isKept hC d_Mod_undo_1 fl_Mod_322  ?_
  refine ev_if_ne 14 hC d_Mod_undo_4 rfl (fun h_4 => ?_) (fun h_4 => ?_)
  · refine ev_aload_n rfl hC d_Mod_undo_14 ?_
    refine gv_Mod_kept hC d_Mod_undo_15 fl_Mod_13  ?_
    refine ev_aload_n rfl hC d_Mod_undo_18 ?_
    refine gv_Mod_now hC d_Mod_undo_19 fl_Mod_9  ?_
    refine cs_0 hC d_Mod_undo_22 (c_cp_kn) mi_Mod_copyRow ml_Mod_64 sm_Mod_copyRow ⟨Nat.le_of_ble_eq_true rfl, Nat.le_of_ble_eq_true rfl⟩ ⟨Nat.le_of_ble_eq_true rfl, Nat.le_of_ble_eq_true rfl⟩ rfl rfl (Nat.le_of_ble_eq_true rfl) ?_
    refine ev_aload_n rfl hC d_Mod_undo_25 ?_
    refine gv_Mod_now hC d_Mod_undo_26 fl_Mod_9  ?_
    refine ev_iconst (v := nI 3) rfl hC d_Mod_undo_29 ?_
    refine ga_now hC d_Mod_undo_30 (by first | assumption | omega) ?_
    exact ev_iret hC hR d_Mod_undo_31 rfl (by rw [R_undo, if_neg h_4]; simp only [mI, wr_s]; rw [cpf_lt (by omega)]) (by rw [R_undo, if_neg h_4])
  · refine ev_aload_n rfl hC d_Mod_undo_7 ?_
    refine ev_ldc kc_Mod_195 hC d_Mod_undo_8 ?_
    refine cv_Mod1 hC d_Mod_undo_10 (c_Mod_finding (k := 3) (by omega) (by decide +kernel)) mi_Mod_finding ml_Mod_82 im_Mod_finding se_Mod_finding rfl ⟨Nat.le_of_ble_eq_true rfl, Nat.le_of_ble_eq_true rfl⟩ ⟨Nat.le_of_ble_eq_true rfl, Nat.le_of_ble_eq_true rfl⟩ rfl rfl (Nat.le_of_ble_eq_true rfl)  ?_
    exact ev_iret hC hR d_Mod_undo_13 rfl (by rw [R_undo, if_pos h_4]; rfl) (by rw [R_undo, if_pos h_4])

set_option maxHeartbeats 2000000 in
set_option maxRecDepth 10000 in
theorem c_Mod_tear {G : ex_G} {M : ex_M}  : Con G Y_Mod_tear 0 0 0 0 [.ref (ex_b G + 71)] (ce G M) (some (.int (R_tear M).1)) (ce G ((R_tear M).2)) := by
  refine Con.ofF (plainFor_of_name (by decide +kernel)) (Nat.le_of_ble_eq_true rfl) (fun C hC hR => ?_)
  show Ev G C Y_Mod_tear 0 [some (.ref (ex_b G + 71))] [] 0 0 (ce G M)
  refine ev_aload_n rfl hC d_Mod_tear_0 ?_
  refine gv_Mod_isKept hC d_Mod_tear_1 fl_Mod_322  ?_
  refine ev_if_eq 11 hC d_Mod_tear_4 rfl (fun h_4 => ?_) (fun h_4 => ?_)
  · refine ev_iconst (v := 0) rfl hC d_Mod_tear_11 ?_
    refine ev_istore_n (by decide) hC d_Mod_tear_12 ?_
    refine ev_aload_n rfl hC d_Mod_tear_13 ?_
    refine ev_iconst (v := 0) rfl hC d_Mod_tear_14 ?_
    refine pv_Mod_isKept (by first | exact Or.inl rfl | exact Or.inr rfl | exact bi_or _ | assumption) hC d_Mod_tear_15 fl_Mod_322  ?_
    refine ev_iload_n rfl hC d_Mod_tear_18 ?_
    exact ev_iret hC hR d_Mod_tear_19 rfl (by simp only [R_tear, h_4, if_true, if_false]) (rfl)
  · refine ev_iconst (v := 1) rfl hC d_Mod_tear_7 ?_
    refine ev_goto 12 hC d_Mod_tear_8 rfl ?_
    refine ev_istore_n (by decide) hC d_Mod_tear_12 ?_
    refine ev_aload_n rfl hC d_Mod_tear_13 ?_
    refine ev_iconst (v := 0) rfl hC d_Mod_tear_14 ?_
    refine pv_Mod_isKept (by first | exact Or.inl rfl | exact Or.inr rfl | exact bi_or _ | assumption) hC d_Mod_tear_15 fl_Mod_322  ?_
    refine ev_iload_n rfl hC d_Mod_tear_18 ?_
    exact ev_iret hC hR d_Mod_tear_19 rfl (by simp only [R_tear, h_4, if_true, if_false]) (rfl)

set_option maxHeartbeats 4000000 in
set_option maxRecDepth 10000 in
theorem lp_Mod_count {G : ex_G} {C : ex_C} {rr : Option Value} {ee : List va_E} {n : Nat} {a : Nat → Int32} {w0 : Int32} (hn : n ≤ 8) (hkn : ∀ p, p < n → ∃ k, k < 256 ∧ a (28 + 7 * p + 6) = nI k) (hC : Cx G C Y_Mod_count { frames := 2, cells := 0, slots := 0, locals := 43 }) (hR : Cr G C Y_Mod_count 0 0 rr ee) :
    ∀ (m i : Nat) (M : ex_M) (s : Int32), i + m = n → M.1 10 = a ∧ a 3 = nI n → rr = some (.int (cntF (M.1 10) m i s)) ∧ ee = ce G M → Ev G C Y_Mod_count 53 [some (.ref (ex_b G + 71)), some (.int w0), some (.int s), some (.int (nI i))] [] 0 0 (ce G (M)) := by
  intro m
  induction m with
  | zero =>
    intro i M s hm hc he
    refine ev_iload_n rfl hC d_Mod_count_53 ?_
    refine ev_aload_n rfl hC d_Mod_count_54 ?_
    refine gv_Mod_now hC d_Mod_count_55 fl_Mod_9  ?_
    refine ev_iconst (v := nI 3) rfl hC d_Mod_count_58 ?_
    refine ga_now hC d_Mod_count_59 (by first | assumption | omega) ?_
    refine ev_icmp_ge 82 hC d_Mod_count_60 rfl (fun _ => ?_) (fun h => absurd (by rw [hc.1, hc.2]; exact nI_le (by omega) (by omega)) h)
    refine ev_iload_n rfl hC d_Mod_count_82 ?_
    exact ev_iret hC hR d_Mod_count_83 rfl (by rw [he.1, cntF]) (he.2)
  | succ m ih =>
    intro i M s hm hc he
    have hi : i < 8 := by omega
    obtain ⟨k, hk, ek⟩ := hkn i (by omega)
    refine ev_iload_n rfl hC d_Mod_count_53 ?_
    refine ev_aload_n rfl hC d_Mod_count_54 ?_
    refine gv_Mod_now hC d_Mod_count_55 fl_Mod_9  ?_
    refine ev_iconst (v := nI 3) rfl hC d_Mod_count_58 ?_
    refine ga_now hC d_Mod_count_59 (by first | assumption | omega) ?_
    refine ev_icmp_ge 82 hC d_Mod_count_60 rfl (fun h => absurd h (by rw [hc.1, hc.2]; exact nI_ge (by omega) (by omega))) (fun _ => ?_)
    refine ev_iload_n rfl hC d_Mod_count_63 ?_
    refine ev_aload_n rfl hC d_Mod_count_64 ?_
    refine ev_iload_n rfl hC d_Mod_count_65 ?_
    refine ev_bipush (v := nI 6) rfl hC d_Mod_count_66 ?_
    refine cv_Mod1 hC d_Mod_count_68 (c_Mod_oneIs (by omega) (by omega)) mi_Mod_oneIs ml_Mod_94 im_Mod_oneIs se_Mod_oneIs rfl ⟨Nat.le_of_ble_eq_true rfl, Nat.le_of_ble_eq_true rfl⟩ ⟨Nat.le_of_ble_eq_true rfl, Nat.le_of_ble_eq_true rfl⟩ rfl rfl (Nat.le_of_ble_eq_true rfl)  ?_
    rw [hc.1, ek]
    refine cs_1 hC d_Mod_count_71 (c_Mod_bits hk) mi_Mod_bits ml_Mod_154 sm_Mod_bits ⟨Nat.le_of_ble_eq_true rfl, Nat.le_of_ble_eq_true rfl⟩ ⟨Nat.le_of_ble_eq_true rfl, Nat.le_of_ble_eq_true rfl⟩ rfl rfl (Nat.le_of_ble_eq_true rfl) ?_
    refine ev_iadd hC d_Mod_count_74 ?_
    refine ev_istore_n (by decide) hC d_Mod_count_75 ?_
    refine ev_iinc rfl (by decide) (nI_1 _) hC d_Mod_count_76 ?_
    refine ev_goto 53 hC d_Mod_count_79 rfl ?_
    exact ih (i + 1) M _ (by omega) hc (by rw [he.1, he.2, cntF]; simp only [hc.1, ek, nI_clamp (show k < 2 ^ 31 by omega)]; exact ⟨trivial, trivial⟩)

set_option maxHeartbeats 2000000 in
set_option maxRecDepth 10000 in
theorem c_Mod_count {G : ex_G} {M : ex_M} {np ne : Nat} {w0 : Int32} (w : WF (M.1 10) np ne) : Con G Y_Mod_count 2 43 0 0 [.ref (ex_b G + 71), .int w0] (ce G M) (some (.int (R_count M np w0).1)) (ce G ((R_count M np w0).2)) := by
  refine Con.ofF (plainFor_of_name (by decide +kernel)) (Nat.le_of_ble_eq_true rfl) (fun C hC hR => ?_)
  show Ev G C Y_Mod_count 0 [some (.ref (ex_b G + 71)), some (.int w0)] [] 0 0 (ce G M)
  obtain ⟨hc, hn, hc2, hn2, hmet, hkd, hkn⟩ := w
  refine ev_iconst (v := 0) rfl hC d_Mod_count_0 ?_
  refine ev_istore_n (by decide) hC d_Mod_count_1 ?_
  refine ev_iload_n rfl hC d_Mod_count_2 ?_
  refine sx_Mod_count_3 hC (fun h_3 => ?_) (fun h_3 => ?_) (fun h_3 => ?_) (fun h_3 => ?_) (fun h_3 => ?_)
  · refine ev_aload_n rfl hC d_Mod_count_84 ?_
    refine ev_ldc kc_Mod_63 hC d_Mod_count_85 ?_
    refine cv_Mod1 hC d_Mod_count_87 (c_Mod_finding (k := 0) (by omega) (by decide +kernel)) mi_Mod_finding ml_Mod_82 im_Mod_finding se_Mod_finding rfl ⟨Nat.le_of_ble_eq_true rfl, Nat.le_of_ble_eq_true rfl⟩ ⟨Nat.le_of_ble_eq_true rfl, Nat.le_of_ble_eq_true rfl⟩ rfl rfl (Nat.le_of_ble_eq_true rfl)  ?_
    exact ev_iret hC hR d_Mod_count_90 rfl (by have e0 := sw_ne h_3 0 (by decide) (by decide); have e1 := sw_ne h_3 1 (by decide) (by decide); have e2 := sw_ne h_3 2 (by decide) (by decide); have e3 := sw_ne h_3 3 (by decide) (by decide); simp only [R_count, rbad, e0, e1, e2, e3, if_true, if_false, cond_true, cond_false, decide_true, decide_false, Bool.not_true, Bool.not_false, Bool.or_true, Bool.true_or, Bool.or_false, Bool.false_or, Bool.and_true, Bool.and_false, Bool.true_and, Bool.false_and, Bool.or_self, Bool.and_self, eq_self] <;> first | rfl | (rfl)) (by have e0 := sw_ne h_3 0 (by decide) (by decide); have e1 := sw_ne h_3 1 (by decide) (by decide); have e2 := sw_ne h_3 2 (by decide) (by decide); have e3 := sw_ne h_3 3 (by decide) (by decide); simp only [R_count, rbad, e0, e1, e2, e3, if_true, if_false, cond_true, cond_false, decide_true, decide_false, Bool.not_true, Bool.not_false, Bool.or_true, Bool.true_or, Bool.or_false, Bool.false_or, Bool.and_true, Bool.and_false, Bool.true_and, Bool.false_and, Bool.or_self, Bool.and_self, eq_self] <;> first | rfl | (rfl))
  · refine ev_aload_n rfl hC d_Mod_count_32 ?_
    refine gv_Mod_now hC d_Mod_count_33 fl_Mod_9  ?_
    refine ev_iconst (v := nI 3) rfl hC d_Mod_count_36 ?_
    refine ga_now hC d_Mod_count_37 (by first | assumption | omega) ?_
    exact ev_iret hC hR d_Mod_count_38 rfl (by subst h_3; simp only [R_count, rbad, if_true, if_false, cond_true, cond_false, decide_true, decide_false, Bool.not_true, Bool.not_false, Bool.or_true, Bool.true_or, Bool.or_false, Bool.false_or, Bool.and_true, Bool.and_false, Bool.true_and, Bool.false_and, Bool.or_self, Bool.and_self, eq_self] <;> first | rfl | (rfl)) (by subst h_3; simp only [R_count, rbad, if_true, if_false, cond_true, cond_false, decide_true, decide_false, Bool.not_true, Bool.not_false, Bool.or_true, Bool.true_or, Bool.or_false, Bool.false_or, Bool.and_true, Bool.and_false, Bool.true_and, Bool.false_and, Bool.or_self, Bool.and_self, eq_self] <;> first | rfl | (rfl))
  · refine ev_aload_n rfl hC d_Mod_count_39 ?_
    refine gv_Mod_now hC d_Mod_count_40 fl_Mod_9  ?_
    refine ev_iconst (v := nI 2) rfl hC d_Mod_count_43 ?_
    refine ga_now hC d_Mod_count_44 (by first | assumption | omega) ?_
    exact ev_iret hC hR d_Mod_count_45 rfl (by subst h_3; simp only [R_count, rbad, if_true, if_false, cond_true, cond_false, decide_true, decide_false, Bool.not_true, Bool.not_false, Bool.or_true, Bool.true_or, Bool.or_false, Bool.false_or, Bool.and_true, Bool.and_false, Bool.true_and, Bool.false_and, Bool.or_self, Bool.and_self, eq_self] <;> first | rfl | (rfl)) (by subst h_3; simp only [R_count, rbad, if_true, if_false, cond_true, cond_false, decide_true, decide_false, Bool.not_true, Bool.not_false, Bool.or_true, Bool.true_or, Bool.or_false, Bool.false_or, Bool.and_true, Bool.and_false, Bool.true_and, Bool.false_and, Bool.or_self, Bool.and_self, eq_self] <;> first | rfl | (rfl))
  · refine ev_aload_n rfl hC d_Mod_count_46 ?_
    refine gv_Mod_taped hC d_Mod_count_47 fl_Mod_222  ?_
    exact ev_iret hC hR d_Mod_count_50 rfl (by subst h_3; simp only [R_count, rbad, if_true, if_false, cond_true, cond_false, decide_true, decide_false, Bool.not_true, Bool.not_false, Bool.or_true, Bool.true_or, Bool.or_false, Bool.false_or, Bool.and_true, Bool.and_false, Bool.true_and, Bool.false_and, Bool.or_self, Bool.and_self, eq_self] <;> first | rfl | (rfl)) (by subst h_3; simp only [R_count, rbad, if_true, if_false, cond_true, cond_false, decide_true, decide_false, Bool.not_true, Bool.not_false, Bool.or_true, Bool.true_or, Bool.or_false, Bool.false_or, Bool.and_true, Bool.and_false, Bool.true_and, Bool.false_and, Bool.or_self, Bool.and_self, eq_self] <;> first | rfl | (rfl))
  · refine ev_iconst (v := nI 0) rfl hC d_Mod_count_51 ?_
    refine ev_istore_n (by decide) hC d_Mod_count_52 ?_
    refine lp_Mod_count (a := M.1 10) hn hkn hC hR np 0 M 0 (by omega) ⟨rfl, hc⟩ ?_
    simp only [R_count, h_3, show ¬ nI 3 = 0 by decide, show ¬ nI 3 = 1 by decide, show ¬ nI 3 = 2 by decide, if_true, if_false]
    exact ⟨rfl, rfl⟩

set_option maxHeartbeats 2000000 in
set_option maxRecDepth 10000 in
theorem c_Mod_status {G : ex_G} {M : ex_M} {w0 : Int32} : Con G Y_Mod_status 1 22 0 0 [.ref (ex_b G + 71), .int w0] (ce G M) (some (.int (R_status M w0).1)) (ce G ((R_status M w0).2)) := by
  refine Con.ofF (plainFor_of_name (by decide +kernel)) (Nat.le_of_ble_eq_true rfl) (fun C hC hR => ?_)
  show Ev G C Y_Mod_status 0 [some (.ref (ex_b G + 71)), some (.int w0)] [] 0 0 (ce G M)
  refine ev_iload_n rfl hC d_Mod_status_0 ?_
  refine ev_iconst (v := -1) rfl hC d_Mod_status_1 ?_
  refine ev_bipush (v := 6) rfl hC d_Mod_status_2 ?_
  refine cs_1 hC d_Mod_status_4 (c_Mod_within ) mi_Mod_within ml_Mod_68 sm_Mod_within ⟨Nat.le_of_ble_eq_true rfl, Nat.le_of_ble_eq_true rfl⟩ ⟨Nat.le_of_ble_eq_true rfl, Nat.le_of_ble_eq_true rfl⟩ rfl rfl (Nat.le_of_ble_eq_true rfl) ?_
  refine en_eq 21 hC d_Mod_status_7 rfl (fun h_7 => ?_) (fun h_7 => ?_)
  · refine ev_aload_n rfl hC d_Mod_status_21 ?_
    refine ev_ldc kc_Mod_63 hC d_Mod_status_22 ?_
    refine cv_Mod1 hC d_Mod_status_24 (c_Mod_finding (k := 0) (by omega) (by decide +kernel)) mi_Mod_finding ml_Mod_82 im_Mod_finding se_Mod_finding rfl ⟨Nat.le_of_ble_eq_true rfl, Nat.le_of_ble_eq_true rfl⟩ ⟨Nat.le_of_ble_eq_true rfl, Nat.le_of_ble_eq_true rfl⟩ rfl rfl (Nat.le_of_ble_eq_true rfl)  ?_
    exact ev_iret hC hR d_Mod_status_27 rfl (by simp only [R_status, rbad, h_7, if_true, if_false, cond_true, cond_false, decide_true, decide_false, Bool.not_true, Bool.not_false, Bool.or_true, Bool.true_or, Bool.or_false, Bool.false_or, Bool.and_true, Bool.and_false, Bool.true_and, Bool.false_and, Bool.or_self, Bool.and_self, eq_self] <;> rfl) (by simp only [R_status, rbad, h_7, if_true, if_false, cond_true, cond_false, decide_true, decide_false, Bool.not_true, Bool.not_false, Bool.or_true, Bool.true_or, Bool.or_false, Bool.false_or, Bool.and_true, Bool.and_false, Bool.true_and, Bool.false_and, Bool.or_self, Bool.and_self, eq_self] <;> rfl)
  · refine ev_aload_n rfl hC d_Mod_status_10 ?_
    refine gv_Mod_found hC d_Mod_status_11 fl_Mod_19  ?_
    refine ev_iload_n rfl hC d_Mod_status_14 ?_
    refine ev_iconst (v := 1) rfl hC d_Mod_status_15 ?_
    refine ev_iadd hC d_Mod_status_16 ?_
    obtain ⟨j, hj, ej⟩ := out_m1 h_7
    rw [ej]
    refine ga_found hC d_Mod_status_17 (by first | assumption | omega) ?_
    refine ev_goto 27 hC d_Mod_status_18 rfl ?_
    exact ev_iret hC hR d_Mod_status_27 rfl (by simp only [R_status, h_7, ej, ix, nI_clamp (show j < 2 ^ 31 by omega), cond_false]) (by simp only [R_status, h_7, cond_false])

set_option maxHeartbeats 4000000 in
set_option maxRecDepth 10000 in
theorem lp_Mod_feed {G : ex_G} {C : ex_C} {rr : Option Value} {ee : List va_E} {b x : Int32} (hC : Cx G C Y_Mod_feed { frames := 1, cells := 0, slots := 0, locals := 22 }) (hR : Cr G C Y_Mod_feed 0 0 rr ee) :
    ∀ (m l : Nat) (M : ex_M), l + m ≤ 120 → M.1 14 3 = nI l → rr = some (.int ((fdR b m l M).1 14 3)) ∧ ee = ce G (fdR b m l M) → Ev G C Y_Mod_feed 38 [some (.ref (ex_b G + 71)), some (.int b), some (.int x), some (.int (nI m - 1))] [] 0 0 (ce G M) := by
  intro m
  induction m with
  | zero =>
    intro l M hl hc he
    refine ev_iload_n rfl hC d_Mod_feed_38 ?_
    refine ev_if_lt 77 hC d_Mod_feed_39 rfl (fun _ => ?_) (fun h => absurd (by decide) h)
    refine ev_aload_n rfl hC d_Mod_feed_77 ?_
    refine gv_Mod_taped hC d_Mod_feed_78 fl_Mod_222  ?_
    exact ev_iret hC hR d_Mod_feed_81 rfl (by rw [he.1]; rfl) (he.2)
  | succ m ih =>
    intro l M hl hc he
    rw [nI_pred m]
    refine ev_iload_n rfl hC d_Mod_feed_38 ?_
    refine ev_if_lt 77 hC d_Mod_feed_39 rfl (fun h => absurd h (nI_pos (by omega))) (fun _ => ?_)
    refine ev_aload_n rfl hC d_Mod_feed_42 ?_
    refine gv_Mod_tape hC d_Mod_feed_43 fl_Mod_26  ?_
    refine ev_aload_n rfl hC d_Mod_feed_46 ?_
    refine gv_Mod_taped hC d_Mod_feed_47 fl_Mod_222  ?_
    rw [hc]
    refine ev_iload_n rfl hC d_Mod_feed_50 ?_
    refine ev_bipush (v := 8) rfl hC d_Mod_feed_51 ?_
    refine ev_iload_n rfl hC d_Mod_feed_53 ?_
    refine ev_imul hC d_Mod_feed_54 ?_
    refine ev_ishr hC d_Mod_feed_55 ?_
    refine ev_sipush (v := 255) rfl hC d_Mod_feed_56 ?_
    refine ev_iand hC d_Mod_feed_59 ?_
    refine pa_tape hC d_Mod_feed_60 (by first | assumption | omega) ?_
    refine ev_aload_n rfl hC d_Mod_feed_61 ?_
    refine ev_dup rfl hC d_Mod_feed_62 ?_
    refine gv_Mod_taped hC d_Mod_feed_63 fl_Mod_222  ?_
    refine ev_iconst (v := 1) rfl hC d_Mod_feed_66 ?_
    refine ev_iadd hC d_Mod_feed_67 ?_
    refine pv_Mod_taped hC d_Mod_feed_68 fl_Mod_222  ?_
    refine ev_iinc rfl (by decide) (rfl) hC d_Mod_feed_71 ?_
    refine ev_goto 38 hC d_Mod_feed_74 rfl ?_
    rw [show nI m + Int32.ofInt (-1) = nI m - 1 by rw [show Int32.ofInt (-1) = -(1 : Int32) by decide, ← Int32.sub_eq_add_neg]]
    refine Ev.to (ih (l + 1) (rapp M l (shR b m)) (by omega) (rapp_3 _ _ _) (by rw [he.1, he.2, fdR]; exact ⟨rfl, rfl⟩)) rfl rfl (by simp only [rapp, shR, mJ, wr_n (show (14 : Nat) ≠ 15 by decide), hc, nI_1])

set_option maxHeartbeats 2000000 in
set_option maxRecDepth 10000 in
theorem c_Mod_feed {G : ex_G} {M : ex_M} {l : Nat} {b n : Int32} (hl : l ≤ 120) (hc : M.1 14 3 = nI l) : Con G Y_Mod_feed 1 22 0 0 [.ref (ex_b G + 71), .int b, .int n] (ce G M) (some (.int (R_feed M b n).1)) (ce G ((R_feed M b n).2)) := by
  refine Con.ofF (plainFor_of_name (by decide +kernel)) (Nat.le_of_ble_eq_true rfl) (fun C hC hR => ?_)
  show Ev G C Y_Mod_feed 0 [some (.ref (ex_b G + 71)), some (.int b), some (.int n)] [] 0 0 (ce G M)
  refine ev_iload_n rfl hC d_Mod_feed_0 ?_
  refine ev_iconst (v := 1) rfl hC d_Mod_feed_1 ?_
  refine ev_iconst (v := 4) rfl hC d_Mod_feed_2 ?_
  refine cs_1 hC d_Mod_feed_3 (c_Mod_within ) mi_Mod_within ml_Mod_68 sm_Mod_within ⟨Nat.le_of_ble_eq_true rfl, Nat.le_of_ble_eq_true rfl⟩ ⟨Nat.le_of_ble_eq_true rfl, Nat.le_of_ble_eq_true rfl⟩ rfl rfl (Nat.le_of_ble_eq_true rfl) ?_
  refine en_ne 16 hC d_Mod_feed_6 rfl (fun h_6 => ?_) (fun h_6 => ?_)
  · refine ev_aload_n rfl hC d_Mod_feed_16 ?_
    refine gv_Mod_taped hC d_Mod_feed_17 fl_Mod_222  ?_
    refine ev_iload_n rfl hC d_Mod_feed_20 ?_
    refine ev_iadd hC d_Mod_feed_21 ?_
    refine ev_bipush (v := 120) rfl hC d_Mod_feed_22 ?_
    refine ev_icmp_le 34 hC d_Mod_feed_24 rfl (fun h_24 => ?_) (fun h_24 => ?_)
    · obtain ⟨n1, hn1, rfl⟩ := out_1 (n := 4) (by decide) h_6
      have cn : (nI n1).toNatClampNeg = n1 := nI_clamp (by omega)
      have cl : (nI l).toNatClampNeg = l := nI_clamp (by omega)
      have hle : l + n1 ≤ 120 := by
        have h1 := h_24
        rw [hc, nI_add, show (120 : Int32) = nI 120 from rfl] at h1
        exact (nI_leI (by omega) (by omega)).mp h1
      refine ev_iload_n rfl hC d_Mod_feed_34 ?_
      refine ev_iconst (v := 1) rfl hC d_Mod_feed_35 ?_
      refine ev_isub hC d_Mod_feed_36 ?_
      refine ev_istore_n (by decide) hC d_Mod_feed_37 ?_
      refine lp_Mod_feed hC hR n1 l M hle hc ?_
      simp only [R_feed, h_6, cond_false, if_pos h_24, ix, cn]
      rw [hc, cl, fdR_3 b n1 l M hc, nI_add]
      exact ⟨rfl, rfl⟩
    · refine ev_aload_n rfl hC d_Mod_feed_27 ?_
      refine ev_ldc kc_Mod_90 hC d_Mod_feed_28 ?_
      refine cv_Mod1 hC d_Mod_feed_30 (c_Mod_finding (k := 1) (by omega) (by decide +kernel)) mi_Mod_finding ml_Mod_82 im_Mod_finding se_Mod_finding rfl ⟨Nat.le_of_ble_eq_true rfl, Nat.le_of_ble_eq_true rfl⟩ ⟨Nat.le_of_ble_eq_true rfl, Nat.le_of_ble_eq_true rfl⟩ rfl rfl (Nat.le_of_ble_eq_true rfl)  ?_
      exact ev_iret hC hR d_Mod_feed_33 rfl (by simp only [R_feed, rbad, h_6, h_24, if_true, if_false, cond_true, cond_false, decide_true, decide_false, Bool.not_true, Bool.not_false, Bool.or_true, Bool.true_or, Bool.or_false, Bool.false_or, Bool.and_true, Bool.and_false, Bool.true_and, Bool.false_and, Bool.or_self, Bool.and_self, eq_self] <;> first | rfl | (rfl)) (by simp only [R_feed, rbad, h_6, h_24, if_true, if_false, cond_true, cond_false, decide_true, decide_false, Bool.not_true, Bool.not_false, Bool.or_true, Bool.true_or, Bool.or_false, Bool.false_or, Bool.and_true, Bool.and_false, Bool.true_and, Bool.false_and, Bool.or_self, Bool.and_self, eq_self] <;> first | rfl | (rfl))
  · refine ev_aload_n rfl hC d_Mod_feed_9 ?_
    refine ev_ldc kc_Mod_63 hC d_Mod_feed_10 ?_
    refine cv_Mod1 hC d_Mod_feed_12 (c_Mod_finding (k := 0) (by omega) (by decide +kernel)) mi_Mod_finding ml_Mod_82 im_Mod_finding se_Mod_finding rfl ⟨Nat.le_of_ble_eq_true rfl, Nat.le_of_ble_eq_true rfl⟩ ⟨Nat.le_of_ble_eq_true rfl, Nat.le_of_ble_eq_true rfl⟩ rfl rfl (Nat.le_of_ble_eq_true rfl)  ?_
    exact ev_iret hC hR d_Mod_feed_15 rfl (by simp only [R_feed, rbad, h_6, if_true, if_false, cond_true, cond_false, decide_true, decide_false, Bool.not_true, Bool.not_false, Bool.or_true, Bool.true_or, Bool.or_false, Bool.false_or, Bool.and_true, Bool.and_false, Bool.true_and, Bool.false_and, Bool.or_self, Bool.and_self, eq_self] <;> first | rfl | (rfl)) (by simp only [R_feed, rbad, h_6, if_true, if_false, cond_true, cond_false, decide_true, decide_false, Bool.not_true, Bool.not_false, Bool.or_true, Bool.true_or, Bool.or_false, Bool.false_or, Bool.and_true, Bool.and_false, Bool.true_and, Bool.false_and, Bool.or_self, Bool.and_self, eq_self] <;> first | rfl | (rfl))
