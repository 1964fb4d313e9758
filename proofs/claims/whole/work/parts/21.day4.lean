theorem out_ix2 {v x : Int32} {n : Nat} (hx : x = nI n) (hn : n < 2 ^ 30) (h : out v 0 (x - 1) = false) : ∃ i, i < n ∧ v = nI i := by
  simp only [out, Bool.or_eq_false_iff, decide_eq_false_iff_not] at h
  obtain ⟨h1, h2⟩ := h
  obtain ⟨j, hj, rfl⟩ := nI_of h1
  refine ⟨j, ?_, rfl⟩
  rcases Nat.lt_or_ge j n with hl | hl
  · exact hl
  · exfalso
    apply h2
    rw [hx]
    rcases Nat.eq_zero_or_pos n with h0 | h0
    · subst h0
      have : nI 0 - 1 < 0 := by decide
      have h3 : (0 : Int32) ≤ nI j := nI_pos' hj
      rw [Int32.lt_iff_toInt_lt] at this ⊢
      rw [Int32.le_iff_toInt_le] at h3
      exact Int.lt_of_lt_of_le this h3
    · rw [show n = n - 1 + 1 by omega, nI_pred]
      exact nI_lt (by omega) hj
/-! images, counts -/
def D_image (M : ex_M) (np ne : Nat) : Int32 × ex_M := (1, mJ (mI M 2 (becR (M.1 2) (M.1 0) np ne)) 3 0 1)
def D_undo (M : ex_M) (kp ke : Nat) : Int32 × ex_M := if M.1 3 0 = 0 then bad M 3 else (M.1 2 3, mI M 0 (becR (M.1 0) (M.1 2) kp ke))
def D_tear (M : ex_M) : Int32 × ex_M := (if M.1 3 0 = 0 then 0 else 1, mJ M 3 0 0)
def D_count (M : ex_M) (np : Nat) (w : Int32) : Int32 × ex_M := if w = 0 then (M.1 0 3, M) else if w = 1 then (M.1 0 2, M) else if w = 2 then (M.1 3 3, M) else if w = 3 then (cntF (M.1 0) np 0 0, M) else bad M 0
def tolF (a : Nat → Int32) : Nat → Nat → Int32 → Int32
  | 0, _, s => s
  | m + 1, i, s => tolF a m (i + 1) (s + a i)
def D_status (M : ex_M) (w : Int32) : Int32 × ex_M := bif out w (-1) 6 then bad M 0 else if w < 0 then (tolF (M.1 5) 7 0 0, M) else (M.1 5 (ix w), M)
def D_wipe (M : ex_M) : Int32 × ex_M := (M.1 3 3, mJ M 3 3 0)
/-! the tape -/
def app (M : ex_M) (l : Nat) (v : Int32) : ex_M := mJ (mJ M 4 l v) 3 3 (nI (l + 1))
def shB (b : Int32) (m : Nat) : Int32 := (b.toUInt32 >>> ((8 * nI m).toUInt32 &&& Int32.toUInt32 31)).toInt32 &&& 255
def fdL (b : Int32) : Nat → Nat → ex_M → ex_M
  | 0, _, M => M
  | m + 1, l, M => fdL b m (l + 1) (app M l (shB b m))
def D_feed (M : ex_M) (b n : Int32) : Int32 × ex_M := bif out n 1 4 then bad M 0 else if M.1 3 3 + n ≤ 120 then (M.1 3 3 + n, fdL b (ix n) (ix (M.1 3 3)) M) else bad M 1
theorem app_3 (M : ex_M) (l : Nat) (v : Int32) : (app M l v).1 3 3 = nI (l + 1) := by simp only [app, mJ, wr_s, ud_s]
theorem fdL_3 (b : Int32) : ∀ m l M, M.1 3 3 = nI l → (fdL b m l M).1 3 3 = nI (l + m)
  | 0, _, _, h => h
  | m + 1, l, M, h => by rw [fdL, fdL_3 b m (l + 1) _ (app_3 M l _), show l + 1 + m = l + (m + 1) by omega]
/-! sheets -/
def WS (a : Nat → Int32) : Prop := ∀ s, s < 4 → ∃ l, l ≤ 40 ∧ a (2 * s + 1) = nI l
def zf (k : Nat) (f : Nat → Int64) : Nat → Int64 := fun j => if j < k then 0 else f j
theorem zf_0 (f : Nat → Int64) : zf 0 f = f := by funext j; simp [zf]
theorem zf_s (k : Nat) (f : Nat → Int64) : vp_updL (zf k f) k 0 = zf (k + 1) f := by
  funext j
  simp only [vp_updL, zf]
  by_cases h : j = k
  · rw [if_pos h, if_pos (by omega)]
  · rw [if_neg h]
    by_cases h2 : j < k
    · rw [if_pos h2, if_pos (by omega)]
    · rw [if_neg h2, if_neg (by omega)]
theorem mL_mL (M : ex_M) (r : Nat) (a b : Nat → Int64) : mL (mL M r a) r b = mL M r b := by simp only [mL, wr_wr]
def shBeg (M : ex_M) (s : Nat) (b n : Int32) : ex_M := mL (mJ (mJ M 6 (2 * s + 0) b) 6 (2 * s + 1) (if b = 0 then 0 else n)) s (zf 40 (M.2 s))
def bitsOk (b : Int32) : Bool := decide (b = 0) || (decide (b = 8) || (decide (b = 16) || decide (b = 64)))
def D_sheet (M : ex_M) (s b n : Int32) : Int32 × ex_M := bif out s 0 3 || !bitsOk b then bad M 0 else if 0 ≤ n then (if n ≤ 40 then (if b = 0 then 0 else n, shBeg M (ix s) b n) else bad M 0) else bad M 6
def ctI (b : Int32) (v : Int64) : Int64 := if b = 8 then v.toInt32.toInt8.toInt32.toInt64 else if b = 16 then v.toInt32.toInt16.toInt32.toInt64 else v
def shPut (M : ex_M) (s k : Nat) (v : Int64) : ex_M := mL M s (vp_updL (M.2 s) k (ctI (M.1 6 (2 * s + 0)) v))
def fo (M : ex_M) (s : Int32) : Int32 := bif out s 0 3 then fnd 0 else if M.1 6 (2 * ix s + 0) = 0 then fnd 5 else 0
def badv (M : ex_M) (v : Int32) : Int32 × ex_M := if v = fnd 0 then bad M 0 else bad M 5
theorem fo_n {M : ex_M} {s : Int32} (h : ¬ fo M s = 0) : fo M s = fnd 0 ∨ fo M s = fnd 5 := by
  unfold fo at h ⊢
  cases h1 : out s 0 3 with
  | true => exact Or.inl rfl
  | false =>
    rw [h1, cond_false] at h
    rw [cond_false]
    by_cases h2 : M.1 6 (2 * ix s + 0) = 0
    · rw [if_pos h2]; exact Or.inr rfl
    · rw [if_neg h2] at h; exact absurd rfl h
theorem fo_0 {M : ex_M} {s : Int32} (h : fo M s = 0) : ∃ i, i < 4 ∧ s = nI i ∧ ¬ M.1 6 (2 * i + 0) = 0 := by
  unfold fo at h
  cases h1 : out s 0 3 with
  | true => rw [h1, cond_true] at h; exact absurd h (by decide +kernel)
  | false =>
    rw [h1, cond_false] at h
    obtain ⟨i, hi, rfl⟩ := out_nat (n := 3) (by decide) h1
    refine ⟨i, by omega, rfl, fun h2 => ?_⟩
    rw [ix, nI_clamp (by omega), if_pos h2] at h
    exact absurd h (by decide +kernel)
theorem c_Day_refuse_fo {G : ex_G} {M : ex_M} {v : Int32} (hv : v = fnd 0 ∨ v = fnd 5) : Con G Y_Day_refuse 0 0 0 0 [.ref (ex_b G + 0), .int v] (ce G M) (some (.int v)) (ce G (badv M v).2) := by
  rcases hv with h | h
  · refine Con.to (c_Day_refuse (k := 0) (by omega) h) rfl ?_
    rw [badv, if_pos h]
  · refine Con.to (c_Day_refuse (k := 5) (by omega) h) rfl ?_
    rw [badv, if_neg (by rw [h]; decide +kernel)]
def D_write (M : ex_M) (s i : Int32) (v : Int64) : Int64 × ex_M := if fo M s = 0 then (bif out i 0 (M.1 6 (2 * ix s + 1) - 1) then ((fnd 0).toInt64, (bad M 0).2) else (M.2 (ix s) (ix i), shPut M (ix s) (ix i) v)) else ((fo M s).toInt64, (badv M (fo M s)).2)
def holdsB (len f n : Int32) : Bool := !decide (f < 0) && (!decide (n < 0) && (!decide (len < n) && !decide (len - n < f)))
def D_copy (M : ex_M) (s f t o n : Int32) : Int32 × ex_M := bif out s 0 3 || out t 0 3 then bad M 0 else
  bif decide (M.1 6 (2 * ix s + 0) = 0) || decide (M.1 6 (2 * ix t + 0) = 0) then bad M 5 else
  if M.1 6 (2 * ix s + 0) = M.1 6 (2 * ix t + 0) then (bif holdsB (M.1 6 (2 * ix s + 1)) f n && holdsB (M.1 6 (2 * ix t + 1)) o n then (n, mL M (ix t) (va_cpy (M.2 (ix s)) (M.2 (ix t)) (ix f) (ix o) (ix n))) else bad M 0) else bad M 2
theorem holds_of {l : Nat} {f n : Int32} (hl : l ≤ 40) (h : holdsB (nI l) f n = true) : ∃ a k, f = nI a ∧ n = nI k ∧ a + k ≤ l := by
  simp only [holdsB, Bool.and_eq_true, Bool.not_eq_true', decide_eq_false_iff_not] at h
  obtain ⟨h1, h2, h3, h4⟩ := h
  obtain ⟨a, ha, rfl⟩ := nI_of h1
  obtain ⟨k, hk, rfl⟩ := nI_of h2
  have hkl : k ≤ l := by
    rcases Nat.lt_or_ge l k with h | h
    · exact absurd (nI_lt h hk) h3
    · exact h
  rw [pk_sub hkl] at h4
  refine ⟨a, k, rfl, rfl, ?_⟩
  rcases Nat.lt_or_ge (l - k) a with h | h
  · exact absurd (nI_lt h ha) h4
  · omega
/-- purses out of a sheet: m rounds from i on; how many, and the row -/
def layL (nums : Nat → Int64) : Nat → Nat → Int32 → (Nat → Int32) → Int32 × (Nat → Int32)
  | 0, _, c, a => (c, a)
  | m + 1, i, c, a => if nums i < 0 ∨ 9999 < nums i then layL nums m (i + 1) c a else layL nums m (i + 1) (c + 1) (upd a (28 + 7 * i + 2) (nums i).toInt32)
def D_lays (M : ex_M) (np l : Nat) (s : Int32) : Int32 × ex_M := if fo M s = 0 then ((layL (M.2 (ix s)) (min l np) 0 0 (M.1 0)).1, mI M 0 (layL (M.2 (ix s)) (min l np) 0 0 (M.1 0)).2) else (fo M s, (badv M (fo M s)).2)
/-- a book: m numbers from i on -/
def bokL (np ne j s : Nat) : Nat → Nat → ex_M → ex_M
  | 0, _, M => M
  | m + 1, i, M => bokL np ne j s m (i + 1) (mI (shPut M s i (M.1 1 (28 + 7 * j + 2)).toInt64) 1 (hourC np ne (M.1 1)))
def D_book (M : ex_M) (np ne l : Nat) (s p : Int32) : Int32 × ex_M := if fo M s = 0 then (bif out p 0 (M.1 0 3 - 1) then bad M 0 else (nI l, bokL np ne (ix p) (ix s) l 0 (tr0 M np ne))) else (fo M s, (badv M (fo M s)).2)
/-- does a trial fit a sheet's numbers: m of them from k on -/
def tfL (np ne j : Nat) (nums : Nat → Int64) : Nat → Nat → (Nat → Int32) → Bool × (Nat → Int32)
  | 0, _, b => (true, b)
  | m + 1, k, b => if nums k = (b (28 + 7 * j + 2)).toInt64 then tfL np ne j nums m (k + 1) (hourC np ne b) else (false, b)
def muR (p v : Nat) (b : Nat → Int32) : Nat → Int32 := upd (upd b (28 + 7 * p + 3) (nI (v / 25) - 1)) (28 + 7 * p + 4) (nI (v % 25) - 1)
def rdL (np ne j l : Nat) (nums : Nat → Int64) (q : Nat → Int32) : Nat → Nat → Int32 × (Nat → Int32) → Int32 × (Nat → Int32)
  | 0, _, z => z
  | m + 1, v, z => rdL np ne j l nums q m (v + 1) (if (tfL np ne j nums l 0 (muR j v (becR z.2 q np ne))).1 = true then z.1 + 1 else z.1, (tfL np ne j nums l 0 (muR j v (becR z.2 q np ne))).2)
def zRead (M : ex_M) (np ne l : Nat) (s p : Int32) := rdL np ne (ix p) l (M.2 (ix s)) (M.1 0) 625 0 (0, M.1 1)
def D_read (M : ex_M) (np ne l : Nat) (s p : Int32) : Int32 × ex_M := if fo M s = 0 then (bif out p 0 (M.1 0 3 - 1) then bad M 0 else ((zRead M np ne l s p).1, mI M 1 (zRead M np ne l s p).2)) else (fo M s, (badv M (fo M s)).2)

set_option maxHeartbeats 2000000 in
set_option maxRecDepth 10000 in
theorem c_Day_image {G : ex_G} {M : ex_M} {np ne : Nat}  (w : WF (M.1 0) np ne) : Con G Y_Day_image 2 43 0 0 [.ref (ex_b G + 0)] (ce G M) (some (.int (D_image M np ne).1)) (ce G ((D_image M np ne).2)) := by
  refine Con.ofF (plainFor_of_name (by decide +kernel)) (Nat.le_of_ble_eq_true rfl) (fun C hC hR => ?_)
  show Ev G C Y_Day_image 0 [some (.ref (ex_b G + 0))] [] 0 0 (ce G M)
  obtain ⟨hc, hn, hc2, hn2, hmet, hkd, hkn⟩ := w
  refine ev_aload_n rfl hC d_Day_image_0 ?_
  refine gv_Day_kept hC d_Day_image_1 fl_Day_19  ?_
  refine ev_aload_n rfl hC d_Day_image_4 ?_
  refine gv_Day_present hC d_Day_image_5 fl_Day_12  ?_
  refine cv_River0 hC d_Day_image_8 (c_River_become hn hn2 (by decide) (by decide) (by decide) hc hc2 hmet) mi_River_become ml_Day_239 im_River_become se_River_become rfl ⟨Nat.le_of_ble_eq_true rfl, Nat.le_of_ble_eq_true rfl⟩ ⟨Nat.le_of_ble_eq_true rfl, Nat.le_of_ble_eq_true rfl⟩ rfl rfl (Nat.le_of_ble_eq_true rfl) (by first | assumption | decide) ?_
  refine ev_aload_n rfl hC d_Day_image_11 ?_
  refine ev_iconst (v := 1) rfl hC d_Day_image_12 ?_
  refine pv_Day_keeps (by first | exact Or.inl rfl | exact Or.inr rfl | exact bi_or _ | assumption) hC d_Day_image_13 fl_Day_22  ?_
  refine ev_iconst (v := 1) rfl hC d_Day_image_16 ?_
  exact ev_iret hC hR d_Day_image_17 rfl (by simp only [D_image, bad, if_true, if_false, cond_true, cond_false, decide_true, decide_false, Bool.not_true, Bool.not_false, Bool.or_true, Bool.true_or, Bool.or_false, Bool.false_or, Bool.and_true, Bool.and_false, Bool.true_and, Bool.false_and, Bool.or_self, Bool.and_self, eq_self] <;> first | rfl | (rfl)) (by simp only [D_image, bad, if_true, if_false, cond_true, cond_false, decide_true, decide_false, Bool.not_true, Bool.not_false, Bool.or_true, Bool.true_or, Bool.or_false, Bool.false_or, Bool.and_true, Bool.and_false, Bool.true_and, Bool.false_and, Bool.or_self, Bool.and_self, eq_self] <;> first | rfl | (rfl))

set_option maxHeartbeats 2000000 in
set_option maxRecDepth 10000 in
theorem c_Day_undo {G : ex_G} {M : ex_M} {kp ke : Nat} (w : ¬ M.1 3 0 = 0 → WF (M.1 2) kp ke) : Con G Y_Day_undo 2 43 0 0 [.ref (ex_b G + 0)] (ce G M) (some (.int (D_undo M kp ke).1)) (ce G ((D_undo M kp ke).2)) := by
  refine Con.ofF (plainFor_of_name (by decide +kernel)) (Nat.le_of_ble_eq_true rfl) (fun C hC hR => ?_)
  show Ev G C Y_Day_undo 0 [some (.ref (ex_b G + 0))] [] 0 0 (ce G M)
  refine ev_aload_n rfl hC d_Day_undo_0 ?_
  refine gv_Day_keeps hC d_Day_undo_1 fl_Day_22  ?_
  refine ev_if_ne 14 hC d_Day_undo_4 rfl (fun h_4 => ?_) (fun h_4 => ?_)
  · obtain ⟨hc, hn, hc2, hn2, hmet, -, -⟩ := w h_4
    refine ev_aload_n rfl hC d_Day_undo_14 ?_
    refine gv_Day_present hC d_Day_undo_15 fl_Day_12  ?_
    refine ev_aload_n rfl hC d_Day_undo_18 ?_
    refine gv_Day_kept hC d_Day_undo_19 fl_Day_19  ?_
    refine cv_River0 hC d_Day_undo_22 (c_River_become hn hn2 (by decide) (by decide) (by decide) hc hc2 hmet) mi_River_become ml_Day_239 im_River_become se_River_become rfl ⟨Nat.le_of_ble_eq_true rfl, Nat.le_of_ble_eq_true rfl⟩ ⟨Nat.le_of_ble_eq_true rfl, Nat.le_of_ble_eq_true rfl⟩ rfl rfl (Nat.le_of_ble_eq_true rfl) (by first | assumption | decide) ?_
    refine ev_aload_n rfl hC d_Day_undo_25 ?_
    refine gv_Day_present hC d_Day_undo_26 fl_Day_12  ?_
    refine gn_River_peopleCount hC d_Day_undo_29 fl_Day_223 (by first | assumption | decide) ?_
    exact ev_iret hC hR d_Day_undo_32 rfl (by rw [D_undo, if_neg h_4]; simp only [mI, wr_s]; rw [becR_lo (by omega)]) (by rw [D_undo, if_neg h_4])
  · refine ev_aload_n rfl hC d_Day_undo_7 ?_
    refine ev_ldc kc_Day_190 hC d_Day_undo_8 ?_
    refine cv_Day1 hC d_Day_undo_10 (c_Day_refuse (k := 3) (by omega) (by decide +kernel)) mi_Day_refuse ml_Day_56 im_Day_refuse se_Day_refuse rfl ⟨Nat.le_of_ble_eq_true rfl, Nat.le_of_ble_eq_true rfl⟩ ⟨Nat.le_of_ble_eq_true rfl, Nat.le_of_ble_eq_true rfl⟩ rfl rfl (Nat.le_of_ble_eq_true rfl)  ?_
    exact ev_iret hC hR d_Day_undo_13 rfl (by rw [D_undo, if_pos h_4]; rfl) (by rw [D_undo, if_pos h_4])

set_option maxHeartbeats 2000000 in
set_option maxRecDepth 10000 in
theorem c_Day_tear {G : ex_G} {M : ex_M}  : Con G Y_Day_tear 0 0 0 0 [.ref (ex_b G + 0)] (ce G M) (some (.int (D_tear M).1)) (ce G ((D_tear M).2)) := by
  refine Con.ofF (plainFor_of_name (by decide +kernel)) (Nat.le_of_ble_eq_true rfl) (fun C hC hR => ?_)
  show Ev G C Y_Day_tear 0 [some (.ref (ex_b G + 0))] [] 0 0 (ce G M)
  refine ev_aload_n rfl hC d_Day_tear_0 ?_
  refine gv_Day_keeps hC d_Day_tear_1 fl_Day_22  ?_
  refine ev_if_eq 11 hC d_Day_tear_4 rfl (fun h_4 => ?_) (fun h_4 => ?_)
  · refine ev_iconst (v := 0) rfl hC d_Day_tear_11 ?_
    refine ev_istore_n (by decide) hC d_Day_tear_12 ?_
    refine ev_aload_n rfl hC d_Day_tear_13 ?_
    refine ev_iconst (v := 0) rfl hC d_Day_tear_14 ?_
    refine pv_Day_keeps (by first | exact Or.inl rfl | exact Or.inr rfl | exact bi_or _ | assumption) hC d_Day_tear_15 fl_Day_22  ?_
    refine ev_iload_n rfl hC d_Day_tear_18 ?_
    exact ev_iret hC hR d_Day_tear_19 rfl (by simp only [D_tear, h_4, if_true, if_false]) (rfl)
  · refine ev_iconst (v := 1) rfl hC d_Day_tear_7 ?_
    refine ev_goto 12 hC d_Day_tear_8 rfl ?_
    refine ev_istore_n (by decide) hC d_Day_tear_12 ?_
    refine ev_aload_n rfl hC d_Day_tear_13 ?_
    refine ev_iconst (v := 0) rfl hC d_Day_tear_14 ?_
    refine pv_Day_keeps (by first | exact Or.inl rfl | exact Or.inr rfl | exact bi_or _ | assumption) hC d_Day_tear_15 fl_Day_22  ?_
    refine ev_iload_n rfl hC d_Day_tear_18 ?_
    exact ev_iret hC hR d_Day_tear_19 rfl (by simp only [D_tear, h_4, if_true, if_false]) (rfl)

set_option maxHeartbeats 2000000 in
set_option maxRecDepth 10000 in
theorem c_Day_count {G : ex_G} {M : ex_M} {np ne : Nat} {w0 : Int32} (w : WF (M.1 0) np ne) : Con G Y_Day_count 2 42 0 0 [.ref (ex_b G + 0), .int w0] (ce G M) (some (.int (D_count M np w0).1)) (ce G ((D_count M np w0).2)) := by
  refine Con.ofF (plainFor_of_name (by decide +kernel)) (Nat.le_of_ble_eq_true rfl) (fun C hC hR => ?_)
  show Ev G C Y_Day_count 0 [some (.ref (ex_b G + 0)), some (.int w0)] [] 0 0 (ce G M)
  obtain ⟨hc, hn, hc2, hn2, hmet, hkd, hkn⟩ := w
  refine ev_iload_n rfl hC d_Day_count_0 ?_
  refine sx_Day_count_1 hC (fun h_1 => ?_) (fun h_1 => ?_) (fun h_1 => ?_) (fun h_1 => ?_) (fun h_1 => ?_)
  · refine ev_aload_n rfl hC d_Day_count_64 ?_
    refine ev_ldc kc_Day_55 hC d_Day_count_65 ?_
    refine cv_Day1 hC d_Day_count_67 (c_Day_refuse (k := 0) (by omega) (by decide +kernel)) mi_Day_refuse ml_Day_56 im_Day_refuse se_Day_refuse rfl ⟨Nat.le_of_ble_eq_true rfl, Nat.le_of_ble_eq_true rfl⟩ ⟨Nat.le_of_ble_eq_true rfl, Nat.le_of_ble_eq_true rfl⟩ rfl rfl (Nat.le_of_ble_eq_true rfl)  ?_
    exact ev_iret hC hR d_Day_count_70 rfl (by have e0 := sw_ne h_1 0 (by decide) (by decide); have e1 := sw_ne h_1 1 (by decide) (by decide); have e2 := sw_ne h_1 2 (by decide) (by decide); have e3 := sw_ne h_1 3 (by decide) (by decide); simp only [D_count, bad, e0, e1, e2, e3, if_true, if_false, cond_true, cond_false, decide_true, decide_false, Bool.not_true, Bool.not_false, Bool.or_true, Bool.true_or, Bool.or_false, Bool.false_or, Bool.and_true, Bool.and_false, Bool.true_and, Bool.false_and, Bool.or_self, Bool.and_self, eq_self] <;> first | rfl | (rfl)) (by have e0 := sw_ne h_1 0 (by decide) (by decide); have e1 := sw_ne h_1 1 (by decide) (by decide); have e2 := sw_ne h_1 2 (by decide) (by decide); have e3 := sw_ne h_1 3 (by decide) (by decide); simp only [D_count, bad, e0, e1, e2, e3, if_true, if_false, cond_true, cond_false, decide_true, decide_false, Bool.not_true, Bool.not_false, Bool.or_true, Bool.true_or, Bool.or_false, Bool.false_or, Bool.and_true, Bool.and_false, Bool.true_and, Bool.false_and, Bool.or_self, Bool.and_self, eq_self] <;> first | rfl | (rfl))
  · refine ev_aload_n rfl hC d_Day_count_32 ?_
    refine gv_Day_present hC d_Day_count_33 fl_Day_12  ?_
    refine gn_River_peopleCount hC d_Day_count_36 fl_Day_223 (by first | assumption | decide) ?_
    exact ev_iret hC hR d_Day_count_39 rfl (by subst h_1; simp only [D_count, bad, if_true, if_false, cond_true, cond_false, decide_true, decide_false, Bool.not_true, Bool.not_false, Bool.or_true, Bool.true_or, Bool.or_false, Bool.false_or, Bool.and_true, Bool.and_false, Bool.true_and, Bool.false_and, Bool.or_self, Bool.and_self, eq_self] <;> first | rfl | (rfl)) (by subst h_1; simp only [D_count, bad, if_true, if_false, cond_true, cond_false, decide_true, decide_false, Bool.not_true, Bool.not_false, Bool.or_true, Bool.true_or, Bool.or_false, Bool.false_or, Bool.and_true, Bool.and_false, Bool.true_and, Bool.false_and, Bool.or_self, Bool.and_self, eq_self] <;> first | rfl | (rfl))
  · refine ev_aload_n rfl hC d_Day_count_40 ?_
    refine gv_Day_present hC d_Day_count_41 fl_Day_12  ?_
    refine gn_River_eventCount hC d_Day_count_44 fl_Day_214 (by first | assumption | decide) ?_
    exact ev_iret hC hR d_Day_count_47 rfl (by subst h_1; simp only [D_count, bad, if_true, if_false, cond_true, cond_false, decide_true, decide_false, Bool.not_true, Bool.not_false, Bool.or_true, Bool.true_or, Bool.or_false, Bool.false_or, Bool.and_true, Bool.and_false, Bool.true_and, Bool.false_and, Bool.or_self, Bool.and_self, eq_self] <;> first | rfl | (rfl)) (by subst h_1; simp only [D_count, bad, if_true, if_false, cond_true, cond_false, decide_true, decide_false, Bool.not_true, Bool.not_false, Bool.or_true, Bool.true_or, Bool.or_false, Bool.false_or, Bool.and_true, Bool.and_false, Bool.true_and, Bool.false_and, Bool.or_self, Bool.and_self, eq_self] <;> first | rfl | (rfl))
  · refine ev_aload_n rfl hC d_Day_count_48 ?_
    refine gv_Day_text hC d_Day_count_49 fl_Day_36  ?_
    refine gn_Text_length hC d_Day_count_52 fl_Day_229  ?_
    exact ev_iret hC hR d_Day_count_55 rfl (by subst h_1; simp only [D_count, bad, if_true, if_false, cond_true, cond_false, decide_true, decide_false, Bool.not_true, Bool.not_false, Bool.or_true, Bool.true_or, Bool.or_false, Bool.false_or, Bool.and_true, Bool.and_false, Bool.true_and, Bool.false_and, Bool.or_self, Bool.and_self, eq_self] <;> first | rfl | (rfl)) (by subst h_1; simp only [D_count, bad, if_true, if_false, cond_true, cond_false, decide_true, decide_false, Bool.not_true, Bool.not_false, Bool.or_true, Bool.true_or, Bool.or_false, Bool.false_or, Bool.and_true, Bool.and_false, Bool.true_and, Bool.false_and, Bool.or_self, Bool.and_self, eq_self] <;> first | rfl | (rfl))
  · refine ev_aload_n rfl hC d_Day_count_56 ?_
    refine gv_Day_present hC d_Day_count_57 fl_Day_12  ?_
    refine cv_River1 hC d_Day_count_60 (c_River_allKnown hn (by decide) hc hkn) mi_River_allKnown ml_Day_292 im_River_allKnown se_River_allKnown rfl ⟨Nat.le_of_ble_eq_true rfl, Nat.le_of_ble_eq_true rfl⟩ ⟨Nat.le_of_ble_eq_true rfl, Nat.le_of_ble_eq_true rfl⟩ rfl rfl (Nat.le_of_ble_eq_true rfl) (by first | assumption | decide) ?_
    exact ev_iret hC hR d_Day_count_63 rfl (by subst h_1; simp only [D_count, bad, if_true, if_false, cond_true, cond_false, decide_true, decide_false, Bool.not_true, Bool.not_false, Bool.or_true, Bool.true_or, Bool.or_false, Bool.false_or, Bool.and_true, Bool.and_false, Bool.true_and, Bool.false_and, Bool.or_self, Bool.and_self, eq_self] <;> first | rfl | (rfl)) (by subst h_1; simp only [D_count, bad, if_true, if_false, cond_true, cond_false, decide_true, decide_false, Bool.not_true, Bool.not_false, Bool.or_true, Bool.true_or, Bool.or_false, Bool.false_or, Bool.and_true, Bool.and_false, Bool.true_and, Bool.false_and, Bool.or_self, Bool.and_self, eq_self] <;> first | rfl | (rfl))

set_option maxHeartbeats 4000000 in
set_option maxRecDepth 10000 in
theorem lp_Day_status {G : ex_G} {C : ex_C} {rr : Option Value} {ee : List va_E} {x : Int32} (hC : Cx G C Y_Day_status { frames := 1, cells := 0, slots := 0, locals := 22 }) (hR : Cr G C Y_Day_status 0 0 rr ee) :
    ∀ (m i : Nat) (M : ex_M) (s : Int32), i + m = 7 → True → rr = some (.int (tolF (M.1 5) m i s)) ∧ ee = ce G M → Ev G C Y_Day_status 32 [some (.ref (ex_b G + 0)), some (.int x), some (.int s), some (.int (nI i))] [] 0 0 (ce G (M)) := by
  intro m
  induction m with
  | zero =>
    intro i M s hm hc he
    refine ev_iload_n rfl hC d_Day_status_32 ?_
    refine ev_bipush (v := 7) rfl hC d_Day_status_33 ?_
    refine ev_icmp_ge 53 hC d_Day_status_35 rfl (fun _ => ?_) (fun h => absurd (by rw [show (7 : Int32) = nI 7 from rfl]; exact nI_le (by omega) (by omega)) h)
    refine ev_iload_n rfl hC d_Day_status_53 ?_
    exact ev_iret hC hR d_Day_status_54 rfl (by rw [he.1, tolF]) (he.2)
  | succ m ih =>
    intro i M s hm hc he
    skip
    refine ev_iload_n rfl hC d_Day_status_32 ?_
    refine ev_bipush (v := 7) rfl hC d_Day_status_33 ?_
    refine ev_icmp_ge 53 hC d_Day_status_35 rfl (fun h => absurd h (by rw [show (7 : Int32) = nI 7 from rfl]; exact nI_ge (by omega) (by omega))) (fun _ => ?_)
    refine ev_iload_n rfl hC d_Day_status_38 ?_
    refine ev_aload_n rfl hC d_Day_status_39 ?_
    refine gv_Day_told hC d_Day_status_40 fl_Day_47  ?_
    refine ev_iload_n rfl hC d_Day_status_43 ?_
    refine ga_told hC d_Day_status_44 (by first | assumption | omega) ?_
    refine ev_iadd hC d_Day_status_45 ?_
    refine ev_istore_n (by decide) hC d_Day_status_46 ?_
    refine ev_iinc rfl (by decide) (nI_1 _) hC d_Day_status_47 ?_
    refine ev_goto 32 hC d_Day_status_50 rfl ?_
    exact ih (i + 1) M _ (by omega) trivial (by rw [he.1, he.2, tolF]; exact ⟨rfl, rfl⟩)

set_option maxHeartbeats 2000000 in
set_option maxRecDepth 10000 in
theorem c_Day_status {G : ex_G} {M : ex_M} {w0 : Int32} : Con G Y_Day_status 1 22 0 0 [.ref (ex_b G + 0), .int w0] (ce G M) (some (.int (D_status M w0).1)) (ce G ((D_status M w0).2)) := by
  refine Con.ofF (plainFor_of_name (by decide +kernel)) (Nat.le_of_ble_eq_true rfl) (fun C hC hR => ?_)
  show Ev G C Y_Day_status 0 [some (.ref (ex_b G + 0)), some (.int w0)] [] 0 0 (ce G M)
  refine ev_iload_n rfl hC d_Day_status_0 ?_
  refine ev_iconst (v := -1) rfl hC d_Day_status_1 ?_
  refine ev_bipush (v := 6) rfl hC d_Day_status_2 ?_
  refine cs_1 hC d_Day_status_4 (c_Day_outside ) mi_Day_outside ml_Day_51 sm_Day_outside ⟨Nat.le_of_ble_eq_true rfl, Nat.le_of_ble_eq_true rfl⟩ ⟨Nat.le_of_ble_eq_true rfl, Nat.le_of_ble_eq_true rfl⟩ rfl rfl (Nat.le_of_ble_eq_true rfl) ?_
  refine eb_eq 17 hC d_Day_status_7 rfl (fun h_7 => ?_) (fun h_7 => ?_)
  · refine ev_iload_n rfl hC d_Day_status_17 ?_
    refine ev_if_lt 28 hC d_Day_status_18 rfl (fun h_18 => ?_) (fun h_18 => ?_)
    · refine ev_iconst (v := 0) rfl hC d_Day_status_28 ?_
      refine ev_istore_n (by decide) hC d_Day_status_29 ?_
      refine ev_iconst (v := nI 0) rfl hC d_Day_status_30 ?_
      refine ev_istore_n (by decide) hC d_Day_status_31 ?_
      exact lp_Day_status hC hR 7 0 M 0 (by omega) trivial (by simp only [D_status, h_7, cond_false, if_pos h_18]; exact ⟨trivial, trivial⟩)
    · obtain ⟨j, hj, rfl⟩ := nI_of h_18
      have cj : (nI j).toNatClampNeg = j := nI_clamp hj
      have hj6 : j ≤ 6 := (nI_leI hj (by omega)).mp (out_rg h_7).2
      refine ev_aload_n rfl hC d_Day_status_21 ?_
      refine gv_Day_told hC d_Day_status_22 fl_Day_47  ?_
      refine ev_iload_n rfl hC d_Day_status_25 ?_
      refine ga_told hC d_Day_status_26 (by first | assumption | omega) ?_
      exact ev_iret hC hR d_Day_status_27 rfl (by simp only [D_status, h_7, cond_false, if_neg h_18, ix, cj]) (by simp only [D_status, h_7, cond_false, if_neg h_18, ix, cj])
  · refine ev_aload_n rfl hC d_Day_status_10 ?_
    refine ev_ldc kc_Day_55 hC d_Day_status_11 ?_
    refine cv_Day1 hC d_Day_status_13 (c_Day_refuse (k := 0) (by omega) (by decide +kernel)) mi_Day_refuse ml_Day_56 im_Day_refuse se_Day_refuse rfl ⟨Nat.le_of_ble_eq_true rfl, Nat.le_of_ble_eq_true rfl⟩ ⟨Nat.le_of_ble_eq_true rfl, Nat.le_of_ble_eq_true rfl⟩ rfl rfl (Nat.le_of_ble_eq_true rfl)  ?_
    exact ev_iret hC hR d_Day_status_16 rfl (by simp only [D_status, bad, h_7, if_true, if_false, cond_true, cond_false, decide_true, decide_false, Bool.not_true, Bool.not_false, Bool.or_true, Bool.true_or, Bool.or_false, Bool.false_or, Bool.and_true, Bool.and_false, Bool.true_and, Bool.false_and, Bool.or_self, Bool.and_self, eq_self] <;> rfl) (by simp only [D_status, bad, h_7, if_true, if_false, cond_true, cond_false, decide_true, decide_false, Bool.not_true, Bool.not_false, Bool.or_true, Bool.true_or, Bool.or_false, Bool.false_or, Bool.and_true, Bool.and_false, Bool.true_and, Bool.false_and, Bool.or_self, Bool.and_self, eq_self] <;> rfl)

set_option maxHeartbeats 2000000 in
set_option maxRecDepth 10000 in
theorem c_Day_wipe {G : ex_G} {M : ex_M}  : Con G Y_Day_wipe 0 0 0 0 [.ref (ex_b G + 0)] (ce G M) (some (.int (D_wipe M).1)) (ce G ((D_wipe M).2)) := by
  refine Con.ofF (plainFor_of_name (by decide +kernel)) (Nat.le_of_ble_eq_true rfl) (fun C hC hR => ?_)
  show Ev G C Y_Day_wipe 0 [some (.ref (ex_b G + 0))] [] 0 0 (ce G M)
  refine ev_aload_n rfl hC d_Day_wipe_0 ?_
  refine gv_Day_text hC d_Day_wipe_1 fl_Day_36  ?_
  refine gn_Text_length hC d_Day_wipe_4 fl_Day_229  ?_
  refine ev_istore_n (by decide) hC d_Day_wipe_7 ?_
  refine ev_aload_n rfl hC d_Day_wipe_8 ?_
  refine gv_Day_text hC d_Day_wipe_9 fl_Day_36  ?_
  refine ev_iconst (v := 0) rfl hC d_Day_wipe_12 ?_
  refine pn_Text_length hC d_Day_wipe_13 fl_Day_229  ?_
  refine ev_iload_n rfl hC d_Day_wipe_16 ?_
  exact ev_iret hC hR d_Day_wipe_17 rfl (rfl) (rfl)

set_option maxHeartbeats 2000000 in
set_option maxRecDepth 10000 in
theorem c_Text_append {G : ex_G} {M : ex_M} {l : Nat} {b : Int32} (hl : l < 120) (hc : M.1 3 3 = nI l) : Con G Y_Text_append 0 0 0 0 [.ref (ex_b G + 59), .int b] (ce G M) (none) (ce G (app M l (b &&& 255))) := by
  refine Con.ofF (plainFor_of_name (by decide +kernel)) (Nat.le_of_ble_eq_true rfl) (fun C hC hR => ?_)
  show Ev G C Y_Text_append 0 [some (.ref (ex_b G + 59)), some (.int b)] [] 0 0 (ce G M)
  refine ev_aload_n rfl hC d_Text_append_0 ?_
  refine gv_Text_length hC d_Text_append_1 fl_Text_15  ?_
  refine ev_bipush (v := 120) rfl hC d_Text_append_4 ?_
  refine ev_icmp_ge 33 hC d_Text_append_6 rfl (fun h => absurd h (by rw [hc, show (120 : Int32) = nI 120 from rfl]; exact nI_ge (by omega) (by omega))) (fun _ => ?_)
  refine ev_aload_n rfl hC d_Text_append_9 ?_
  refine gv_Text_bytes hC d_Text_append_10 fl_Text_9  ?_
  refine ev_aload_n rfl hC d_Text_append_13 ?_
  refine gv_Text_length hC d_Text_append_14 fl_Text_15  ?_
  rw [hc]
  refine ev_iload_n rfl hC d_Text_append_17 ?_
  refine ev_sipush (v := 255) rfl hC d_Text_append_18 ?_
  refine ev_iand hC d_Text_append_21 ?_
  refine pa_bytes hC d_Text_append_22 (by first | assumption | omega) ?_
  refine ev_aload_n rfl hC d_Text_append_23 ?_
  refine ev_dup rfl hC d_Text_append_24 ?_
  refine gv_Text_length hC d_Text_append_25 fl_Text_15  ?_
  refine ev_iconst (v := 1) rfl hC d_Text_append_28 ?_
  refine ev_iadd hC d_Text_append_29 ?_
  refine pv_Text_length hC d_Text_append_30 fl_Text_15  ?_
  exact ev_vret hC hR d_Text_append_33 rfl rfl (by simp only [app, mJ, wr_n (show (3 : Nat) ≠ 4 by decide), hc, nI_1])

set_option maxHeartbeats 4000000 in
set_option maxRecDepth 10000 in
theorem lp_Day_feed {G : ex_G} {C : ex_C} {rr : Option Value} {ee : List va_E} {b x : Int32} (hC : Cx G C Y_Day_feed { frames := 1, cells := 0, slots := 0, locals := 22 }) (hR : Cr G C Y_Day_feed 0 0 rr ee) :
    ∀ (m l : Nat) (M : ex_M), l + m ≤ 120 → M.1 3 3 = nI l → rr = some (.int ((fdL b m l M).1 3 3)) ∧ ee = ce G (fdL b m l M) → Ev G C Y_Day_feed 41 [some (.ref (ex_b G + 0)), some (.int b), some (.int x), some (.int (nI m - 1))] [] 0 0 (ce G M) := by
  intro m
  induction m with
  | zero =>
    intro l M hl hc he
    refine ev_iload_n rfl hC d_Day_feed_41 ?_
    refine ev_if_lt 64 hC d_Day_feed_42 rfl (fun _ => ?_) (fun h => absurd (by decide) h)
    refine ev_aload_n rfl hC d_Day_feed_64 ?_
    refine gv_Day_text hC d_Day_feed_65 fl_Day_36  ?_
    refine gn_Text_length hC d_Day_feed_68 fl_Day_229  ?_
    exact ev_iret hC hR d_Day_feed_71 rfl (by rw [he.1]; rfl) (he.2)
  | succ m ih =>
    intro l M hl hc he
    rw [nI_pred m]
    refine ev_iload_n rfl hC d_Day_feed_41 ?_
    refine ev_if_lt 64 hC d_Day_feed_42 rfl (fun h => absurd h (nI_pos (by omega))) (fun _ => ?_)
    refine ev_aload_n rfl hC d_Day_feed_45 ?_
    refine gv_Day_text hC d_Day_feed_46 fl_Day_36  ?_
    refine ev_iload_n rfl hC d_Day_feed_49 ?_
    refine ev_bipush (v := 8) rfl hC d_Day_feed_50 ?_
    refine ev_iload_n rfl hC d_Day_feed_52 ?_
    refine ev_imul hC d_Day_feed_53 ?_
    refine ev_iushr hC d_Day_feed_54 ?_
    refine cv_Text0 hC d_Day_feed_55 (c_Text_append (l := l) (by omega) hc) mi_Text_append ml_Day_232 im_Text_append se_Text_append rfl ⟨Nat.le_of_ble_eq_true rfl, Nat.le_of_ble_eq_true rfl⟩ ⟨Nat.le_of_ble_eq_true rfl, Nat.le_of_ble_eq_true rfl⟩ rfl rfl (Nat.le_of_ble_eq_true rfl)  ?_
    refine ev_iinc rfl (by decide) (rfl) hC d_Day_feed_58 ?_
    refine ev_goto 41 hC d_Day_feed_61 rfl ?_
    rw [show nI m + Int32.ofInt (-1) = nI m - 1 by rw [show Int32.ofInt (-1) = -(1 : Int32) by decide, ← Int32.sub_eq_add_neg]]
    exact ih _ _ (by omega) (app_3 _ _ _) (by rw [he.1, he.2, fdL]; exact ⟨rfl, rfl⟩)

set_option maxHeartbeats 2000000 in
set_option maxRecDepth 10000 in
theorem c_Day_feed {G : ex_G} {M : ex_M} {l : Nat} {b n : Int32} (hl : l ≤ 120) (hc : M.1 3 3 = nI l) : Con G Y_Day_feed 1 22 0 0 [.ref (ex_b G + 0), .int b, .int n] (ce G M) (some (.int (D_feed M b n).1)) (ce G ((D_feed M b n).2)) := by
  refine Con.ofF (plainFor_of_name (by decide +kernel)) (Nat.le_of_ble_eq_true rfl) (fun C hC hR => ?_)
  show Ev G C Y_Day_feed 0 [some (.ref (ex_b G + 0)), some (.int b), some (.int n)] [] 0 0 (ce G M)
  refine ev_iload_n rfl hC d_Day_feed_0 ?_
  refine ev_iconst (v := 1) rfl hC d_Day_feed_1 ?_
  refine ev_iconst (v := 4) rfl hC d_Day_feed_2 ?_
  refine cs_1 hC d_Day_feed_3 (c_Day_outside ) mi_Day_outside ml_Day_51 sm_Day_outside ⟨Nat.le_of_ble_eq_true rfl, Nat.le_of_ble_eq_true rfl⟩ ⟨Nat.le_of_ble_eq_true rfl, Nat.le_of_ble_eq_true rfl⟩ rfl rfl (Nat.le_of_ble_eq_true rfl) ?_
  refine eb_eq 16 hC d_Day_feed_6 rfl (fun h_6 => ?_) (fun h_6 => ?_)
  · refine ev_aload_n rfl hC d_Day_feed_16 ?_
    refine gv_Day_text hC d_Day_feed_17 fl_Day_36  ?_
    refine gn_Text_length hC d_Day_feed_20 fl_Day_229  ?_
    refine ev_iload_n rfl hC d_Day_feed_23 ?_
    refine ev_iadd hC d_Day_feed_24 ?_
    refine ev_bipush (v := 120) rfl hC d_Day_feed_25 ?_
    refine ev_icmp_le 37 hC d_Day_feed_27 rfl (fun h_27 => ?_) (fun h_27 => ?_)
    · obtain ⟨n1, hn1, rfl⟩ := out_1 (n := 4) (by decide) h_6
      have cn : (nI n1).toNatClampNeg = n1 := nI_clamp (by omega)
      have cl : (nI l).toNatClampNeg = l := nI_clamp (by omega)
      have hle : l + n1 ≤ 120 := by
        have h1 := h_27
        rw [hc, nI_add, show (120 : Int32) = nI 120 from rfl] at h1
        exact (nI_leI (by omega) (by omega)).mp h1
      refine ev_iload_n rfl hC d_Day_feed_37 ?_
      refine ev_iconst (v := 1) rfl hC d_Day_feed_38 ?_
      refine ev_isub hC d_Day_feed_39 ?_
      refine ev_istore_n (by decide) hC d_Day_feed_40 ?_
      refine lp_Day_feed hC hR n1 l M hle hc ?_
      simp only [D_feed, h_6, cond_false, if_pos h_27, ix, cn]
      rw [hc, cl, fdL_3 b n1 l M hc, nI_add]
      exact ⟨rfl, rfl⟩
    · refine ev_aload_n rfl hC d_Day_feed_30 ?_
      refine ev_ldc kc_Day_68 hC d_Day_feed_31 ?_
      refine cv_Day1 hC d_Day_feed_33 (c_Day_refuse (k := 1) (by omega) (by decide +kernel)) mi_Day_refuse ml_Day_56 im_Day_refuse se_Day_refuse rfl ⟨Nat.le_of_ble_eq_true rfl, Nat.le_of_ble_eq_true rfl⟩ ⟨Nat.le_of_ble_eq_true rfl, Nat.le_of_ble_eq_true rfl⟩ rfl rfl (Nat.le_of_ble_eq_true rfl)  ?_
      exact ev_iret hC hR d_Day_feed_36 rfl (by simp only [D_feed, bad, h_6, h_27, if_true, if_false, cond_true, cond_false, decide_true, decide_false, Bool.not_true, Bool.not_false, Bool.or_true, Bool.true_or, Bool.or_false, Bool.false_or, Bool.and_true, Bool.and_false, Bool.true_and, Bool.false_and, Bool.or_self, Bool.and_self, eq_self] <;> first | rfl | (rfl)) (by simp only [D_feed, bad, h_6, h_27, if_true, if_false, cond_true, cond_false, decide_true, decide_false, Bool.not_true, Bool.not_false, Bool.or_true, Bool.true_or, Bool.or_false, Bool.false_or, Bool.and_true, Bool.and_false, Bool.true_and, Bool.false_and, Bool.or_self, Bool.and_self, eq_self] <;> first | rfl | (rfl))
  · refine ev_aload_n rfl hC d_Day_feed_9 ?_
    refine ev_ldc kc_Day_55 hC d_Day_feed_10 ?_
    refine cv_Day1 hC d_Day_feed_12 (c_Day_refuse (k := 0) (by omega) (by decide +kernel)) mi_Day_refuse ml_Day_56 im_Day_refuse se_Day_refuse rfl ⟨Nat.le_of_ble_eq_true rfl, Nat.le_of_ble_eq_true rfl⟩ ⟨Nat.le_of_ble_eq_true rfl, Nat.le_of_ble_eq_true rfl⟩ rfl rfl (Nat.le_of_ble_eq_true rfl)  ?_
    exact ev_iret hC hR d_Day_feed_15 rfl (by simp only [D_feed, bad, h_6, if_true, if_false, cond_true, cond_false, decide_true, decide_false, Bool.not_true, Bool.not_false, Bool.or_true, Bool.true_or, Bool.or_false, Bool.false_or, Bool.and_true, Bool.and_false, Bool.true_and, Bool.false_and, Bool.or_self, Bool.and_self, eq_self] <;> first | rfl | (rfl)) (by simp only [D_feed, bad, h_6, if_true, if_false, cond_true, cond_false, decide_true, decide_false, Bool.not_true, Bool.not_false, Bool.or_true, Bool.true_or, Bool.or_false, Bool.false_or, Bool.and_true, Bool.and_false, Bool.true_and, Bool.false_and, Bool.or_self, Bool.and_self, eq_self] <;> first | rfl | (rfl))

set_option maxHeartbeats 4000000 in
set_option maxRecDepth 10000 in
theorem lp_Sheet_begin {G : ex_G} {C : ex_C} {ee : List va_E} {s : Nat} {b n : Int32} {f : Nat → Int64} (hs : s < 4) (hC : Cx G C Y_Sheet_begin { frames := 0, cells := 0, slots := 0, locals := 0 }) (hR : Cr G C Y_Sheet_begin 0 0 none ee) :
    ∀ (m i : Nat) (M : ex_M), i + m = 40 → M.2 s = zf i f → ee = ce G (mL M s (zf 40 f)) → Ev G C Y_Sheet_begin 20 [some (.ref (ex_b G + aS s)), some (.int b), some (.int n), some (.int (nI i))] [] 0 0 (ce G (M)) := by
  intro m
  induction m with
  | zero =>
    intro i M hm hc he
    refine ev_iload_n rfl hC d_Sheet_begin_20 ?_
    refine ev_bipush (v := 40) rfl hC d_Sheet_begin_21 ?_
    refine ev_icmp_ge 39 hC d_Sheet_begin_23 rfl (fun _ => ?_) (fun h => absurd (by rw [show (40 : Int32) = nI 40 from rfl]; exact nI_le (by omega) (by omega)) h)
    exact ev_vret hC hR d_Sheet_begin_39 rfl rfl (by rw [he, show zf 40 f = M.2 s by rw [hc, show i = 40 by omega]]; simp only [mL, wr_id])
  | succ m ih =>
    intro i M hm hc he
    have hi : i < 40 := by omega
    refine ev_iload_n rfl hC d_Sheet_begin_20 ?_
    refine ev_bipush (v := 40) rfl hC d_Sheet_begin_21 ?_
    refine ev_icmp_ge 39 hC d_Sheet_begin_23 rfl (fun h => absurd h (by rw [show (40 : Int32) = nI 40 from rfl]; exact nI_ge (by omega) (by omega))) (fun _ => ?_)
    refine ev_aload_n rfl hC d_Sheet_begin_26 ?_
    refine gv_Sheet_numbers hC d_Sheet_begin_27 fl_Sheet_18 (by first | assumption | omega) ?_
    refine ev_iload_n rfl hC d_Sheet_begin_30 ?_
    refine ev_lconst (v := 0) rfl hC d_Sheet_begin_31 ?_
    refine pa_N hC d_Sheet_begin_32 (by first | assumption | omega) (by first | assumption | omega) ?_
    refine ev_iinc rfl (by decide) (nI_1 _) hC d_Sheet_begin_33 ?_
    refine ev_goto 20 hC d_Sheet_begin_36 rfl ?_
    exact ih (i + 1) _ (by omega) (by simp only [mL, wr_s]; rw [hc, zf_s]) (by rw [he]; simp only [mL, wr_wr])

set_option maxHeartbeats 2000000 in
set_option maxRecDepth 10000 in
theorem c_Sheet_begin {G : ex_G} {M : ex_M} {s : Nat} {b n : Int32} (hs : s < 4) : Con G Y_Sheet_begin 0 0 0 0 [.ref (ex_b G + aS s), .int b, .int n] (ce G M) (none) (ce G (shBeg M s b n)) := by
  refine Con.ofF (plainFor_of_name (by decide +kernel)) (Nat.le_of_ble_eq_true rfl) (fun C hC hR => ?_)
  show Ev G C Y_Sheet_begin 0 [some (.ref (ex_b G + aS s)), some (.int b), some (.int n)] [] 0 0 (ce G M)
  refine ev_aload_n rfl hC d_Sheet_begin_0 ?_
  refine ev_iload_n rfl hC d_Sheet_begin_1 ?_
  refine pv_Sheet_bits hC d_Sheet_begin_2 fl_Sheet_9 (by first | assumption | omega) ?_
  refine ev_aload_n rfl hC d_Sheet_begin_5 ?_
  refine ev_iload_n rfl hC d_Sheet_begin_6 ?_
  refine ev_if_ne 14 hC d_Sheet_begin_7 rfl (fun h_7 => ?_) (fun h_7 => ?_)
  · refine ev_iload_n rfl hC d_Sheet_begin_14 ?_
    refine pv_Sheet_length hC d_Sheet_begin_15 fl_Sheet_15 (by first | assumption | omega) ?_
    refine ev_iconst (v := nI 0) rfl hC d_Sheet_begin_18 ?_
    refine ev_istore_n (by decide) hC d_Sheet_begin_19 ?_
    refine lp_Sheet_begin (f := M.2 s) hs hC hR 40 0 _ (by omega) (by rw [zf_0]) ?_
    rw [shBeg, if_neg h_7]
  · refine ev_iconst (v := 0) rfl hC d_Sheet_begin_10 ?_
    refine ev_goto 15 hC d_Sheet_begin_11 rfl ?_
    refine pv_Sheet_length hC d_Sheet_begin_15 fl_Sheet_15 (by first | assumption | omega) ?_
    refine ev_iconst (v := nI 0) rfl hC d_Sheet_begin_18 ?_
    refine ev_istore_n (by decide) hC d_Sheet_begin_19 ?_
    refine lp_Sheet_begin (f := M.2 s) hs hC hR 40 0 _ (by omega) (by rw [zf_0]) ?_
    rw [shBeg, if_pos h_7]

theorem lkp {x : Int32} (y : Int32) (h : ¬ x = y) : ¬ y.toInt = x.toInt := fun e => h (Int32.toInt_inj.mp e.symm)

set_option maxHeartbeats 2000000 in
set_option maxRecDepth 10000 in
theorem c_Sheet_put {G : ex_G} {M : ex_M} {s k : Nat} {v : Int64} (hs : s < 4) (hk : k < 40) : Con G Y_Sheet_put 0 0 0 0 [.ref (ex_b G + aS s), .int (nI k), .long v] (ce G M) (none) (ce G (shPut M s k v)) := by
  refine Con.ofF (plainFor_of_name (by decide +kernel)) (Nat.le_of_ble_eq_true rfl) (fun C hC hR => ?_)
  show Ev G C Y_Sheet_put 0 [some (.ref (ex_b G + aS s)), some (.int (nI k)), some (.long v), none] [] 0 0 (ce G M)
  refine ev_aload_n rfl hC d_Sheet_put_0 ?_
  refine gv_Sheet_bits hC d_Sheet_put_1 fl_Sheet_9 hs ?_
  by_cases h8 : M.1 6 (2 * s + 0) = 8
  · refine ev_look 32 hC d_Sheet_put_4 (by decide) (by rw [h8]) rfl ?_
    refine ev_aload_n rfl hC d_Sheet_put_32 ?_
    refine gv_Sheet_numbers hC d_Sheet_put_33 fl_Sheet_18 (by first | assumption | omega) ?_
    refine ev_iload_n rfl hC d_Sheet_put_36 ?_
    refine ev_lload_n rfl hC d_Sheet_put_37 ?_
    refine ev_l2i hC d_Sheet_put_38 ?_
    refine ev_i2b hC d_Sheet_put_39 ?_
    refine ev_i2l hC d_Sheet_put_40 ?_
    refine pa_N hC d_Sheet_put_41 (by first | assumption | omega) (by first | assumption | omega) ?_
    refine ev_goto 65 hC d_Sheet_put_42 rfl ?_
    exact ev_vret hC hR d_Sheet_put_65 rfl rfl (by simp only [shPut, ctI, h8, if_true, if_true, if_false, cond_true, cond_false, decide_true, decide_false, Bool.not_true, Bool.not_false, Bool.or_true, Bool.true_or, Bool.or_false, Bool.false_or, Bool.and_true, Bool.and_false, Bool.true_and, Bool.false_and, Bool.or_self, Bool.and_self, eq_self])
  · by_cases h16 : M.1 6 (2 * s + 0) = 16
    · refine ev_look 45 hC d_Sheet_put_4 (by decide) (by rw [h16]) rfl ?_
      refine ev_aload_n rfl hC d_Sheet_put_45 ?_
      refine gv_Sheet_numbers hC d_Sheet_put_46 fl_Sheet_18 (by first | assumption | omega) ?_
      refine ev_iload_n rfl hC d_Sheet_put_49 ?_
      refine ev_lload_n rfl hC d_Sheet_put_50 ?_
      refine ev_l2i hC d_Sheet_put_51 ?_
      refine ev_i2s hC d_Sheet_put_52 ?_
      refine ev_i2l hC d_Sheet_put_53 ?_
      refine pa_N hC d_Sheet_put_54 (by first | assumption | omega) (by first | assumption | omega) ?_
      refine ev_goto 65 hC d_Sheet_put_55 rfl ?_
      exact ev_vret hC hR d_Sheet_put_65 rfl rfl (by simp only [shPut, ctI, h16, show ¬ (16 : Int32) = 8 by decide, if_true, if_false, cond_true, cond_false, decide_true, decide_false, Bool.not_true, Bool.not_false, Bool.or_true, Bool.true_or, Bool.or_false, Bool.false_or, Bool.and_true, Bool.and_false, Bool.true_and, Bool.false_and, Bool.or_self, Bool.and_self, eq_self])
    · refine ev_look (off := 54) 58 hC d_Sheet_put_4 (by decide) (by have e8 := lkp 8 h8; have e16 := lkp 16 h16; simp only [show (8 : Int32).toInt = 8 from rfl, show (16 : Int32).toInt = 16 from rfl] at e8 e16; show Op.lookupswitch.offset [(8, 28), (16, 41)] 54 _ = 54; rw [Op.lookupswitch.offset_cons, Op.lookupswitch.offset_cons, Op.lookupswitch.offset_nil, if_neg e8, if_neg e16]) rfl ?_
      refine ev_aload_n rfl hC d_Sheet_put_58 ?_
      refine gv_Sheet_numbers hC d_Sheet_put_59 fl_Sheet_18 (by first | assumption | omega) ?_
      refine ev_iload_n rfl hC d_Sheet_put_62 ?_
      refine ev_lload_n rfl hC d_Sheet_put_63 ?_
      refine pa_N hC d_Sheet_put_64 (by first | assumption | omega) (by first | assumption | omega) ?_
      exact ev_vret hC hR d_Sheet_put_65 rfl rfl (by simp only [shPut, ctI, h8, h16, if_true, if_false, cond_true, cond_false, decide_true, decide_false, Bool.not_true, Bool.not_false, Bool.or_true, Bool.true_or, Bool.or_false, Bool.false_or, Bool.and_true, Bool.and_false, Bool.true_and, Bool.false_and, Bool.or_self, Bool.and_self, eq_self])

set_option maxHeartbeats 2000000 in
set_option maxRecDepth 10000 in
theorem c_Day_findingOf {G : ex_G} {M : ex_M} {x : Int32} : Con G Y_Day_findingOf 2 42 0 0 [.ref (ex_b G + 0), .int x] (ce G M) (some (.int (fo M x))) (ce G (M)) := by
  refine Con.ofF (plainFor_of_name (by decide +kernel)) (Nat.le_of_ble_eq_true rfl) (fun C hC hR => ?_)
  show Ev G C Y_Day_findingOf 0 [some (.ref (ex_b G + 0)), some (.int x)] [] 0 0 (ce G M)
  refine ev_iload_n rfl hC d_Day_findingOf_0 ?_
  refine cs_1 hC d_Day_findingOf_1 (c_Day_noSheet ) mi_Day_noSheet ml_Day_243 sm_Day_noSheet ⟨Nat.le_of_ble_eq_true rfl, Nat.le_of_ble_eq_true rfl⟩ ⟨Nat.le_of_ble_eq_true rfl, Nat.le_of_ble_eq_true rfl⟩ rfl rfl (Nat.le_of_ble_eq_true rfl) ?_
  refine eb_eq 10 hC d_Day_findingOf_4 rfl (fun h_4 => ?_) (fun h_4 => ?_)
  · obtain ⟨s, hs, rfl⟩ := out_nat (n := 3) (by decide) h_4
    have cs : (nI s).toNatClampNeg = s := nI_clamp (by omega)
    refine ev_aload_n rfl hC d_Day_findingOf_10 ?_
    refine gv_Day_sheets hC d_Day_findingOf_11 fl_Day_42  ?_
    refine ev_iload_n rfl hC d_Day_findingOf_14 ?_
    refine gr_sheets hC d_Day_findingOf_15 (by first | assumption | omega) ?_
    refine cv_Sheet1 hC d_Day_findingOf_16 (c_Sheet_isMissing (by first | assumption | omega)) mi_Sheet_isMissing ml_Day_261 im_Sheet_isMissing se_Sheet_isMissing rfl ⟨Nat.le_of_ble_eq_true rfl, Nat.le_of_ble_eq_true rfl⟩ ⟨Nat.le_of_ble_eq_true rfl, Nat.le_of_ble_eq_true rfl⟩ rfl rfl (Nat.le_of_ble_eq_true rfl) (by first | assumption | omega) ?_
    refine eb_eq 28 hC d_Day_findingOf_19 rfl (fun h_19 => ?_) (fun h_19 => ?_)
    · refine ev_iconst (v := 0) rfl hC d_Day_findingOf_28 ?_
      exact ev_iret hC hR d_Day_findingOf_29 rfl (by simp only [fo, h_4, ix, cs, if_true, if_false, cond_true, cond_false, decide_true, decide_false, Bool.not_true, Bool.not_false, Bool.or_true, Bool.true_or, Bool.or_false, Bool.false_or, Bool.and_true, Bool.and_false, Bool.true_and, Bool.false_and, Bool.or_self, Bool.and_self, eq_self] <;> first | rfl | (rw [if_pos (by simpa using h_19)]; rfl) | (rw [if_neg (by simpa using h_19)])) (rfl)
    · refine ev_ldcw kc_Day_264 hC d_Day_findingOf_22 ?_
      refine ev_goto 29 hC d_Day_findingOf_25 rfl ?_
      exact ev_iret hC hR d_Day_findingOf_29 rfl (by simp only [fo, h_4, ix, cs, if_true, if_false, cond_true, cond_false, decide_true, decide_false, Bool.not_true, Bool.not_false, Bool.or_true, Bool.true_or, Bool.or_false, Bool.false_or, Bool.and_true, Bool.and_false, Bool.true_and, Bool.false_and, Bool.or_self, Bool.and_self, eq_self] <;> first | rfl | (rw [if_pos (by simpa using h_19)]; rfl) | (rw [if_neg (by simpa using h_19)])) (rfl)
  · refine ev_ldc kc_Day_55 hC d_Day_findingOf_7 ?_
    exact ev_iret hC hR d_Day_findingOf_9 rfl (by simp only [fo, h_4, if_true, if_false, cond_true, cond_false, decide_true, decide_false, Bool.not_true, Bool.not_false, Bool.or_true, Bool.true_or, Bool.or_false, Bool.false_or, Bool.and_true, Bool.and_false, Bool.true_and, Bool.false_and, Bool.or_self, Bool.and_self, eq_self] <;> rfl) (rfl)

set_option maxHeartbeats 2000000 in
set_option maxRecDepth 10000 in
theorem c_Day_sheet {G : ex_G} {M : ex_M} {x b n : Int32} : Con G Y_Day_sheet 2 42 0 0 [.ref (ex_b G + 0), .int x, .int b, .int n] (ce G M) (some (.int (D_sheet M x b n).1)) (ce G ((D_sheet M x b n).2)) := by
  refine Con.ofF (plainFor_of_name (by decide +kernel)) (Nat.le_of_ble_eq_true rfl) (fun C hC hR => ?_)
  show Ev G C Y_Day_sheet 0 [some (.ref (ex_b G + 0)), some (.int x), some (.int b), some (.int n)] [] 0 0 (ce G M)
  refine ev_iload_n rfl hC d_Day_sheet_0 ?_
  refine cs_1 hC d_Day_sheet_1 (c_Day_noSheet ) mi_Day_noSheet ml_Day_243 sm_Day_noSheet ⟨Nat.le_of_ble_eq_true rfl, Nat.le_of_ble_eq_true rfl⟩ ⟨Nat.le_of_ble_eq_true rfl, Nat.le_of_ble_eq_true rfl⟩ rfl rfl (Nat.le_of_ble_eq_true rfl) ?_
  refine eb_ne 29 hC d_Day_sheet_4 rfl (fun h_4 => ?_) (fun h_4 => ?_)
  · refine ev_aload_n rfl hC d_Day_sheet_29 ?_
    refine ev_ldc kc_Day_55 hC d_Day_sheet_30 ?_
    refine cv_Day1 hC d_Day_sheet_32 (c_Day_refuse (k := 0) (by omega) (by decide +kernel)) mi_Day_refuse ml_Day_56 im_Day_refuse se_Day_refuse rfl ⟨Nat.le_of_ble_eq_true rfl, Nat.le_of_ble_eq_true rfl⟩ ⟨Nat.le_of_ble_eq_true rfl, Nat.le_of_ble_eq_true rfl⟩ rfl rfl (Nat.le_of_ble_eq_true rfl)  ?_
    exact ev_iret hC hR d_Day_sheet_35 rfl (by simp only [D_sheet, bitsOk, bad, h_4, if_true, if_false, cond_true, cond_false, decide_true, decide_false, Bool.not_true, Bool.not_false, Bool.or_true, Bool.true_or, Bool.or_false, Bool.false_or, Bool.and_true, Bool.and_false, Bool.true_and, Bool.false_and, Bool.or_self, Bool.and_self, eq_self] <;> rfl) (by simp only [D_sheet, bitsOk, bad, h_4, if_true, if_false, cond_true, cond_false, decide_true, decide_false, Bool.not_true, Bool.not_false, Bool.or_true, Bool.true_or, Bool.or_false, Bool.false_or, Bool.and_true, Bool.and_false, Bool.true_and, Bool.false_and, Bool.or_self, Bool.and_self, eq_self] <;> rfl)
  · refine ev_iload_n rfl hC d_Day_sheet_7 ?_
    refine ev_if_eq 36 hC d_Day_sheet_8 rfl (fun h_8 => ?_) (fun h_8 => ?_)
    · obtain ⟨s, hs, rfl⟩ := out_nat (n := 3) (by decide) h_4
      have cs : (nI s).toNatClampNeg = s := nI_clamp (by omega)
      have hbk : bitsOk b = true := by simp [bitsOk, h_8]
      refine ev_iload_n rfl hC d_Day_sheet_36 ?_
      refine ev_if_ge 47 hC d_Day_sheet_37 rfl (fun h_37 => ?_) (fun h_37 => ?_)
      · refine ev_iload_n rfl hC d_Day_sheet_47 ?_
        refine ev_bipush (v := 40) rfl hC d_Day_sheet_48 ?_
        refine ev_icmp_le 60 hC d_Day_sheet_50 rfl (fun h_50 => ?_) (fun h_50 => ?_)
        · refine ev_aload_n rfl hC d_Day_sheet_60 ?_
          refine gv_Day_sheets hC d_Day_sheet_61 fl_Day_42  ?_
          refine ev_iload_n rfl hC d_Day_sheet_64 ?_
          refine gr_sheets hC d_Day_sheet_65 (by first | assumption | omega) ?_
          refine ev_iload_n rfl hC d_Day_sheet_66 ?_
          refine ev_iload_n rfl hC d_Day_sheet_67 ?_
          refine cv_Sheet0 hC d_Day_sheet_68 (c_Sheet_begin (by first | assumption | omega)) mi_Sheet_begin ml_Day_247 im_Sheet_begin se_Sheet_begin rfl ⟨Nat.le_of_ble_eq_true rfl, Nat.le_of_ble_eq_true rfl⟩ ⟨Nat.le_of_ble_eq_true rfl, Nat.le_of_ble_eq_true rfl⟩ rfl rfl (Nat.le_of_ble_eq_true rfl) (by first | assumption | omega) ?_
          refine ev_aload_n rfl hC d_Day_sheet_71 ?_
          refine gv_Day_sheets hC d_Day_sheet_72 fl_Day_42  ?_
          refine ev_iload_n rfl hC d_Day_sheet_75 ?_
          refine gr_sheets hC d_Day_sheet_76 (by first | assumption | omega) ?_
          refine gn_Sheet_length hC d_Day_sheet_77 fl_Day_249 (by first | assumption | omega) ?_
          exact ev_iret hC hR d_Day_sheet_80 rfl (by simp only [D_sheet, h_4, hbk, if_pos h_37, if_pos h_50, ix, cs, shBeg, mJ, mL, wr_s, ud_s, if_true, if_false, cond_true, cond_false, decide_true, decide_false, Bool.not_true, Bool.not_false, Bool.or_true, Bool.true_or, Bool.or_false, Bool.false_or, Bool.and_true, Bool.and_false, Bool.true_and, Bool.false_and, Bool.or_self, Bool.and_self, eq_self]) (by simp only [D_sheet, h_4, hbk, if_pos h_37, if_pos h_50, ix, cs, shBeg, mJ, mL, wr_s, ud_s, if_true, if_false, cond_true, cond_false, decide_true, decide_false, Bool.not_true, Bool.not_false, Bool.or_true, Bool.true_or, Bool.or_false, Bool.false_or, Bool.and_true, Bool.and_false, Bool.true_and, Bool.false_and, Bool.or_self, Bool.and_self, eq_self])
        · refine ev_aload_n rfl hC d_Day_sheet_53 ?_
          refine ev_ldc kc_Day_55 hC d_Day_sheet_54 ?_
          refine cv_Day1 hC d_Day_sheet_56 (c_Day_refuse (k := 0) (by omega) (by decide +kernel)) mi_Day_refuse ml_Day_56 im_Day_refuse se_Day_refuse rfl ⟨Nat.le_of_ble_eq_true rfl, Nat.le_of_ble_eq_true rfl⟩ ⟨Nat.le_of_ble_eq_true rfl, Nat.le_of_ble_eq_true rfl⟩ rfl rfl (Nat.le_of_ble_eq_true rfl)  ?_
          exact ev_iret hC hR d_Day_sheet_59 rfl (by simp only [D_sheet, bad, h_4, hbk, if_pos h_37, if_neg h_50, if_true, if_false, cond_true, cond_false, decide_true, decide_false, Bool.not_true, Bool.not_false, Bool.or_true, Bool.true_or, Bool.or_false, Bool.false_or, Bool.and_true, Bool.and_false, Bool.true_and, Bool.false_and, Bool.or_self, Bool.and_self, eq_self] <;> rfl) (by simp only [D_sheet, bad, h_4, hbk, if_pos h_37, if_neg h_50, if_true, if_false, cond_true, cond_false, decide_true, decide_false, Bool.not_true, Bool.not_false, Bool.or_true, Bool.true_or, Bool.or_false, Bool.false_or, Bool.and_true, Bool.and_false, Bool.true_and, Bool.false_and, Bool.or_self, Bool.and_self, eq_self] <;> rfl)
      · refine ev_aload_n rfl hC d_Day_sheet_40 ?_
        refine ev_ldc kc_Day_246 hC d_Day_sheet_41 ?_
        refine cv_Day1 hC d_Day_sheet_43 (c_Day_refuse (k := 6) (by omega) (by decide +kernel)) mi_Day_refuse ml_Day_56 im_Day_refuse se_Day_refuse rfl ⟨Nat.le_of_ble_eq_true rfl, Nat.le_of_ble_eq_true rfl⟩ ⟨Nat.le_of_ble_eq_true rfl, Nat.le_of_ble_eq_true rfl⟩ rfl rfl (Nat.le_of_ble_eq_true rfl)  ?_
        exact ev_iret hC hR d_Day_sheet_46 rfl (by simp only [D_sheet, bad, h_4, hbk, if_neg h_37, if_true, if_false, cond_true, cond_false, decide_true, decide_false, Bool.not_true, Bool.not_false, Bool.or_true, Bool.true_or, Bool.or_false, Bool.false_or, Bool.and_true, Bool.and_false, Bool.true_and, Bool.false_and, Bool.or_self, Bool.and_self, eq_self] <;> rfl) (by simp only [D_sheet, bad, h_4, hbk, if_neg h_37, if_true, if_false, cond_true, cond_false, decide_true, decide_false, Bool.not_true, Bool.not_false, Bool.or_true, Bool.true_or, Bool.or_false, Bool.false_or, Bool.and_true, Bool.and_false, Bool.true_and, Bool.false_and, Bool.or_self, Bool.and_self, eq_self] <;> rfl)
    · refine ev_iload_n rfl hC d_Day_sheet_11 ?_
      refine ev_bipush (v := 8) rfl hC d_Day_sheet_12 ?_
      refine ev_icmp_eq 36 hC d_Day_sheet_14 rfl (fun h_14 => ?_) (fun h_14 => ?_)
      · obtain ⟨s, hs, rfl⟩ := out_nat (n := 3) (by decide) h_4
        have cs : (nI s).toNatClampNeg = s := nI_clamp (by omega)
        have hbk : bitsOk b = true := by simp [bitsOk, h_8, h_14]
        refine ev_iload_n rfl hC d_Day_sheet_36 ?_
        refine ev_if_ge 47 hC d_Day_sheet_37 rfl (fun h_37 => ?_) (fun h_37 => ?_)
        · refine ev_iload_n rfl hC d_Day_sheet_47 ?_
          refine ev_bipush (v := 40) rfl hC d_Day_sheet_48 ?_
          refine ev_icmp_le 60 hC d_Day_sheet_50 rfl (fun h_50 => ?_) (fun h_50 => ?_)
          · refine ev_aload_n rfl hC d_Day_sheet_60 ?_
            refine gv_Day_sheets hC d_Day_sheet_61 fl_Day_42  ?_
            refine ev_iload_n rfl hC d_Day_sheet_64 ?_
            refine gr_sheets hC d_Day_sheet_65 (by first | assumption | omega) ?_
            refine ev_iload_n rfl hC d_Day_sheet_66 ?_
            refine ev_iload_n rfl hC d_Day_sheet_67 ?_
            refine cv_Sheet0 hC d_Day_sheet_68 (c_Sheet_begin (by first | assumption | omega)) mi_Sheet_begin ml_Day_247 im_Sheet_begin se_Sheet_begin rfl ⟨Nat.le_of_ble_eq_true rfl, Nat.le_of_ble_eq_true rfl⟩ ⟨Nat.le_of_ble_eq_true rfl, Nat.le_of_ble_eq_true rfl⟩ rfl rfl (Nat.le_of_ble_eq_true rfl) (by first | assumption | omega) ?_
            refine ev_aload_n rfl hC d_Day_sheet_71 ?_
            refine gv_Day_sheets hC d_Day_sheet_72 fl_Day_42  ?_
            refine ev_iload_n rfl hC d_Day_sheet_75 ?_
            refine gr_sheets hC d_Day_sheet_76 (by first | assumption | omega) ?_
            refine gn_Sheet_length hC d_Day_sheet_77 fl_Day_249 (by first | assumption | omega) ?_
            exact ev_iret hC hR d_Day_sheet_80 rfl (by simp only [D_sheet, h_4, hbk, if_pos h_37, if_pos h_50, ix, cs, shBeg, mJ, mL, wr_s, ud_s, if_true, if_false, cond_true, cond_false, decide_true, decide_false, Bool.not_true, Bool.not_false, Bool.or_true, Bool.true_or, Bool.or_false, Bool.false_or, Bool.and_true, Bool.and_false, Bool.true_and, Bool.false_and, Bool.or_self, Bool.and_self, eq_self]) (by simp only [D_sheet, h_4, hbk, if_pos h_37, if_pos h_50, ix, cs, shBeg, mJ, mL, wr_s, ud_s, if_true, if_false, cond_true, cond_false, decide_true, decide_false, Bool.not_true, Bool.not_false, Bool.or_true, Bool.true_or, Bool.or_false, Bool.false_or, Bool.and_true, Bool.and_false, Bool.true_and, Bool.false_and, Bool.or_self, Bool.and_self, eq_self])
          · refine ev_aload_n rfl hC d_Day_sheet_53 ?_
            refine ev_ldc kc_Day_55 hC d_Day_sheet_54 ?_
            refine cv_Day1 hC d_Day_sheet_56 (c_Day_refuse (k := 0) (by omega) (by decide +kernel)) mi_Day_refuse ml_Day_56 im_Day_refuse se_Day_refuse rfl ⟨Nat.le_of_ble_eq_true rfl, Nat.le_of_ble_eq_true rfl⟩ ⟨Nat.le_of_ble_eq_true rfl, Nat.le_of_ble_eq_true rfl⟩ rfl rfl (Nat.le_of_ble_eq_true rfl)  ?_
            exact ev_iret hC hR d_Day_sheet_59 rfl (by simp only [D_sheet, bad, h_4, hbk, if_pos h_37, if_neg h_50, if_true, if_false, cond_true, cond_false, decide_true, decide_false, Bool.not_true, Bool.not_false, Bool.or_true, Bool.true_or, Bool.or_false, Bool.false_or, Bool.and_true, Bool.and_false, Bool.true_and, Bool.false_and, Bool.or_self, Bool.and_self, eq_self] <;> rfl) (by simp only [D_sheet, bad, h_4, hbk, if_pos h_37, if_neg h_50, if_true, if_false, cond_true, cond_false, decide_true, decide_false, Bool.not_true, Bool.not_false, Bool.or_true, Bool.true_or, Bool.or_false, Bool.false_or, Bool.and_true, Bool.and_false, Bool.true_and, Bool.false_and, Bool.or_self, Bool.and_self, eq_self] <;> rfl)
        · refine ev_aload_n rfl hC d_Day_sheet_40 ?_
          refine ev_ldc kc_Day_246 hC d_Day_sheet_41 ?_
          refine cv_Day1 hC d_Day_sheet_43 (c_Day_refuse (k := 6) (by omega) (by decide +kernel)) mi_Day_refuse ml_Day_56 im_Day_refuse se_Day_refuse rfl ⟨Nat.le_of_ble_eq_true rfl, Nat.le_of_ble_eq_true rfl⟩ ⟨Nat.le_of_ble_eq_true rfl, Nat.le_of_ble_eq_true rfl⟩ rfl rfl (Nat.le_of_ble_eq_true rfl)  ?_
          exact ev_iret hC hR d_Day_sheet_46 rfl (by simp only [D_sheet, bad, h_4, hbk, if_neg h_37, if_true, if_false, cond_true, cond_false, decide_true, decide_false, Bool.not_true, Bool.not_false, Bool.or_true, Bool.true_or, Bool.or_false, Bool.false_or, Bool.and_true, Bool.and_false, Bool.true_and, Bool.false_and, Bool.or_self, Bool.and_self, eq_self] <;> rfl) (by simp only [D_sheet, bad, h_4, hbk, if_neg h_37, if_true, if_false, cond_true, cond_false, decide_true, decide_false, Bool.not_true, Bool.not_false, Bool.or_true, Bool.true_or, Bool.or_false, Bool.false_or, Bool.and_true, Bool.and_false, Bool.true_and, Bool.false_and, Bool.or_self, Bool.and_self, eq_self] <;> rfl)
      · refine ev_iload_n rfl hC d_Day_sheet_17 ?_
        refine ev_bipush (v := 16) rfl hC d_Day_sheet_18 ?_
        refine ev_icmp_eq 36 hC d_Day_sheet_20 rfl (fun h_20 => ?_) (fun h_20 => ?_)
        · obtain ⟨s, hs, rfl⟩ := out_nat (n := 3) (by decide) h_4
          have cs : (nI s).toNatClampNeg = s := nI_clamp (by omega)
          have hbk : bitsOk b = true := by simp [bitsOk, h_8, h_14, h_20]
          refine ev_iload_n rfl hC d_Day_sheet_36 ?_
          refine ev_if_ge 47 hC d_Day_sheet_37 rfl (fun h_37 => ?_) (fun h_37 => ?_)
          · refine ev_iload_n rfl hC d_Day_sheet_47 ?_
            refine ev_bipush (v := 40) rfl hC d_Day_sheet_48 ?_
            refine ev_icmp_le 60 hC d_Day_sheet_50 rfl (fun h_50 => ?_) (fun h_50 => ?_)
            · refine ev_aload_n rfl hC d_Day_sheet_60 ?_
              refine gv_Day_sheets hC d_Day_sheet_61 fl_Day_42  ?_
              refine ev_iload_n rfl hC d_Day_sheet_64 ?_
              refine gr_sheets hC d_Day_sheet_65 (by first | assumption | omega) ?_
              refine ev_iload_n rfl hC d_Day_sheet_66 ?_
              refine ev_iload_n rfl hC d_Day_sheet_67 ?_
              refine cv_Sheet0 hC d_Day_sheet_68 (c_Sheet_begin (by first | assumption | omega)) mi_Sheet_begin ml_Day_247 im_Sheet_begin se_Sheet_begin rfl ⟨Nat.le_of_ble_eq_true rfl, Nat.le_of_ble_eq_true rfl⟩ ⟨Nat.le_of_ble_eq_true rfl, Nat.le_of_ble_eq_true rfl⟩ rfl rfl (Nat.le_of_ble_eq_true rfl) (by first | assumption | omega) ?_
              refine ev_aload_n rfl hC d_Day_sheet_71 ?_
              refine gv_Day_sheets hC d_Day_sheet_72 fl_Day_42  ?_
              refine ev_iload_n rfl hC d_Day_sheet_75 ?_
              refine gr_sheets hC d_Day_sheet_76 (by first | assumption | omega) ?_
              refine gn_Sheet_length hC d_Day_sheet_77 fl_Day_249 (by first | assumption | omega) ?_
              exact ev_iret hC hR d_Day_sheet_80 rfl (by simp only [D_sheet, h_4, hbk, if_pos h_37, if_pos h_50, ix, cs, shBeg, mJ, mL, wr_s, ud_s, if_true, if_false, cond_true, cond_false, decide_true, decide_false, Bool.not_true, Bool.not_false, Bool.or_true, Bool.true_or, Bool.or_false, Bool.false_or, Bool.and_true, Bool.and_false, Bool.true_and, Bool.false_and, Bool.or_self, Bool.and_self, eq_self]) (by simp only [D_sheet, h_4, hbk, if_pos h_37, if_pos h_50, ix, cs, shBeg, mJ, mL, wr_s, ud_s, if_true, if_false, cond_true, cond_false, decide_true, decide_false, Bool.not_true, Bool.not_false, Bool.or_true, Bool.true_or, Bool.or_false, Bool.false_or, Bool.and_true, Bool.and_false, Bool.true_and, Bool.false_and, Bool.or_self, Bool.and_self, eq_self])
            · refine ev_aload_n rfl hC d_Day_sheet_53 ?_
              refine ev_ldc kc_Day_55 hC d_Day_sheet_54 ?_
              refine cv_Day1 hC d_Day_sheet_56 (c_Day_refuse (k := 0) (by omega) (by decide +kernel)) mi_Day_refuse ml_Day_56 im_Day_refuse se_Day_refuse rfl ⟨Nat.le_of_ble_eq_true rfl, Nat.le_of_ble_eq_true rfl⟩ ⟨Nat.le_of_ble_eq_true rfl, Nat.le_of_ble_eq_true rfl⟩ rfl rfl (Nat.le_of_ble_eq_true rfl)  ?_
              exact ev_iret hC hR d_Day_sheet_59 rfl (by simp only [D_sheet, bad, h_4, hbk, if_pos h_37, if_neg h_50, if_true, if_false, cond_true, cond_false, decide_true, decide_false, Bool.not_true, Bool.not_false, Bool.or_true, Bool.true_or, Bool.or_false, Bool.false_or, Bool.and_true, Bool.and_false, Bool.true_and, Bool.false_and, Bool.or_self, Bool.and_self, eq_self] <;> rfl) (by simp only [D_sheet, bad, h_4, hbk, if_pos h_37, if_neg h_50, if_true, if_false, cond_true, cond_false, decide_true, decide_false, Bool.not_true, Bool.not_false, Bool.or_true, Bool.true_or, Bool.or_false, Bool.false_or, Bool.and_true, Bool.and_false, Bool.true_and, Bool.false_and, Bool.or_self, Bool.and_self, eq_self] <;> rfl)
          · refine ev_aload_n rfl hC d_Day_sheet_40 ?_
            refine ev_ldc kc_Day_246 hC d_Day_sheet_41 ?_
            refine cv_Day1 hC d_Day_sheet_43 (c_Day_refuse (k := 6) (by omega) (by decide +kernel)) mi_Day_refuse ml_Day_56 im_Day_refuse se_Day_refuse rfl ⟨Nat.le_of_ble_eq_true rfl, Nat.le_of_ble_eq_true rfl⟩ ⟨Nat.le_of_ble_eq_true rfl, Nat.le_of_ble_eq_true rfl⟩ rfl rfl (Nat.le_of_ble_eq_true rfl)  ?_
            exact ev_iret hC hR d_Day_sheet_46 rfl (by simp only [D_sheet, bad, h_4, hbk, if_neg h_37, if_true, if_false, cond_true, cond_false, decide_true, decide_false, Bool.not_true, Bool.not_false, Bool.or_true, Bool.true_or, Bool.or_false, Bool.false_or, Bool.and_true, Bool.and_false, Bool.true_and, Bool.false_and, Bool.or_self, Bool.and_self, eq_self] <;> rfl) (by simp only [D_sheet, bad, h_4, hbk, if_neg h_37, if_true, if_false, cond_true, cond_false, decide_true, decide_false, Bool.not_true, Bool.not_false, Bool.or_true, Bool.true_or, Bool.or_false, Bool.false_or, Bool.and_true, Bool.and_false, Bool.true_and, Bool.false_and, Bool.or_self, Bool.and_self, eq_self] <;> rfl)
        · refine ev_iload_n rfl hC d_Day_sheet_23 ?_
          refine ev_bipush (v := 64) rfl hC d_Day_sheet_24 ?_
          refine ev_icmp_eq 36 hC d_Day_sheet_26 rfl (fun h_26 => ?_) (fun h_26 => ?_)
          · obtain ⟨s, hs, rfl⟩ := out_nat (n := 3) (by decide) h_4
            have cs : (nI s).toNatClampNeg = s := nI_clamp (by omega)
            have hbk : bitsOk b = true := by simp [bitsOk, h_8, h_14, h_20, h_26]
            refine ev_iload_n rfl hC d_Day_sheet_36 ?_
            refine ev_if_ge 47 hC d_Day_sheet_37 rfl (fun h_37 => ?_) (fun h_37 => ?_)
            · refine ev_iload_n rfl hC d_Day_sheet_47 ?_
              refine ev_bipush (v := 40) rfl hC d_Day_sheet_48 ?_
              refine ev_icmp_le 60 hC d_Day_sheet_50 rfl (fun h_50 => ?_) (fun h_50 => ?_)
              · refine ev_aload_n rfl hC d_Day_sheet_60 ?_
                refine gv_Day_sheets hC d_Day_sheet_61 fl_Day_42  ?_
                refine ev_iload_n rfl hC d_Day_sheet_64 ?_
                refine gr_sheets hC d_Day_sheet_65 (by first | assumption | omega) ?_
                refine ev_iload_n rfl hC d_Day_sheet_66 ?_
                refine ev_iload_n rfl hC d_Day_sheet_67 ?_
                refine cv_Sheet0 hC d_Day_sheet_68 (c_Sheet_begin (by first | assumption | omega)) mi_Sheet_begin ml_Day_247 im_Sheet_begin se_Sheet_begin rfl ⟨Nat.le_of_ble_eq_true rfl, Nat.le_of_ble_eq_true rfl⟩ ⟨Nat.le_of_ble_eq_true rfl, Nat.le_of_ble_eq_true rfl⟩ rfl rfl (Nat.le_of_ble_eq_true rfl) (by first | assumption | omega) ?_
                refine ev_aload_n rfl hC d_Day_sheet_71 ?_
                refine gv_Day_sheets hC d_Day_sheet_72 fl_Day_42  ?_
                refine ev_iload_n rfl hC d_Day_sheet_75 ?_
                refine gr_sheets hC d_Day_sheet_76 (by first | assumption | omega) ?_
                refine gn_Sheet_length hC d_Day_sheet_77 fl_Day_249 (by first | assumption | omega) ?_
                exact ev_iret hC hR d_Day_sheet_80 rfl (by simp only [D_sheet, h_4, hbk, if_pos h_37, if_pos h_50, ix, cs, shBeg, mJ, mL, wr_s, ud_s, if_true, if_false, cond_true, cond_false, decide_true, decide_false, Bool.not_true, Bool.not_false, Bool.or_true, Bool.true_or, Bool.or_false, Bool.false_or, Bool.and_true, Bool.and_false, Bool.true_and, Bool.false_and, Bool.or_self, Bool.and_self, eq_self]) (by simp only [D_sheet, h_4, hbk, if_pos h_37, if_pos h_50, ix, cs, shBeg, mJ, mL, wr_s, ud_s, if_true, if_false, cond_true, cond_false, decide_true, decide_false, Bool.not_true, Bool.not_false, Bool.or_true, Bool.true_or, Bool.or_false, Bool.false_or, Bool.and_true, Bool.and_false, Bool.true_and, Bool.false_and, Bool.or_self, Bool.and_self, eq_self])
              · refine ev_aload_n rfl hC d_Day_sheet_53 ?_
                refine ev_ldc kc_Day_55 hC d_Day_sheet_54 ?_
                refine cv_Day1 hC d_Day_sheet_56 (c_Day_refuse (k := 0) (by omega) (by decide +kernel)) mi_Day_refuse ml_Day_56 im_Day_refuse se_Day_refuse rfl ⟨Nat.le_of_ble_eq_true rfl, Nat.le_of_ble_eq_true rfl⟩ ⟨Nat.le_of_ble_eq_true rfl, Nat.le_of_ble_eq_true rfl⟩ rfl rfl (Nat.le_of_ble_eq_true rfl)  ?_
                exact ev_iret hC hR d_Day_sheet_59 rfl (by simp only [D_sheet, bad, h_4, hbk, if_pos h_37, if_neg h_50, if_true, if_false, cond_true, cond_false, decide_true, decide_false, Bool.not_true, Bool.not_false, Bool.or_true, Bool.true_or, Bool.or_false, Bool.false_or, Bool.and_true, Bool.and_false, Bool.true_and, Bool.false_and, Bool.or_self, Bool.and_self, eq_self] <;> rfl) (by simp only [D_sheet, bad, h_4, hbk, if_pos h_37, if_neg h_50, if_true, if_false, cond_true, cond_false, decide_true, decide_false, Bool.not_true, Bool.not_false, Bool.or_true, Bool.true_or, Bool.or_false, Bool.false_or, Bool.and_true, Bool.and_false, Bool.true_and, Bool.false_and, Bool.or_self, Bool.and_self, eq_self] <;> rfl)
            · refine ev_aload_n rfl hC d_Day_sheet_40 ?_
              refine ev_ldc kc_Day_246 hC d_Day_sheet_41 ?_
              refine cv_Day1 hC d_Day_sheet_43 (c_Day_refuse (k := 6) (by omega) (by decide +kernel)) mi_Day_refuse ml_Day_56 im_Day_refuse se_Day_refuse rfl ⟨Nat.le_of_ble_eq_true rfl, Nat.le_of_ble_eq_true rfl⟩ ⟨Nat.le_of_ble_eq_true rfl, Nat.le_of_ble_eq_true rfl⟩ rfl rfl (Nat.le_of_ble_eq_true rfl)  ?_
              exact ev_iret hC hR d_Day_sheet_46 rfl (by simp only [D_sheet, bad, h_4, hbk, if_neg h_37, if_true, if_false, cond_true, cond_false, decide_true, decide_false, Bool.not_true, Bool.not_false, Bool.or_true, Bool.true_or, Bool.or_false, Bool.false_or, Bool.and_true, Bool.and_false, Bool.true_and, Bool.false_and, Bool.or_self, Bool.and_self, eq_self] <;> rfl) (by simp only [D_sheet, bad, h_4, hbk, if_neg h_37, if_true, if_false, cond_true, cond_false, decide_true, decide_false, Bool.not_true, Bool.not_false, Bool.or_true, Bool.true_or, Bool.or_false, Bool.false_or, Bool.and_true, Bool.and_false, Bool.true_and, Bool.false_and, Bool.or_self, Bool.and_self, eq_self] <;> rfl)
          · refine ev_aload_n rfl hC d_Day_sheet_29 ?_
            refine ev_ldc kc_Day_55 hC d_Day_sheet_30 ?_
            refine cv_Day1 hC d_Day_sheet_32 (c_Day_refuse (k := 0) (by omega) (by decide +kernel)) mi_Day_refuse ml_Day_56 im_Day_refuse se_Day_refuse rfl ⟨Nat.le_of_ble_eq_true rfl, Nat.le_of_ble_eq_true rfl⟩ ⟨Nat.le_of_ble_eq_true rfl, Nat.le_of_ble_eq_true rfl⟩ rfl rfl (Nat.le_of_ble_eq_true rfl)  ?_
            exact ev_iret hC hR d_Day_sheet_35 rfl (by simp only [D_sheet, bitsOk, bad, h_4, h_8, h_14, h_20, h_26, if_true, if_false, cond_true, cond_false, decide_true, decide_false, Bool.not_true, Bool.not_false, Bool.or_true, Bool.true_or, Bool.or_false, Bool.false_or, Bool.and_true, Bool.and_false, Bool.true_and, Bool.false_and, Bool.or_self, Bool.and_self, eq_self] <;> rfl) (by simp only [D_sheet, bitsOk, bad, h_4, h_8, h_14, h_20, h_26, if_true, if_false, cond_true, cond_false, decide_true, decide_false, Bool.not_true, Bool.not_false, Bool.or_true, Bool.true_or, Bool.or_false, Bool.false_or, Bool.and_true, Bool.and_false, Bool.true_and, Bool.false_and, Bool.or_self, Bool.and_self, eq_self] <;> rfl)

set_option maxHeartbeats 2000000 in
set_option maxRecDepth 10000 in
theorem c_Day_write {G : ex_G} {M : ex_M} {x i : Int32} {v : Int64} (ws : WS (M.1 6)) : Con G Y_Day_write 3 63 0 0 [.ref (ex_b G + 0), .int x, .int i, .long v] (ce G M) (some (.long (D_write M x i v).1)) (ce G ((D_write M x i v).2)) := by
  refine Con.ofF (plainFor_of_name (by decide +kernel)) (Nat.le_of_ble_eq_true rfl) (fun C hC hR => ?_)
  show Ev G C Y_Day_write 0 [some (.ref (ex_b G + 0)), some (.int x), some (.int i), some (.long v), none] [] 0 0 (ce G M)
  refine ev_aload_n rfl hC d_Day_write_0 ?_
  refine ev_iload_n rfl hC d_Day_write_1 ?_
  refine cv_Day1 hC d_Day_write_2 (c_Day_findingOf ) mi_Day_findingOf ml_Day_250 im_Day_findingOf se_Day_findingOf rfl ⟨Nat.le_of_ble_eq_true rfl, Nat.le_of_ble_eq_true rfl⟩ ⟨Nat.le_of_ble_eq_true rfl, Nat.le_of_ble_eq_true rfl⟩ rfl rfl (Nat.le_of_ble_eq_true rfl)  ?_
  refine ev_istore (by decide) hC d_Day_write_5 ?_
  refine ev_iload rfl hC d_Day_write_7 ?_
  refine ev_if_eq 20 hC d_Day_write_9 rfl (fun h_9 => ?_) (fun h_9 => ?_)
  · obtain ⟨s, hs, rfl, hms⟩ := fo_0 h_9
    have cs : (nI s).toNatClampNeg = s := nI_clamp (by omega)
    obtain ⟨l, hl, el⟩ := ws s hs
    refine ev_iload_n rfl hC d_Day_write_20 ?_
    refine ev_iconst (v := 0) rfl hC d_Day_write_21 ?_
    refine ev_aload_n rfl hC d_Day_write_22 ?_
    refine gv_Day_sheets hC d_Day_write_23 fl_Day_42  ?_
    refine ev_iload_n rfl hC d_Day_write_26 ?_
    refine gr_sheets hC d_Day_write_27 (by first | assumption | omega) ?_
    refine gn_Sheet_length hC d_Day_write_28 fl_Day_249 (by first | assumption | omega) ?_
    refine ev_iconst (v := 1) rfl hC d_Day_write_31 ?_
    refine ev_isub hC d_Day_write_32 ?_
    refine cs_1 hC d_Day_write_33 (c_Day_outside ) mi_Day_outside ml_Day_51 sm_Day_outside ⟨Nat.le_of_ble_eq_true rfl, Nat.le_of_ble_eq_true rfl⟩ ⟨Nat.le_of_ble_eq_true rfl, Nat.le_of_ble_eq_true rfl⟩ rfl rfl (Nat.le_of_ble_eq_true rfl) ?_
    refine eb_eq 47 hC d_Day_write_36 rfl (fun h_36 => ?_) (fun h_36 => ?_)
    · obtain ⟨k, hk, rfl⟩ := out_ix2 el (by omega) h_36
      have ck : (nI k).toNatClampNeg = k := nI_clamp (by omega)
      refine ev_aload_n rfl hC d_Day_write_47 ?_
      refine gv_Day_sheets hC d_Day_write_48 fl_Day_42  ?_
      refine ev_iload_n rfl hC d_Day_write_51 ?_
      refine gr_sheets hC d_Day_write_52 (by first | assumption | omega) ?_
      refine gn_Sheet_numbers hC d_Day_write_53 fl_Day_253 (by first | assumption | omega) ?_
      refine ev_iload_n rfl hC d_Day_write_56 ?_
      refine ga_N hC d_Day_write_57 (by first | assumption | omega) (by first | assumption | omega) ?_
      refine ev_lstore (by decide) hC d_Day_write_58 ?_
      refine ev_aload_n rfl hC d_Day_write_60 ?_
      refine gv_Day_sheets hC d_Day_write_61 fl_Day_42  ?_
      refine ev_iload_n rfl hC d_Day_write_64 ?_
      refine gr_sheets hC d_Day_write_65 (by first | assumption | omega) ?_
      refine ev_iload_n rfl hC d_Day_write_66 ?_
      refine ev_lload_n rfl hC d_Day_write_67 ?_
      refine cv_Sheet0 hC d_Day_write_68 (c_Sheet_put (by first | assumption | omega) (by first | assumption | omega)) mi_Sheet_put ml_Day_257 im_Sheet_put se_Sheet_put rfl ⟨Nat.le_of_ble_eq_true rfl, Nat.le_of_ble_eq_true rfl⟩ ⟨Nat.le_of_ble_eq_true rfl, Nat.le_of_ble_eq_true rfl⟩ rfl rfl (Nat.le_of_ble_eq_true rfl) (by first | assumption | omega) ?_
      refine ev_lload rfl hC d_Day_write_71 ?_
      exact ev_lret hC hR d_Day_write_73 rfl (by rw [D_write, if_pos h_9]; simp only [h_36, ix, cs, ck, cond_false]) (by rw [D_write, if_pos h_9]; simp only [h_36, ix, cs, ck, cond_false])
    · refine ev_aload_n rfl hC d_Day_write_39 ?_
      refine ev_ldc kc_Day_55 hC d_Day_write_40 ?_
      refine cv_Day1 hC d_Day_write_42 (c_Day_refuse (k := 0) (by omega) (by decide +kernel)) mi_Day_refuse ml_Day_56 im_Day_refuse se_Day_refuse rfl ⟨Nat.le_of_ble_eq_true rfl, Nat.le_of_ble_eq_true rfl⟩ ⟨Nat.le_of_ble_eq_true rfl, Nat.le_of_ble_eq_true rfl⟩ rfl rfl (Nat.le_of_ble_eq_true rfl)  ?_
      refine ev_i2l hC d_Day_write_45 ?_
      exact ev_lret hC hR d_Day_write_46 rfl (by rw [D_write, if_pos h_9]; simp only [h_36, ix, cs, cond_true]; rfl) (by rw [D_write, if_pos h_9]; simp only [h_36, ix, cs, cond_true])
  · refine ev_aload_n rfl hC d_Day_write_12 ?_
    refine ev_iload rfl hC d_Day_write_13 ?_
    refine cv_Day1 hC d_Day_write_15 (c_Day_refuse_fo (fo_n h_9)) mi_Day_refuse ml_Day_56 im_Day_refuse se_Day_refuse rfl ⟨Nat.le_of_ble_eq_true rfl, Nat.le_of_ble_eq_true rfl⟩ ⟨Nat.le_of_ble_eq_true rfl, Nat.le_of_ble_eq_true rfl⟩ rfl rfl (Nat.le_of_ble_eq_true rfl)  ?_
    refine ev_i2l hC d_Day_write_18 ?_
    exact ev_lret hC hR d_Day_write_19 rfl (by rw [D_write, if_neg h_9]) (by rw [D_write, if_neg h_9])

set_option maxHeartbeats 2000000 in
set_option maxRecDepth 10000 in
theorem c_Day_copy {G : ex_G} {M : ex_M} {x f y o n : Int32} (ws : WS (M.1 6)) : Con G Y_Day_copy 2 44 0 0 [.ref (ex_b G + 0), .int x, .int f, .int y, .int o, .int n] (ce G M) (some (.int (D_copy M x f y o n).1)) (ce G ((D_copy M x f y o n).2)) := by
  refine Con.ofF (plainFor_of_name (by decide +kernel)) (Nat.le_of_ble_eq_true rfl) (fun C hC hR => ?_)
  show Ev G C Y_Day_copy 0 [some (.ref (ex_b G + 0)), some (.int x), some (.int f), some (.int y), some (.int o), some (.int n)] [] 0 0 (ce G M)
  refine ev_iload_n rfl hC d_Day_copy_0 ?_
  refine cs_1 hC d_Day_copy_1 (c_Day_noSheet ) mi_Day_noSheet ml_Day_243 sm_Day_noSheet ⟨Nat.le_of_ble_eq_true rfl, Nat.le_of_ble_eq_true rfl⟩ ⟨Nat.le_of_ble_eq_true rfl, Nat.le_of_ble_eq_true rfl⟩ rfl rfl (Nat.le_of_ble_eq_true rfl) ?_
  refine eb_ne 14 hC d_Day_copy_4 rfl (fun h_4 => ?_) (fun h_4 => ?_)
  · refine ev_aload_n rfl hC d_Day_copy_14 ?_
    refine ev_ldc kc_Day_55 hC d_Day_copy_15 ?_
    refine cv_Day1 hC d_Day_copy_17 (c_Day_refuse (k := 0) (by omega) (by decide +kernel)) mi_Day_refuse ml_Day_56 im_Day_refuse se_Day_refuse rfl ⟨Nat.le_of_ble_eq_true rfl, Nat.le_of_ble_eq_true rfl⟩ ⟨Nat.le_of_ble_eq_true rfl, Nat.le_of_ble_eq_true rfl⟩ rfl rfl (Nat.le_of_ble_eq_true rfl)  ?_
    exact ev_iret hC hR d_Day_copy_20 rfl (by simp only [D_copy, bad, holdsB, h_4, if_true, if_false, cond_true, cond_false, decide_true, decide_false, Bool.not_true, Bool.not_false, Bool.or_true, Bool.true_or, Bool.or_false, Bool.false_or, Bool.and_true, Bool.and_false, Bool.true_and, Bool.false_and, Bool.or_self, Bool.and_self, eq_self] <;> rfl) (by simp only [D_copy, bad, holdsB, h_4, if_true, if_false, cond_true, cond_false, decide_true, decide_false, Bool.not_true, Bool.not_false, Bool.or_true, Bool.true_or, Bool.or_false, Bool.false_or, Bool.and_true, Bool.and_false, Bool.true_and, Bool.false_and, Bool.or_self, Bool.and_self, eq_self] <;> rfl)
  · refine ev_iload_n rfl hC d_Day_copy_7 ?_
    refine cs_1 hC d_Day_copy_8 (c_Day_noSheet ) mi_Day_noSheet ml_Day_243 sm_Day_noSheet ⟨Nat.le_of_ble_eq_true rfl, Nat.le_of_ble_eq_true rfl⟩ ⟨Nat.le_of_ble_eq_true rfl, Nat.le_of_ble_eq_true rfl⟩ rfl rfl (Nat.le_of_ble_eq_true rfl) ?_
    refine eb_eq 21 hC d_Day_copy_11 rfl (fun h_11 => ?_) (fun h_11 => ?_)
    · obtain ⟨s, hs, rfl⟩ := out_nat (n := 3) (by decide) h_4
      have cs : (nI s).toNatClampNeg = s := nI_clamp (by omega)
      obtain ⟨t, ht, rfl⟩ := out_nat (n := 3) (by decide) h_11
      have ct : (nI t).toNatClampNeg = t := nI_clamp (by omega)
      have hs : s < 4 := by omega
      have ht : t < 4 := by omega
      obtain ⟨l, hl, el⟩ := ws s hs
      obtain ⟨l2, hl2, el2⟩ := ws t ht
      refine ev_aload_n rfl hC d_Day_copy_21 ?_
      refine gv_Day_sheets hC d_Day_copy_22 fl_Day_42  ?_
      refine ev_iload_n rfl hC d_Day_copy_25 ?_
      refine gr_sheets hC d_Day_copy_26 (by first | assumption | omega) ?_
      refine cv_Sheet1 hC d_Day_copy_27 (c_Sheet_isMissing (by first | assumption | omega)) mi_Sheet_isMissing ml_Day_261 im_Sheet_isMissing se_Sheet_isMissing rfl ⟨Nat.le_of_ble_eq_true rfl, Nat.le_of_ble_eq_true rfl⟩ ⟨Nat.le_of_ble_eq_true rfl, Nat.le_of_ble_eq_true rfl⟩ rfl rfl (Nat.le_of_ble_eq_true rfl) (by first | assumption | omega) ?_
      refine eb_ne 45 hC d_Day_copy_30 rfl (fun h_30 => ?_) (fun h_30 => ?_)
      · refine ev_aload_n rfl hC d_Day_copy_45 ?_
        refine ev_ldcw kc_Day_264 hC d_Day_copy_46 ?_
        refine cv_Day1 hC d_Day_copy_49 (c_Day_refuse (k := 5) (by omega) (by decide +kernel)) mi_Day_refuse ml_Day_56 im_Day_refuse se_Day_refuse rfl ⟨Nat.le_of_ble_eq_true rfl, Nat.le_of_ble_eq_true rfl⟩ ⟨Nat.le_of_ble_eq_true rfl, Nat.le_of_ble_eq_true rfl⟩ rfl rfl (Nat.le_of_ble_eq_true rfl)  ?_
        exact ev_iret hC hR d_Day_copy_52 rfl (by simp only [D_copy, bad, holdsB, h_4, h_11, h_30, ix, cs, ct, if_true, if_false, cond_true, cond_false, decide_true, decide_false, Bool.not_true, Bool.not_false, Bool.or_true, Bool.true_or, Bool.or_false, Bool.false_or, Bool.and_true, Bool.and_false, Bool.true_and, Bool.false_and, Bool.or_self, Bool.and_self, eq_self] <;> rfl) (by simp only [D_copy, bad, holdsB, h_4, h_11, h_30, ix, cs, ct, if_true, if_false, cond_true, cond_false, decide_true, decide_false, Bool.not_true, Bool.not_false, Bool.or_true, Bool.true_or, Bool.or_false, Bool.false_or, Bool.and_true, Bool.and_false, Bool.true_and, Bool.false_and, Bool.or_self, Bool.and_self, eq_self] <;> rfl)
      · refine ev_aload_n rfl hC d_Day_copy_33 ?_
        refine gv_Day_sheets hC d_Day_copy_34 fl_Day_42  ?_
        refine ev_iload_n rfl hC d_Day_copy_37 ?_
        refine gr_sheets hC d_Day_copy_38 (by first | assumption | omega) ?_
        refine cv_Sheet1 hC d_Day_copy_39 (c_Sheet_isMissing (by first | assumption | omega)) mi_Sheet_isMissing ml_Day_261 im_Sheet_isMissing se_Sheet_isMissing rfl ⟨Nat.le_of_ble_eq_true rfl, Nat.le_of_ble_eq_true rfl⟩ ⟨Nat.le_of_ble_eq_true rfl, Nat.le_of_ble_eq_true rfl⟩ rfl rfl (Nat.le_of_ble_eq_true rfl) (by first | assumption | omega) ?_
        refine eb_eq 53 hC d_Day_copy_42 rfl (fun h_42 => ?_) (fun h_42 => ?_)
        · refine ev_aload_n rfl hC d_Day_copy_53 ?_
          refine gv_Day_sheets hC d_Day_copy_54 fl_Day_42  ?_
          refine ev_iload_n rfl hC d_Day_copy_57 ?_
          refine gr_sheets hC d_Day_copy_58 (by first | assumption | omega) ?_
          refine gn_Sheet_bits hC d_Day_copy_59 fl_Day_265 (by first | assumption | omega) ?_
          refine ev_aload_n rfl hC d_Day_copy_62 ?_
          refine gv_Day_sheets hC d_Day_copy_63 fl_Day_42  ?_
          refine ev_iload_n rfl hC d_Day_copy_66 ?_
          refine gr_sheets hC d_Day_copy_67 (by first | assumption | omega) ?_
          refine gn_Sheet_bits hC d_Day_copy_68 fl_Day_265 (by first | assumption | omega) ?_
          refine ev_icmp_eq 81 hC d_Day_copy_71 rfl (fun h_71 => ?_) (fun h_71 => ?_)
          · refine ev_aload_n rfl hC d_Day_copy_81 ?_
            refine gv_Day_sheets hC d_Day_copy_82 fl_Day_42  ?_
            refine ev_iload_n rfl hC d_Day_copy_85 ?_
            refine gr_sheets hC d_Day_copy_86 (by first | assumption | omega) ?_
            refine ev_iload_n rfl hC d_Day_copy_87 ?_
            refine ev_iload rfl hC d_Day_copy_88 ?_
            refine cv_Sheet1 hC d_Day_copy_90 (c_Sheet_holds (by first | assumption | omega)) mi_Sheet_holds ml_Day_268 im_Sheet_holds se_Sheet_holds rfl ⟨Nat.le_of_ble_eq_true rfl, Nat.le_of_ble_eq_true rfl⟩ ⟨Nat.le_of_ble_eq_true rfl, Nat.le_of_ble_eq_true rfl⟩ rfl rfl (Nat.le_of_ble_eq_true rfl) (by first | assumption | omega) ?_
            refine eb_eq 112 hC d_Day_copy_93 rfl (fun h_93 => ?_) (fun h_93 => ?_)
            · refine ev_aload_n rfl hC d_Day_copy_112 ?_
              refine ev_ldc kc_Day_55 hC d_Day_copy_113 ?_
              refine cv_Day1 hC d_Day_copy_115 (c_Day_refuse (k := 0) (by omega) (by decide +kernel)) mi_Day_refuse ml_Day_56 im_Day_refuse se_Day_refuse rfl ⟨Nat.le_of_ble_eq_true rfl, Nat.le_of_ble_eq_true rfl⟩ ⟨Nat.le_of_ble_eq_true rfl, Nat.le_of_ble_eq_true rfl⟩ rfl rfl (Nat.le_of_ble_eq_true rfl)  ?_
              exact ev_iret hC hR d_Day_copy_118 rfl (by simp only [D_copy, bad, holdsB, h_4, h_11, h_30, h_42, h_71, h_93, ix, cs, ct, if_true, if_false, cond_true, cond_false, decide_true, decide_false, Bool.not_true, Bool.not_false, Bool.or_true, Bool.true_or, Bool.or_false, Bool.false_or, Bool.and_true, Bool.and_false, Bool.true_and, Bool.false_and, Bool.or_self, Bool.and_self, eq_self] <;> rfl) (by simp only [D_copy, bad, holdsB, h_4, h_11, h_30, h_42, h_71, h_93, ix, cs, ct, if_true, if_false, cond_true, cond_false, decide_true, decide_false, Bool.not_true, Bool.not_false, Bool.or_true, Bool.true_or, Bool.or_false, Bool.false_or, Bool.and_true, Bool.and_false, Bool.true_and, Bool.false_and, Bool.or_self, Bool.and_self, eq_self] <;> rfl)
            · refine ev_aload_n rfl hC d_Day_copy_96 ?_
              refine gv_Day_sheets hC d_Day_copy_97 fl_Day_42  ?_
              refine ev_iload_n rfl hC d_Day_copy_100 ?_
              refine gr_sheets hC d_Day_copy_101 (by first | assumption | omega) ?_
              refine ev_iload rfl hC d_Day_copy_102 ?_
              refine ev_iload rfl hC d_Day_copy_104 ?_
              refine cv_Sheet1 hC d_Day_copy_106 (c_Sheet_holds (by first | assumption | omega)) mi_Sheet_holds ml_Day_268 im_Sheet_holds se_Sheet_holds rfl ⟨Nat.le_of_ble_eq_true rfl, Nat.le_of_ble_eq_true rfl⟩ ⟨Nat.le_of_ble_eq_true rfl, Nat.le_of_ble_eq_true rfl⟩ rfl rfl (Nat.le_of_ble_eq_true rfl) (by first | assumption | omega) ?_
              refine eb_ne 119 hC d_Day_copy_109 rfl (fun h_109 => ?_) (fun h_109 => ?_)
              · refine ev_aload_n rfl hC d_Day_copy_119 ?_
                refine gv_Day_sheets hC d_Day_copy_120 fl_Day_42  ?_
                refine ev_iload_n rfl hC d_Day_copy_123 ?_
                refine gr_sheets hC d_Day_copy_124 (by first | assumption | omega) ?_
                refine gn_Sheet_numbers hC d_Day_copy_125 fl_Day_253 (by first | assumption | omega) ?_
                refine ev_iload_n rfl hC d_Day_copy_128 ?_
                refine ev_aload_n rfl hC d_Day_copy_129 ?_
                refine gv_Day_sheets hC d_Day_copy_130 fl_Day_42  ?_
                refine ev_iload_n rfl hC d_Day_copy_133 ?_
                refine gr_sheets hC d_Day_copy_134 (by first | assumption | omega) ?_
                refine gn_Sheet_numbers hC d_Day_copy_135 fl_Day_253 (by first | assumption | omega) ?_
                refine ev_iload rfl hC d_Day_copy_138 ?_
                refine ev_iload rfl hC d_Day_copy_140 ?_
                obtain ⟨fa, fk, rfl, rfl, hfk⟩ := holds_of hl (by rw [← el]; exact h_93)
                obtain ⟨oa, ok, rfl, eok, hok⟩ := holds_of hl2 (by rw [← el2]; exact h_109)
                have ek : ok = fk := by
                  have h1 : nI ok = nI fk := eok.symm
                  rcases Nat.lt_or_ge fk (2 ^ 31) with hz | hz
                  · exact (nI_eq (by omega) hz).mp h1
                  · omega
                subst ek
                have cfa : (nI fa).toNatClampNeg = fa := nI_clamp (by omega)
                have coa : (nI oa).toNatClampNeg = oa := nI_clamp (by omega)
                have cok : (nI ok).toNatClampNeg = ok := nI_clamp (by omega)
                refine ev_copyL hC d_Day_copy_142 ml_Day_271 na_copy sm_copy ii_System (by rw [ce_len]; exact Nat.le_refl _) (w_N hs) (w_N ht) (nI_pos (by omega)) (nI_pos (by omega)) (nI_pos (by omega)) (by rw [cfa, cok]; omega) (by rw [coa, cok]; omega) ⟨Nat.le_of_ble_eq_true rfl, Nat.le_of_ble_eq_true rfl⟩ ?_
                rw [show (.inl (ex_c G 1, 40, .inr (.inl (va_cpy (M.2 s) (M.2 t) (nI fa).toNatClampNeg (nI oa).toNatClampNeg (nI ok).toNatClampNeg))) : va_E) = ce_la G 40 (va_cpy (M.2 s) (M.2 t) (nI fa).toNatClampNeg (nI oa).toNatClampNeg (nI ok).toNatClampNeg) from rfl, s_N ht]
                refine ev_iload rfl hC d_Day_copy_145 ?_
                exact ev_iret hC hR d_Day_copy_147 rfl (by simp only [D_copy, bad, holdsB, h_4, h_11, h_30, h_42, h_71, h_93, h_109, ix, cs, ct, if_true, if_false, cond_true, cond_false, decide_true, decide_false, Bool.not_true, Bool.not_false, Bool.or_true, Bool.true_or, Bool.or_false, Bool.false_or, Bool.and_true, Bool.and_false, Bool.true_and, Bool.false_and, Bool.or_self, Bool.and_self, eq_self] <;> rfl) (by simp only [D_copy, bad, holdsB, h_4, h_11, h_30, h_42, h_71, h_93, h_109, ix, cs, ct, if_true, if_false, cond_true, cond_false, decide_true, decide_false, Bool.not_true, Bool.not_false, Bool.or_true, Bool.true_or, Bool.or_false, Bool.false_or, Bool.and_true, Bool.and_false, Bool.true_and, Bool.false_and, Bool.or_self, Bool.and_self, eq_self] <;> rfl)
              · refine ev_aload_n rfl hC d_Day_copy_112 ?_
                refine ev_ldc kc_Day_55 hC d_Day_copy_113 ?_
                refine cv_Day1 hC d_Day_copy_115 (c_Day_refuse (k := 0) (by omega) (by decide +kernel)) mi_Day_refuse ml_Day_56 im_Day_refuse se_Day_refuse rfl ⟨Nat.le_of_ble_eq_true rfl, Nat.le_of_ble_eq_true rfl⟩ ⟨Nat.le_of_ble_eq_true rfl, Nat.le_of_ble_eq_true rfl⟩ rfl rfl (Nat.le_of_ble_eq_true rfl)  ?_
                exact ev_iret hC hR d_Day_copy_118 rfl (by simp only [D_copy, bad, holdsB, h_4, h_11, h_30, h_42, h_71, h_93, h_109, ix, cs, ct, if_true, if_false, cond_true, cond_false, decide_true, decide_false, Bool.not_true, Bool.not_false, Bool.or_true, Bool.true_or, Bool.or_false, Bool.false_or, Bool.and_true, Bool.and_false, Bool.true_and, Bool.false_and, Bool.or_self, Bool.and_self, eq_self] <;> rfl) (by simp only [D_copy, bad, holdsB, h_4, h_11, h_30, h_42, h_71, h_93, h_109, ix, cs, ct, if_true, if_false, cond_true, cond_false, decide_true, decide_false, Bool.not_true, Bool.not_false, Bool.or_true, Bool.true_or, Bool.or_false, Bool.false_or, Bool.and_true, Bool.and_false, Bool.true_and, Bool.false_and, Bool.or_self, Bool.and_self, eq_self] <;> rfl)
          · refine ev_aload_n rfl hC d_Day_copy_74 ?_
            refine ev_ldc kc_Day_147 hC d_Day_copy_75 ?_
            refine cv_Day1 hC d_Day_copy_77 (c_Day_refuse (k := 2) (by omega) (by decide +kernel)) mi_Day_refuse ml_Day_56 im_Day_refuse se_Day_refuse rfl ⟨Nat.le_of_ble_eq_true rfl, Nat.le_of_ble_eq_true rfl⟩ ⟨Nat.le_of_ble_eq_true rfl, Nat.le_of_ble_eq_true rfl⟩ rfl rfl (Nat.le_of_ble_eq_true rfl)  ?_
            exact ev_iret hC hR d_Day_copy_80 rfl (by simp only [D_copy, bad, holdsB, h_4, h_11, h_30, h_42, h_71, ix, cs, ct, if_true, if_false, cond_true, cond_false, decide_true, decide_false, Bool.not_true, Bool.not_false, Bool.or_true, Bool.true_or, Bool.or_false, Bool.false_or, Bool.and_true, Bool.and_false, Bool.true_and, Bool.false_and, Bool.or_self, Bool.and_self, eq_self] <;> rfl) (by simp only [D_copy, bad, holdsB, h_4, h_11, h_30, h_42, h_71, ix, cs, ct, if_true, if_false, cond_true, cond_false, decide_true, decide_false, Bool.not_true, Bool.not_false, Bool.or_true, Bool.true_or, Bool.or_false, Bool.false_or, Bool.and_true, Bool.and_false, Bool.true_and, Bool.false_and, Bool.or_self, Bool.and_self, eq_self] <;> rfl)
        · refine ev_aload_n rfl hC d_Day_copy_45 ?_
          refine ev_ldcw kc_Day_264 hC d_Day_copy_46 ?_
          refine cv_Day1 hC d_Day_copy_49 (c_Day_refuse (k := 5) (by omega) (by decide +kernel)) mi_Day_refuse ml_Day_56 im_Day_refuse se_Day_refuse rfl ⟨Nat.le_of_ble_eq_true rfl, Nat.le_of_ble_eq_true rfl⟩ ⟨Nat.le_of_ble_eq_true rfl, Nat.le_of_ble_eq_true rfl⟩ rfl rfl (Nat.le_of_ble_eq_true rfl)  ?_
          exact ev_iret hC hR d_Day_copy_52 rfl (by simp only [D_copy, bad, holdsB, h_4, h_11, h_30, h_42, ix, cs, ct, if_true, if_false, cond_true, cond_false, decide_true, decide_false, Bool.not_true, Bool.not_false, Bool.or_true, Bool.true_or, Bool.or_false, Bool.false_or, Bool.and_true, Bool.and_false, Bool.true_and, Bool.false_and, Bool.or_self, Bool.and_self, eq_self] <;> rfl) (by simp only [D_copy, bad, holdsB, h_4, h_11, h_30, h_42, ix, cs, ct, if_true, if_false, cond_true, cond_false, decide_true, decide_false, Bool.not_true, Bool.not_false, Bool.or_true, Bool.true_or, Bool.or_false, Bool.false_or, Bool.and_true, Bool.and_false, Bool.true_and, Bool.false_and, Bool.or_self, Bool.and_self, eq_self] <;> rfl)
    · refine ev_aload_n rfl hC d_Day_copy_14 ?_
      refine ev_ldc kc_Day_55 hC d_Day_copy_15 ?_
      refine cv_Day1 hC d_Day_copy_17 (c_Day_refuse (k := 0) (by omega) (by decide +kernel)) mi_Day_refuse ml_Day_56 im_Day_refuse se_Day_refuse rfl ⟨Nat.le_of_ble_eq_true rfl, Nat.le_of_ble_eq_true rfl⟩ ⟨Nat.le_of_ble_eq_true rfl, Nat.le_of_ble_eq_true rfl⟩ rfl rfl (Nat.le_of_ble_eq_true rfl)  ?_
      exact ev_iret hC hR d_Day_copy_20 rfl (by simp only [D_copy, bad, holdsB, h_4, h_11, if_true, if_false, cond_true, cond_false, decide_true, decide_false, Bool.not_true, Bool.not_false, Bool.or_true, Bool.true_or, Bool.or_false, Bool.false_or, Bool.and_true, Bool.and_false, Bool.true_and, Bool.false_and, Bool.or_self, Bool.and_self, eq_self] <;> rfl) (by simp only [D_copy, bad, holdsB, h_4, h_11, if_true, if_false, cond_true, cond_false, decide_true, decide_false, Bool.not_true, Bool.not_false, Bool.or_true, Bool.true_or, Bool.or_false, Bool.false_or, Bool.and_true, Bool.and_false, Bool.true_and, Bool.false_and, Bool.or_self, Bool.and_self, eq_self] <;> rfl)

set_option maxHeartbeats 4000000 in
set_option maxRecDepth 10000 in
theorem lp_Day_lays {G : ex_G} {C : ex_C} {rr : Option Value} {ee : List va_E} {s k : Nat} {x : Int32} (hs : s < 4) (hk : k ≤ 8) (hC : Cx G C Y_Day_lays { frames := 3, cells := 0, slots := 0, locals := 63 }) (hR : Cr G C Y_Day_lays 0 0 rr ee) :
    ∀ (m i : Nat) (M : ex_M) (c0 : Int32), i + m = k → True → rr = some (.int (layL (M.2 s) m i c0 (M.1 0)).1) ∧ ee = ce G (mI M 0 (layL (M.2 s) m i c0 (M.1 0)).2) → Ev G C Y_Day_lays 42 [some (.ref (ex_b G + 0)), some (.int (nI s)), some (.int x), some (.int c0), some (.int (nI k)), some (.int (nI i))] [] 0 0 (ce G (M)) := by
  intro m
  induction m with
  | zero =>
    intro i M c0 hm hc he
    refine ev_iload rfl hC d_Day_lays_42 ?_
    refine ev_iload rfl hC d_Day_lays_44 ?_
    refine ev_icmp_ge 104 hC d_Day_lays_46 rfl (fun _ => ?_) (fun h => absurd (nI_le (by omega) (by omega)) h)
    refine ev_iload_n rfl hC d_Day_lays_104 ?_
    exact ev_iret hC hR d_Day_lays_105 rfl (by rw [he.1, layL]) (by rw [he.2, layL, mI_id])
  | succ m ih =>
    intro i M c0 hm hc he
    have hi : i < 8 := by omega
    refine ev_iload rfl hC d_Day_lays_42 ?_
    refine ev_iload rfl hC d_Day_lays_44 ?_
    refine ev_icmp_ge 104 hC d_Day_lays_46 rfl (fun h => absurd h (nI_ge (by omega) (by omega))) (fun _ => ?_)
    refine ev_aload_n rfl hC d_Day_lays_49 ?_
    refine gv_Day_sheets hC d_Day_lays_50 fl_Day_42  ?_
    refine ev_iload_n rfl hC d_Day_lays_53 ?_
    refine gr_sheets hC d_Day_lays_54 (by first | assumption | omega) ?_
    refine gn_Sheet_numbers hC d_Day_lays_55 fl_Day_253 (by first | assumption | omega) ?_
    refine ev_iload rfl hC d_Day_lays_58 ?_
    refine ga_N hC d_Day_lays_60 (by first | assumption | omega) (by first | assumption | omega) ?_
    refine ev_lstore (by decide) hC d_Day_lays_61 ?_
    refine ev_lload rfl hC d_Day_lays_63 ?_
    refine ev_lconst (v := 0) rfl hC d_Day_lays_65 ?_
    refine ev_lcmp hC d_Day_lays_66 ?_
    refine ev_if_lt 98 hC d_Day_lays_67 rfl (fun h_67 => ?_) (fun h_67 => ?_)
    · refine ev_iinc rfl (by decide) (nI_1 _) hC d_Day_lays_98 ?_
      refine ev_goto 42 hC d_Day_lays_101 rfl ?_
      refine Ev.take 6 ?_
      refine ih (i + 1) M _ (by omega) trivial ?_
      rw [he.1, he.2, show layL (M.2 s) (m + 1) i c0 (M.1 0) = layL (M.2 s) m (i + 1) c0 (M.1 0) by rw [layL, if_pos (Or.inl ((lg_cmp_lt _ _).mp h_67))]]
      exact ⟨rfl, rfl⟩
    · refine ev_lload rfl hC d_Day_lays_70 ?_
      refine ev_ldc2 kc_Day_282 hC d_Day_lays_72 ?_
      refine ev_lcmp hC d_Day_lays_75 ?_
      refine ev_if_gt 98 hC d_Day_lays_76 rfl (fun h_76 => ?_) (fun h_76 => ?_)
      · refine ev_iinc rfl (by decide) (nI_1 _) hC d_Day_lays_98 ?_
        refine ev_goto 42 hC d_Day_lays_101 rfl ?_
        refine Ev.take 6 ?_
        refine ih (i + 1) M _ (by omega) trivial ?_
        rw [he.1, he.2, show layL (M.2 s) (m + 1) i c0 (M.1 0) = layL (M.2 s) m (i + 1) c0 (M.1 0) by rw [layL, if_pos (Or.inr ((lg_cmp_gt _ _).mp h_76))]]
        exact ⟨rfl, rfl⟩
      · refine ev_aload_n rfl hC d_Day_lays_79 ?_
        refine gv_Day_present hC d_Day_lays_80 fl_Day_12  ?_
        refine gn_River_people hC d_Day_lays_83 fl_Day_111 (by first | assumption | decide) ?_
        refine ev_iload rfl hC d_Day_lays_86 ?_
        refine gr_people hC d_Day_lays_88 (by first | assumption | decide) (by first | assumption | omega) ?_
        refine ev_lload rfl hC d_Day_lays_89 ?_
        refine ev_l2i hC d_Day_lays_91 ?_
        refine pn_One_purse hC d_Day_lays_92 fl_Day_123 (by first | assumption | decide) (by first | assumption | omega) ?_
        refine ev_iinc rfl (by decide) rfl hC d_Day_lays_95 ?_
        refine ev_iinc rfl (by decide) (nI_1 _) hC d_Day_lays_98 ?_
        refine ev_goto 42 hC d_Day_lays_101 rfl ?_
        refine Ev.take 6 ?_
        refine ih (i + 1) _ _ (by omega) trivial ?_
        rw [he.1, he.2, show layL (M.2 s) (m + 1) i c0 (M.1 0) = layL (M.2 s) m (i + 1) (c0 + 1) (upd (M.1 0) (28 + 7 * i + 2) (M.2 s i).toInt32) by rw [layL, if_neg (fun z => z.elim (fun a => h_67 ((lg_cmp_lt _ _).mpr a)) (fun a => h_76 ((lg_cmp_gt _ _).mpr a)))]]
        simp only [mI, mJ, wr_wr, wr_s]
        exact ⟨rfl, rfl⟩

theorem min_nI {a b : Nat} (ha : a < 2 ^ 31) (hb : b < 2 ^ 31) : (if nI b < nI a then nI b else nI a) = nI (min a b) := by
  rcases Nat.lt_or_ge b a with h | h
  · rw [if_pos (nI_lt h ha), Nat.min_eq_right (by omega)]
  · rw [if_neg (nI_nlt h hb), Nat.min_eq_left h]

set_option maxHeartbeats 2000000 in
set_option maxRecDepth 10000 in
theorem c_Day_lays {G : ex_G} {M : ex_M} {np l : Nat} {x : Int32} (hn : np ≤ 8) (hc : M.1 0 3 = nI np) (hl0 : ∀ s, s < 4 → x = nI s → l ≤ 40 ∧ M.1 6 (2 * s + 1) = nI l) : Con G Y_Day_lays 3 63 0 0 [.ref (ex_b G + 0), .int x] (ce G M) (some (.int (D_lays M np l x).1)) (ce G ((D_lays M np l x).2)) := by
  refine Con.ofF (plainFor_of_name (by decide +kernel)) (Nat.le_of_ble_eq_true rfl) (fun C hC hR => ?_)
  show Ev G C Y_Day_lays 0 [some (.ref (ex_b G + 0)), some (.int x)] [] 0 0 (ce G M)
  refine ev_aload_n rfl hC d_Day_lays_0 ?_
  refine ev_iload_n rfl hC d_Day_lays_1 ?_
  refine cv_Day1 hC d_Day_lays_2 (c_Day_findingOf ) mi_Day_findingOf ml_Day_250 im_Day_findingOf se_Day_findingOf rfl ⟨Nat.le_of_ble_eq_true rfl, Nat.le_of_ble_eq_true rfl⟩ ⟨Nat.le_of_ble_eq_true rfl, Nat.le_of_ble_eq_true rfl⟩ rfl rfl (Nat.le_of_ble_eq_true rfl)  ?_
  refine ev_istore_n (by decide) hC d_Day_lays_5 ?_
  refine ev_iload_n rfl hC d_Day_lays_6 ?_
  refine ev_if_eq 16 hC d_Day_lays_7 rfl (fun h_7 => ?_) (fun h_7 => ?_)
  · obtain ⟨s, hs, rfl, hms⟩ := fo_0 h_7
    have cs : (nI s).toNatClampNeg = s := nI_clamp (by omega)
    obtain ⟨hl, el⟩ := hl0 s hs rfl
    refine ev_iconst (v := 0) rfl hC d_Day_lays_16 ?_
    refine ev_istore_n (by decide) hC d_Day_lays_17 ?_
    refine ev_aload_n rfl hC d_Day_lays_18 ?_
    refine gv_Day_sheets hC d_Day_lays_19 fl_Day_42  ?_
    refine ev_iload_n rfl hC d_Day_lays_22 ?_
    refine gr_sheets hC d_Day_lays_23 (by first | assumption | omega) ?_
    refine gn_Sheet_length hC d_Day_lays_24 fl_Day_249 (by first | assumption | omega) ?_
    refine ev_aload_n rfl hC d_Day_lays_27 ?_
    refine gv_Day_present hC d_Day_lays_28 fl_Day_12  ?_
    refine gn_River_peopleCount hC d_Day_lays_31 fl_Day_223 (by first | assumption | decide) ?_
    refine cs_1 hC d_Day_lays_34 (c_Math_min ) mi_Math_min ml_Day_277 sm_Math_min ⟨Nat.le_of_ble_eq_true rfl, Nat.le_of_ble_eq_true rfl⟩ ⟨Nat.le_of_ble_eq_true rfl, Nat.le_of_ble_eq_true rfl⟩ rfl rfl (Nat.le_of_ble_eq_true rfl) ?_
    rw [el, hc, min_nI (by omega) (by omega)]
    refine ev_istore (by decide) hC d_Day_lays_37 ?_
    refine ev_iconst (v := nI 0) rfl hC d_Day_lays_39 ?_
    refine ev_istore (by decide) hC d_Day_lays_40 ?_
    refine lp_Day_lays hs (by omega) hC hR (min l np) 0 M 0 (by omega) trivial ?_
    rw [D_lays, if_pos h_7]
    simp only [ix, cs]
    exact ⟨trivial, trivial⟩
  · refine ev_aload_n rfl hC d_Day_lays_10 ?_
    refine ev_iload_n rfl hC d_Day_lays_11 ?_
    refine cv_Day1 hC d_Day_lays_12 (c_Day_refuse_fo (fo_n h_7)) mi_Day_refuse ml_Day_56 im_Day_refuse se_Day_refuse rfl ⟨Nat.le_of_ble_eq_true rfl, Nat.le_of_ble_eq_true rfl⟩ ⟨Nat.le_of_ble_eq_true rfl, Nat.le_of_ble_eq_true rfl⟩ rfl rfl (Nat.le_of_ble_eq_true rfl)  ?_
    exact ev_iret hC hR d_Day_lays_15 rfl (by rw [D_lays, if_neg h_7]) (by rw [D_lays, if_neg h_7])

set_option maxHeartbeats 4000000 in
set_option maxRecDepth 10000 in
theorem lp_Day_book {G : ex_G} {C : ex_C} {rr : Option Value} {ee : List va_E} {np ne j s l : Nat} {x : Int32} (hn : np ≤ 8) (hn2 : ne ≤ 8) (hj : j < 8) (hs : s < 4) (hl : l ≤ 40) (hC : Cx G C Y_Day_book { frames := 4, cells := 0, slots := 0, locals := 93 }) (hR : Cr G C Y_Day_book 0 0 rr ee) :
    ∀ (m i : Nat) (M : ex_M), i + m = l → (M.1 1 3 = nI np ∧ M.1 1 2 = nI ne) ∧ M.1 6 (2 * s + 1) = nI l → rr = some (.int (nI l)) ∧ ee = ce G (bokL np ne j s m i M) → Ev G C Y_Day_book 38 [some (.ref (ex_b G + 0)), some (.int (nI s)), some (.int (nI j)), some (.int x), some (.int (nI i))] [] 0 0 (ce G (M)) := by
  intro m
  induction m with
  | zero =>
    intro i M hm hc he
    refine ev_iload rfl hC d_Day_book_38 ?_
    refine ev_aload_n rfl hC d_Day_book_40 ?_
    refine gv_Day_sheets hC d_Day_book_41 fl_Day_42  ?_
    refine ev_iload_n rfl hC d_Day_book_44 ?_
    refine gr_sheets hC d_Day_book_45 (by first | assumption | omega) ?_
    refine gn_Sheet_length hC d_Day_book_46 fl_Day_249 (by first | assumption | omega) ?_
    refine ev_icmp_ge 89 hC d_Day_book_49 rfl (fun _ => ?_) (fun h => absurd (by rw [hc.2]; exact nI_le (by omega) (by omega)) h)
    refine ev_aload_n rfl hC d_Day_book_89 ?_
    refine gv_Day_sheets hC d_Day_book_90 fl_Day_42  ?_
    refine ev_iload_n rfl hC d_Day_book_93 ?_
    refine gr_sheets hC d_Day_book_94 (by first | assumption | omega) ?_
    refine gn_Sheet_length hC d_Day_book_95 fl_Day_249 (by first | assumption | omega) ?_
    exact ev_iret hC hR d_Day_book_98 rfl (by rw [he.1, hc.2]) (by rw [he.2, bokL])
  | succ m ih =>
    intro i M hm hc he
    have hi : i < 40 := by omega
    refine ev_iload rfl hC d_Day_book_38 ?_
    refine ev_aload_n rfl hC d_Day_book_40 ?_
    refine gv_Day_sheets hC d_Day_book_41 fl_Day_42  ?_
    refine ev_iload_n rfl hC d_Day_book_44 ?_
    refine gr_sheets hC d_Day_book_45 (by first | assumption | omega) ?_
    refine gn_Sheet_length hC d_Day_book_46 fl_Day_249 (by first | assumption | omega) ?_
    refine ev_icmp_ge 89 hC d_Day_book_49 rfl (fun h => absurd h (by rw [hc.2]; exact nI_ge (by omega) (by omega))) (fun _ => ?_)
    refine ev_aload_n rfl hC d_Day_book_52 ?_
    refine gv_Day_sheets hC d_Day_book_53 fl_Day_42  ?_
    refine ev_iload_n rfl hC d_Day_book_56 ?_
    refine gr_sheets hC d_Day_book_57 (by first | assumption | omega) ?_
    refine ev_iload rfl hC d_Day_book_58 ?_
    refine ev_aload_n rfl hC d_Day_book_60 ?_
    refine gv_Day_trial hC d_Day_book_61 fl_Day_16  ?_
    refine gn_River_people hC d_Day_book_64 fl_Day_111 (by first | assumption | decide) ?_
    refine ev_iload_n rfl hC d_Day_book_67 ?_
    refine gr_people hC d_Day_book_68 (by first | assumption | decide) (by first | assumption | omega) ?_
    refine gn_One_purse hC d_Day_book_69 fl_Day_123 (by first | assumption | decide) (by first | assumption | omega) ?_
    refine ev_i2l hC d_Day_book_72 ?_
    refine cv_Sheet0 hC d_Day_book_73 (c_Sheet_put hs hi) mi_Sheet_put ml_Day_257 im_Sheet_put se_Sheet_put rfl ⟨Nat.le_of_ble_eq_true rfl, Nat.le_of_ble_eq_true rfl⟩ ⟨Nat.le_of_ble_eq_true rfl, Nat.le_of_ble_eq_true rfl⟩ rfl rfl (Nat.le_of_ble_eq_true rfl) (by first | assumption | omega) ?_
    refine ev_aload_n rfl hC d_Day_book_76 ?_
    refine gv_Day_trial hC d_Day_book_77 fl_Day_16  ?_
    refine cv_River0 hC d_Day_book_80 (c_River_passHour hn hn2 (by decide) hc.1.1 hc.1.2) mi_River_passHour ml_Day_187 im_River_passHour se_River_passHour rfl ⟨Nat.le_of_ble_eq_true rfl, Nat.le_of_ble_eq_true rfl⟩ ⟨Nat.le_of_ble_eq_true rfl, Nat.le_of_ble_eq_true rfl⟩ rfl rfl (Nat.le_of_ble_eq_true rfl) (by first | assumption | decide) ?_
    refine ev_iinc rfl (by decide) (nI_1 _) hC d_Day_book_83 ?_
    refine ev_goto 38 hC d_Day_book_86 rfl ?_
    refine ih (i + 1) _ (by omega) ⟨by simp only [shPut, mI, mL, wr_s]; exact ⟨(hourC_cnt hn2 (by omega) (by omega)).trans hc.1.1, (hourC_cnt hn2 (by omega) (by omega)).trans hc.1.2⟩, by simp only [shPut, mI, mL]; rw [wr_n (by decide)]; exact hc.2⟩ (by rw [he.1, he.2, bokL]; exact ⟨rfl, rfl⟩)

set_option maxHeartbeats 2000000 in
set_option maxRecDepth 10000 in
theorem c_Day_book {G : ex_G} {M : ex_M} {np ne l : Nat} {x p : Int32} (hl0 : ∀ s, s < 4 → x = nI s → l ≤ 40 ∧ M.1 6 (2 * s + 1) = nI l) (w : WF (M.1 0) np ne) : Con G Y_Day_book 4 93 0 0 [.ref (ex_b G + 0), .int x, .int p] (ce G M) (some (.int (D_book M np ne l x p).1)) (ce G ((D_book M np ne l x p).2)) := by
  refine Con.ofF (plainFor_of_name (by decide +kernel)) (Nat.le_of_ble_eq_true rfl) (fun C hC hR => ?_)
  show Ev G C Y_Day_book 0 [some (.ref (ex_b G + 0)), some (.int x), some (.int p)] [] 0 0 (ce G M)
  obtain ⟨hc, hn, hc2, hn2, hmet, hkd, hkn⟩ := w
  refine ev_aload_n rfl hC d_Day_book_0 ?_
  refine ev_iload_n rfl hC d_Day_book_1 ?_
  refine cv_Day1 hC d_Day_book_2 (c_Day_findingOf ) mi_Day_findingOf ml_Day_250 im_Day_findingOf se_Day_findingOf rfl ⟨Nat.le_of_ble_eq_true rfl, Nat.le_of_ble_eq_true rfl⟩ ⟨Nat.le_of_ble_eq_true rfl, Nat.le_of_ble_eq_true rfl⟩ rfl rfl (Nat.le_of_ble_eq_true rfl)  ?_
  refine ev_istore_n (by decide) hC d_Day_book_5 ?_
  refine ev_iload_n rfl hC d_Day_book_6 ?_
  refine ev_if_eq 16 hC d_Day_book_7 rfl (fun h_7 => ?_) (fun h_7 => ?_)
  · obtain ⟨s, hs, rfl, hms⟩ := fo_0 h_7
    have cs : (nI s).toNatClampNeg = s := nI_clamp (by omega)
    obtain ⟨hl, el⟩ := hl0 s hs rfl
    refine ev_aload_n rfl hC d_Day_book_16 ?_
    refine ev_iload_n rfl hC d_Day_book_17 ?_
    refine cv_Day1 hC d_Day_book_18 (c_Day_noOne ) mi_Day_noOne ml_Day_108 im_Day_noOne se_Day_noOne rfl ⟨Nat.le_of_ble_eq_true rfl, Nat.le_of_ble_eq_true rfl⟩ ⟨Nat.le_of_ble_eq_true rfl, Nat.le_of_ble_eq_true rfl⟩ rfl rfl (Nat.le_of_ble_eq_true rfl)  ?_
    refine eb_eq 31 hC d_Day_book_21 rfl (fun h_21 => ?_) (fun h_21 => ?_)
    · obtain ⟨i, hi, rfl⟩ := out_ix hc hn h_21
      have ci : (nI i).toNatClampNeg = i := nI_clamp (by omega)
      refine ev_aload_n rfl hC d_Day_book_31 ?_
      refine cv_Day0 hC d_Day_book_32 (c_Day_startTrial ⟨hc, hn, hc2, hn2, hmet, hkd, hkn⟩) mi_Day_startTrial ml_Day_181 im_Day_startTrial se_Day_startTrial rfl ⟨Nat.le_of_ble_eq_true rfl, Nat.le_of_ble_eq_true rfl⟩ ⟨Nat.le_of_ble_eq_true rfl, Nat.le_of_ble_eq_true rfl⟩ rfl rfl (Nat.le_of_ble_eq_true rfl)  ?_
      refine ev_iconst (v := nI 0) rfl hC d_Day_book_35 ?_
      refine ev_istore (by decide) hC d_Day_book_36 ?_
      refine lp_Day_book hn hn2 (by omega) hs hl hC hR l 0 _ (by omega) ⟨by simp only [tr0, mI, wr_s]; rw [becR_lo (by omega), becR_lo (by omega)]; exact ⟨hc, hc2⟩, by simp only [tr0, mI]; rw [wr_n (by decide)]; exact el⟩ ?_
      rw [D_book, if_pos h_7]
      simp only [h_21, ix, ci, cs, cond_false]
      exact ⟨trivial, trivial⟩
    · refine ev_aload_n rfl hC d_Day_book_24 ?_
      refine ev_ldc kc_Day_55 hC d_Day_book_25 ?_
      refine cv_Day1 hC d_Day_book_27 (c_Day_refuse (k := 0) (by omega) (by decide +kernel)) mi_Day_refuse ml_Day_56 im_Day_refuse se_Day_refuse rfl ⟨Nat.le_of_ble_eq_true rfl, Nat.le_of_ble_eq_true rfl⟩ ⟨Nat.le_of_ble_eq_true rfl, Nat.le_of_ble_eq_true rfl⟩ rfl rfl (Nat.le_of_ble_eq_true rfl)  ?_
      exact ev_iret hC hR d_Day_book_30 rfl (by rw [D_book, if_pos h_7]; simp only [h_21, bad, cond_true] <;> rfl) (by rw [D_book, if_pos h_7]; simp only [h_21, bad, cond_true])
  · refine ev_aload_n rfl hC d_Day_book_10 ?_
    refine ev_iload_n rfl hC d_Day_book_11 ?_
    refine cv_Day1 hC d_Day_book_12 (c_Day_refuse_fo (fo_n h_7)) mi_Day_refuse ml_Day_56 im_Day_refuse se_Day_refuse rfl ⟨Nat.le_of_ble_eq_true rfl, Nat.le_of_ble_eq_true rfl⟩ ⟨Nat.le_of_ble_eq_true rfl, Nat.le_of_ble_eq_true rfl⟩ rfl rfl (Nat.le_of_ble_eq_true rfl)  ?_
    exact ev_iret hC hR d_Day_book_15 rfl (by rw [D_book, if_neg h_7]) (by rw [D_book, if_neg h_7])

set_option maxHeartbeats 4000000 in
set_option maxRecDepth 10000 in
theorem lp_Day_trialFits {G : ex_G} {C : ex_C} {rr : Option Value} {ee : List va_E} {np ne j s l : Nat} (hn : np ≤ 8) (hn2 : ne ≤ 8) (hj : j < 8) (hs : s < 4) (hl : l ≤ 40) (hC : Cx G C Y_Day_trialFits { frames := 4, cells := 0, slots := 0, locals := 93 }) (hR : Cr G C Y_Day_trialFits 0 0 rr ee) :
    ∀ (m i : Nat) (M : ex_M), i + m = l → (M.1 1 3 = nI np ∧ M.1 1 2 = nI ne) ∧ M.1 6 (2 * s + 1) = nI l → rr = some (.int (bi (tfL np ne j (M.2 s) m i (M.1 1)).1)) ∧ ee = ce G (mI M 1 (tfL np ne j (M.2 s) m i (M.1 1)).2) → Ev G C Y_Day_trialFits 2 [some (.ref (ex_b G + 0)), some (.ref (ex_b G + aS s)), some (.int (nI j)), some (.int (nI i))] [] 0 0 (ce G (M)) := by
  intro m
  induction m with
  | zero =>
    intro i M hm hc he
    refine ev_iload_n rfl hC d_Day_trialFits_2 ?_
    refine ev_aload_n rfl hC d_Day_trialFits_3 ?_
    refine gn_Sheet_length hC d_Day_trialFits_4 fl_Day_249 (by first | assumption | omega) ?_
    refine ev_icmp_ge 48 hC d_Day_trialFits_7 rfl (fun _ => ?_) (fun h => absurd (by rw [hc.2]; exact nI_le (by omega) (by omega)) h)
    refine ev_iconst (v := 1) rfl hC d_Day_trialFits_48 ?_
    exact ev_zret hC hR d_Day_trialFits_49 rfl (by first | exact bi_nar _ | decide) (by rw [he.1, tfL]; rfl) (by rw [he.2, tfL, mI_id])
  | succ m ih =>
    intro i M hm hc he
    have hi : i < 40 := by omega
    refine ev_iload_n rfl hC d_Day_trialFits_2 ?_
    refine ev_aload_n rfl hC d_Day_trialFits_3 ?_
    refine gn_Sheet_length hC d_Day_trialFits_4 fl_Day_249 (by first | assumption | omega) ?_
    refine ev_icmp_ge 48 hC d_Day_trialFits_7 rfl (fun h => absurd h (by rw [hc.2]; exact nI_ge (by omega) (by omega))) (fun _ => ?_)
    refine ev_aload_n rfl hC d_Day_trialFits_10 ?_
    refine gn_Sheet_numbers hC d_Day_trialFits_11 fl_Day_253 (by first | assumption | omega) ?_
    refine ev_iload_n rfl hC d_Day_trialFits_14 ?_
    refine ga_N hC d_Day_trialFits_15 (by first | assumption | omega) (by first | assumption | omega) ?_
    refine ev_aload_n rfl hC d_Day_trialFits_16 ?_
    refine gv_Day_trial hC d_Day_trialFits_17 fl_Day_16  ?_
    refine gn_River_people hC d_Day_trialFits_20 fl_Day_111 (by first | assumption | decide) ?_
    refine ev_iload_n rfl hC d_Day_trialFits_23 ?_
    refine gr_people hC d_Day_trialFits_24 (by first | assumption | decide) (by first | assumption | omega) ?_
    refine gn_One_purse hC d_Day_trialFits_25 fl_Day_123 (by first | assumption | decide) (by first | assumption | omega) ?_
    refine ev_i2l hC d_Day_trialFits_28 ?_
    refine ev_lcmp hC d_Day_trialFits_29 ?_
    refine ev_if_eq 35 hC d_Day_trialFits_30 rfl (fun h_30 => ?_) (fun h_30 => ?_)
    · refine ev_aload_n rfl hC d_Day_trialFits_35 ?_
      refine gv_Day_trial hC d_Day_trialFits_36 fl_Day_16  ?_
      refine cv_River0 hC d_Day_trialFits_39 (c_River_passHour hn hn2 (by decide) hc.1.1 hc.1.2) mi_River_passHour ml_Day_187 im_River_passHour se_River_passHour rfl ⟨Nat.le_of_ble_eq_true rfl, Nat.le_of_ble_eq_true rfl⟩ ⟨Nat.le_of_ble_eq_true rfl, Nat.le_of_ble_eq_true rfl⟩ rfl rfl (Nat.le_of_ble_eq_true rfl) (by first | assumption | decide) ?_
      refine ev_iinc rfl (by decide) (nI_1 _) hC d_Day_trialFits_42 ?_
      refine ev_goto 2 hC d_Day_trialFits_45 rfl ?_
      refine ih (i + 1) _ (by omega) ⟨by simp only [mI, wr_s]; exact ⟨(hourC_cnt hn2 (by omega) (by omega)).trans hc.1.1, (hourC_cnt hn2 (by omega) (by omega)).trans hc.1.2⟩, by simp only [mI]; rw [wr_n (by decide)]; exact hc.2⟩ ?_
      rw [he.1, he.2, show (tfL np ne j (M.2 s) (m + 1) i (M.1 1)) = tfL np ne j (M.2 s) m (i + 1) (hourC np ne (M.1 1)) by rw [tfL, if_pos ((lg_cmp_eq _ _).mp h_30)]]
      simp only [mI, wr_wr, wr_s]
      exact ⟨trivial, trivial⟩
    · refine ev_iconst (v := 0) rfl hC d_Day_trialFits_33 ?_
      exact ev_zret hC hR d_Day_trialFits_34 rfl (by first | exact bi_nar _ | decide) (by rw [he.1, tfL, if_neg (fun e => h_30 ((lg_cmp_eq _ _).mpr e))]; rfl) (by rw [he.2, tfL, if_neg (fun e => h_30 ((lg_cmp_eq _ _).mpr e)), mI_id])

set_option maxHeartbeats 2000000 in
set_option maxRecDepth 10000 in
theorem c_Day_trialFits {G : ex_G} {M : ex_M} {np ne j s l : Nat} (hn : np ≤ 8) (hn2 : ne ≤ 8) (hj : j < 8) (hs : s < 4) (hl : l ≤ 40) (hc : M.1 1 3 = nI np) (hc2 : M.1 1 2 = nI ne) (el : M.1 6 (2 * s + 1) = nI l) : Con G Y_Day_trialFits 4 93 0 0 [.ref (ex_b G + 0), .ref (ex_b G + aS s), .int (nI j)] (ce G M) (some (.int (bi (tfL np ne j (M.2 s) l 0 (M.1 1)).1))) (ce G (mI M 1 (tfL np ne j (M.2 s) l 0 (M.1 1)).2)) := by
  refine Con.ofF (plainFor_of_name (by decide +kernel)) (Nat.le_of_ble_eq_true rfl) (fun C hC hR => ?_)
  show Ev G C Y_Day_trialFits 0 [some (.ref (ex_b G + 0)), some (.ref (ex_b G + aS s)), some (.int (nI j))] [] 0 0 (ce G M)
  refine ev_iconst (v := nI 0) rfl hC d_Day_trialFits_0 ?_
  refine ev_istore_n (by decide) hC d_Day_trialFits_1 ?_
  exact lp_Day_trialFits hn hn2 hj hs hl hC hR l 0 M (by omega) ⟨⟨hc, hc2⟩, el⟩ ⟨rfl, rfl⟩

theorem m1_no : ∀ g, g ≤ 24 → ¬ (23 : Int32) < nI g - 1 := by decide +kernel
theorem m1_inc (g : Nat) : nI g - 1 + Int32.ofInt 1 = nI (g + 1) - 1 := by
  rw [nI_pred, show Int32.ofInt 1 = 1 from rfl]
  exact Int32.sub_add_cancel _ _

set_option maxHeartbeats 4000000 in
set_option maxRecDepth 10000 in
theorem lp_Day_read2 {G : ex_G} {C : ex_C} {rr : Option Value} {ee : List va_E} {np ne j s l g k : Nat} {x : Int32} {q : Nat → Int32} {nm : Nat → Int64} (hj : j < 8) (hs : s < 4) (hl : l ≤ 40) (hg : g < 25) (w : WF q np ne) (hK : ∀ (M : ex_M) (c0 : Int32), (M.1 0 = q ∧ M.2 s = nm ∧ M.1 6 (2 * s + 1) = nI l) → rr = some (.int (rdL np ne j l nm q (25 * k) (25 * (g + 1)) (c0, M.1 1)).1) ∧ ee = ce G (mI M 1 (rdL np ne j l nm q (25 * k) (25 * (g + 1)) (c0, M.1 1)).2) → Ev G C Y_Day_read 37 [some (.ref (ex_b G + 0)), some (.int (nI s)), some (.int (nI j)), some (.int x), some (.int c0), some (.int (nI (g + 1) - 1))] [] 0 0 (ce G M)) (hC : Cx G C Y_Day_read { frames := 5, cells := 0, slots := 0, locals := 116 }) (hR : Cr G C Y_Day_read 0 0 rr ee) :
    ∀ (m i : Nat) (M : ex_M) (c0 : Int32), i + m = 25 → M.1 0 = q ∧ M.2 s = nm ∧ M.1 6 (2 * s + 1) = nI l → rr = some (.int (rdL np ne j l nm q (m + 25 * k) (25 * g + i) (c0, M.1 1)).1) ∧ ee = ce G (mI M 1 (rdL np ne j l nm q (m + 25 * k) (25 * g + i) (c0, M.1 1)).2) → Ev G C Y_Day_read 47 [some (.ref (ex_b G + 0)), some (.int (nI s)), some (.int (nI j)), some (.int x), some (.int c0), some (.int (nI g - 1)), some (.int (nI i - 1))] [] 0 0 (ce G (M)) := by
  intro m
  induction m with
  | zero =>
    intro i M c0 hm hc he
    refine ev_iload rfl hC d_Day_read_47 ?_
    refine ev_bipush (v := 23) rfl hC d_Day_read_49 ?_
    refine ev_icmp_gt 86 hC d_Day_read_51 rfl (fun _ => ?_) (fun h => absurd (by rw [show i = 25 by omega]; decide) h)
    refine ev_iinc rfl (by decide) (m1_inc _) hC d_Day_read_86 ?_
    refine ev_goto 37 hC d_Day_read_89 rfl ?_
    refine Ev.take 6 ?_
    exact hK M c0 hc (by rw [he.1, he.2, show 0 + 25 * k = 25 * k by omega, show 25 * g + i = 25 * (g + 1) by omega]; exact ⟨rfl, rfl⟩)
  | succ m ih =>
    intro i M c0 hm hc he
    obtain ⟨wc, hn, wc2, hn2, -, -, -⟩ := id w
    refine ev_iload rfl hC d_Day_read_47 ?_
    refine ev_bipush (v := 23) rfl hC d_Day_read_49 ?_
    refine ev_icmp_gt 86 hC d_Day_read_51 rfl (fun h => absurd h (m1_no i (by omega))) (fun _ => ?_)
    refine ev_aload_n rfl hC d_Day_read_54 ?_
    refine ev_iload_n rfl hC d_Day_read_55 ?_
    refine ev_iload rfl hC d_Day_read_56 ?_
    refine ev_iload rfl hC d_Day_read_58 ?_
    refine cv_Day0 hC d_Day_read_60 (c_Day_startTrialByClocks hj (by rw [hc.1]; exact w)) mi_Day_startTrialByClocks ml_Day_284 im_Day_startTrialByClocks se_Day_startTrialByClocks rfl ⟨Nat.le_of_ble_eq_true rfl, Nat.le_of_ble_eq_true rfl⟩ ⟨Nat.le_of_ble_eq_true rfl, Nat.le_of_ble_eq_true rfl⟩ rfl rfl (Nat.le_of_ble_eq_true rfl)  ?_
    refine ev_aload_n rfl hC d_Day_read_63 ?_
    refine ev_aload_n rfl hC d_Day_read_64 ?_
    refine gv_Day_sheets hC d_Day_read_65 fl_Day_42  ?_
    refine ev_iload_n rfl hC d_Day_read_68 ?_
    refine gr_sheets hC d_Day_read_69 (by first | assumption | omega) ?_
    refine ev_iload_n rfl hC d_Day_read_70 ?_
    refine cv_Day1 hC d_Day_read_71 (c_Day_trialFits hn hn2 hj hs hl (by simp only [tro, mI, wr_s]; rw [ud_n (by omega), ud_n (by omega), becR_lo (by omega), hc.1]; exact wc) (by simp only [tro, mI, wr_s]; rw [ud_n (by omega), ud_n (by omega), becR_lo (by omega), hc.1]; exact wc2) (by simp only [mI]; rw [wr_n (by decide)]; exact hc.2.2)) mi_Day_trialFits ml_Day_288 im_Day_trialFits se_Day_trialFits rfl ⟨Nat.le_of_ble_eq_true rfl, Nat.le_of_ble_eq_true rfl⟩ ⟨Nat.le_of_ble_eq_true rfl, Nat.le_of_ble_eq_true rfl⟩ rfl rfl (Nat.le_of_ble_eq_true rfl)  ?_
    refine eb_eq 80 hC d_Day_read_74 rfl (fun h_74 => ?_) (fun h_74 => ?_)
    · refine ev_iinc rfl (by decide) (m1_inc _) hC d_Day_read_80 ?_
      refine ev_goto 47 hC d_Day_read_83 rfl ?_
      simp only [tro, mI, wr_s, hc.1, hc.2.1] at h_74
      refine ih (i + 1) _ _ (by omega) ⟨by simp only [tro, mI]; rw [wr_n (by decide), wr_n (by decide)]; exact hc.1, by simp only [mI]; exact hc.2.1, by simp only [mI]; rw [wr_n (by decide), wr_n (by decide)]; exact hc.2.2⟩ ?_
      rw [he.1, he.2, show m + 1 + 25 * k = m + 25 * k + 1 by omega, rdL]
      simp only [tro, mI, wr_wr, wr_s, hc.1, hc.2.1]
      rw [show muR j (25 * g + i) (becR (M.1 1) q np ne) = upd (upd (becR (M.1 1) q np ne) (28 + 7 * j + 3) (nI g - 1)) (28 + 7 * j + 4) (nI i - 1) by rw [muR, show (25 * g + i) / 25 = g by omega, show (25 * g + i) % 25 = i by omega], show 25 * g + i + 1 = 25 * g + (i + 1) by omega, if_neg (by rw [h_74]; decide)]
      exact ⟨rfl, rfl⟩
    · refine ev_iinc rfl (by decide) rfl hC d_Day_read_77 ?_
      refine ev_iinc rfl (by decide) (m1_inc _) hC d_Day_read_80 ?_
      refine ev_goto 47 hC d_Day_read_83 rfl ?_
      simp only [tro, mI, wr_s, hc.1, hc.2.1] at h_74
      refine ih (i + 1) _ _ (by omega) ⟨by simp only [tro, mI]; rw [wr_n (by decide), wr_n (by decide)]; exact hc.1, by simp only [mI]; exact hc.2.1, by simp only [mI]; rw [wr_n (by decide), wr_n (by decide)]; exact hc.2.2⟩ ?_
      rw [he.1, he.2, show m + 1 + 25 * k = m + 25 * k + 1 by omega, rdL]
      simp only [tro, mI, wr_wr, wr_s, hc.1, hc.2.1]
      rw [show muR j (25 * g + i) (becR (M.1 1) q np ne) = upd (upd (becR (M.1 1) q np ne) (28 + 7 * j + 3) (nI g - 1)) (28 + 7 * j + 4) (nI i - 1) by rw [muR, show (25 * g + i) / 25 = g by omega, show (25 * g + i) % 25 = i by omega], show 25 * g + i + 1 = 25 * g + (i + 1) by omega, if_pos h_74]
      exact ⟨rfl, rfl⟩

set_option maxHeartbeats 4000000 in
set_option maxRecDepth 10000 in
theorem lp_Day_read1 {G : ex_G} {C : ex_C} {rr : Option Value} {ee : List va_E} {np ne j s l : Nat} {x : Int32} {q : Nat → Int32} {nm : Nat → Int64} (hj : j < 8) (hs : s < 4) (hl : l ≤ 40) (w : WF q np ne) (hC : Cx G C Y_Day_read { frames := 5, cells := 0, slots := 0, locals := 116 }) (hR : Cr G C Y_Day_read 0 0 rr ee) :
    ∀ (m i : Nat) (M : ex_M) (c0 : Int32), i + m = 25 → M.1 0 = q ∧ M.2 s = nm ∧ M.1 6 (2 * s + 1) = nI l → rr = some (.int (rdL np ne j l nm q (25 * m) (25 * i) (c0, M.1 1)).1) ∧ ee = ce G (mI M 1 (rdL np ne j l nm q (25 * m) (25 * i) (c0, M.1 1)).2) → Ev G C Y_Day_read 37 [some (.ref (ex_b G + 0)), some (.int (nI s)), some (.int (nI j)), some (.int x), some (.int c0), some (.int (nI i - 1))] [] 0 0 (ce G (M)) := by
  intro m
  induction m with
  | zero =>
    intro i M c0 hm hc he
    refine ev_iload rfl hC d_Day_read_37 ?_
    refine ev_bipush (v := 23) rfl hC d_Day_read_39 ?_
    refine ev_icmp_gt 92 hC d_Day_read_41 rfl (fun _ => ?_) (fun h => absurd (by rw [show i = 25 by omega]; decide) h)
    refine ev_iload rfl hC d_Day_read_92 ?_
    exact ev_iret hC hR d_Day_read_94 rfl (by rw [he.1, show 25 * 0 = 0 from rfl, rdL]) (by rw [he.2, show 25 * 0 = 0 from rfl, rdL, mI_id])
  | succ m ih =>
    intro i M c0 hm hc he
    skip
    refine ev_iload rfl hC d_Day_read_37 ?_
    refine ev_bipush (v := 23) rfl hC d_Day_read_39 ?_
    refine ev_icmp_gt 92 hC d_Day_read_41 rfl (fun h => absurd h (m1_no i (by omega))) (fun _ => ?_)
    refine ev_iconst (v := nI 0 - 1) (by decide) hC d_Day_read_44 ?_
    refine ev_istore (by decide) hC d_Day_read_45 ?_
    exact lp_Day_read2 (g := i) (k := m) hj hs hl (by omega) w (fun M2 c2 h2 he2 => ih (i + 1) M2 c2 (by omega) h2 he2) hC hR 25 0 M c0 (by omega) hc (by rw [he.1, he.2, show 25 * (m + 1) = 25 + 25 * m by omega, show 25 * i + 0 = 25 * i by omega]; exact ⟨rfl, rfl⟩)

set_option maxHeartbeats 2000000 in
set_option maxRecDepth 10000 in
theorem c_Day_read {G : ex_G} {M : ex_M} {np ne l : Nat} {x p : Int32} (hl0 : ∀ s, s < 4 → x = nI s → l ≤ 40 ∧ M.1 6 (2 * s + 1) = nI l) (w : WF (M.1 0) np ne) : Con G Y_Day_read 5 116 0 0 [.ref (ex_b G + 0), .int x, .int p] (ce G M) (some (.int (D_read M np ne l x p).1)) (ce G ((D_read M np ne l x p).2)) := by
  refine Con.ofF (plainFor_of_name (by decide +kernel)) (Nat.le_of_ble_eq_true rfl) (fun C hC hR => ?_)
  show Ev G C Y_Day_read 0 [some (.ref (ex_b G + 0)), some (.int x), some (.int p)] [] 0 0 (ce G M)
  obtain ⟨hc, hn, hc2, hn2, hmet, hkd, hkn⟩ := w
  refine ev_aload_n rfl hC d_Day_read_0 ?_
  refine ev_iload_n rfl hC d_Day_read_1 ?_
  refine cv_Day1 hC d_Day_read_2 (c_Day_findingOf ) mi_Day_findingOf ml_Day_250 im_Day_findingOf se_Day_findingOf rfl ⟨Nat.le_of_ble_eq_true rfl, Nat.le_of_ble_eq_true rfl⟩ ⟨Nat.le_of_ble_eq_true rfl, Nat.le_of_ble_eq_true rfl⟩ rfl rfl (Nat.le_of_ble_eq_true rfl)  ?_
  refine ev_istore_n (by decide) hC d_Day_read_5 ?_
  refine ev_iload_n rfl hC d_Day_read_6 ?_
  refine ev_if_eq 16 hC d_Day_read_7 rfl (fun h_7 => ?_) (fun h_7 => ?_)
  · obtain ⟨s, hs, rfl, hms⟩ := fo_0 h_7
    have cs : (nI s).toNatClampNeg = s := nI_clamp (by omega)
    obtain ⟨hl, el⟩ := hl0 s hs rfl
    refine ev_aload_n rfl hC d_Day_read_16 ?_
    refine ev_iload_n rfl hC d_Day_read_17 ?_
    refine cv_Day1 hC d_Day_read_18 (c_Day_noOne ) mi_Day_noOne ml_Day_108 im_Day_noOne se_Day_noOne rfl ⟨Nat.le_of_ble_eq_true rfl, Nat.le_of_ble_eq_true rfl⟩ ⟨Nat.le_of_ble_eq_true rfl, Nat.le_of_ble_eq_true rfl⟩ rfl rfl (Nat.le_of_ble_eq_true rfl)  ?_
    refine eb_eq 31 hC d_Day_read_21 rfl (fun h_21 => ?_) (fun h_21 => ?_)
    · obtain ⟨i, hi, rfl⟩ := out_ix hc hn h_21
      have ci : (nI i).toNatClampNeg = i := nI_clamp (by omega)
      refine ev_iconst (v := 0) rfl hC d_Day_read_31 ?_
      refine ev_istore (by decide) hC d_Day_read_32 ?_
      refine ev_iconst (v := nI 0 - 1) (by decide) hC d_Day_read_34 ?_
      refine ev_istore (by decide) hC d_Day_read_35 ?_
      refine lp_Day_read1 (np := np) (ne := ne) (q := M.1 0) (nm := M.2 s) (by omega) hs hl ⟨hc, hn, hc2, hn2, hmet, hkd, hkn⟩ hC hR 25 0 M 0 (by omega) ⟨rfl, rfl, el⟩ ?_
      rw [D_read, if_pos h_7]
      simp only [h_21, zRead, ix, ci, cs, cond_false]
      exact ⟨trivial, trivial⟩
    · refine ev_aload_n rfl hC d_Day_read_24 ?_
      refine ev_ldc kc_Day_55 hC d_Day_read_25 ?_
      refine cv_Day1 hC d_Day_read_27 (c_Day_refuse (k := 0) (by omega) (by decide +kernel)) mi_Day_refuse ml_Day_56 im_Day_refuse se_Day_refuse rfl ⟨Nat.le_of_ble_eq_true rfl, Nat.le_of_ble_eq_true rfl⟩ ⟨Nat.le_of_ble_eq_true rfl, Nat.le_of_ble_eq_true rfl⟩ rfl rfl (Nat.le_of_ble_eq_true rfl)  ?_
      exact ev_iret hC hR d_Day_read_30 rfl (by rw [D_read, if_pos h_7]; simp only [h_21, bad, cond_true] <;> rfl) (by rw [D_read, if_pos h_7]; simp only [h_21, bad, cond_true])
  · refine ev_aload_n rfl hC d_Day_read_10 ?_
    refine ev_iload_n rfl hC d_Day_read_11 ?_
    refine cv_Day1 hC d_Day_read_12 (c_Day_refuse_fo (fo_n h_7)) mi_Day_refuse ml_Day_56 im_Day_refuse se_Day_refuse rfl ⟨Nat.le_of_ble_eq_true rfl, Nat.le_of_ble_eq_true rfl⟩ ⟨Nat.le_of_ble_eq_true rfl, Nat.le_of_ble_eq_true rfl⟩ rfl rfl (Nat.le_of_ble_eq_true rfl)  ?_
    exact ev_iret hC hR d_Day_read_15 rfl (by rw [D_read, if_neg h_7]) (by rw [D_read, if_neg h_7])
