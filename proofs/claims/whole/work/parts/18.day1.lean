/-! WHAT THE CLASS'S CALLS ANSWER, and what they leave: over the world's numbers -/
def WF (a : Nat → Int32) (np ne : Nat) : Prop := a 3 = nI np ∧ np ≤ 8 ∧ a 2 = nI ne ∧ ne ≤ 8 ∧ (∀ e, e < ne → a (4 + 3 * e + 2) = 0 ∨ a (4 + 3 * e + 2) = 1) ∧ (∀ p, p < np → ∃ k, k < 6 ∧ a (28 + 7 * p + 0) = nI k) ∧ (∀ p, p < np → ∃ k, k < 256 ∧ a (28 + 7 * p + 6) = nI k)
abbrev ix (v : Int32) : Nat := v.toNatClampNeg
def fnd (k : Nat) : Int32 := -1000000001 - nI k
theorem fnd_row : ∀ k, k < 7 → -1000000001 - fnd k = nI k := by decide +kernel
def bad (M : ex_M) (k : Nat) : Int32 × ex_M := (fnd k, mJ M 5 k (M.1 5 k + 1))
theorem out_ix {v x : Int32} {n : Nat} (hx : x = nI n) (hn : n ≤ 8) (h : out v 0 (x - 1) = false) : ∃ i, i < n ∧ v = nI i := by
  simp only [out, Bool.or_eq_false_iff, decide_eq_false_iff_not] at h
  obtain ⟨h1, h2⟩ := h
  obtain ⟨j, hj, rfl⟩ := nI_of h1
  refine ⟨j, ?_, rfl⟩
  rcases Nat.lt_or_ge j n with hl | hl
  · exact hl
  · exfalso
    apply h2
    rw [hx]
    rcases Nat.eq_zero_or_pos n with h0 | h0
    · subst h0
      have : nI 0 - 1 < 0 := by decide
      have h3 : (0 : Int32) ≤ nI j := nI_pos' hj
      rw [Int32.lt_iff_toInt_lt] at this ⊢
      rw [Int32.le_iff_toInt_le] at h3
      exact Int.lt_of_lt_of_le this h3
    · rw [show n = n - 1 + 1 by omega, nI_pred]
      exact nI_lt (by omega) hj
theorem out_rg {v : Int32} {lo hi : Int32} (h : out v lo hi = false) : lo ≤ v ∧ v ≤ hi := by
  simp only [out, Bool.or_eq_false_iff, decide_eq_false_iff_not] at h
  exact ⟨Int32.not_lt.mp h.1, Int32.not_lt.mp h.2⟩
theorem out_nat {v : Int32} {n : Nat} (hn : n < 2 ^ 31) (h : out v 0 (nI n) = false) : ∃ i, i ≤ n ∧ v = nI i := by
  obtain ⟨h1, h2⟩ := out_rg h
  obtain ⟨j, hj, rfl⟩ := nI_of (Int32.not_lt.mpr h1)
  exact ⟨j, (nI_leI hj hn).mp h2, rfl⟩
theorem sw_out {x lo hi : Int32} {a b : Int} (h : x.toInt < a ∨ b < x.toInt) (ha : lo.toInt = a) (hb : hi.toInt = b) : out x lo hi = true := by
  simp only [out, Bool.or_eq_true, decide_eq_true_eq, Int32.lt_iff_toInt_lt, ha, hb]
  exact h
def D_toll (M : ex_M) (v : Int32) : Int32 × ex_M := bif out v 0 99 then bad M 0 else (M.1 0 1, mJ M 0 1 v)
def D_event (M : ex_M) (h w : Int32) : Int32 × ex_M := bif out h 0 9999 || out w (-99) 99 then bad M 0 else bif !decide (M.1 0 2 < 8) then bad M 1 else (M.1 0 2, mI M 0 (upd (eBeg (M.1 0) (ix (M.1 0 2)) h w) 2 (M.1 0 2 + 1)))
def hToR (a : Nat → Int32) (e : Nat) : Int32 := if a (4 + 3 * e + 0) - a 0 < -1 then -1 else a (4 + 3 * e + 0) - a 0
def hToL (a : Nat → Int32) (e : Nat) : Int32 := if a (4 + 3 * e + 2) = 0 then (if a (4 + 3 * e + 0) + 24 - a 0 < -1 then -1 else a (4 + 3 * e + 0) + 24 - a 0) else -1
def whoK (a : Nat → Int32) (np : Nat) (e : Int32) : Int32 := setF (fun i => hb (a (28 + 7 * i + 6)) e) np 0 0
def D_eventOf (M : ex_M) (np : Nat) (e w : Int32) : Int32 × ex_M := bif out e 0 (M.1 0 2 - 1) then bad M 0 else
  if w = 0 then (M.1 0 (4 + 3 * ix e + 0), M) else if w = 1 then (M.1 0 (4 + 3 * ix e + 1), M) else if w = 2 then (if M.1 0 (4 + 3 * ix e + 2) = 0 then 0 else 1, M) else if w = 3 then (whoK (M.1 0) np e, M) else if w = 4 then (hToR (M.1 0) (ix e), M) else if w = 5 then (hToL (M.1 0) (ix e), M) else bad M 0
def D_worth (M : ex_M) (e v : Int32) : Int32 × ex_M := bif out e 0 (M.1 0 2 - 1) || out v (-99) 99 then bad M 0 else (M.1 0 (4 + 3 * ix e + 1), mJ M 0 (4 + 3 * ix e + 1) v)
def D_one (M : ex_M) (k b : Int32) : Int32 × ex_M := bif out k 0 5 || out b 0 1 then bad M 0 else bif !decide (M.1 0 3 < 8) then bad M 1 else (M.1 0 3, mI M 0 (upd (oBeg (M.1 0) (ix (M.1 0 3)) k b) 3 (M.1 0 3 + 1)))
def D_of (M : ex_M) (p w : Int32) : Int32 × ex_M := bif out p 0 (M.1 0 3 - 1) then bad M 0 else bif out w 0 6 then bad M 0 else (M.1 0 (28 + 7 * ix p + ix w), M)
def may (x w v : Int32) : Bool := if w = 1 then !out v 0 1 else if w = 2 then !out v 0 9999 else if w = 3 then !out v (-1) 23 else if w = 4 then !out v (-1) 23 else if w = 6 then !out v 0 (((1 : Int32) <<< (x &&& 31)) - 1) else false
def D_set (M : ex_M) (p w v : Int32) : Int32 × ex_M := bif out p 0 (M.1 0 3 - 1) then bad M 0 else bif may (M.1 0 2) w v then (M.1 0 (28 + 7 * ix p + ix w), mJ M 0 (28 + 7 * ix p + ix w) v) else bad M 0
def D_turn (M : ex_M) (p k : Int32) : Int32 × ex_M := bif out p 0 (M.1 0 3 - 1) || out k 0 5 then bad M 0 else (M.1 0 (28 + 7 * ix p + 0), mJ M 0 (28 + 7 * ix p + 0) k)
def D_as (M : ex_M) (p k : Int32) : Int32 × ex_M := bif out p 0 (M.1 0 3 - 1) || out k 0 5 then bad M 0 else bif undF 6 (M.1 0 (28 + 7 * ix p + 0)) k then (M.1 0 (28 + 7 * ix p + 2), M) else bad M 2
def D_gains (M : ex_M) (p w k : Int32) : Int32 × ex_M := bif out p 0 (M.1 0 3 - 1) || (out w (-99) 99 || out k 0 1) then bad M 0 else (gainC (M.1 0 (28 + 7 * ix p + 0)) w (decide (k = 1)), M)
def D_cross (M : ex_M) (p : Int32) : Int32 × ex_M := bif out p 0 (M.1 0 3 - 1) then bad M 0 else bif pays (M.1 0) (ix p) then (if M.1 0 (28 + 7 * ix p + 1) = 0 then 1 else 0, mI M 0 (oOver (M.1 0) (ix p) (M.1 0 1))) else bad M 4
def D_tells (M : ex_M) (p q : Int32) : Int32 × ex_M := bif out p 0 (M.1 0 3 - 1) || (out q 0 (M.1 0 3 - 1) || decide (p = q)) then bad M 0 else
  if M.1 0 (28 + 7 * ix p + 1) = M.1 0 (28 + 7 * ix q + 1) then (nI (popc (ix (M.1 0 (28 + 7 * ix p + 6) &&& (M.1 0 (28 + 7 * ix q + 6) ^^^ (-1))))), mJ M 0 (28 + 7 * ix q + 6) (M.1 0 (28 + 7 * ix q + 6) ||| (M.1 0 (28 + 7 * ix p + 6) &&& (M.1 0 (28 + 7 * ix q + 6) ^^^ (-1))))) else bad M 4
theorem andn_small : ∀ a, a < 256 → ∀ b, b < 256 → True := fun _ _ _ _ => trivial

set_option maxHeartbeats 2000000 in
set_option maxRecDepth 10000 in
theorem c_Day_refuse {G : ex_G} {M : ex_M} {k : Nat} {v : Int32} (hk : k < 7) (hv : v = fnd k) : Con G Y_Day_refuse 0 0 0 0 [.ref (ex_b G + 0), .int v] (ce G M) (some (.int v)) (ce G ((bad M k).2)) := by
  refine Con.ofF (plainFor_of_name (by decide +kernel)) (Nat.le_of_ble_eq_true rfl) (fun C hC hR => ?_)
  show Ev G C Y_Day_refuse 0 [some (.ref (ex_b G + 0)), some (.int v)] [] 0 0 (ce G M)
  subst hv
  refine ev_ldc kc_Day_55 hC d_Day_refuse_0 ?_
  refine ev_iload_n rfl hC d_Day_refuse_2 ?_
  refine ev_isub hC d_Day_refuse_3 ?_
  rw [fnd_row k hk]
  refine ev_istore_n (by decide) hC d_Day_refuse_4 ?_
  refine ev_iload_n rfl hC d_Day_refuse_5 ?_
  refine ev_if_lt 25 hC d_Day_refuse_6 rfl (fun h_6 => ?_) (fun h_6 => ?_)
  · refine ev_iload_n rfl hC d_Day_refuse_25 ?_
    exact ev_iret hC hR d_Day_refuse_26 rfl (rfl) (by first | rfl | exact absurd h_6 (nI_pos (by omega)) | exact absurd h_12 (by rw [show (7 : Int32) = nI 7 from rfl]; exact nI_ge (by omega) (by omega)))
  · refine ev_iload_n rfl hC d_Day_refuse_9 ?_
    refine ev_bipush (v := 7) rfl hC d_Day_refuse_10 ?_
    refine ev_icmp_ge 25 hC d_Day_refuse_12 rfl (fun h_12 => ?_) (fun h_12 => ?_)
    · refine ev_iload_n rfl hC d_Day_refuse_25 ?_
      exact ev_iret hC hR d_Day_refuse_26 rfl (rfl) (by first | rfl | exact absurd h_6 (nI_pos (by omega)) | exact absurd h_12 (by rw [show (7 : Int32) = nI 7 from rfl]; exact nI_ge (by omega) (by omega)))
    · refine ev_aload_n rfl hC d_Day_refuse_15 ?_
      refine gv_Day_told hC d_Day_refuse_16 fl_Day_47  ?_
      refine ev_iload_n rfl hC d_Day_refuse_19 ?_
      refine ev_dup2 rfl rfl hC d_Day_refuse_20 ?_
      refine ga_told hC d_Day_refuse_21 (by first | assumption | omega) ?_
      refine ev_iconst (v := 1) rfl hC d_Day_refuse_22 ?_
      refine ev_iadd hC d_Day_refuse_23 ?_
      refine pa_told hC d_Day_refuse_24 (by first | assumption | omega) ?_
      refine ev_iload_n rfl hC d_Day_refuse_25 ?_
      exact ev_iret hC hR d_Day_refuse_26 rfl (rfl) (by first | rfl | exact absurd h_6 (nI_pos (by omega)) | exact absurd h_12 (by rw [show (7 : Int32) = nI 7 from rfl]; exact nI_ge (by omega) (by omega)))

set_option maxHeartbeats 2000000 in
set_option maxRecDepth 10000 in
theorem c_Day_toll {G : ex_G} {M : ex_M} {v : Int32} : Con G Y_Day_toll 1 22 0 0 [.ref (ex_b G + 0), .int v] (ce G M) (some (.int (D_toll M v).1)) (ce G ((D_toll M v).2)) := by
  refine Con.ofF (plainFor_of_name (by decide +kernel)) (Nat.le_of_ble_eq_true rfl) (fun C hC hR => ?_)
  show Ev G C Y_Day_toll 0 [some (.ref (ex_b G + 0)), some (.int v)] [] 0 0 (ce G M)
  refine ev_iload_n rfl hC d_Day_toll_0 ?_
  refine ev_iconst (v := 0) rfl hC d_Day_toll_1 ?_
  refine ev_bipush (v := 99) rfl hC d_Day_toll_2 ?_
  refine cs_1 hC d_Day_toll_4 (c_Day_outside ) mi_Day_outside ml_Day_51 sm_Day_outside ⟨Nat.le_of_ble_eq_true rfl, Nat.le_of_ble_eq_true rfl⟩ ⟨Nat.le_of_ble_eq_true rfl, Nat.le_of_ble_eq_true rfl⟩ rfl rfl (Nat.le_of_ble_eq_true rfl) ?_
  refine eb_eq 17 hC d_Day_toll_7 rfl (fun h_7 => ?_) (fun h_7 => ?_)
  · refine ev_aload_n rfl hC d_Day_toll_17 ?_
    refine gv_Day_present hC d_Day_toll_18 fl_Day_12  ?_
    refine gn_River_toll hC d_Day_toll_21 fl_Day_60 (by first | assumption | decide) ?_
    refine ev_istore_n (by decide) hC d_Day_toll_24 ?_
    refine ev_aload_n rfl hC d_Day_toll_25 ?_
    refine gv_Day_present hC d_Day_toll_26 fl_Day_12  ?_
    refine ev_iload_n rfl hC d_Day_toll_29 ?_
    refine pn_River_toll hC d_Day_toll_30 fl_Day_60 (by first | assumption | decide) ?_
    refine ev_iload_n rfl hC d_Day_toll_33 ?_
    exact ev_iret hC hR d_Day_toll_34 rfl (by simp only [D_toll, bad, h_7, if_true, if_false, cond_true, cond_false, decide_true, decide_false, Bool.not_true, Bool.not_false, Bool.or_true, Bool.true_or, Bool.or_false, Bool.false_or, Bool.and_true, Bool.and_false, Bool.true_and, Bool.false_and, Bool.or_self, Bool.and_self, eq_self] <;> first | rfl | (rfl)) (by simp only [D_toll, bad, h_7, if_true, if_false, cond_true, cond_false, decide_true, decide_false, Bool.not_true, Bool.not_false, Bool.or_true, Bool.true_or, Bool.or_false, Bool.false_or, Bool.and_true, Bool.and_false, Bool.true_and, Bool.false_and, Bool.or_self, Bool.and_self, eq_self] <;> first | rfl | (rfl))
  · refine ev_aload_n rfl hC d_Day_toll_10 ?_
    refine ev_ldc kc_Day_55 hC d_Day_toll_11 ?_
    refine cv_Day1 hC d_Day_toll_13 (c_Day_refuse (k := 0) (by omega) (by decide +kernel)) mi_Day_refuse ml_Day_56 im_Day_refuse se_Day_refuse rfl ⟨Nat.le_of_ble_eq_true rfl, Nat.le_of_ble_eq_true rfl⟩ ⟨Nat.le_of_ble_eq_true rfl, Nat.le_of_ble_eq_true rfl⟩ rfl rfl (Nat.le_of_ble_eq_true rfl)  ?_
    exact ev_iret hC hR d_Day_toll_16 rfl (by simp only [D_toll, bad, h_7, if_true, if_false, cond_true, cond_false, decide_true, decide_false, Bool.not_true, Bool.not_false, Bool.or_true, Bool.true_or, Bool.or_false, Bool.false_or, Bool.and_true, Bool.and_false, Bool.true_and, Bool.false_and, Bool.or_self, Bool.and_self, eq_self] <;> first | rfl | (rfl)) (by simp only [D_toll, bad, h_7, if_true, if_false, cond_true, cond_false, decide_true, decide_false, Bool.not_true, Bool.not_false, Bool.or_true, Bool.true_or, Bool.or_false, Bool.false_or, Bool.and_true, Bool.and_false, Bool.true_and, Bool.false_and, Bool.or_self, Bool.and_self, eq_self] <;> first | rfl | (rfl))

set_option maxHeartbeats 2000000 in
set_option maxRecDepth 10000 in
theorem c_Day_event {G : ex_G} {M : ex_M} {np ne : Nat} {h w0 : Int32} (w : WF (M.1 0) np ne) : Con G Y_Day_event 2 44 0 0 [.ref (ex_b G + 0), .int h, .int w0] (ce G M) (some (.int (D_event M h w0).1)) (ce G ((D_event M h w0).2)) := by
  refine Con.ofF (plainFor_of_name (by decide +kernel)) (Nat.le_of_ble_eq_true rfl) (fun C hC hR => ?_)
  show Ev G C Y_Day_event 0 [some (.ref (ex_b G + 0)), some (.int h), some (.int w0)] [] 0 0 (ce G M)
  obtain ⟨hc, hn, hc2, hn2, hmet, hkd, hkn⟩ := w
  refine ev_iload_n rfl hC d_Day_event_0 ?_
  refine ev_iconst (v := 0) rfl hC d_Day_event_1 ?_
  refine ev_sipush (v := 9999) rfl hC d_Day_event_2 ?_
  refine cs_1 hC d_Day_event_5 (c_Day_outside ) mi_Day_outside ml_Day_51 sm_Day_outside ⟨Nat.le_of_ble_eq_true rfl, Nat.le_of_ble_eq_true rfl⟩ ⟨Nat.le_of_ble_eq_true rfl, Nat.le_of_ble_eq_true rfl⟩ rfl rfl (Nat.le_of_ble_eq_true rfl) ?_
  refine eb_ne 22 hC d_Day_event_8 rfl (fun h_8 => ?_) (fun h_8 => ?_)
  · refine ev_aload_n rfl hC d_Day_event_22 ?_
    refine ev_ldc kc_Day_55 hC d_Day_event_23 ?_
    refine cv_Day1 hC d_Day_event_25 (c_Day_refuse (k := 0) (by omega) (by decide +kernel)) mi_Day_refuse ml_Day_56 im_Day_refuse se_Day_refuse rfl ⟨Nat.le_of_ble_eq_true rfl, Nat.le_of_ble_eq_true rfl⟩ ⟨Nat.le_of_ble_eq_true rfl, Nat.le_of_ble_eq_true rfl⟩ rfl rfl (Nat.le_of_ble_eq_true rfl)  ?_
    exact ev_iret hC hR d_Day_event_28 rfl (by simp only [D_event, bad, h_8, if_true, if_false, cond_true, cond_false, decide_true, decide_false, Bool.not_true, Bool.not_false, Bool.or_true, Bool.true_or, Bool.or_false, Bool.false_or, Bool.and_true, Bool.and_false, Bool.true_and, Bool.false_and, Bool.or_self, Bool.and_self, eq_self] <;> first | rfl | (first | (rw [hc2]; done) | (rw [hl, hc2, nI_1]))) (by simp only [D_event, bad, h_8, if_true, if_false, cond_true, cond_false, decide_true, decide_false, Bool.not_true, Bool.not_false, Bool.or_true, Bool.true_or, Bool.or_false, Bool.false_or, Bool.and_true, Bool.and_false, Bool.true_and, Bool.false_and, Bool.or_self, Bool.and_self, eq_self] <;> first | rfl | (first | (rw [hc2]; done) | (rw [hl, hc2, nI_1])))
  · refine ev_iload_n rfl hC d_Day_event_11 ?_
    refine ev_bipush (v := -99) rfl hC d_Day_event_12 ?_
    refine ev_bipush (v := 99) rfl hC d_Day_event_14 ?_
    refine cs_1 hC d_Day_event_16 (c_Day_outside ) mi_Day_outside ml_Day_51 sm_Day_outside ⟨Nat.le_of_ble_eq_true rfl, Nat.le_of_ble_eq_true rfl⟩ ⟨Nat.le_of_ble_eq_true rfl, Nat.le_of_ble_eq_true rfl⟩ rfl rfl (Nat.le_of_ble_eq_true rfl) ?_
    refine eb_eq 29 hC d_Day_event_19 rfl (fun h_19 => ?_) (fun h_19 => ?_)
    · refine ev_aload_n rfl hC d_Day_event_29 ?_
      refine gv_Day_present hC d_Day_event_30 fl_Day_12  ?_
      refine cv_River1 hC d_Day_event_33 (c_River_hasAllEvents (by first | assumption | omega)) mi_River_hasAllEvents ml_Day_64 im_River_hasAllEvents se_River_hasAllEvents rfl ⟨Nat.le_of_ble_eq_true rfl, Nat.le_of_ble_eq_true rfl⟩ ⟨Nat.le_of_ble_eq_true rfl, Nat.le_of_ble_eq_true rfl⟩ rfl rfl (Nat.le_of_ble_eq_true rfl) (by first | assumption | decide) ?_
      refine eb_eq 46 hC d_Day_event_36 rfl (fun h_36 => ?_) (fun h_36 => ?_)
      · have hl : ix (M.1 0 2) = ne := by rw [hc2]; exact nI_clamp (by omega)
        have hlt : ne < 8 := by
          have h8 : M.1 0 2 < 8 := by simpa using h_36
          rw [hc2, show (8 : Int32) = nI 8 from rfl] at h8
          exact (nI_ltI (by omega) (by omega)).mp h8
        refine ev_aload_n rfl hC d_Day_event_46 ?_
        refine gv_Day_present hC d_Day_event_47 fl_Day_12  ?_
        refine ev_iload_n rfl hC d_Day_event_50 ?_
        refine ev_iload_n rfl hC d_Day_event_51 ?_
        refine cv_River1 hC d_Day_event_52 (c_River_addEvent (by decide) hlt hc2) mi_River_addEvent ml_Day_69 im_River_addEvent se_River_addEvent rfl ⟨Nat.le_of_ble_eq_true rfl, Nat.le_of_ble_eq_true rfl⟩ ⟨Nat.le_of_ble_eq_true rfl, Nat.le_of_ble_eq_true rfl⟩ rfl rfl (Nat.le_of_ble_eq_true rfl) (by first | assumption | decide) ?_
        exact ev_iret hC hR d_Day_event_55 rfl (by simp only [D_event, bad, h_8, h_19, h_36, if_true, if_false, cond_true, cond_false, decide_true, decide_false, Bool.not_true, Bool.not_false, Bool.or_true, Bool.true_or, Bool.or_false, Bool.false_or, Bool.and_true, Bool.and_false, Bool.true_and, Bool.false_and, Bool.or_self, Bool.and_self, eq_self] <;> first | rfl | (first | (rw [hc2]; done) | (rw [hl, hc2, nI_1]))) (by simp only [D_event, bad, h_8, h_19, h_36, if_true, if_false, cond_true, cond_false, decide_true, decide_false, Bool.not_true, Bool.not_false, Bool.or_true, Bool.true_or, Bool.or_false, Bool.false_or, Bool.and_true, Bool.and_false, Bool.true_and, Bool.false_and, Bool.or_self, Bool.and_self, eq_self] <;> first | rfl | (first | (rw [hc2]; done) | (rw [hl, hc2, nI_1])))
      · refine ev_aload_n rfl hC d_Day_event_39 ?_
        refine ev_ldc kc_Day_68 hC d_Day_event_40 ?_
        refine cv_Day1 hC d_Day_event_42 (c_Day_refuse (k := 1) (by omega) (by decide +kernel)) mi_Day_refuse ml_Day_56 im_Day_refuse se_Day_refuse rfl ⟨Nat.le_of_ble_eq_true rfl, Nat.le_of_ble_eq_true rfl⟩ ⟨Nat.le_of_ble_eq_true rfl, Nat.le_of_ble_eq_true rfl⟩ rfl rfl (Nat.le_of_ble_eq_true rfl)  ?_
        exact ev_iret hC hR d_Day_event_45 rfl (by simp only [D_event, bad, h_8, h_19, h_36, if_true, if_false, cond_true, cond_false, decide_true, decide_false, Bool.not_true, Bool.not_false, Bool.or_true, Bool.true_or, Bool.or_false, Bool.false_or, Bool.and_true, Bool.and_false, Bool.true_and, Bool.false_and, Bool.or_self, Bool.and_self, eq_self] <;> first | rfl | (first | (rw [hc2]; done) | (rw [hl, hc2, nI_1]))) (by simp only [D_event, bad, h_8, h_19, h_36, if_true, if_false, cond_true, cond_false, decide_true, decide_false, Bool.not_true, Bool.not_false, Bool.or_true, Bool.true_or, Bool.or_false, Bool.false_or, Bool.and_true, Bool.and_false, Bool.true_and, Bool.false_and, Bool.or_self, Bool.and_self, eq_self] <;> first | rfl | (first | (rw [hc2]; done) | (rw [hl, hc2, nI_1])))
    · refine ev_aload_n rfl hC d_Day_event_22 ?_
      refine ev_ldc kc_Day_55 hC d_Day_event_23 ?_
      refine cv_Day1 hC d_Day_event_25 (c_Day_refuse (k := 0) (by omega) (by decide +kernel)) mi_Day_refuse ml_Day_56 im_Day_refuse se_Day_refuse rfl ⟨Nat.le_of_ble_eq_true rfl, Nat.le_of_ble_eq_true rfl⟩ ⟨Nat.le_of_ble_eq_true rfl, Nat.le_of_ble_eq_true rfl⟩ rfl rfl (Nat.le_of_ble_eq_true rfl)  ?_
      exact ev_iret hC hR d_Day_event_28 rfl (by simp only [D_event, bad, h_8, h_19, if_true, if_false, cond_true, cond_false, decide_true, decide_false, Bool.not_true, Bool.not_false, Bool.or_true, Bool.true_or, Bool.or_false, Bool.false_or, Bool.and_true, Bool.and_false, Bool.true_and, Bool.false_and, Bool.or_self, Bool.and_self, eq_self] <;> first | rfl | (first | (rw [hc2]; done) | (rw [hl, hc2, nI_1]))) (by simp only [D_event, bad, h_8, h_19, if_true, if_false, cond_true, cond_false, decide_true, decide_false, Bool.not_true, Bool.not_false, Bool.or_true, Bool.true_or, Bool.or_false, Bool.false_or, Bool.and_true, Bool.and_false, Bool.true_and, Bool.false_and, Bool.or_self, Bool.and_self, eq_self] <;> first | rfl | (first | (rw [hc2]; done) | (rw [hl, hc2, nI_1])))

set_option maxHeartbeats 2000000 in
set_option maxRecDepth 10000 in
theorem c_Day_one {G : ex_G} {M : ex_M} {np ne : Nat} {k b : Int32} (w : WF (M.1 0) np ne) : Con G Y_Day_one 2 44 0 0 [.ref (ex_b G + 0), .int k, .int b] (ce G M) (some (.int (D_one M k b).1)) (ce G ((D_one M k b).2)) := by
  refine Con.ofF (plainFor_of_name (by decide +kernel)) (Nat.le_of_ble_eq_true rfl) (fun C hC hR => ?_)
  show Ev G C Y_Day_one 0 [some (.ref (ex_b G + 0)), some (.int k), some (.int b)] [] 0 0 (ce G M)
  obtain ⟨hc, hn, hc2, hn2, hmet, hkd, hkn⟩ := w
  refine ev_iload_n rfl hC d_Day_one_0 ?_
  refine ev_iconst (v := 0) rfl hC d_Day_one_1 ?_
  refine ev_iconst (v := 5) rfl hC d_Day_one_2 ?_
  refine cs_1 hC d_Day_one_3 (c_Day_outside ) mi_Day_outside ml_Day_51 sm_Day_outside ⟨Nat.le_of_ble_eq_true rfl, Nat.le_of_ble_eq_true rfl⟩ ⟨Nat.le_of_ble_eq_true rfl, Nat.le_of_ble_eq_true rfl⟩ rfl rfl (Nat.le_of_ble_eq_true rfl) ?_
  refine eb_ne 18 hC d_Day_one_6 rfl (fun h_6 => ?_) (fun h_6 => ?_)
  · refine ev_aload_n rfl hC d_Day_one_18 ?_
    refine ev_ldc kc_Day_55 hC d_Day_one_19 ?_
    refine cv_Day1 hC d_Day_one_21 (c_Day_refuse (k := 0) (by omega) (by decide +kernel)) mi_Day_refuse ml_Day_56 im_Day_refuse se_Day_refuse rfl ⟨Nat.le_of_ble_eq_true rfl, Nat.le_of_ble_eq_true rfl⟩ ⟨Nat.le_of_ble_eq_true rfl, Nat.le_of_ble_eq_true rfl⟩ rfl rfl (Nat.le_of_ble_eq_true rfl)  ?_
    exact ev_iret hC hR d_Day_one_24 rfl (by simp only [D_one, bad, h_6, if_true, if_false, cond_true, cond_false, decide_true, decide_false, Bool.not_true, Bool.not_false, Bool.or_true, Bool.true_or, Bool.or_false, Bool.false_or, Bool.and_true, Bool.and_false, Bool.true_and, Bool.false_and, Bool.or_self, Bool.and_self, eq_self] <;> first | rfl | (first | (rw [hc]; done) | (rw [hl, hc, nI_1]))) (by simp only [D_one, bad, h_6, if_true, if_false, cond_true, cond_false, decide_true, decide_false, Bool.not_true, Bool.not_false, Bool.or_true, Bool.true_or, Bool.or_false, Bool.false_or, Bool.and_true, Bool.and_false, Bool.true_and, Bool.false_and, Bool.or_self, Bool.and_self, eq_self] <;> first | rfl | (first | (rw [hc]; done) | (rw [hl, hc, nI_1])))
  · refine ev_iload_n rfl hC d_Day_one_9 ?_
    refine ev_iconst (v := 0) rfl hC d_Day_one_10 ?_
    refine ev_iconst (v := 1) rfl hC d_Day_one_11 ?_
    refine cs_1 hC d_Day_one_12 (c_Day_outside ) mi_Day_outside ml_Day_51 sm_Day_outside ⟨Nat.le_of_ble_eq_true rfl, Nat.le_of_ble_eq_true rfl⟩ ⟨Nat.le_of_ble_eq_true rfl, Nat.le_of_ble_eq_true rfl⟩ rfl rfl (Nat.le_of_ble_eq_true rfl) ?_
    refine eb_eq 25 hC d_Day_one_15 rfl (fun h_15 => ?_) (fun h_15 => ?_)
    · refine ev_aload_n rfl hC d_Day_one_25 ?_
      refine gv_Day_present hC d_Day_one_26 fl_Day_12  ?_
      refine cv_River1 hC d_Day_one_29 (c_River_hasAllPeople (by first | assumption | omega)) mi_River_hasAllPeople ml_Day_102 im_River_hasAllPeople se_River_hasAllPeople rfl ⟨Nat.le_of_ble_eq_true rfl, Nat.le_of_ble_eq_true rfl⟩ ⟨Nat.le_of_ble_eq_true rfl, Nat.le_of_ble_eq_true rfl⟩ rfl rfl (Nat.le_of_ble_eq_true rfl) (by first | assumption | decide) ?_
      refine eb_eq 42 hC d_Day_one_32 rfl (fun h_32 => ?_) (fun h_32 => ?_)
      · have hl : ix (M.1 0 3) = np := by rw [hc]; exact nI_clamp (by omega)
        have hlt : np < 8 := by
          have h8 : M.1 0 3 < 8 := by simpa using h_32
          rw [hc, show (8 : Int32) = nI 8 from rfl] at h8
          exact (nI_ltI (by omega) (by omega)).mp h8
        refine ev_aload_n rfl hC d_Day_one_42 ?_
        refine gv_Day_present hC d_Day_one_43 fl_Day_12  ?_
        refine ev_iload_n rfl hC d_Day_one_46 ?_
        refine ev_iload_n rfl hC d_Day_one_47 ?_
        refine cv_River1 hC d_Day_one_48 (c_River_addOne (by decide) hlt hc) mi_River_addOne ml_Day_105 im_River_addOne se_River_addOne rfl ⟨Nat.le_of_ble_eq_true rfl, Nat.le_of_ble_eq_true rfl⟩ ⟨Nat.le_of_ble_eq_true rfl, Nat.le_of_ble_eq_true rfl⟩ rfl rfl (Nat.le_of_ble_eq_true rfl) (by first | assumption | decide) ?_
        exact ev_iret hC hR d_Day_one_51 rfl (by simp only [D_one, bad, h_6, h_15, h_32, if_true, if_false, cond_true, cond_false, decide_true, decide_false, Bool.not_true, Bool.not_false, Bool.or_true, Bool.true_or, Bool.or_false, Bool.false_or, Bool.and_true, Bool.and_false, Bool.true_and, Bool.false_and, Bool.or_self, Bool.and_self, eq_self] <;> first | rfl | (first | (rw [hc]; done) | (rw [hl, hc, nI_1]))) (by simp only [D_one, bad, h_6, h_15, h_32, if_true, if_false, cond_true, cond_false, decide_true, decide_false, Bool.not_true, Bool.not_false, Bool.or_true, Bool.true_or, Bool.or_false, Bool.false_or, Bool.and_true, Bool.and_false, Bool.true_and, Bool.false_and, Bool.or_self, Bool.and_self, eq_self] <;> first | rfl | (first | (rw [hc]; done) | (rw [hl, hc, nI_1])))
      · refine ev_aload_n rfl hC d_Day_one_35 ?_
        refine ev_ldc kc_Day_68 hC d_Day_one_36 ?_
        refine cv_Day1 hC d_Day_one_38 (c_Day_refuse (k := 1) (by omega) (by decide +kernel)) mi_Day_refuse ml_Day_56 im_Day_refuse se_Day_refuse rfl ⟨Nat.le_of_ble_eq_true rfl, Nat.le_of_ble_eq_true rfl⟩ ⟨Nat.le_of_ble_eq_true rfl, Nat.le_of_ble_eq_true rfl⟩ rfl rfl (Nat.le_of_ble_eq_true rfl)  ?_
        exact ev_iret hC hR d_Day_one_41 rfl (by simp only [D_one, bad, h_6, h_15, h_32, if_true, if_false, cond_true, cond_false, decide_true, decide_false, Bool.not_true, Bool.not_false, Bool.or_true, Bool.true_or, Bool.or_false, Bool.false_or, Bool.and_true, Bool.and_false, Bool.true_and, Bool.false_and, Bool.or_self, Bool.and_self, eq_self] <;> first | rfl | (first | (rw [hc]; done) | (rw [hl, hc, nI_1]))) (by simp only [D_one, bad, h_6, h_15, h_32, if_true, if_false, cond_true, cond_false, decide_true, decide_false, Bool.not_true, Bool.not_false, Bool.or_true, Bool.true_or, Bool.or_false, Bool.false_or, Bool.and_true, Bool.and_false, Bool.true_and, Bool.false_and, Bool.or_self, Bool.and_self, eq_self] <;> first | rfl | (first | (rw [hc]; done) | (rw [hl, hc, nI_1])))
    · refine ev_aload_n rfl hC d_Day_one_18 ?_
      refine ev_ldc kc_Day_55 hC d_Day_one_19 ?_
      refine cv_Day1 hC d_Day_one_21 (c_Day_refuse (k := 0) (by omega) (by decide +kernel)) mi_Day_refuse ml_Day_56 im_Day_refuse se_Day_refuse rfl ⟨Nat.le_of_ble_eq_true rfl, Nat.le_of_ble_eq_true rfl⟩ ⟨Nat.le_of_ble_eq_true rfl, Nat.le_of_ble_eq_true rfl⟩ rfl rfl (Nat.le_of_ble_eq_true rfl)  ?_
      exact ev_iret hC hR d_Day_one_24 rfl (by simp only [D_one, bad, h_6, h_15, if_true, if_false, cond_true, cond_false, decide_true, decide_false, Bool.not_true, Bool.not_false, Bool.or_true, Bool.true_or, Bool.or_false, Bool.false_or, Bool.and_true, Bool.and_false, Bool.true_and, Bool.false_and, Bool.or_self, Bool.and_self, eq_self] <;> first | rfl | (first | (rw [hc]; done) | (rw [hl, hc, nI_1]))) (by simp only [D_one, bad, h_6, h_15, if_true, if_false, cond_true, cond_false, decide_true, decide_false, Bool.not_true, Bool.not_false, Bool.or_true, Bool.true_or, Bool.or_false, Bool.false_or, Bool.and_true, Bool.and_false, Bool.true_and, Bool.false_and, Bool.or_self, Bool.and_self, eq_self] <;> first | rfl | (first | (rw [hc]; done) | (rw [hl, hc, nI_1])))

set_option maxHeartbeats 2000000 in
set_option maxRecDepth 10000 in
theorem c_Day_eventOf {G : ex_G} {M : ex_M} {np ne : Nat} {e w0 : Int32} (w : WF (M.1 0) np ne) : Con G Y_Day_eventOf 2 44 0 0 [.ref (ex_b G + 0), .int e, .int w0] (ce G M) (some (.int (D_eventOf M np e w0).1)) (ce G ((D_eventOf M np e w0).2)) := by
  refine Con.ofF (plainFor_of_name (by decide +kernel)) (Nat.le_of_ble_eq_true rfl) (fun C hC hR => ?_)
  show Ev G C Y_Day_eventOf 0 [some (.ref (ex_b G + 0)), some (.int e), some (.int w0)] [] 0 0 (ce G M)
  obtain ⟨hc, hn, hc2, hn2, hmet, hkd, hkn⟩ := w
  refine ev_aload_n rfl hC d_Day_eventOf_0 ?_
  refine ev_iload_n rfl hC d_Day_eventOf_1 ?_
  refine cv_Day1 hC d_Day_eventOf_2 (c_Day_noEvent ) mi_Day_noEvent ml_Day_73 im_Day_noEvent se_Day_noEvent rfl ⟨Nat.le_of_ble_eq_true rfl, Nat.le_of_ble_eq_true rfl⟩ ⟨Nat.le_of_ble_eq_true rfl, Nat.le_of_ble_eq_true rfl⟩ rfl rfl (Nat.le_of_ble_eq_true rfl)  ?_
  refine eb_eq 15 hC d_Day_eventOf_5 rfl (fun h_5 => ?_) (fun h_5 => ?_)
  · obtain ⟨i, hi, rfl⟩ := out_ix hc2 hn2 h_5
    have ci : (nI i).toNatClampNeg = i := nI_clamp (by omega)
    refine ev_aload_n rfl hC d_Day_eventOf_15 ?_
    refine gv_Day_present hC d_Day_eventOf_16 fl_Day_12  ?_
    refine gn_River_events hC d_Day_eventOf_19 fl_Day_77 (by first | assumption | decide) ?_
    refine ev_iload_n rfl hC d_Day_eventOf_22 ?_
    refine gr_events hC d_Day_eventOf_23 (by first | assumption | decide) (by first | assumption | omega) ?_
    refine ev_astore_n (by decide) hC d_Day_eventOf_24 ?_
    refine ev_iload_n rfl hC d_Day_eventOf_25 ?_
    refine sx_Day_eventOf_26 hC (fun h_26 => ?_) (fun h_26 => ?_) (fun h_26 => ?_) (fun h_26 => ?_) (fun h_26 => ?_) (fun h_26 => ?_) (fun h_26 => ?_)
    · refine ev_aload_n rfl hC d_Day_eventOf_120 ?_
      refine ev_ldc kc_Day_55 hC d_Day_eventOf_121 ?_
      refine cv_Day1 hC d_Day_eventOf_123 (c_Day_refuse (k := 0) (by omega) (by decide +kernel)) mi_Day_refuse ml_Day_56 im_Day_refuse se_Day_refuse rfl ⟨Nat.le_of_ble_eq_true rfl, Nat.le_of_ble_eq_true rfl⟩ ⟨Nat.le_of_ble_eq_true rfl, Nat.le_of_ble_eq_true rfl⟩ rfl rfl (Nat.le_of_ble_eq_true rfl)  ?_
      exact ev_iret hC hR d_Day_eventOf_126 rfl (by have e0 := sw_ne h_26 0 (by decide) (by decide); have e1 := sw_ne h_26 1 (by decide) (by decide); have e2 := sw_ne h_26 2 (by decide) (by decide); have e3 := sw_ne h_26 3 (by decide) (by decide); have e4 := sw_ne h_26 4 (by decide) (by decide); have e5 := sw_ne h_26 5 (by decide) (by decide); simp only [D_eventOf, bad, whoK, hToR, hToL, h_5, e0, e1, e2, e3, e4, e5, ix, ci, if_true, if_false, cond_true, cond_false, decide_true, decide_false, Bool.not_true, Bool.not_false, Bool.or_true, Bool.true_or, Bool.or_false, Bool.false_or, Bool.and_true, Bool.and_false, Bool.true_and, Bool.false_and, Bool.or_self, Bool.and_self, eq_self] <;> first | rfl | (rfl)) (by have e0 := sw_ne h_26 0 (by decide) (by decide); have e1 := sw_ne h_26 1 (by decide) (by decide); have e2 := sw_ne h_26 2 (by decide) (by decide); have e3 := sw_ne h_26 3 (by decide) (by decide); have e4 := sw_ne h_26 4 (by decide) (by decide); have e5 := sw_ne h_26 5 (by decide) (by decide); simp only [D_eventOf, bad, whoK, hToR, hToL, h_5, e0, e1, e2, e3, e4, e5, ix, ci, if_true, if_false, cond_true, cond_false, decide_true, decide_false, Bool.not_true, Bool.not_false, Bool.or_true, Bool.true_or, Bool.or_false, Bool.false_or, Bool.and_true, Bool.and_false, Bool.true_and, Bool.false_and, Bool.or_self, Bool.and_self, eq_self] <;> first | rfl | (rfl))
    · refine ev_aload_n rfl hC d_Day_eventOf_64 ?_
      refine gn_Event_hour hC d_Day_eventOf_65 fl_Day_81 (by first | assumption | decide) (by first | assumption | omega) ?_
      exact ev_iret hC hR d_Day_eventOf_68 rfl (by subst h_26; simp only [D_eventOf, bad, whoK, hToR, hToL, h_5, ix, ci, if_true, if_false, cond_true, cond_false, decide_true, decide_false, Bool.not_true, Bool.not_false, Bool.or_true, Bool.true_or, Bool.or_false, Bool.false_or, Bool.and_true, Bool.and_false, Bool.true_and, Bool.false_and, Bool.or_self, Bool.and_self, eq_self] <;> first | rfl | (rfl)) (by subst h_26; simp only [D_eventOf, bad, whoK, hToR, hToL, h_5, ix, ci, if_true, if_false, cond_true, cond_false, decide_true, decide_false, Bool.not_true, Bool.not_false, Bool.or_true, Bool.true_or, Bool.or_false, Bool.false_or, Bool.and_true, Bool.and_false, Bool.true_and, Bool.false_and, Bool.or_self, Bool.and_self, eq_self] <;> first | rfl | (rfl))
    · refine ev_aload_n rfl hC d_Day_eventOf_69 ?_
      refine gn_Event_worth hC d_Day_eventOf_70 fl_Day_86 (by first | assumption | decide) (by first | assumption | omega) ?_
      exact ev_iret hC hR d_Day_eventOf_73 rfl (by subst h_26; simp only [D_eventOf, bad, whoK, hToR, hToL, h_5, ix, ci, if_true, if_false, cond_true, cond_false, decide_true, decide_false, Bool.not_true, Bool.not_false, Bool.or_true, Bool.true_or, Bool.or_false, Bool.false_or, Bool.and_true, Bool.and_false, Bool.true_and, Bool.false_and, Bool.or_self, Bool.and_self, eq_self] <;> first | rfl | (rfl)) (by subst h_26; simp only [D_eventOf, bad, whoK, hToR, hToL, h_5, ix, ci, if_true, if_false, cond_true, cond_false, decide_true, decide_false, Bool.not_true, Bool.not_false, Bool.or_true, Bool.true_or, Bool.or_false, Bool.false_or, Bool.and_true, Bool.and_false, Bool.true_and, Bool.false_and, Bool.or_self, Bool.and_self, eq_self] <;> first | rfl | (rfl))
    · refine ev_aload_n rfl hC d_Day_eventOf_74 ?_
      refine gn_Event_met hC d_Day_eventOf_75 fl_Day_89 (by first | assumption | decide) (by first | assumption | omega) ?_
      refine ev_if_eq 85 hC d_Day_eventOf_78 rfl (fun h_78 => ?_) (fun h_78 => ?_)
      · refine ev_iconst (v := 0) rfl hC d_Day_eventOf_85 ?_
        exact ev_iret hC hR d_Day_eventOf_86 rfl (by subst h_26; simp only [D_eventOf, bad, whoK, hToR, hToL, h_5, h_78, ix, ci, if_true, if_false, cond_true, cond_false, decide_true, decide_false, Bool.not_true, Bool.not_false, Bool.or_true, Bool.true_or, Bool.or_false, Bool.false_or, Bool.and_true, Bool.and_false, Bool.true_and, Bool.false_and, Bool.or_self, Bool.and_self, eq_self] <;> first | rfl | (rfl)) (by subst h_26; simp only [D_eventOf, bad, whoK, hToR, hToL, h_5, h_78, ix, ci, if_true, if_false, cond_true, cond_false, decide_true, decide_false, Bool.not_true, Bool.not_false, Bool.or_true, Bool.true_or, Bool.or_false, Bool.false_or, Bool.and_true, Bool.and_false, Bool.true_and, Bool.false_and, Bool.or_self, Bool.and_self, eq_self] <;> first | rfl | (rfl))
      · refine ev_iconst (v := 1) rfl hC d_Day_eventOf_81 ?_
        refine ev_goto 86 hC d_Day_eventOf_82 rfl ?_
        exact ev_iret hC hR d_Day_eventOf_86 rfl (by subst h_26; simp only [D_eventOf, bad, whoK, hToR, hToL, h_5, h_78, ix, ci, if_true, if_false, cond_true, cond_false, decide_true, decide_false, Bool.not_true, Bool.not_false, Bool.or_true, Bool.true_or, Bool.or_false, Bool.false_or, Bool.and_true, Bool.and_false, Bool.true_and, Bool.false_and, Bool.or_self, Bool.and_self, eq_self] <;> first | rfl | (rfl)) (by subst h_26; simp only [D_eventOf, bad, whoK, hToR, hToL, h_5, h_78, ix, ci, if_true, if_false, cond_true, cond_false, decide_true, decide_false, Bool.not_true, Bool.not_false, Bool.or_true, Bool.true_or, Bool.or_false, Bool.false_or, Bool.and_true, Bool.and_false, Bool.true_and, Bool.false_and, Bool.or_self, Bool.and_self, eq_self] <;> first | rfl | (rfl))
    · refine ev_aload_n rfl hC d_Day_eventOf_87 ?_
      refine gv_Day_present hC d_Day_eventOf_88 fl_Day_12  ?_
      refine ev_iload_n rfl hC d_Day_eventOf_91 ?_
      refine cv_River1 hC d_Day_eventOf_92 (c_River_thoseWhoKnow hn (by decide) hc) mi_River_thoseWhoKnow ml_Day_92 im_River_thoseWhoKnow se_River_thoseWhoKnow rfl ⟨Nat.le_of_ble_eq_true rfl, Nat.le_of_ble_eq_true rfl⟩ ⟨Nat.le_of_ble_eq_true rfl, Nat.le_of_ble_eq_true rfl⟩ rfl rfl (Nat.le_of_ble_eq_true rfl) (by first | assumption | decide) ?_
      exact ev_iret hC hR d_Day_eventOf_95 rfl (by subst h_26; simp only [D_eventOf, bad, whoK, hToR, hToL, h_5, ix, ci, if_true, if_false, cond_true, cond_false, decide_true, decide_false, Bool.not_true, Bool.not_false, Bool.or_true, Bool.true_or, Bool.or_false, Bool.false_or, Bool.and_true, Bool.and_false, Bool.true_and, Bool.false_and, Bool.or_self, Bool.and_self, eq_self] <;> first | rfl | (rfl)) (by subst h_26; simp only [D_eventOf, bad, whoK, hToR, hToL, h_5, ix, ci, if_true, if_false, cond_true, cond_false, decide_true, decide_false, Bool.not_true, Bool.not_false, Bool.or_true, Bool.true_or, Bool.or_false, Bool.false_or, Bool.and_true, Bool.and_false, Bool.true_and, Bool.false_and, Bool.or_self, Bool.and_self, eq_self] <;> first | rfl | (rfl))
    · refine ev_aload_n rfl hC d_Day_eventOf_96 ?_
      refine ev_aload_n rfl hC d_Day_eventOf_97 ?_
      refine gv_Day_present hC d_Day_eventOf_98 fl_Day_12  ?_
      refine gn_River_hour hC d_Day_eventOf_101 fl_Day_95 (by first | assumption | decide) ?_
      refine cv_Event1 hC d_Day_eventOf_104 (c_Event_hoursToRight (by first | assumption | omega) (by first | assumption | omega)) mi_Event_hoursToRight ml_Day_96 im_Event_hoursToRight se_Event_hoursToRight rfl ⟨Nat.le_of_ble_eq_true rfl, Nat.le_of_ble_eq_true rfl⟩ ⟨Nat.le_of_ble_eq_true rfl, Nat.le_of_ble_eq_true rfl⟩ rfl rfl (Nat.le_of_ble_eq_true rfl) (by first | assumption | decide) (by first | assumption | omega) ?_
      exact ev_iret hC hR d_Day_eventOf_107 rfl (by subst h_26; simp only [D_eventOf, bad, whoK, hToR, hToL, h_5, ix, ci, if_true, if_false, cond_true, cond_false, decide_true, decide_false, Bool.not_true, Bool.not_false, Bool.or_true, Bool.true_or, Bool.or_false, Bool.false_or, Bool.and_true, Bool.and_false, Bool.true_and, Bool.false_and, Bool.or_self, Bool.and_self, eq_self] <;> first | rfl | (rfl)) (by subst h_26; simp only [D_eventOf, bad, whoK, hToR, hToL, h_5, ix, ci, if_true, if_false, cond_true, cond_false, decide_true, decide_false, Bool.not_true, Bool.not_false, Bool.or_true, Bool.true_or, Bool.or_false, Bool.false_or, Bool.and_true, Bool.and_false, Bool.true_and, Bool.false_and, Bool.or_self, Bool.and_self, eq_self] <;> first | rfl | (rfl))
    · refine ev_aload_n rfl hC d_Day_eventOf_108 ?_
      refine ev_aload_n rfl hC d_Day_eventOf_109 ?_
      refine gv_Day_present hC d_Day_eventOf_110 fl_Day_12  ?_
      refine gn_River_hour hC d_Day_eventOf_113 fl_Day_95 (by first | assumption | decide) ?_
      refine cv_Event1 hC d_Day_eventOf_116 (c_Event_hoursToLeft (hmet i hi) (by decide) (by omega)) mi_Event_hoursToLeft ml_Day_99 im_Event_hoursToLeft se_Event_hoursToLeft rfl ⟨Nat.le_of_ble_eq_true rfl, Nat.le_of_ble_eq_true rfl⟩ ⟨Nat.le_of_ble_eq_true rfl, Nat.le_of_ble_eq_true rfl⟩ rfl rfl (Nat.le_of_ble_eq_true rfl) (by first | assumption | decide) (by first | assumption | omega) ?_
      exact ev_iret hC hR d_Day_eventOf_119 rfl (by subst h_26; simp only [D_eventOf, bad, whoK, hToR, hToL, h_5, ix, ci, if_true, if_false, cond_true, cond_false, decide_true, decide_false, Bool.not_true, Bool.not_false, Bool.or_true, Bool.true_or, Bool.or_false, Bool.false_or, Bool.and_true, Bool.and_false, Bool.true_and, Bool.false_and, Bool.or_self, Bool.and_self, eq_self] <;> first | rfl | (rfl)) (by subst h_26; simp only [D_eventOf, bad, whoK, hToR, hToL, h_5, ix, ci, if_true, if_false, cond_true, cond_false, decide_true, decide_false, Bool.not_true, Bool.not_false, Bool.or_true, Bool.true_or, Bool.or_false, Bool.false_or, Bool.and_true, Bool.and_false, Bool.true_and, Bool.false_and, Bool.or_self, Bool.and_self, eq_self] <;> first | rfl | (rfl))
  · refine ev_aload_n rfl hC d_Day_eventOf_8 ?_
    refine ev_ldc kc_Day_55 hC d_Day_eventOf_9 ?_
    refine cv_Day1 hC d_Day_eventOf_11 (c_Day_refuse (k := 0) (by omega) (by decide +kernel)) mi_Day_refuse ml_Day_56 im_Day_refuse se_Day_refuse rfl ⟨Nat.le_of_ble_eq_true rfl, Nat.le_of_ble_eq_true rfl⟩ ⟨Nat.le_of_ble_eq_true rfl, Nat.le_of_ble_eq_true rfl⟩ rfl rfl (Nat.le_of_ble_eq_true rfl)  ?_
    exact ev_iret hC hR d_Day_eventOf_14 rfl (by simp only [D_eventOf, bad, whoK, hToR, hToL, h_5, if_true, if_false, cond_true, cond_false, decide_true, decide_false, Bool.not_true, Bool.not_false, Bool.or_true, Bool.true_or, Bool.or_false, Bool.false_or, Bool.and_true, Bool.and_false, Bool.true_and, Bool.false_and, Bool.or_self, Bool.and_self, eq_self] <;> first | rfl | (rfl)) (by simp only [D_eventOf, bad, whoK, hToR, hToL, h_5, if_true, if_false, cond_true, cond_false, decide_true, decide_false, Bool.not_true, Bool.not_false, Bool.or_true, Bool.true_or, Bool.or_false, Bool.false_or, Bool.and_true, Bool.and_false, Bool.true_and, Bool.false_and, Bool.or_self, Bool.and_self, eq_self] <;> first | rfl | (rfl))

set_option maxHeartbeats 2000000 in
set_option maxRecDepth 10000 in
theorem c_Day_worth {G : ex_G} {M : ex_M} {np ne : Nat} {e v : Int32} (w : WF (M.1 0) np ne) : Con G Y_Day_worth 2 43 0 0 [.ref (ex_b G + 0), .int e, .int v] (ce G M) (some (.int (D_worth M e v).1)) (ce G ((D_worth M e v).2)) := by
  refine Con.ofF (plainFor_of_name (by decide +kernel)) (Nat.le_of_ble_eq_true rfl) (fun C hC hR => ?_)
  show Ev G C Y_Day_worth 0 [some (.ref (ex_b G + 0)), some (.int e), some (.int v)] [] 0 0 (ce G M)
  obtain ⟨hc, hn, hc2, hn2, hmet, hkd, hkn⟩ := w
  refine ev_aload_n rfl hC d_Day_worth_0 ?_
  refine ev_iload_n rfl hC d_Day_worth_1 ?_
  refine cv_Day1 hC d_Day_worth_2 (c_Day_noEvent ) mi_Day_noEvent ml_Day_73 im_Day_noEvent se_Day_noEvent rfl ⟨Nat.le_of_ble_eq_true rfl, Nat.le_of_ble_eq_true rfl⟩ ⟨Nat.le_of_ble_eq_true rfl, Nat.le_of_ble_eq_true rfl⟩ rfl rfl (Nat.le_of_ble_eq_true rfl)  ?_
  refine eb_ne 19 hC d_Day_worth_5 rfl (fun h_5 => ?_) (fun h_5 => ?_)
  · refine ev_aload_n rfl hC d_Day_worth_19 ?_
    refine ev_ldc kc_Day_55 hC d_Day_worth_20 ?_
    refine cv_Day1 hC d_Day_worth_22 (c_Day_refuse (k := 0) (by omega) (by decide +kernel)) mi_Day_refuse ml_Day_56 im_Day_refuse se_Day_refuse rfl ⟨Nat.le_of_ble_eq_true rfl, Nat.le_of_ble_eq_true rfl⟩ ⟨Nat.le_of_ble_eq_true rfl, Nat.le_of_ble_eq_true rfl⟩ rfl rfl (Nat.le_of_ble_eq_true rfl)  ?_
    exact ev_iret hC hR d_Day_worth_25 rfl (by simp only [D_worth, bad, h_5, if_true, if_false, cond_true, cond_false, decide_true, decide_false, Bool.not_true, Bool.not_false, Bool.or_true, Bool.true_or, Bool.or_false, Bool.false_or, Bool.and_true, Bool.and_false, Bool.true_and, Bool.false_and, Bool.or_self, Bool.and_self, eq_self] <;> first | rfl | (rfl)) (by simp only [D_worth, bad, h_5, if_true, if_false, cond_true, cond_false, decide_true, decide_false, Bool.not_true, Bool.not_false, Bool.or_true, Bool.true_or, Bool.or_false, Bool.false_or, Bool.and_true, Bool.and_false, Bool.true_and, Bool.false_and, Bool.or_self, Bool.and_self, eq_self] <;> first | rfl | (rfl))
  · refine ev_iload_n rfl hC d_Day_worth_8 ?_
    refine ev_bipush (v := -99) rfl hC d_Day_worth_9 ?_
    refine ev_bipush (v := 99) rfl hC d_Day_worth_11 ?_
    refine cs_1 hC d_Day_worth_13 (c_Day_outside ) mi_Day_outside ml_Day_51 sm_Day_outside ⟨Nat.le_of_ble_eq_true rfl, Nat.le_of_ble_eq_true rfl⟩ ⟨Nat.le_of_ble_eq_true rfl, Nat.le_of_ble_eq_true rfl⟩ rfl rfl (Nat.le_of_ble_eq_true rfl) ?_
    refine eb_eq 26 hC d_Day_worth_16 rfl (fun h_16 => ?_) (fun h_16 => ?_)
    · obtain ⟨i, hi, rfl⟩ := out_ix hc2 hn2 h_5
      have ci : (nI i).toNatClampNeg = i := nI_clamp (by omega)
      refine ev_aload_n rfl hC d_Day_worth_26 ?_
      refine gv_Day_present hC d_Day_worth_27 fl_Day_12  ?_
      refine gn_River_events hC d_Day_worth_30 fl_Day_77 (by first | assumption | decide) ?_
      refine ev_iload_n rfl hC d_Day_worth_33 ?_
      refine gr_events hC d_Day_worth_34 (by first | assumption | decide) (by first | assumption | omega) ?_
      refine gn_Event_worth hC d_Day_worth_35 fl_Day_86 (by first | assumption | decide) (by first | assumption | omega) ?_
      refine ev_istore_n (by decide) hC d_Day_worth_38 ?_
      refine ev_aload_n rfl hC d_Day_worth_39 ?_
      refine gv_Day_present hC d_Day_worth_40 fl_Day_12  ?_
      refine gn_River_events hC d_Day_worth_43 fl_Day_77 (by first | assumption | decide) ?_
      refine ev_iload_n rfl hC d_Day_worth_46 ?_
      refine gr_events hC d_Day_worth_47 (by first | assumption | decide) (by first | assumption | omega) ?_
      refine ev_iload_n rfl hC d_Day_worth_48 ?_
      refine pn_Event_worth hC d_Day_worth_49 fl_Day_86 (by first | assumption | decide) (by first | assumption | omega) ?_
      refine ev_iload_n rfl hC d_Day_worth_52 ?_
      exact ev_iret hC hR d_Day_worth_53 rfl (by simp only [D_worth, bad, h_5, h_16, ix, ci, if_true, if_false, cond_true, cond_false, decide_true, decide_false, Bool.not_true, Bool.not_false, Bool.or_true, Bool.true_or, Bool.or_false, Bool.false_or, Bool.and_true, Bool.and_false, Bool.true_and, Bool.false_and, Bool.or_self, Bool.and_self, eq_self] <;> first | rfl | (rfl)) (by simp only [D_worth, bad, h_5, h_16, ix, ci, if_true, if_false, cond_true, cond_false, decide_true, decide_false, Bool.not_true, Bool.not_false, Bool.or_true, Bool.true_or, Bool.or_false, Bool.false_or, Bool.and_true, Bool.and_false, Bool.true_and, Bool.false_and, Bool.or_self, Bool.and_self, eq_self] <;> first | rfl | (rfl))
    · refine ev_aload_n rfl hC d_Day_worth_19 ?_
      refine ev_ldc kc_Day_55 hC d_Day_worth_20 ?_
      refine cv_Day1 hC d_Day_worth_22 (c_Day_refuse (k := 0) (by omega) (by decide +kernel)) mi_Day_refuse ml_Day_56 im_Day_refuse se_Day_refuse rfl ⟨Nat.le_of_ble_eq_true rfl, Nat.le_of_ble_eq_true rfl⟩ ⟨Nat.le_of_ble_eq_true rfl, Nat.le_of_ble_eq_true rfl⟩ rfl rfl (Nat.le_of_ble_eq_true rfl)  ?_
      exact ev_iret hC hR d_Day_worth_25 rfl (by simp only [D_worth, bad, h_5, h_16, if_true, if_false, cond_true, cond_false, decide_true, decide_false, Bool.not_true, Bool.not_false, Bool.or_true, Bool.true_or, Bool.or_false, Bool.false_or, Bool.and_true, Bool.and_false, Bool.true_and, Bool.false_and, Bool.or_self, Bool.and_self, eq_self] <;> first | rfl | (rfl)) (by simp only [D_worth, bad, h_5, h_16, if_true, if_false, cond_true, cond_false, decide_true, decide_false, Bool.not_true, Bool.not_false, Bool.or_true, Bool.true_or, Bool.or_false, Bool.false_or, Bool.and_true, Bool.and_false, Bool.true_and, Bool.false_and, Bool.or_self, Bool.and_self, eq_self] <;> first | rfl | (rfl))

set_option maxHeartbeats 2000000 in
set_option maxRecDepth 10000 in
theorem c_Day_of {G : ex_G} {M : ex_M} {np ne : Nat} {p w0 : Int32} (w : WF (M.1 0) np ne) : Con G Y_Day_of 2 43 0 0 [.ref (ex_b G + 0), .int p, .int w0] (ce G M) (some (.int (D_of M p w0).1)) (ce G ((D_of M p w0).2)) := by
  refine Con.ofF (plainFor_of_name (by decide +kernel)) (Nat.le_of_ble_eq_true rfl) (fun C hC hR => ?_)
  show Ev G C Y_Day_of 0 [some (.ref (ex_b G + 0)), some (.int p), some (.int w0)] [] 0 0 (ce G M)
  obtain ⟨hc, hn, hc2, hn2, hmet, hkd, hkn⟩ := w
  refine ev_aload_n rfl hC d_Day_of_0 ?_
  refine ev_iload_n rfl hC d_Day_of_1 ?_
  refine cv_Day1 hC d_Day_of_2 (c_Day_noOne ) mi_Day_noOne ml_Day_108 im_Day_noOne se_Day_noOne rfl ⟨Nat.le_of_ble_eq_true rfl, Nat.le_of_ble_eq_true rfl⟩ ⟨Nat.le_of_ble_eq_true rfl, Nat.le_of_ble_eq_true rfl⟩ rfl rfl (Nat.le_of_ble_eq_true rfl)  ?_
  refine eb_eq 15 hC d_Day_of_5 rfl (fun h_5 => ?_) (fun h_5 => ?_)
  · obtain ⟨i, hi, rfl⟩ := out_ix hc hn h_5
    have ci : (nI i).toNatClampNeg = i := nI_clamp (by omega)
    refine ev_aload_n rfl hC d_Day_of_15 ?_
    refine gv_Day_present hC d_Day_of_16 fl_Day_12  ?_
    refine gn_River_people hC d_Day_of_19 fl_Day_111 (by first | assumption | decide) ?_
    refine ev_iload_n rfl hC d_Day_of_22 ?_
    refine gr_people hC d_Day_of_23 (by first | assumption | decide) (by first | assumption | omega) ?_
    refine ev_astore_n (by decide) hC d_Day_of_24 ?_
    refine ev_iload_n rfl hC d_Day_of_25 ?_
    refine sx_Day_of_26 hC (fun h_26 => ?_) (fun h_26 => ?_) (fun h_26 => ?_) (fun h_26 => ?_) (fun h_26 => ?_) (fun h_26 => ?_) (fun h_26 => ?_) (fun h_26 => ?_)
    · refine ev_aload_n rfl hC d_Day_of_103 ?_
      refine ev_ldc kc_Day_55 hC d_Day_of_104 ?_
      refine cv_Day1 hC d_Day_of_106 (c_Day_refuse (k := 0) (by omega) (by decide +kernel)) mi_Day_refuse ml_Day_56 im_Day_refuse se_Day_refuse rfl ⟨Nat.le_of_ble_eq_true rfl, Nat.le_of_ble_eq_true rfl⟩ ⟨Nat.le_of_ble_eq_true rfl, Nat.le_of_ble_eq_true rfl⟩ rfl rfl (Nat.le_of_ble_eq_true rfl)  ?_
      exact ev_iret hC hR d_Day_of_109 rfl (by have eo : out w0 0 6 = true := sw_out h_26 (by decide) (by decide); simp only [D_of, bad, h_5, eo, ix, ci, if_true, if_false, cond_true, cond_false, decide_true, decide_false, Bool.not_true, Bool.not_false, Bool.or_true, Bool.true_or, Bool.or_false, Bool.false_or, Bool.and_true, Bool.and_false, Bool.true_and, Bool.false_and, Bool.or_self, Bool.and_self, eq_self] <;> first | rfl | (rfl)) (by have eo : out w0 0 6 = true := sw_out h_26 (by decide) (by decide); simp only [D_of, bad, h_5, eo, ix, ci, if_true, if_false, cond_true, cond_false, decide_true, decide_false, Bool.not_true, Bool.not_false, Bool.or_true, Bool.true_or, Bool.or_false, Bool.false_or, Bool.and_true, Bool.and_false, Bool.true_and, Bool.false_and, Bool.or_self, Bool.and_self, eq_self] <;> first | rfl | (rfl))
    · refine ev_aload_n rfl hC d_Day_of_68 ?_
      refine gn_One_kind hC d_Day_of_69 fl_Day_115 (by first | assumption | decide) (by first | assumption | omega) ?_
      exact ev_iret hC hR d_Day_of_72 rfl (by subst h_26; simp only [D_of, bad, h_5, ix, ci, if_true, if_false, cond_true, cond_false, decide_true, decide_false, Bool.not_true, Bool.not_false, Bool.or_true, Bool.true_or, Bool.or_false, Bool.false_or, Bool.and_true, Bool.and_false, Bool.true_and, Bool.false_and, Bool.or_self, Bool.and_self, eq_self] <;> first | rfl | (rfl)) (by subst h_26; simp only [D_of, bad, h_5, ix, ci, if_true, if_false, cond_true, cond_false, decide_true, decide_false, Bool.not_true, Bool.not_false, Bool.or_true, Bool.true_or, Bool.or_false, Bool.false_or, Bool.and_true, Bool.and_false, Bool.true_and, Bool.false_and, Bool.or_self, Bool.and_self, eq_self] <;> first | rfl | (rfl))
    · refine ev_aload_n rfl hC d_Day_of_73 ?_
      refine gn_One_bank hC d_Day_of_74 fl_Day_120 (by first | assumption | decide) (by first | assumption | omega) ?_
      exact ev_iret hC hR d_Day_of_77 rfl (by subst h_26; simp only [D_of, bad, h_5, ix, ci, if_true, if_false, cond_true, cond_false, decide_true, decide_false, Bool.not_true, Bool.not_false, Bool.or_true, Bool.true_or, Bool.or_false, Bool.false_or, Bool.and_true, Bool.and_false, Bool.true_and, Bool.false_and, Bool.or_self, Bool.and_self, eq_self] <;> first | rfl | (rfl)) (by subst h_26; simp only [D_of, bad, h_5, ix, ci, if_true, if_false, cond_true, cond_false, decide_true, decide_false, Bool.not_true, Bool.not_false, Bool.or_true, Bool.true_or, Bool.or_false, Bool.false_or, Bool.and_true, Bool.and_false, Bool.true_and, Bool.false_and, Bool.or_self, Bool.and_self, eq_self] <;> first | rfl | (rfl))
    · refine ev_aload_n rfl hC d_Day_of_78 ?_
      refine gn_One_purse hC d_Day_of_79 fl_Day_123 (by first | assumption | decide) (by first | assumption | omega) ?_
      exact ev_iret hC hR d_Day_of_82 rfl (by subst h_26; simp only [D_of, bad, h_5, ix, ci, if_true, if_false, cond_true, cond_false, decide_true, decide_false, Bool.not_true, Bool.not_false, Bool.or_true, Bool.true_or, Bool.or_false, Bool.false_or, Bool.and_true, Bool.and_false, Bool.true_and, Bool.false_and, Bool.or_self, Bool.and_self, eq_self] <;> first | rfl | (rfl)) (by subst h_26; simp only [D_of, bad, h_5, ix, ci, if_true, if_false, cond_true, cond_false, decide_true, decide_false, Bool.not_true, Bool.not_false, Bool.or_true, Bool.true_or, Bool.or_false, Bool.false_or, Bool.and_true, Bool.and_false, Bool.true_and, Bool.false_and, Bool.or_self, Bool.and_self, eq_self] <;> first | rfl | (rfl))
    · refine ev_aload_n rfl hC d_Day_of_83 ?_
      refine gn_One_goes hC d_Day_of_84 fl_Day_126 (by first | assumption | decide) (by first | assumption | omega) ?_
      exact ev_iret hC hR d_Day_of_87 rfl (by subst h_26; simp only [D_of, bad, h_5, ix, ci, if_true, if_false, cond_true, cond_false, decide_true, decide_false, Bool.not_true, Bool.not_false, Bool.or_true, Bool.true_or, Bool.or_false, Bool.false_or, Bool.and_true, Bool.and_false, Bool.true_and, Bool.false_and, Bool.or_self, Bool.and_self, eq_self] <;> first | rfl | (rfl)) (by subst h_26; simp only [D_of, bad, h_5, ix, ci, if_true, if_false, cond_true, cond_false, decide_true, decide_false, Bool.not_true, Bool.not_false, Bool.or_true, Bool.true_or, Bool.or_false, Bool.false_or, Bool.and_true, Bool.and_false, Bool.true_and, Bool.false_and, Bool.or_self, Bool.and_self, eq_self] <;> first | rfl | (rfl))
    · refine ev_aload_n rfl hC d_Day_of_88 ?_
      refine gn_One_comes hC d_Day_of_89 fl_Day_129 (by first | assumption | decide) (by first | assumption | omega) ?_
      exact ev_iret hC hR d_Day_of_92 rfl (by subst h_26; simp only [D_of, bad, h_5, ix, ci, if_true, if_false, cond_true, cond_false, decide_true, decide_false, Bool.not_true, Bool.not_false, Bool.or_true, Bool.true_or, Bool.or_false, Bool.false_or, Bool.and_true, Bool.and_false, Bool.true_and, Bool.false_and, Bool.or_self, Bool.and_self, eq_self] <;> first | rfl | (rfl)) (by subst h_26; simp only [D_of, bad, h_5, ix, ci, if_true, if_false, cond_true, cond_false, decide_true, decide_false, Bool.not_true, Bool.not_false, Bool.or_true, Bool.true_or, Bool.or_false, Bool.false_or, Bool.and_true, Bool.and_false, Bool.true_and, Bool.false_and, Bool.or_self, Bool.and_self, eq_self] <;> first | rfl | (rfl))
    · refine ev_aload_n rfl hC d_Day_of_93 ?_
      refine gn_One_crossed hC d_Day_of_94 fl_Day_132 (by first | assumption | decide) (by first | assumption | omega) ?_
      exact ev_iret hC hR d_Day_of_97 rfl (by subst h_26; simp only [D_of, bad, h_5, ix, ci, if_true, if_false, cond_true, cond_false, decide_true, decide_false, Bool.not_true, Bool.not_false, Bool.or_true, Bool.true_or, Bool.or_false, Bool.false_or, Bool.and_true, Bool.and_false, Bool.true_and, Bool.false_and, Bool.or_self, Bool.and_self, eq_self] <;> first | rfl | (rfl)) (by subst h_26; simp only [D_of, bad, h_5, ix, ci, if_true, if_false, cond_true, cond_false, decide_true, decide_false, Bool.not_true, Bool.not_false, Bool.or_true, Bool.true_or, Bool.or_false, Bool.false_or, Bool.and_true, Bool.and_false, Bool.true_and, Bool.false_and, Bool.or_self, Bool.and_self, eq_self] <;> first | rfl | (rfl))
    · refine ev_aload_n rfl hC d_Day_of_98 ?_
      refine gn_One_knows hC d_Day_of_99 fl_Day_135 (by first | assumption | decide) (by first | assumption | omega) ?_
      exact ev_iret hC hR d_Day_of_102 rfl (by subst h_26; simp only [D_of, bad, h_5, ix, ci, if_true, if_false, cond_true, cond_false, decide_true, decide_false, Bool.not_true, Bool.not_false, Bool.or_true, Bool.true_or, Bool.or_false, Bool.false_or, Bool.and_true, Bool.and_false, Bool.true_and, Bool.false_and, Bool.or_self, Bool.and_self, eq_self] <;> first | rfl | (rfl)) (by subst h_26; simp only [D_of, bad, h_5, ix, ci, if_true, if_false, cond_true, cond_false, decide_true, decide_false, Bool.not_true, Bool.not_false, Bool.or_true, Bool.true_or, Bool.or_false, Bool.false_or, Bool.and_true, Bool.and_false, Bool.true_and, Bool.false_and, Bool.or_self, Bool.and_self, eq_self] <;> first | rfl | (rfl))
  · refine ev_aload_n rfl hC d_Day_of_8 ?_
    refine ev_ldc kc_Day_55 hC d_Day_of_9 ?_
    refine cv_Day1 hC d_Day_of_11 (c_Day_refuse (k := 0) (by omega) (by decide +kernel)) mi_Day_refuse ml_Day_56 im_Day_refuse se_Day_refuse rfl ⟨Nat.le_of_ble_eq_true rfl, Nat.le_of_ble_eq_true rfl⟩ ⟨Nat.le_of_ble_eq_true rfl, Nat.le_of_ble_eq_true rfl⟩ rfl rfl (Nat.le_of_ble_eq_true rfl)  ?_
    exact ev_iret hC hR d_Day_of_14 rfl (by simp only [D_of, bad, h_5, if_true, if_false, cond_true, cond_false, decide_true, decide_false, Bool.not_true, Bool.not_false, Bool.or_true, Bool.true_or, Bool.or_false, Bool.false_or, Bool.and_true, Bool.and_false, Bool.true_and, Bool.false_and, Bool.or_self, Bool.and_self, eq_self] <;> first | rfl | (rfl)) (by simp only [D_of, bad, h_5, if_true, if_false, cond_true, cond_false, decide_true, decide_false, Bool.not_true, Bool.not_false, Bool.or_true, Bool.true_or, Bool.or_false, Bool.false_or, Bool.and_true, Bool.and_false, Bool.true_and, Bool.false_and, Bool.or_self, Bool.and_self, eq_self] <;> first | rfl | (rfl))

set_option maxHeartbeats 2000000 in
set_option maxRecDepth 10000 in
theorem c_Day_maySet {G : ex_G} {M : ex_M} {w0 v : Int32} : Con G Y_Day_maySet 1 22 0 0 [.ref (ex_b G + 0), .int w0, .int v] (ce G M) (some (.int (bi (may (M.1 0 2) w0 v)))) (ce G (M)) := by
  refine Con.ofF (plainFor_of_name (by decide +kernel)) (Nat.le_of_ble_eq_true rfl) (fun C hC hR => ?_)
  show Ev G C Y_Day_maySet 0 [some (.ref (ex_b G + 0)), some (.int w0), some (.int v)] [] 0 0 (ce G M)
  refine ev_iload_n rfl hC d_Day_maySet_0 ?_
  refine sx_Day_maySet_1 hC (fun h_1 => ?_) (fun h_1 => ?_) (fun h_1 => ?_) (fun h_1 => ?_) (fun h_1 => ?_) (fun h_1 => ?_) (fun h_1 => ?_)
  · refine ev_iconst (v := 0) rfl hC d_Day_maySet_113 ?_
    exact ev_zret hC hR d_Day_maySet_114 rfl (by first | exact bi_nar _ | decide) (by have e1 := sw_ne h_1 1 (by decide) (by decide); have e2 := sw_ne h_1 2 (by decide) (by decide); have e3 := sw_ne h_1 3 (by decide) (by decide); have e4 := sw_ne h_1 4 (by decide) (by decide); have e6 := sw_ne h_1 6 (by decide) (by decide); simp only [may, e1, e2, e3, e4, e6, if_true, if_false, cond_true, cond_false, decide_true, decide_false, Bool.not_true, Bool.not_false, Bool.or_true, Bool.true_or, Bool.or_false, Bool.false_or, Bool.and_true, Bool.and_false, Bool.true_and, Bool.false_and, Bool.or_self, Bool.and_self, eq_self] <;> first | rfl | (rfl)) (rfl)
  · refine ev_iload_n rfl hC d_Day_maySet_40 ?_
    refine ev_iconst (v := 0) rfl hC d_Day_maySet_41 ?_
    refine ev_iconst (v := 1) rfl hC d_Day_maySet_42 ?_
    refine cs_1 hC d_Day_maySet_43 (c_Day_outside ) mi_Day_outside ml_Day_51 sm_Day_outside ⟨Nat.le_of_ble_eq_true rfl, Nat.le_of_ble_eq_true rfl⟩ ⟨Nat.le_of_ble_eq_true rfl, Nat.le_of_ble_eq_true rfl⟩ rfl rfl (Nat.le_of_ble_eq_true rfl) ?_
    refine eb_ne 53 hC d_Day_maySet_46 rfl (fun h_46 => ?_) (fun h_46 => ?_)
    · refine ev_iconst (v := 0) rfl hC d_Day_maySet_53 ?_
      exact ev_zret hC hR d_Day_maySet_54 rfl (by first | exact bi_nar _ | decide) (by subst h_1; simp only [may, h_46, if_true, if_false, cond_true, cond_false, decide_true, decide_false, Bool.not_true, Bool.not_false, Bool.or_true, Bool.true_or, Bool.or_false, Bool.false_or, Bool.and_true, Bool.and_false, Bool.true_and, Bool.false_and, Bool.or_self, Bool.and_self, eq_self] <;> first | rfl | (rfl)) (rfl)
    · refine ev_iconst (v := 1) rfl hC d_Day_maySet_49 ?_
      refine ev_goto 54 hC d_Day_maySet_50 rfl ?_
      exact ev_zret hC hR d_Day_maySet_54 rfl (by first | exact bi_nar _ | decide) (by subst h_1; simp only [may, h_46, if_true, if_false, cond_true, cond_false, decide_true, decide_false, Bool.not_true, Bool.not_false, Bool.or_true, Bool.true_or, Bool.or_false, Bool.false_or, Bool.and_true, Bool.and_false, Bool.true_and, Bool.false_and, Bool.or_self, Bool.and_self, eq_self] <;> first | rfl | (rfl)) (rfl)
  · refine ev_iload_n rfl hC d_Day_maySet_55 ?_
    refine ev_iconst (v := 0) rfl hC d_Day_maySet_56 ?_
    refine ev_sipush (v := 9999) rfl hC d_Day_maySet_57 ?_
    refine cs_1 hC d_Day_maySet_60 (c_Day_outside ) mi_Day_outside ml_Day_51 sm_Day_outside ⟨Nat.le_of_ble_eq_true rfl, Nat.le_of_ble_eq_true rfl⟩ ⟨Nat.le_of_ble_eq_true rfl, Nat.le_of_ble_eq_true rfl⟩ rfl rfl (Nat.le_of_ble_eq_true rfl) ?_
    refine eb_ne 70 hC d_Day_maySet_63 rfl (fun h_63 => ?_) (fun h_63 => ?_)
    · refine ev_iconst (v := 0) rfl hC d_Day_maySet_70 ?_
      exact ev_zret hC hR d_Day_maySet_71 rfl (by first | exact bi_nar _ | decide) (by subst h_1; simp only [may, h_63, if_true, if_false, cond_true, cond_false, decide_true, decide_false, Bool.not_true, Bool.not_false, Bool.or_true, Bool.true_or, Bool.or_false, Bool.false_or, Bool.and_true, Bool.and_false, Bool.true_and, Bool.false_and, Bool.or_self, Bool.and_self, eq_self] <;> first | rfl | (rfl)) (rfl)
    · refine ev_iconst (v := 1) rfl hC d_Day_maySet_66 ?_
      refine ev_goto 71 hC d_Day_maySet_67 rfl ?_
      exact ev_zret hC hR d_Day_maySet_71 rfl (by first | exact bi_nar _ | decide) (by subst h_1; simp only [may, h_63, if_true, if_false, cond_true, cond_false, decide_true, decide_false, Bool.not_true, Bool.not_false, Bool.or_true, Bool.true_or, Bool.or_false, Bool.false_or, Bool.and_true, Bool.and_false, Bool.true_and, Bool.false_and, Bool.or_self, Bool.and_self, eq_self] <;> first | rfl | (rfl)) (rfl)
  · refine ev_iload_n rfl hC d_Day_maySet_72 ?_
    refine ev_iconst (v := -1) rfl hC d_Day_maySet_73 ?_
    refine ev_bipush (v := 23) rfl hC d_Day_maySet_74 ?_
    refine cs_1 hC d_Day_maySet_76 (c_Day_outside ) mi_Day_outside ml_Day_51 sm_Day_outside ⟨Nat.le_of_ble_eq_true rfl, Nat.le_of_ble_eq_true rfl⟩ ⟨Nat.le_of_ble_eq_true rfl, Nat.le_of_ble_eq_true rfl⟩ rfl rfl (Nat.le_of_ble_eq_true rfl) ?_
    refine eb_ne 86 hC d_Day_maySet_79 rfl (fun h_79 => ?_) (fun h_79 => ?_)
    · refine ev_iconst (v := 0) rfl hC d_Day_maySet_86 ?_
      exact ev_zret hC hR d_Day_maySet_87 rfl (by first | exact bi_nar _ | decide) (by subst h_1; simp only [may, h_79, if_true, if_false, cond_true, cond_false, decide_true, decide_false, Bool.not_true, Bool.not_false, Bool.or_true, Bool.true_or, Bool.or_false, Bool.false_or, Bool.and_true, Bool.and_false, Bool.true_and, Bool.false_and, Bool.or_self, Bool.and_self, eq_self] <;> first | rfl | (rfl)) (rfl)
    · refine ev_iconst (v := 1) rfl hC d_Day_maySet_82 ?_
      refine ev_goto 87 hC d_Day_maySet_83 rfl ?_
      exact ev_zret hC hR d_Day_maySet_87 rfl (by first | exact bi_nar _ | decide) (by subst h_1; simp only [may, h_79, if_true, if_false, cond_true, cond_false, decide_true, decide_false, Bool.not_true, Bool.not_false, Bool.or_true, Bool.true_or, Bool.or_false, Bool.false_or, Bool.and_true, Bool.and_false, Bool.true_and, Bool.false_and, Bool.or_self, Bool.and_self, eq_self] <;> first | rfl | (rfl)) (rfl)
  · refine ev_iload_n rfl hC d_Day_maySet_72 ?_
    refine ev_iconst (v := -1) rfl hC d_Day_maySet_73 ?_
    refine ev_bipush (v := 23) rfl hC d_Day_maySet_74 ?_
    refine cs_1 hC d_Day_maySet_76 (c_Day_outside ) mi_Day_outside ml_Day_51 sm_Day_outside ⟨Nat.le_of_ble_eq_true rfl, Nat.le_of_ble_eq_true rfl⟩ ⟨Nat.le_of_ble_eq_true rfl, Nat.le_of_ble_eq_true rfl⟩ rfl rfl (Nat.le_of_ble_eq_true rfl) ?_
    refine eb_ne 86 hC d_Day_maySet_79 rfl (fun h_79 => ?_) (fun h_79 => ?_)
    · refine ev_iconst (v := 0) rfl hC d_Day_maySet_86 ?_
      exact ev_zret hC hR d_Day_maySet_87 rfl (by first | exact bi_nar _ | decide) (by subst h_1; simp only [may, h_79, if_true, if_false, cond_true, cond_false, decide_true, decide_false, Bool.not_true, Bool.not_false, Bool.or_true, Bool.true_or, Bool.or_false, Bool.false_or, Bool.and_true, Bool.and_false, Bool.true_and, Bool.false_and, Bool.or_self, Bool.and_self, eq_self] <;> first | rfl | (rfl)) (rfl)
    · refine ev_iconst (v := 1) rfl hC d_Day_maySet_82 ?_
      refine ev_goto 87 hC d_Day_maySet_83 rfl ?_
      exact ev_zret hC hR d_Day_maySet_87 rfl (by first | exact bi_nar _ | decide) (by subst h_1; simp only [may, h_79, if_true, if_false, cond_true, cond_false, decide_true, decide_false, Bool.not_true, Bool.not_false, Bool.or_true, Bool.true_or, Bool.or_false, Bool.false_or, Bool.and_true, Bool.and_false, Bool.true_and, Bool.false_and, Bool.or_self, Bool.and_self, eq_self] <;> first | rfl | (rfl)) (rfl)
  · refine ev_iconst (v := 0) rfl hC d_Day_maySet_113 ?_
    exact ev_zret hC hR d_Day_maySet_114 rfl (by first | exact bi_nar _ | decide) (by subst h_1; simp only [may, if_true, if_false, cond_true, cond_false, decide_true, decide_false, Bool.not_true, Bool.not_false, Bool.or_true, Bool.true_or, Bool.or_false, Bool.false_or, Bool.and_true, Bool.and_false, Bool.true_and, Bool.false_and, Bool.or_self, Bool.and_self, eq_self] <;> first | rfl | (rfl)) (rfl)
  · refine ev_iload_n rfl hC d_Day_maySet_88 ?_
    refine ev_iconst (v := 0) rfl hC d_Day_maySet_89 ?_
    refine ev_iconst (v := 1) rfl hC d_Day_maySet_90 ?_
    refine ev_aload_n rfl hC d_Day_maySet_91 ?_
    refine gv_Day_present hC d_Day_maySet_92 fl_Day_12  ?_
    refine gn_River_eventCount hC d_Day_maySet_95 fl_Day_214 (by first | assumption | decide) ?_
    refine ev_ishl hC d_Day_maySet_98 ?_
    refine ev_iconst (v := 1) rfl hC d_Day_maySet_99 ?_
    refine ev_isub hC d_Day_maySet_100 ?_
    refine cs_1 hC d_Day_maySet_101 (c_Day_outside ) mi_Day_outside ml_Day_51 sm_Day_outside ⟨Nat.le_of_ble_eq_true rfl, Nat.le_of_ble_eq_true rfl⟩ ⟨Nat.le_of_ble_eq_true rfl, Nat.le_of_ble_eq_true rfl⟩ rfl rfl (Nat.le_of_ble_eq_true rfl) ?_
    refine eb_ne 111 hC d_Day_maySet_104 rfl (fun h_104 => ?_) (fun h_104 => ?_)
    · refine ev_iconst (v := 0) rfl hC d_Day_maySet_111 ?_
      exact ev_zret hC hR d_Day_maySet_112 rfl (by first | exact bi_nar _ | decide) (by subst h_1; simp only [may, h_104, if_true, if_false, cond_true, cond_false, decide_true, decide_false, Bool.not_true, Bool.not_false, Bool.or_true, Bool.true_or, Bool.or_false, Bool.false_or, Bool.and_true, Bool.and_false, Bool.true_and, Bool.false_and, Bool.or_self, Bool.and_self, eq_self] <;> first | rfl | (rfl)) (rfl)
    · refine ev_iconst (v := 1) rfl hC d_Day_maySet_107 ?_
      refine ev_goto 112 hC d_Day_maySet_108 rfl ?_
      exact ev_zret hC hR d_Day_maySet_112 rfl (by first | exact bi_nar _ | decide) (by subst h_1; simp only [may, h_104, if_true, if_false, cond_true, cond_false, decide_true, decide_false, Bool.not_true, Bool.not_false, Bool.or_true, Bool.true_or, Bool.or_false, Bool.false_or, Bool.and_true, Bool.and_false, Bool.true_and, Bool.false_and, Bool.or_self, Bool.and_self, eq_self] <;> first | rfl | (rfl)) (rfl)

theorem may_6 {x w v : Int32} (h : may x w v = true) (h2 : w.toInt < 1 ∨ 4 < w.toInt) : w = nI 6 := by
  have e1 := sw_ne h2 1 (by decide) (by decide)
  have e2 := sw_ne h2 2 (by decide) (by decide)
  have e3 := sw_ne h2 3 (by decide) (by decide)
  have e4 := sw_ne h2 4 (by decide) (by decide)
  unfold may at h
  rw [if_neg e1, if_neg e2, if_neg e3, if_neg e4] at h
  by_cases h6 : w = 6
  · exact h6
  · rw [if_neg h6] at h
    cases h

set_option maxHeartbeats 2000000 in
set_option maxRecDepth 10000 in
theorem c_Day_set {G : ex_G} {M : ex_M} {np ne : Nat} {p w0 v : Int32} (w : WF (M.1 0) np ne) : Con G Y_Day_set 2 44 0 0 [.ref (ex_b G + 0), .int p, .int w0, .int v] (ce G M) (some (.int (D_set M p w0 v).1)) (ce G ((D_set M p w0 v).2)) := by
  refine Con.ofF (plainFor_of_name (by decide +kernel)) (Nat.le_of_ble_eq_true rfl) (fun C hC hR => ?_)
  show Ev G C Y_Day_set 0 [some (.ref (ex_b G + 0)), some (.int p), some (.int w0), some (.int v)] [] 0 0 (ce G M)
  obtain ⟨hc, hn, hc2, hn2, hmet, hkd, hkn⟩ := w
  refine ev_aload_n rfl hC d_Day_set_0 ?_
  refine ev_iload_n rfl hC d_Day_set_1 ?_
  refine cv_Day1 hC d_Day_set_2 (c_Day_noOne ) mi_Day_noOne ml_Day_108 im_Day_noOne se_Day_noOne rfl ⟨Nat.le_of_ble_eq_true rfl, Nat.le_of_ble_eq_true rfl⟩ ⟨Nat.le_of_ble_eq_true rfl, Nat.le_of_ble_eq_true rfl⟩ rfl rfl (Nat.le_of_ble_eq_true rfl)  ?_
  refine eb_ne 17 hC d_Day_set_5 rfl (fun h_5 => ?_) (fun h_5 => ?_)
  · refine ev_aload_n rfl hC d_Day_set_17 ?_
    refine ev_ldc kc_Day_55 hC d_Day_set_18 ?_
    refine cv_Day1 hC d_Day_set_20 (c_Day_refuse (k := 0) (by omega) (by decide +kernel)) mi_Day_refuse ml_Day_56 im_Day_refuse se_Day_refuse rfl ⟨Nat.le_of_ble_eq_true rfl, Nat.le_of_ble_eq_true rfl⟩ ⟨Nat.le_of_ble_eq_true rfl, Nat.le_of_ble_eq_true rfl⟩ rfl rfl (Nat.le_of_ble_eq_true rfl)  ?_
    exact ev_iret hC hR d_Day_set_23 rfl (by simp only [D_set, bad, h_5, if_true, if_false, cond_true, cond_false, decide_true, decide_false, Bool.not_true, Bool.not_false, Bool.or_true, Bool.true_or, Bool.or_false, Bool.false_or, Bool.and_true, Bool.and_false, Bool.true_and, Bool.false_and, Bool.or_self, Bool.and_self, eq_self] <;> first | rfl | (rfl)) (by simp only [D_set, bad, h_5, if_true, if_false, cond_true, cond_false, decide_true, decide_false, Bool.not_true, Bool.not_false, Bool.or_true, Bool.true_or, Bool.or_false, Bool.false_or, Bool.and_true, Bool.and_false, Bool.true_and, Bool.false_and, Bool.or_self, Bool.and_self, eq_self] <;> first | rfl | (rfl))
  · refine ev_aload_n rfl hC d_Day_set_8 ?_
    refine ev_iload_n rfl hC d_Day_set_9 ?_
    refine ev_iload_n rfl hC d_Day_set_10 ?_
    refine cv_Day1 hC d_Day_set_11 (c_Day_maySet ) mi_Day_maySet ml_Day_138 im_Day_maySet se_Day_maySet rfl ⟨Nat.le_of_ble_eq_true rfl, Nat.le_of_ble_eq_true rfl⟩ ⟨Nat.le_of_ble_eq_true rfl, Nat.le_of_ble_eq_true rfl⟩ rfl rfl (Nat.le_of_ble_eq_true rfl)  ?_
    refine eb_ne 24 hC d_Day_set_14 rfl (fun h_14 => ?_) (fun h_14 => ?_)
    · obtain ⟨i, hi, rfl⟩ := out_ix hc hn h_5
      have ci : (nI i).toNatClampNeg = i := nI_clamp (by omega)
      refine ev_aload_n rfl hC d_Day_set_24 ?_
      refine gv_Day_present hC d_Day_set_25 fl_Day_12  ?_
      refine gn_River_people hC d_Day_set_28 fl_Day_111 (by first | assumption | decide) ?_
      refine ev_iload_n rfl hC d_Day_set_31 ?_
      refine gr_people hC d_Day_set_32 (by first | assumption | decide) (by first | assumption | omega) ?_
      refine ev_astore (by decide) hC d_Day_set_33 ?_
      refine ev_iload_n rfl hC d_Day_set_35 ?_
      refine sx_Day_set_36 hC (fun h_36 => ?_) (fun h_36 => ?_) (fun h_36 => ?_) (fun h_36 => ?_) (fun h_36 => ?_)
      · have hw : w0 = nI 6 := may_6 h_14 h_36
        refine ev_aload rfl hC d_Day_set_132 ?_
        refine gn_One_knows hC d_Day_set_134 fl_Day_135 (by first | assumption | decide) (by first | assumption | omega) ?_
        refine ev_istore (by decide) hC d_Day_set_137 ?_
        refine ev_aload rfl hC d_Day_set_139 ?_
        refine ev_iload_n rfl hC d_Day_set_141 ?_
        refine pn_One_knows hC d_Day_set_142 fl_Day_135 (by first | assumption | decide) (by first | assumption | omega) ?_
        refine ev_iload rfl hC d_Day_set_145 ?_
        exact ev_iret hC hR d_Day_set_147 rfl (by subst hw; simp only [D_set, bad, h_5, h_14, ix, ci, if_true, if_false, cond_true, cond_false, decide_true, decide_false, Bool.not_true, Bool.not_false, Bool.or_true, Bool.true_or, Bool.or_false, Bool.false_or, Bool.and_true, Bool.and_false, Bool.true_and, Bool.false_and, Bool.or_self, Bool.and_self, eq_self] <;> rfl) (by subst hw; simp only [D_set, bad, h_5, h_14, ix, ci, if_true, if_false, cond_true, cond_false, decide_true, decide_false, Bool.not_true, Bool.not_false, Bool.or_true, Bool.true_or, Bool.or_false, Bool.false_or, Bool.and_true, Bool.and_false, Bool.true_and, Bool.false_and, Bool.or_self, Bool.and_self, eq_self] <;> rfl)
      · refine ev_aload rfl hC d_Day_set_68 ?_
        refine gn_One_bank hC d_Day_set_70 fl_Day_120 (by first | assumption | decide) (by first | assumption | omega) ?_
        refine ev_istore (by decide) hC d_Day_set_73 ?_
        refine ev_aload rfl hC d_Day_set_75 ?_
        refine ev_iload_n rfl hC d_Day_set_77 ?_
        refine pn_One_bank hC d_Day_set_78 fl_Day_120 (by first | assumption | decide) (by first | assumption | omega) ?_
        refine ev_iload rfl hC d_Day_set_81 ?_
        exact ev_iret hC hR d_Day_set_83 rfl (by subst h_36; simp only [D_set, bad, h_5, h_14, ix, ci, if_true, if_false, cond_true, cond_false, decide_true, decide_false, Bool.not_true, Bool.not_false, Bool.or_true, Bool.true_or, Bool.or_false, Bool.false_or, Bool.and_true, Bool.and_false, Bool.true_and, Bool.false_and, Bool.or_self, Bool.and_self, eq_self] <;> first | rfl | (rfl)) (by subst h_36; simp only [D_set, bad, h_5, h_14, ix, ci, if_true, if_false, cond_true, cond_false, decide_true, decide_false, Bool.not_true, Bool.not_false, Bool.or_true, Bool.true_or, Bool.or_false, Bool.false_or, Bool.and_true, Bool.and_false, Bool.true_and, Bool.false_and, Bool.or_self, Bool.and_self, eq_self] <;> first | rfl | (rfl))
      · refine ev_aload rfl hC d_Day_set_84 ?_
        refine gn_One_purse hC d_Day_set_86 fl_Day_123 (by first | assumption | decide) (by first | assumption | omega) ?_
        refine ev_istore (by decide) hC d_Day_set_89 ?_
        refine ev_aload rfl hC d_Day_set_91 ?_
        refine ev_iload_n rfl hC d_Day_set_93 ?_
        refine pn_One_purse hC d_Day_set_94 fl_Day_123 (by first | assumption | decide) (by first | assumption | omega) ?_
        refine ev_iload rfl hC d_Day_set_97 ?_
        exact ev_iret hC hR d_Day_set_99 rfl (by subst h_36; simp only [D_set, bad, h_5, h_14, ix, ci, if_true, if_false, cond_true, cond_false, decide_true, decide_false, Bool.not_true, Bool.not_false, Bool.or_true, Bool.true_or, Bool.or_false, Bool.false_or, Bool.and_true, Bool.and_false, Bool.true_and, Bool.false_and, Bool.or_self, Bool.and_self, eq_self] <;> first | rfl | (rfl)) (by subst h_36; simp only [D_set, bad, h_5, h_14, ix, ci, if_true, if_false, cond_true, cond_false, decide_true, decide_false, Bool.not_true, Bool.not_false, Bool.or_true, Bool.true_or, Bool.or_false, Bool.false_or, Bool.and_true, Bool.and_false, Bool.true_and, Bool.false_and, Bool.or_self, Bool.and_self, eq_self] <;> first | rfl | (rfl))
      · refine ev_aload rfl hC d_Day_set_100 ?_
        refine gn_One_goes hC d_Day_set_102 fl_Day_126 (by first | assumption | decide) (by first | assumption | omega) ?_
        refine ev_istore (by decide) hC d_Day_set_105 ?_
        refine ev_aload rfl hC d_Day_set_107 ?_
        refine ev_iload_n rfl hC d_Day_set_109 ?_
        refine pn_One_goes hC d_Day_set_110 fl_Day_126 (by first | assumption | decide) (by first | assumption | omega) ?_
        refine ev_iload rfl hC d_Day_set_113 ?_
        exact ev_iret hC hR d_Day_set_115 rfl (by subst h_36; simp only [D_set, bad, h_5, h_14, ix, ci, if_true, if_false, cond_true, cond_false, decide_true, decide_false, Bool.not_true, Bool.not_false, Bool.or_true, Bool.true_or, Bool.or_false, Bool.false_or, Bool.and_true, Bool.and_false, Bool.true_and, Bool.false_and, Bool.or_self, Bool.and_self, eq_self] <;> first | rfl | (rfl)) (by subst h_36; simp only [D_set, bad, h_5, h_14, ix, ci, if_true, if_false, cond_true, cond_false, decide_true, decide_false, Bool.not_true, Bool.not_false, Bool.or_true, Bool.true_or, Bool.or_false, Bool.false_or, Bool.and_true, Bool.and_false, Bool.true_and, Bool.false_and, Bool.or_self, Bool.and_self, eq_self] <;> first | rfl | (rfl))
      · refine ev_aload rfl hC d_Day_set_116 ?_
        refine gn_One_comes hC d_Day_set_118 fl_Day_129 (by first | assumption | decide) (by first | assumption | omega) ?_
        refine ev_istore (by decide) hC d_Day_set_121 ?_
        refine ev_aload rfl hC d_Day_set_123 ?_
        refine ev_iload_n rfl hC d_Day_set_125 ?_
        refine pn_One_comes hC d_Day_set_126 fl_Day_129 (by first | assumption | decide) (by first | assumption | omega) ?_
        refine ev_iload rfl hC d_Day_set_129 ?_
        exact ev_iret hC hR d_Day_set_131 rfl (by subst h_36; simp only [D_set, bad, h_5, h_14, ix, ci, if_true, if_false, cond_true, cond_false, decide_true, decide_false, Bool.not_true, Bool.not_false, Bool.or_true, Bool.true_or, Bool.or_false, Bool.false_or, Bool.and_true, Bool.and_false, Bool.true_and, Bool.false_and, Bool.or_self, Bool.and_self, eq_self] <;> first | rfl | (rfl)) (by subst h_36; simp only [D_set, bad, h_5, h_14, ix, ci, if_true, if_false, cond_true, cond_false, decide_true, decide_false, Bool.not_true, Bool.not_false, Bool.or_true, Bool.true_or, Bool.or_false, Bool.false_or, Bool.and_true, Bool.and_false, Bool.true_and, Bool.false_and, Bool.or_self, Bool.and_self, eq_self] <;> first | rfl | (rfl))
    · refine ev_aload_n rfl hC d_Day_set_17 ?_
      refine ev_ldc kc_Day_55 hC d_Day_set_18 ?_
      refine cv_Day1 hC d_Day_set_20 (c_Day_refuse (k := 0) (by omega) (by decide +kernel)) mi_Day_refuse ml_Day_56 im_Day_refuse se_Day_refuse rfl ⟨Nat.le_of_ble_eq_true rfl, Nat.le_of_ble_eq_true rfl⟩ ⟨Nat.le_of_ble_eq_true rfl, Nat.le_of_ble_eq_true rfl⟩ rfl rfl (Nat.le_of_ble_eq_true rfl)  ?_
      exact ev_iret hC hR d_Day_set_23 rfl (by simp only [D_set, bad, h_5, h_14, if_true, if_false, cond_true, cond_false, decide_true, decide_false, Bool.not_true, Bool.not_false, Bool.or_true, Bool.true_or, Bool.or_false, Bool.false_or, Bool.and_true, Bool.and_false, Bool.true_and, Bool.false_and, Bool.or_self, Bool.and_self, eq_self] <;> first | rfl | (rfl)) (by simp only [D_set, bad, h_5, h_14, if_true, if_false, cond_true, cond_false, decide_true, decide_false, Bool.not_true, Bool.not_false, Bool.or_true, Bool.true_or, Bool.or_false, Bool.false_or, Bool.and_true, Bool.and_false, Bool.true_and, Bool.false_and, Bool.or_self, Bool.and_self, eq_self] <;> first | rfl | (rfl))

set_option maxHeartbeats 2000000 in
set_option maxRecDepth 10000 in
theorem c_Day_turn {G : ex_G} {M : ex_M} {np ne : Nat} {p k : Int32} (w : WF (M.1 0) np ne) : Con G Y_Day_turn 2 43 0 0 [.ref (ex_b G + 0), .int p, .int k] (ce G M) (some (.int (D_turn M p k).1)) (ce G ((D_turn M p k).2)) := by
  refine Con.ofF (plainFor_of_name (by decide +kernel)) (Nat.le_of_ble_eq_true rfl) (fun C hC hR => ?_)
  show Ev G C Y_Day_turn 0 [some (.ref (ex_b G + 0)), some (.int p), some (.int k)] [] 0 0 (ce G M)
  obtain ⟨hc, hn, hc2, hn2, hmet, hkd, hkn⟩ := w
  refine ev_aload_n rfl hC d_Day_turn_0 ?_
  refine ev_iload_n rfl hC d_Day_turn_1 ?_
  refine cv_Day1 hC d_Day_turn_2 (c_Day_noOne ) mi_Day_noOne ml_Day_108 im_Day_noOne se_Day_noOne rfl ⟨Nat.le_of_ble_eq_true rfl, Nat.le_of_ble_eq_true rfl⟩ ⟨Nat.le_of_ble_eq_true rfl, Nat.le_of_ble_eq_true rfl⟩ rfl rfl (Nat.le_of_ble_eq_true rfl)  ?_
  refine eb_ne 17 hC d_Day_turn_5 rfl (fun h_5 => ?_) (fun h_5 => ?_)
  · refine ev_aload_n rfl hC d_Day_turn_17 ?_
    refine ev_ldc kc_Day_55 hC d_Day_turn_18 ?_
    refine cv_Day1 hC d_Day_turn_20 (c_Day_refuse (k := 0) (by omega) (by decide +kernel)) mi_Day_refuse ml_Day_56 im_Day_refuse se_Day_refuse rfl ⟨Nat.le_of_ble_eq_true rfl, Nat.le_of_ble_eq_true rfl⟩ ⟨Nat.le_of_ble_eq_true rfl, Nat.le_of_ble_eq_true rfl⟩ rfl rfl (Nat.le_of_ble_eq_true rfl)  ?_
    exact ev_iret hC hR d_Day_turn_23 rfl (by simp only [D_turn, bad, h_5, if_true, if_false, cond_true, cond_false, decide_true, decide_false, Bool.not_true, Bool.not_false, Bool.or_true, Bool.true_or, Bool.or_false, Bool.false_or, Bool.and_true, Bool.and_false, Bool.true_and, Bool.false_and, Bool.or_self, Bool.and_self, eq_self] <;> first | rfl | (rfl)) (by simp only [D_turn, bad, h_5, if_true, if_false, cond_true, cond_false, decide_true, decide_false, Bool.not_true, Bool.not_false, Bool.or_true, Bool.true_or, Bool.or_false, Bool.false_or, Bool.and_true, Bool.and_false, Bool.true_and, Bool.false_and, Bool.or_self, Bool.and_self, eq_self] <;> first | rfl | (rfl))
  · refine ev_iload_n rfl hC d_Day_turn_8 ?_
    refine ev_iconst (v := 0) rfl hC d_Day_turn_9 ?_
    refine ev_iconst (v := 5) rfl hC d_Day_turn_10 ?_
    refine cs_1 hC d_Day_turn_11 (c_Day_outside ) mi_Day_outside ml_Day_51 sm_Day_outside ⟨Nat.le_of_ble_eq_true rfl, Nat.le_of_ble_eq_true rfl⟩ ⟨Nat.le_of_ble_eq_true rfl, Nat.le_of_ble_eq_true rfl⟩ rfl rfl (Nat.le_of_ble_eq_true rfl) ?_
    refine eb_eq 24 hC d_Day_turn_14 rfl (fun h_14 => ?_) (fun h_14 => ?_)
    · obtain ⟨i, hi, rfl⟩ := out_ix hc hn h_5
      have ci : (nI i).toNatClampNeg = i := nI_clamp (by omega)
      refine ev_aload_n rfl hC d_Day_turn_24 ?_
      refine gv_Day_present hC d_Day_turn_25 fl_Day_12  ?_
      refine gn_River_people hC d_Day_turn_28 fl_Day_111 (by first | assumption | decide) ?_
      refine ev_iload_n rfl hC d_Day_turn_31 ?_
      refine gr_people hC d_Day_turn_32 (by first | assumption | decide) (by first | assumption | omega) ?_
      refine gn_One_kind hC d_Day_turn_33 fl_Day_115 (by first | assumption | decide) (by first | assumption | omega) ?_
      refine ev_istore_n (by decide) hC d_Day_turn_36 ?_
      refine ev_aload_n rfl hC d_Day_turn_37 ?_
      refine gv_Day_present hC d_Day_turn_38 fl_Day_12  ?_
      refine gn_River_people hC d_Day_turn_41 fl_Day_111 (by first | assumption | decide) ?_
      refine ev_iload_n rfl hC d_Day_turn_44 ?_
      refine gr_people hC d_Day_turn_45 (by first | assumption | decide) (by first | assumption | omega) ?_
      refine ev_iload_n rfl hC d_Day_turn_46 ?_
      refine pn_One_kind hC d_Day_turn_47 fl_Day_115 (by first | assumption | decide) (by first | assumption | omega) ?_
      refine ev_iload_n rfl hC d_Day_turn_50 ?_
      exact ev_iret hC hR d_Day_turn_51 rfl (by simp only [D_turn, bad, h_5, h_14, ix, ci, if_true, if_false, cond_true, cond_false, decide_true, decide_false, Bool.not_true, Bool.not_false, Bool.or_true, Bool.true_or, Bool.or_false, Bool.false_or, Bool.and_true, Bool.and_false, Bool.true_and, Bool.false_and, Bool.or_self, Bool.and_self, eq_self] <;> first | rfl | (rfl)) (by simp only [D_turn, bad, h_5, h_14, ix, ci, if_true, if_false, cond_true, cond_false, decide_true, decide_false, Bool.not_true, Bool.not_false, Bool.or_true, Bool.true_or, Bool.or_false, Bool.false_or, Bool.and_true, Bool.and_false, Bool.true_and, Bool.false_and, Bool.or_self, Bool.and_self, eq_self] <;> first | rfl | (rfl))
    · refine ev_aload_n rfl hC d_Day_turn_17 ?_
      refine ev_ldc kc_Day_55 hC d_Day_turn_18 ?_
      refine cv_Day1 hC d_Day_turn_20 (c_Day_refuse (k := 0) (by omega) (by decide +kernel)) mi_Day_refuse ml_Day_56 im_Day_refuse se_Day_refuse rfl ⟨Nat.le_of_ble_eq_true rfl, Nat.le_of_ble_eq_true rfl⟩ ⟨Nat.le_of_ble_eq_true rfl, Nat.le_of_ble_eq_true rfl⟩ rfl rfl (Nat.le_of_ble_eq_true rfl)  ?_
      exact ev_iret hC hR d_Day_turn_23 rfl (by simp only [D_turn, bad, h_5, h_14, if_true, if_false, cond_true, cond_false, decide_true, decide_false, Bool.not_true, Bool.not_false, Bool.or_true, Bool.true_or, Bool.or_false, Bool.false_or, Bool.and_true, Bool.and_false, Bool.true_and, Bool.false_and, Bool.or_self, Bool.and_self, eq_self] <;> first | rfl | (rfl)) (by simp only [D_turn, bad, h_5, h_14, if_true, if_false, cond_true, cond_false, decide_true, decide_false, Bool.not_true, Bool.not_false, Bool.or_true, Bool.true_or, Bool.or_false, Bool.false_or, Bool.and_true, Bool.and_false, Bool.true_and, Bool.false_and, Bool.or_self, Bool.and_self, eq_self] <;> first | rfl | (rfl))

set_option maxHeartbeats 2000000 in
set_option maxRecDepth 10000 in
theorem c_Day_as {G : ex_G} {M : ex_M} {np ne : Nat} {p k : Int32} (w : WF (M.1 0) np ne) : Con G Y_Day_as 2 43 0 0 [.ref (ex_b G + 0), .int p, .int k] (ce G M) (some (.int (D_as M p k).1)) (ce G ((D_as M p k).2)) := by
  refine Con.ofF (plainFor_of_name (by decide +kernel)) (Nat.le_of_ble_eq_true rfl) (fun C hC hR => ?_)
  show Ev G C Y_Day_as 0 [some (.ref (ex_b G + 0)), some (.int p), some (.int k)] [] 0 0 (ce G M)
  obtain ⟨hc, hn, hc2, hn2, hmet, hkd, hkn⟩ := w
  refine ev_aload_n rfl hC d_Day_as_0 ?_
  refine ev_iload_n rfl hC d_Day_as_1 ?_
  refine cv_Day1 hC d_Day_as_2 (c_Day_noOne ) mi_Day_noOne ml_Day_108 im_Day_noOne se_Day_noOne rfl ⟨Nat.le_of_ble_eq_true rfl, Nat.le_of_ble_eq_true rfl⟩ ⟨Nat.le_of_ble_eq_true rfl, Nat.le_of_ble_eq_true rfl⟩ rfl rfl (Nat.le_of_ble_eq_true rfl)  ?_
  refine eb_ne 17 hC d_Day_as_5 rfl (fun h_5 => ?_) (fun h_5 => ?_)
  · refine ev_aload_n rfl hC d_Day_as_17 ?_
    refine ev_ldc kc_Day_55 hC d_Day_as_18 ?_
    refine cv_Day1 hC d_Day_as_20 (c_Day_refuse (k := 0) (by omega) (by decide +kernel)) mi_Day_refuse ml_Day_56 im_Day_refuse se_Day_refuse rfl ⟨Nat.le_of_ble_eq_true rfl, Nat.le_of_ble_eq_true rfl⟩ ⟨Nat.le_of_ble_eq_true rfl, Nat.le_of_ble_eq_true rfl⟩ rfl rfl (Nat.le_of_ble_eq_true rfl)  ?_
    exact ev_iret hC hR d_Day_as_23 rfl (by simp only [D_as, bad, h_5, if_true, if_false, cond_true, cond_false, decide_true, decide_false, Bool.not_true, Bool.not_false, Bool.or_true, Bool.true_or, Bool.or_false, Bool.false_or, Bool.and_true, Bool.and_false, Bool.true_and, Bool.false_and, Bool.or_self, Bool.and_self, eq_self] <;> first | rfl | (rfl)) (by simp only [D_as, bad, h_5, if_true, if_false, cond_true, cond_false, decide_true, decide_false, Bool.not_true, Bool.not_false, Bool.or_true, Bool.true_or, Bool.or_false, Bool.false_or, Bool.and_true, Bool.and_false, Bool.true_and, Bool.false_and, Bool.or_self, Bool.and_self, eq_self] <;> first | rfl | (rfl))
  · refine ev_iload_n rfl hC d_Day_as_8 ?_
    refine ev_iconst (v := 0) rfl hC d_Day_as_9 ?_
    refine ev_iconst (v := 5) rfl hC d_Day_as_10 ?_
    refine cs_1 hC d_Day_as_11 (c_Day_outside ) mi_Day_outside ml_Day_51 sm_Day_outside ⟨Nat.le_of_ble_eq_true rfl, Nat.le_of_ble_eq_true rfl⟩ ⟨Nat.le_of_ble_eq_true rfl, Nat.le_of_ble_eq_true rfl⟩ rfl rfl (Nat.le_of_ble_eq_true rfl) ?_
    refine eb_eq 24 hC d_Day_as_14 rfl (fun h_14 => ?_) (fun h_14 => ?_)
    · obtain ⟨i, hi, rfl⟩ := out_ix hc hn h_5
      have ci : (nI i).toNatClampNeg = i := nI_clamp (by omega)
      obtain ⟨kk, hk6, ek⟩ := hkd i hi
      refine ev_aload_n rfl hC d_Day_as_24 ?_
      refine gv_Day_present hC d_Day_as_25 fl_Day_12  ?_
      refine gn_River_people hC d_Day_as_28 fl_Day_111 (by first | assumption | decide) ?_
      refine ev_iload_n rfl hC d_Day_as_31 ?_
      refine gr_people hC d_Day_as_32 (by first | assumption | decide) (by first | assumption | omega) ?_
      refine gn_One_kind hC d_Day_as_33 fl_Day_115 (by first | assumption | decide) (by first | assumption | omega) ?_
      refine ev_iload_n rfl hC d_Day_as_36 ?_
      refine cs_1 hC d_Day_as_37 (c_Kinds_isUnder (by rw [ek]; exact vp_in_nI hk6 (by decide))) mi_Kinds_isUnder ml_Day_142 sm_Kinds_isUnder ⟨Nat.le_of_ble_eq_true rfl, Nat.le_of_ble_eq_true rfl⟩ ⟨Nat.le_of_ble_eq_true rfl, Nat.le_of_ble_eq_true rfl⟩ rfl rfl (Nat.le_of_ble_eq_true rfl) ?_
      refine eb_ne 50 hC d_Day_as_40 rfl (fun h_40 => ?_) (fun h_40 => ?_)
      · refine ev_aload_n rfl hC d_Day_as_50 ?_
        refine gv_Day_present hC d_Day_as_51 fl_Day_12  ?_
        refine gn_River_people hC d_Day_as_54 fl_Day_111 (by first | assumption | decide) ?_
        refine ev_iload_n rfl hC d_Day_as_57 ?_
        refine gr_people hC d_Day_as_58 (by first | assumption | decide) (by first | assumption | omega) ?_
        refine gn_One_purse hC d_Day_as_59 fl_Day_123 (by first | assumption | decide) (by first | assumption | omega) ?_
        exact ev_iret hC hR d_Day_as_62 rfl (by simp only [D_as, bad, h_5, h_14, h_40, ix, ci, if_true, if_false, cond_true, cond_false, decide_true, decide_false, Bool.not_true, Bool.not_false, Bool.or_true, Bool.true_or, Bool.or_false, Bool.false_or, Bool.and_true, Bool.and_false, Bool.true_and, Bool.false_and, Bool.or_self, Bool.and_self, eq_self] <;> first | rfl | (rfl)) (by simp only [D_as, bad, h_5, h_14, h_40, ix, ci, if_true, if_false, cond_true, cond_false, decide_true, decide_false, Bool.not_true, Bool.not_false, Bool.or_true, Bool.true_or, Bool.or_false, Bool.false_or, Bool.and_true, Bool.and_false, Bool.true_and, Bool.false_and, Bool.or_self, Bool.and_self, eq_self] <;> first | rfl | (rfl))
      · refine ev_aload_n rfl hC d_Day_as_43 ?_
        refine ev_ldc kc_Day_147 hC d_Day_as_44 ?_
        refine cv_Day1 hC d_Day_as_46 (c_Day_refuse (k := 2) (by omega) (by decide +kernel)) mi_Day_refuse ml_Day_56 im_Day_refuse se_Day_refuse rfl ⟨Nat.le_of_ble_eq_true rfl, Nat.le_of_ble_eq_true rfl⟩ ⟨Nat.le_of_ble_eq_true rfl, Nat.le_of_ble_eq_true rfl⟩ rfl rfl (Nat.le_of_ble_eq_true rfl)  ?_
        exact ev_iret hC hR d_Day_as_49 rfl (by simp only [D_as, bad, h_5, h_14, h_40, ix, ci, if_true, if_false, cond_true, cond_false, decide_true, decide_false, Bool.not_true, Bool.not_false, Bool.or_true, Bool.true_or, Bool.or_false, Bool.false_or, Bool.and_true, Bool.and_false, Bool.true_and, Bool.false_and, Bool.or_self, Bool.and_self, eq_self] <;> first | rfl | (rfl)) (by simp only [D_as, bad, h_5, h_14, h_40, ix, ci, if_true, if_false, cond_true, cond_false, decide_true, decide_false, Bool.not_true, Bool.not_false, Bool.or_true, Bool.true_or, Bool.or_false, Bool.false_or, Bool.and_true, Bool.and_false, Bool.true_and, Bool.false_and, Bool.or_self, Bool.and_self, eq_self] <;> first | rfl | (rfl))
    · refine ev_aload_n rfl hC d_Day_as_17 ?_
      refine ev_ldc kc_Day_55 hC d_Day_as_18 ?_
      refine cv_Day1 hC d_Day_as_20 (c_Day_refuse (k := 0) (by omega) (by decide +kernel)) mi_Day_refuse ml_Day_56 im_Day_refuse se_Day_refuse rfl ⟨Nat.le_of_ble_eq_true rfl, Nat.le_of_ble_eq_true rfl⟩ ⟨Nat.le_of_ble_eq_true rfl, Nat.le_of_ble_eq_true rfl⟩ rfl rfl (Nat.le_of_ble_eq_true rfl)  ?_
      exact ev_iret hC hR d_Day_as_23 rfl (by simp only [D_as, bad, h_5, h_14, if_true, if_false, cond_true, cond_false, decide_true, decide_false, Bool.not_true, Bool.not_false, Bool.or_true, Bool.true_or, Bool.or_false, Bool.false_or, Bool.and_true, Bool.and_false, Bool.true_and, Bool.false_and, Bool.or_self, Bool.and_self, eq_self] <;> first | rfl | (rfl)) (by simp only [D_as, bad, h_5, h_14, if_true, if_false, cond_true, cond_false, decide_true, decide_false, Bool.not_true, Bool.not_false, Bool.or_true, Bool.true_or, Bool.or_false, Bool.false_or, Bool.and_true, Bool.and_false, Bool.true_and, Bool.false_and, Bool.or_self, Bool.and_self, eq_self] <;> first | rfl | (rfl))

set_option maxHeartbeats 2000000 in
set_option maxRecDepth 10000 in
theorem c_Day_gains {G : ex_G} {M : ex_M} {np ne : Nat} {p w0 k : Int32} (w : WF (M.1 0) np ne) : Con G Y_Day_gains 2 43 0 0 [.ref (ex_b G + 0), .int p, .int w0, .int k] (ce G M) (some (.int (D_gains M p w0 k).1)) (ce G ((D_gains M p w0 k).2)) := by
  refine Con.ofF (plainFor_of_name (by decide +kernel)) (Nat.le_of_ble_eq_true rfl) (fun C hC hR => ?_)
  show Ev G C Y_Day_gains 0 [some (.ref (ex_b G + 0)), some (.int p), some (.int w0), some (.int k)] [] 0 0 (ce G M)
  obtain ⟨hc, hn, hc2, hn2, hmet, hkd, hkn⟩ := w
  refine ev_aload_n rfl hC d_Day_gains_0 ?_
  refine ev_iload_n rfl hC d_Day_gains_1 ?_
  refine cv_Day1 hC d_Day_gains_2 (c_Day_noOne ) mi_Day_noOne ml_Day_108 im_Day_noOne se_Day_noOne rfl ⟨Nat.le_of_ble_eq_true rfl, Nat.le_of_ble_eq_true rfl⟩ ⟨Nat.le_of_ble_eq_true rfl, Nat.le_of_ble_eq_true rfl⟩ rfl rfl (Nat.le_of_ble_eq_true rfl)  ?_
  refine eb_ne 28 hC d_Day_gains_5 rfl (fun h_5 => ?_) (fun h_5 => ?_)
  · refine ev_aload_n rfl hC d_Day_gains_28 ?_
    refine ev_ldc kc_Day_55 hC d_Day_gains_29 ?_
    refine cv_Day1 hC d_Day_gains_31 (c_Day_refuse (k := 0) (by omega) (by decide +kernel)) mi_Day_refuse ml_Day_56 im_Day_refuse se_Day_refuse rfl ⟨Nat.le_of_ble_eq_true rfl, Nat.le_of_ble_eq_true rfl⟩ ⟨Nat.le_of_ble_eq_true rfl, Nat.le_of_ble_eq_true rfl⟩ rfl rfl (Nat.le_of_ble_eq_true rfl)  ?_
    exact ev_iret hC hR d_Day_gains_34 rfl (by simp only [D_gains, bad, h_5, if_true, if_false, cond_true, cond_false, decide_true, decide_false, Bool.not_true, Bool.not_false, Bool.or_true, Bool.true_or, Bool.or_false, Bool.false_or, Bool.and_true, Bool.and_false, Bool.true_and, Bool.false_and, Bool.or_self, Bool.and_self, eq_self] <;> first | rfl | (rfl)) (by simp only [D_gains, bad, h_5, if_true, if_false, cond_true, cond_false, decide_true, decide_false, Bool.not_true, Bool.not_false, Bool.or_true, Bool.true_or, Bool.or_false, Bool.false_or, Bool.and_true, Bool.and_false, Bool.true_and, Bool.false_and, Bool.or_self, Bool.and_self, eq_self] <;> first | rfl | (rfl))
  · refine ev_iload_n rfl hC d_Day_gains_8 ?_
    refine ev_bipush (v := -99) rfl hC d_Day_gains_9 ?_
    refine ev_bipush (v := 99) rfl hC d_Day_gains_11 ?_
    refine cs_1 hC d_Day_gains_13 (c_Day_outside ) mi_Day_outside ml_Day_51 sm_Day_outside ⟨Nat.le_of_ble_eq_true rfl, Nat.le_of_ble_eq_true rfl⟩ ⟨Nat.le_of_ble_eq_true rfl, Nat.le_of_ble_eq_true rfl⟩ rfl rfl (Nat.le_of_ble_eq_true rfl) ?_
    refine eb_ne 28 hC d_Day_gains_16 rfl (fun h_16 => ?_) (fun h_16 => ?_)
    · refine ev_aload_n rfl hC d_Day_gains_28 ?_
      refine ev_ldc kc_Day_55 hC d_Day_gains_29 ?_
      refine cv_Day1 hC d_Day_gains_31 (c_Day_refuse (k := 0) (by omega) (by decide +kernel)) mi_Day_refuse ml_Day_56 im_Day_refuse se_Day_refuse rfl ⟨Nat.le_of_ble_eq_true rfl, Nat.le_of_ble_eq_true rfl⟩ ⟨Nat.le_of_ble_eq_true rfl, Nat.le_of_ble_eq_true rfl⟩ rfl rfl (Nat.le_of_ble_eq_true rfl)  ?_
      exact ev_iret hC hR d_Day_gains_34 rfl (by simp only [D_gains, bad, h_5, h_16, if_true, if_false, cond_true, cond_false, decide_true, decide_false, Bool.not_true, Bool.not_false, Bool.or_true, Bool.true_or, Bool.or_false, Bool.false_or, Bool.and_true, Bool.and_false, Bool.true_and, Bool.false_and, Bool.or_self, Bool.and_self, eq_self] <;> first | rfl | (rfl)) (by simp only [D_gains, bad, h_5, h_16, if_true, if_false, cond_true, cond_false, decide_true, decide_false, Bool.not_true, Bool.not_false, Bool.or_true, Bool.true_or, Bool.or_false, Bool.false_or, Bool.and_true, Bool.and_false, Bool.true_and, Bool.false_and, Bool.or_self, Bool.and_self, eq_self] <;> first | rfl | (rfl))
    · refine ev_iload_n rfl hC d_Day_gains_19 ?_
      refine ev_iconst (v := 0) rfl hC d_Day_gains_20 ?_
      refine ev_iconst (v := 1) rfl hC d_Day_gains_21 ?_
      refine cs_1 hC d_Day_gains_22 (c_Day_outside ) mi_Day_outside ml_Day_51 sm_Day_outside ⟨Nat.le_of_ble_eq_true rfl, Nat.le_of_ble_eq_true rfl⟩ ⟨Nat.le_of_ble_eq_true rfl, Nat.le_of_ble_eq_true rfl⟩ rfl rfl (Nat.le_of_ble_eq_true rfl) ?_
      refine eb_eq 35 hC d_Day_gains_25 rfl (fun h_25 => ?_) (fun h_25 => ?_)
      · obtain ⟨i, hi, rfl⟩ := out_ix hc hn h_5
        have ci : (nI i).toNatClampNeg = i := nI_clamp (by omega)
        refine ev_aload_n rfl hC d_Day_gains_35 ?_
        refine gv_Day_present hC d_Day_gains_36 fl_Day_12  ?_
        refine gn_River_people hC d_Day_gains_39 fl_Day_111 (by first | assumption | decide) ?_
        refine ev_iload_n rfl hC d_Day_gains_42 ?_
        refine gr_people hC d_Day_gains_43 (by first | assumption | decide) (by first | assumption | omega) ?_
        refine gn_One_kind hC d_Day_gains_44 fl_Day_115 (by first | assumption | decide) (by first | assumption | omega) ?_
        refine ev_iload_n rfl hC d_Day_gains_47 ?_
        refine ev_iload_n rfl hC d_Day_gains_48 ?_
        refine ev_iconst (v := 1) rfl hC d_Day_gains_49 ?_
        refine ev_icmp_ne 57 hC d_Day_gains_50 rfl (fun h_50 => ?_) (fun h_50 => ?_)
        · refine ev_iconst (v := 0) rfl hC d_Day_gains_57 ?_
          refine cs_1 hC d_Day_gains_58 (c_Kinds_gain (b := false)) mi_Kinds_gain ml_Day_148 sm_Kinds_gain ⟨Nat.le_of_ble_eq_true rfl, Nat.le_of_ble_eq_true rfl⟩ ⟨Nat.le_of_ble_eq_true rfl, Nat.le_of_ble_eq_true rfl⟩ rfl rfl (Nat.le_of_ble_eq_true rfl) ?_
          exact ev_iret hC hR d_Day_gains_61 rfl (by simp only [D_gains, bad, h_5, h_16, h_25, h_50, ix, ci, if_true, if_false, cond_true, cond_false, decide_true, decide_false, Bool.not_true, Bool.not_false, Bool.or_true, Bool.true_or, Bool.or_false, Bool.false_or, Bool.and_true, Bool.and_false, Bool.true_and, Bool.false_and, Bool.or_self, Bool.and_self, eq_self] <;> first | rfl | (rfl)) (by simp only [D_gains, bad, h_5, h_16, h_25, h_50, ix, ci, if_true, if_false, cond_true, cond_false, decide_true, decide_false, Bool.not_true, Bool.not_false, Bool.or_true, Bool.true_or, Bool.or_false, Bool.false_or, Bool.and_true, Bool.and_false, Bool.true_and, Bool.false_and, Bool.or_self, Bool.and_self, eq_self] <;> first | rfl | (rfl))
        · refine ev_iconst (v := 1) rfl hC d_Day_gains_53 ?_
          refine ev_goto 58 hC d_Day_gains_54 rfl ?_
          refine cs_1 hC d_Day_gains_58 (c_Kinds_gain (b := true)) mi_Kinds_gain ml_Day_148 sm_Kinds_gain ⟨Nat.le_of_ble_eq_true rfl, Nat.le_of_ble_eq_true rfl⟩ ⟨Nat.le_of_ble_eq_true rfl, Nat.le_of_ble_eq_true rfl⟩ rfl rfl (Nat.le_of_ble_eq_true rfl) ?_
          exact ev_iret hC hR d_Day_gains_61 rfl (by simp only [D_gains, bad, h_5, h_16, h_25, h_50, ix, ci, if_true, if_false, cond_true, cond_false, decide_true, decide_false, Bool.not_true, Bool.not_false, Bool.or_true, Bool.true_or, Bool.or_false, Bool.false_or, Bool.and_true, Bool.and_false, Bool.true_and, Bool.false_and, Bool.or_self, Bool.and_self, eq_self] <;> first | rfl | (rfl)) (by simp only [D_gains, bad, h_5, h_16, h_25, h_50, ix, ci, if_true, if_false, cond_true, cond_false, decide_true, decide_false, Bool.not_true, Bool.not_false, Bool.or_true, Bool.true_or, Bool.or_false, Bool.false_or, Bool.and_true, Bool.and_false, Bool.true_and, Bool.false_and, Bool.or_self, Bool.and_self, eq_self] <;> first | rfl | (rfl))
      · refine ev_aload_n rfl hC d_Day_gains_28 ?_
        refine ev_ldc kc_Day_55 hC d_Day_gains_29 ?_
        refine cv_Day1 hC d_Day_gains_31 (c_Day_refuse (k := 0) (by omega) (by decide +kernel)) mi_Day_refuse ml_Day_56 im_Day_refuse se_Day_refuse rfl ⟨Nat.le_of_ble_eq_true rfl, Nat.le_of_ble_eq_true rfl⟩ ⟨Nat.le_of_ble_eq_true rfl, Nat.le_of_ble_eq_true rfl⟩ rfl rfl (Nat.le_of_ble_eq_true rfl)  ?_
        exact ev_iret hC hR d_Day_gains_34 rfl (by simp only [D_gains, bad, h_5, h_16, h_25, if_true, if_false, cond_true, cond_false, decide_true, decide_false, Bool.not_true, Bool.not_false, Bool.or_true, Bool.true_or, Bool.or_false, Bool.false_or, Bool.and_true, Bool.and_false, Bool.true_and, Bool.false_and, Bool.or_self, Bool.and_self, eq_self] <;> first | rfl | (rfl)) (by simp only [D_gains, bad, h_5, h_16, h_25, if_true, if_false, cond_true, cond_false, decide_true, decide_false, Bool.not_true, Bool.not_false, Bool.or_true, Bool.true_or, Bool.or_false, Bool.false_or, Bool.and_true, Bool.and_false, Bool.true_and, Bool.false_and, Bool.or_self, Bool.and_self, eq_self] <;> first | rfl | (rfl))

set_option maxHeartbeats 2000000 in
set_option maxRecDepth 10000 in
theorem c_Day_cross {G : ex_G} {M : ex_M} {np ne : Nat} {p : Int32} (w : WF (M.1 0) np ne) : Con G Y_Day_cross 2 43 0 0 [.ref (ex_b G + 0), .int p] (ce G M) (some (.int (D_cross M p).1)) (ce G ((D_cross M p).2)) := by
  refine Con.ofF (plainFor_of_name (by decide +kernel)) (Nat.le_of_ble_eq_true rfl) (fun C hC hR => ?_)
  show Ev G C Y_Day_cross 0 [some (.ref (ex_b G + 0)), some (.int p)] [] 0 0 (ce G M)
  obtain ⟨hc, hn, hc2, hn2, hmet, hkd, hkn⟩ := w
  refine ev_aload_n rfl hC d_Day_cross_0 ?_
  refine ev_iload_n rfl hC d_Day_cross_1 ?_
  refine cv_Day1 hC d_Day_cross_2 (c_Day_noOne ) mi_Day_noOne ml_Day_108 im_Day_noOne se_Day_noOne rfl ⟨Nat.le_of_ble_eq_true rfl, Nat.le_of_ble_eq_true rfl⟩ ⟨Nat.le_of_ble_eq_true rfl, Nat.le_of_ble_eq_true rfl⟩ rfl rfl (Nat.le_of_ble_eq_true rfl)  ?_
  refine eb_eq 15 hC d_Day_cross_5 rfl (fun h_5 => ?_) (fun h_5 => ?_)
  · obtain ⟨i, hi, rfl⟩ := out_ix hc hn h_5
    have ci : (nI i).toNatClampNeg = i := nI_clamp (by omega)
    refine ev_aload_n rfl hC d_Day_cross_15 ?_
    refine gv_Day_present hC d_Day_cross_16 fl_Day_12  ?_
    refine gn_River_people hC d_Day_cross_19 fl_Day_111 (by first | assumption | decide) ?_
    refine ev_iload_n rfl hC d_Day_cross_22 ?_
    refine gr_people hC d_Day_cross_23 (by first | assumption | decide) (by first | assumption | omega) ?_
    refine ev_astore_n (by decide) hC d_Day_cross_24 ?_
    refine ev_aload_n rfl hC d_Day_cross_25 ?_
    refine ev_aload_n rfl hC d_Day_cross_26 ?_
    refine gv_Day_present hC d_Day_cross_27 fl_Day_12  ?_
    refine gn_River_toll hC d_Day_cross_30 fl_Day_60 (by first | assumption | decide) ?_
    refine cv_One1 hC d_Day_cross_33 (c_One_canPay (by first | assumption | omega) (by first | assumption | omega)) mi_One_canPay ml_Day_152 im_One_canPay se_One_canPay rfl ⟨Nat.le_of_ble_eq_true rfl, Nat.le_of_ble_eq_true rfl⟩ ⟨Nat.le_of_ble_eq_true rfl, Nat.le_of_ble_eq_true rfl⟩ rfl rfl (Nat.le_of_ble_eq_true rfl) (by first | assumption | decide) (by first | assumption | omega) ?_
    refine eb_ne 46 hC d_Day_cross_36 rfl (fun h_36 => ?_) (fun h_36 => ?_)
    · refine ev_aload_n rfl hC d_Day_cross_46 ?_
      refine ev_aload_n rfl hC d_Day_cross_47 ?_
      refine gv_Day_present hC d_Day_cross_48 fl_Day_12  ?_
      refine gn_River_toll hC d_Day_cross_51 fl_Day_60 (by first | assumption | decide) ?_
      refine cv_One0 hC d_Day_cross_54 (c_One_goOver (by first | assumption | omega) (by first | assumption | omega)) mi_One_goOver ml_Day_156 im_One_goOver se_One_goOver rfl ⟨Nat.le_of_ble_eq_true rfl, Nat.le_of_ble_eq_true rfl⟩ ⟨Nat.le_of_ble_eq_true rfl, Nat.le_of_ble_eq_true rfl⟩ rfl rfl (Nat.le_of_ble_eq_true rfl) (by first | assumption | decide) (by first | assumption | omega) ?_
      refine ev_aload_n rfl hC d_Day_cross_57 ?_
      refine gn_One_bank hC d_Day_cross_58 fl_Day_120 (by first | assumption | decide) (by first | assumption | omega) ?_
      exact ev_iret hC hR d_Day_cross_61 rfl (by simp only [D_cross, bad, pays, h_5, h_36, ix, ci, if_true, if_false, cond_true, cond_false, decide_true, decide_false, Bool.not_true, Bool.not_false, Bool.or_true, Bool.true_or, Bool.or_false, Bool.false_or, Bool.and_true, Bool.and_false, Bool.true_and, Bool.false_and, Bool.or_self, Bool.and_self, eq_self] <;> first | rfl | (simp [mI, wr_s, oOver, upd])) (by simp only [D_cross, bad, pays, h_5, h_36, ix, ci, if_true, if_false, cond_true, cond_false, decide_true, decide_false, Bool.not_true, Bool.not_false, Bool.or_true, Bool.true_or, Bool.or_false, Bool.false_or, Bool.and_true, Bool.and_false, Bool.true_and, Bool.false_and, Bool.or_self, Bool.and_self, eq_self] <;> first | rfl | (simp [mI, wr_s, oOver, upd]))
    · refine ev_aload_n rfl hC d_Day_cross_39 ?_
      refine ev_ldc kc_Day_155 hC d_Day_cross_40 ?_
      refine cv_Day1 hC d_Day_cross_42 (c_Day_refuse (k := 4) (by omega) (by decide +kernel)) mi_Day_refuse ml_Day_56 im_Day_refuse se_Day_refuse rfl ⟨Nat.le_of_ble_eq_true rfl, Nat.le_of_ble_eq_true rfl⟩ ⟨Nat.le_of_ble_eq_true rfl, Nat.le_of_ble_eq_true rfl⟩ rfl rfl (Nat.le_of_ble_eq_true rfl)  ?_
      exact ev_iret hC hR d_Day_cross_45 rfl (by simp only [D_cross, bad, pays, h_5, h_36, ix, ci, if_true, if_false, cond_true, cond_false, decide_true, decide_false, Bool.not_true, Bool.not_false, Bool.or_true, Bool.true_or, Bool.or_false, Bool.false_or, Bool.and_true, Bool.and_false, Bool.true_and, Bool.false_and, Bool.or_self, Bool.and_self, eq_self] <;> first | rfl | (simp [mI, wr_s, oOver, upd])) (by simp only [D_cross, bad, pays, h_5, h_36, ix, ci, if_true, if_false, cond_true, cond_false, decide_true, decide_false, Bool.not_true, Bool.not_false, Bool.or_true, Bool.true_or, Bool.or_false, Bool.false_or, Bool.and_true, Bool.and_false, Bool.true_and, Bool.false_and, Bool.or_self, Bool.and_self, eq_self] <;> first | rfl | (simp [mI, wr_s, oOver, upd]))
  · refine ev_aload_n rfl hC d_Day_cross_8 ?_
    refine ev_ldc kc_Day_55 hC d_Day_cross_9 ?_
    refine cv_Day1 hC d_Day_cross_11 (c_Day_refuse (k := 0) (by omega) (by decide +kernel)) mi_Day_refuse ml_Day_56 im_Day_refuse se_Day_refuse rfl ⟨Nat.le_of_ble_eq_true rfl, Nat.le_of_ble_eq_true rfl⟩ ⟨Nat.le_of_ble_eq_true rfl, Nat.le_of_ble_eq_true rfl⟩ rfl rfl (Nat.le_of_ble_eq_true rfl)  ?_
    exact ev_iret hC hR d_Day_cross_14 rfl (by simp only [D_cross, bad, pays, h_5, if_true, if_false, cond_true, cond_false, decide_true, decide_false, Bool.not_true, Bool.not_false, Bool.or_true, Bool.true_or, Bool.or_false, Bool.false_or, Bool.and_true, Bool.and_false, Bool.true_and, Bool.false_and, Bool.or_self, Bool.and_self, eq_self] <;> first | rfl | (simp [mI, wr_s, oOver, upd])) (by simp only [D_cross, bad, pays, h_5, if_true, if_false, cond_true, cond_false, decide_true, decide_false, Bool.not_true, Bool.not_false, Bool.or_true, Bool.true_or, Bool.or_false, Bool.false_or, Bool.and_true, Bool.and_false, Bool.true_and, Bool.false_and, Bool.or_self, Bool.and_self, eq_self] <;> first | rfl | (simp [mI, wr_s, oOver, upd]))
