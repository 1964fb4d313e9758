/-- do the letters from p on spell the word w -/
def wdM (t : Nat → Int32) (p w : Nat) : Nat → Nat → Bool
  | 0, _ => true
  | m + 1, k => decide (t (p + k) = wch w k) && wdM t p w m (k + 1)
def isWC (M : ex_M) (w : Nat) : Bool := decide (M.1 3 4 = 1) && (decide (ix (M.1 3 6) - ix (M.1 3 5) = wln w) && wdM (M.1 4) (ix (M.1 3 5)) w (wln w) 0)
def stp (M : ex_M) : ex_M := stC M (ix (M.1 3 3)) (ix (M.1 3 6))
/-- the text's own numbers -/
def TKI (M : ex_M) : Prop := ∃ l p e, M.1 3 3 = nI l ∧ l ≤ 120 ∧ M.1 3 5 = nI p ∧ p ≤ e ∧ M.1 3 6 = nI e ∧ e ≤ l
theorem TKI_mT {M : ex_M} {l p e : Nat} {tk v : Int32} (h : M.1 3 3 = nI l) (hl : l ≤ 120) (hp : p ≤ e) (he : e ≤ l) : TKI (mT M tk (nI p) (nI e) v) := ⟨l, p, e, h, hl, rfl, hp, rfl, he⟩
theorem TKI_stC {M : ex_M} {l b : Nat} (h : M.1 3 3 = nI l) (hl : l ≤ 120) (hb : b ≤ l) : TKI (stC M l b) := by
  have h1 := run_le (q := spc) (t := M.1 4) (l - b) b
  rw [stC]
  generalize run spc (M.1 4) (l - b) b = p at h1
  rw [tkP]
  by_cases hlp : l ≤ p
  · rw [if_pos hlp]; exact TKI_mT h hl (Nat.le_refl _) (by omega)
  · rw [if_neg hlp]
    cases ltr (M.1 4 p) with
    | true => have h2 := run_le (q := ltr) (t := M.1 4) (l - p) p; exact TKI_mT h hl h2.1 (by omega)
    | false =>
      cases dgt (M.1 4 p) with
      | true => have h2 := dig_le (t := M.1 4) (l - p) p 0; exact TKI_mT h hl h2.1 (by omega)
      | false => exact TKI_mT h hl (by omega) (by omega)
theorem TKI_stp {M : ex_M} (h : TKI M) : TKI (stp M) := by
  obtain ⟨l, p, e, h1, h2, h3, h4, h5, h6⟩ := h
  rw [stp, h1, h5, show ix (nI l) = l from nI_clamp (by omega), show ix (nI e) = e from nI_clamp (by omega)]
  exact TKI_stC h1 h2 h6
theorem c_step {G : ex_G} {M : ex_M} (h : TKI M) : Con G Y_Text_step 1 21 0 0 [.ref (ex_b G + 59)] (ce G M) none (ce G (stp M)) := by
  obtain ⟨l, p, e, h1, h2, h3, h4, h5, h6⟩ := h
  rw [stp, h1, h5, show ix (nI l) = l from nI_clamp (by omega), show ix (nI e) = e from nI_clamp (by omega)]
  exact c_Text_step h2 h6 h1 h5
def tkW (M : ex_M) (w : Nat) : Bool × ex_M := bif isWC M w then (true, stp M) else (false, M)
def tkN (M : ex_M) (mx : Int32) : Bool × ex_M := bif decide (M.1 3 4 = 2) && decide (M.1 3 7 ≤ mx) then (true, stp (mJ M 3 8 (M.1 3 7))) else (false, M)
theorem TKI_tkW {M : ex_M} {w : Nat} (h : TKI M) : TKI (tkW M w).2 := by
  unfold tkW
  cases isWC M w with
  | true => exact TKI_stp h
  | false => exact h
theorem TKI_8 {M : ex_M} {v : Int32} (h : TKI M) : TKI (mJ M 3 8 v) := h
theorem TKI_tkN {M : ex_M} {mx : Int32} (h : TKI M) : TKI (tkN M mx).2 := by
  unfold tkN
  cases (decide (M.1 3 4 = 2) && decide (M.1 3 7 ≤ mx)) with
  | true => exact TKI_stp (TKI_8 h)
  | false => exact h
def P_toll (M : ex_M) : Bool × ex_M := bif (tkN M 99).1 then (true, mJ (tkN M 99).2 1 1 ((tkN M 99).2.1 3 8)) else (false, (tkN M 99).2)

set_option maxHeartbeats 4000000 in
set_option maxRecDepth 10000 in
theorem lp_Text_isWord {G : ex_G} {C : ex_C} {rr : Option Value} {ee : List va_E} {p w : Nat} (hw : w < 14) (hC : Cx G C Y_Text_isWord { frames := 4, cells := 0, slots := 0, locals := 85 }) (hR : Cr G C Y_Text_isWord 0 0 rr ee) :
    ∀ (m i : Nat) (M : ex_M), i + m = wln w → M.1 3 5 = nI p ∧ p + wln w ≤ 120 → rr = some (.int (bi (wdM (M.1 4) p w m i))) ∧ ee = ce G M → Ev G C Y_Text_isWord 28 [some (.ref (ex_b G + 59)), some (.ref (ex_sK G w)), some (.int (nI i))] [] 0 0 (ce G (M)) := by
  intro m
  induction m with
  | zero =>
    intro i M hm hc he
    refine ev_iload_n rfl hC d_Text_isWord_28 ?_
    refine ev_aload_n rfl hC d_Text_isWord_29 ?_
    refine ct_1 hC d_Text_isWord_30 (c_Str_length hw) mi_Str_length ml_Text_121 im_Str_length se_Str_length rfl ⟨Nat.le_of_ble_eq_true rfl, Nat.le_of_ble_eq_true rfl⟩ ⟨Nat.le_of_ble_eq_true rfl, Nat.le_of_ble_eq_true rfl⟩ rfl rfl (Nat.le_of_ble_eq_true rfl) (by first | assumption | omega) ?_
    refine ev_icmp_ge 63 hC d_Text_isWord_33 rfl (fun _ => ?_) (fun h => absurd (nI_le (by omega) (by have := wln_le w hw; omega)) h)
    refine ev_iconst (v := 1) rfl hC d_Text_isWord_63 ?_
    exact ev_zret hC hR d_Text_isWord_64 rfl (by first | exact bi_nar _ | decide) (by rw [he.1, wdM]; rfl) (he.2)
  | succ m ih =>
    intro i M hm hc he
    skip
    refine ev_iload_n rfl hC d_Text_isWord_28 ?_
    refine ev_aload_n rfl hC d_Text_isWord_29 ?_
    refine ct_1 hC d_Text_isWord_30 (c_Str_length hw) mi_Str_length ml_Text_121 im_Str_length se_Str_length rfl ⟨Nat.le_of_ble_eq_true rfl, Nat.le_of_ble_eq_true rfl⟩ ⟨Nat.le_of_ble_eq_true rfl, Nat.le_of_ble_eq_true rfl⟩ rfl rfl (Nat.le_of_ble_eq_true rfl) (by first | assumption | omega) ?_
    refine ev_icmp_ge 63 hC d_Text_isWord_33 rfl (fun h => absurd h (nI_ge (by omega) (by have := wln_le w hw; omega))) (fun _ => ?_)
    refine ev_aload_n rfl hC d_Text_isWord_36 ?_
    refine gv_Text_bytes hC d_Text_isWord_37 fl_Text_9  ?_
    refine ev_aload_n rfl hC d_Text_isWord_40 ?_
    refine gv_Text_place hC d_Text_isWord_41 fl_Text_32  ?_
    rw [hc.1]
    refine ev_iload_n rfl hC d_Text_isWord_44 ?_
    refine ev_iadd hC d_Text_isWord_45 ?_
    rw [nI_add]
    refine ga_bytes hC d_Text_isWord_46 (by first | assumption | omega) ?_
    refine ev_aload_n rfl hC d_Text_isWord_47 ?_
    refine ev_iload_n rfl hC d_Text_isWord_48 ?_
    refine ct_1 hC d_Text_isWord_49 (c_Str_charAt hw (by omega)) mi_Str_charAt ml_Text_126 im_Str_charAt se_Str_charAt rfl ⟨Nat.le_of_ble_eq_true rfl, Nat.le_of_ble_eq_true rfl⟩ ⟨Nat.le_of_ble_eq_true rfl, Nat.le_of_ble_eq_true rfl⟩ rfl rfl (Nat.le_of_ble_eq_true rfl) (by first | assumption | omega) ?_
    refine ev_icmp_eq 57 hC d_Text_isWord_52 rfl (fun h_52 => ?_) (fun h_52 => ?_)
    · refine ev_iinc rfl (by decide) (nI_1 _) hC d_Text_isWord_57 ?_
      refine ev_goto 28 hC d_Text_isWord_60 rfl ?_
      exact ih (i + 1) M (by omega) hc (by rw [he.1, he.2, wdM, decide_eq_true h_52, Bool.true_and]; exact ⟨rfl, rfl⟩)
    · refine ev_iconst (v := 0) rfl hC d_Text_isWord_55 ?_
      exact ev_zret hC hR d_Text_isWord_56 rfl (by first | exact bi_nar _ | decide) (by rw [he.1, wdM, decide_eq_false h_52, Bool.false_and]; rfl) (he.2)

set_option maxHeartbeats 2000000 in
set_option maxRecDepth 10000 in
theorem c_Text_isWord {G : ex_G} {M : ex_M} {w : Nat} (hw : w < 14) (h : TKI M) : Con G Y_Text_isWord 4 85 0 0 [.ref (ex_b G + 59), .ref (ex_sK G w)] (ce G M) (some (.int (bi (isWC M w)))) (ce G (M)) := by
  refine Con.ofF (plainFor_of_name (by decide +kernel)) (Nat.le_of_ble_eq_true rfl) (fun C hC hR => ?_)
  show Ev G C Y_Text_isWord 0 [some (.ref (ex_b G + 59)), some (.ref (ex_sK G w))] [] 0 0 (ce G M)
  obtain ⟨l, p, e, h1, h2, h3, h4, h5, h6⟩ := h
  have q1 : ix (M.1 3 6) - ix (M.1 3 5) = e - p := by rw [h3, h5, ix, ix, nI_clamp (by omega), nI_clamp (by omega)]
  have q2 : ix (M.1 3 5) = p := by rw [h3]; exact nI_clamp (by omega)
  refine ev_aload_n rfl hC d_Text_isWord_0 ?_
  refine gv_Text_token hC d_Text_isWord_1 fl_Text_29  ?_
  refine ev_iconst (v := 1) rfl hC d_Text_isWord_4 ?_
  refine ev_icmp_ne 24 hC d_Text_isWord_5 rfl (fun h_5 => ?_) (fun h_5 => ?_)
  · refine ev_iconst (v := 0) rfl hC d_Text_isWord_24 ?_
    exact ev_zret hC hR d_Text_isWord_25 rfl (by first | exact bi_nar _ | decide) (by rw [isWC, decide_eq_false h_5, Bool.false_and]; rfl) (rfl)
  · refine ev_aload_n rfl hC d_Text_isWord_8 ?_
    refine gv_Text_behind hC d_Text_isWord_9 fl_Text_19  ?_
    refine ev_aload_n rfl hC d_Text_isWord_12 ?_
    refine gv_Text_place hC d_Text_isWord_13 fl_Text_32  ?_
    refine ev_isub hC d_Text_isWord_16 ?_
    rw [h3, h5, pk_sub h4]
    refine ev_aload_n rfl hC d_Text_isWord_17 ?_
    refine ct_1 hC d_Text_isWord_18 (c_Str_length hw) mi_Str_length ml_Text_121 im_Str_length se_Str_length rfl ⟨Nat.le_of_ble_eq_true rfl, Nat.le_of_ble_eq_true rfl⟩ ⟨Nat.le_of_ble_eq_true rfl, Nat.le_of_ble_eq_true rfl⟩ rfl rfl (Nat.le_of_ble_eq_true rfl) (by first | assumption | omega) ?_
    refine ev_icmp_eq 26 hC d_Text_isWord_21 rfl (fun h_21 => ?_) (fun h_21 => ?_)
    · refine ev_iconst (v := nI 0) rfl hC d_Text_isWord_26 ?_
      refine ev_istore_n (by decide) hC d_Text_isWord_27 ?_
      have q3 : e - p = wln w := (nI_eq (by omega) (by have := wln_le w hw; omega)).mp h_21
      exact lp_Text_isWord hw hC hR (wln w) 0 M (by omega) ⟨h3, by omega⟩ (by rw [isWC, q1, q2, decide_eq_true h_5, decide_eq_true q3, Bool.true_and, Bool.true_and]; exact ⟨rfl, rfl⟩)
    · refine ev_iconst (v := 0) rfl hC d_Text_isWord_24 ?_
      exact ev_zret hC hR d_Text_isWord_25 rfl (by first | exact bi_nar _ | decide) (by rw [isWC, q1, decide_eq_true h_5, decide_eq_false (fun z => h_21 (by rw [z])), Bool.true_and, Bool.false_and]; rfl) (rfl)

set_option maxHeartbeats 2000000 in
set_option maxRecDepth 10000 in
theorem c_Text_takes {G : ex_G} {M : ex_M} {w : Nat} (hw : w < 14) (h : TKI M) : Con G Y_Text_takes 5 107 0 0 [.ref (ex_b G + 59), .ref (ex_sK G w)] (ce G M) (some (.int (bi (tkW M w).1))) (ce G ((tkW M w).2)) := by
  refine Con.ofF (plainFor_of_name (by decide +kernel)) (Nat.le_of_ble_eq_true rfl) (fun C hC hR => ?_)
  show Ev G C Y_Text_takes 0 [some (.ref (ex_b G + 59)), some (.ref (ex_sK G w))] [] 0 0 (ce G M)
  refine ev_aload_n rfl hC d_Text_takes_0 ?_
  refine ev_aload_n rfl hC d_Text_takes_1 ?_
  refine cv_Text1 hC d_Text_takes_2 (c_Text_isWord hw h) mi_Text_isWord ml_Text_46 im_Text_isWord se_Text_isWord rfl ⟨Nat.le_of_ble_eq_true rfl, Nat.le_of_ble_eq_true rfl⟩ ⟨Nat.le_of_ble_eq_true rfl, Nat.le_of_ble_eq_true rfl⟩ rfl rfl (Nat.le_of_ble_eq_true rfl)  ?_
  refine eb_ne 10 hC d_Text_takes_5 rfl (fun h_5 => ?_) (fun h_5 => ?_)
  · refine ev_aload_n rfl hC d_Text_takes_10 ?_
    refine cv_Text0 hC d_Text_takes_11 (c_step h) mi_Text_step ml_Text_22 im_Text_step se_Text_step rfl ⟨Nat.le_of_ble_eq_true rfl, Nat.le_of_ble_eq_true rfl⟩ ⟨Nat.le_of_ble_eq_true rfl, Nat.le_of_ble_eq_true rfl⟩ rfl rfl (Nat.le_of_ble_eq_true rfl)  ?_
    refine ev_iconst (v := 1) rfl hC d_Text_takes_14 ?_
    exact ev_zret hC hR d_Text_takes_15 rfl (by first | exact bi_nar _ | decide) (by rw [tkW, h_5]; rfl) (by rw [tkW, h_5]; rfl)
  · refine ev_iconst (v := 0) rfl hC d_Text_takes_8 ?_
    exact ev_zret hC hR d_Text_takes_9 rfl (by first | exact bi_nar _ | decide) (by rw [tkW, h_5]; rfl) (by rw [tkW, h_5]; rfl)

set_option maxHeartbeats 2000000 in
set_option maxRecDepth 10000 in
theorem c_Text_takesNumber {G : ex_G} {M : ex_M} {mx : Int32} (h : TKI M) : Con G Y_Text_takesNumber 2 41 0 0 [.ref (ex_b G + 59), .int mx] (ce G M) (some (.int (bi (tkN M mx).1))) (ce G ((tkN M mx).2)) := by
  refine Con.ofF (plainFor_of_name (by decide +kernel)) (Nat.le_of_ble_eq_true rfl) (fun C hC hR => ?_)
  show Ev G C Y_Text_takesNumber 0 [some (.ref (ex_b G + 59)), some (.int mx)] [] 0 0 (ce G M)
  refine ev_aload_n rfl hC d_Text_takesNumber_0 ?_
  refine gv_Text_token hC d_Text_takesNumber_1 fl_Text_29  ?_
  refine ev_iconst (v := 2) rfl hC d_Text_takesNumber_4 ?_
  refine ev_icmp_ne 16 hC d_Text_takesNumber_5 rfl (fun h_5 => ?_) (fun h_5 => ?_)
  · refine ev_iconst (v := 0) rfl hC d_Text_takesNumber_16 ?_
    exact ev_zret hC hR d_Text_takesNumber_17 rfl (by first | exact bi_nar _ | decide) (by rw [tkN, show (decide (M.1 3 4 = 2) && decide (M.1 3 7 ≤ mx)) = false by rw [decide_eq_false h_5, Bool.false_and]]; rfl) (by rw [tkN, show (decide (M.1 3 4 = 2) && decide (M.1 3 7 ≤ mx)) = false by rw [decide_eq_false h_5, Bool.false_and]]; rfl)
  · refine ev_aload_n rfl hC d_Text_takesNumber_8 ?_
    refine gv_Text_value hC d_Text_takesNumber_9 fl_Text_130  ?_
    refine ev_iload_n rfl hC d_Text_takesNumber_12 ?_
    refine ev_icmp_le 18 hC d_Text_takesNumber_13 rfl (fun h_13 => ?_) (fun h_13 => ?_)
    · refine ev_aload_n rfl hC d_Text_takesNumber_18 ?_
      refine ev_aload_n rfl hC d_Text_takesNumber_19 ?_
      refine gv_Text_value hC d_Text_takesNumber_20 fl_Text_130  ?_
      refine pv_Text_taken hC d_Text_takesNumber_23 fl_Text_64  ?_
      refine ev_aload_n rfl hC d_Text_takesNumber_26 ?_
      refine cv_Text0 hC d_Text_takesNumber_27 (c_step (TKI_8 h)) mi_Text_step ml_Text_22 im_Text_step se_Text_step rfl ⟨Nat.le_of_ble_eq_true rfl, Nat.le_of_ble_eq_true rfl⟩ ⟨Nat.le_of_ble_eq_true rfl, Nat.le_of_ble_eq_true rfl⟩ rfl rfl (Nat.le_of_ble_eq_true rfl)  ?_
      refine ev_iconst (v := 1) rfl hC d_Text_takesNumber_30 ?_
      exact ev_zret hC hR d_Text_takesNumber_31 rfl (by first | exact bi_nar _ | decide) (by rw [tkN, show (decide (M.1 3 4 = 2) && decide (M.1 3 7 ≤ mx)) = true by rw [decide_eq_true h_5, decide_eq_true h_13]; rfl]; rfl) (by rw [tkN, show (decide (M.1 3 4 = 2) && decide (M.1 3 7 ≤ mx)) = true by rw [decide_eq_true h_5, decide_eq_true h_13]; rfl]; rfl)
    · refine ev_iconst (v := 0) rfl hC d_Text_takesNumber_16 ?_
      exact ev_zret hC hR d_Text_takesNumber_17 rfl (by first | exact bi_nar _ | decide) (by rw [tkN, show (decide (M.1 3 4 = 2) && decide (M.1 3 7 ≤ mx)) = false by rw [decide_eq_true h_5, decide_eq_false h_13]; rfl]; rfl) (by rw [tkN, show (decide (M.1 3 4 = 2) && decide (M.1 3 7 ≤ mx)) = false by rw [decide_eq_true h_5, decide_eq_false h_13]; rfl]; rfl)

set_option maxHeartbeats 2000000 in
set_option maxRecDepth 10000 in
theorem c_Text_nameOf {G : ex_G} {M : ex_M} {k : Nat} (hk : k < 6) : Con G Y_Text_nameOf 0 0 0 0 [.int (nI k)] (ce G M) (some (.ref (ex_sK G k))) (ce G (M)) := by
  refine Con.ofF (plainFor_of_name (by decide +kernel)) (Nat.le_of_ble_eq_true rfl) (fun C hC hR => ?_)
  show Ev G C Y_Text_nameOf 0 [some (.int (nI k))] [] 0 0 (ce G M)
  refine ev_iload_n rfl hC d_Text_nameOf_0 ?_
  refine sx_Text_nameOf_1 hC (fun h_1 => ?_) (fun h_1 => ?_) (fun h_1 => ?_) (fun h_1 => ?_) (fun h_1 => ?_) (fun h_1 => ?_)
  · refine ev_ldcS (i := 0) (tx := "person") (by decide) hC d_Text_nameOf_51 ?_
    exact ev_aret hC hR d_Text_nameOf_53 rfl (by rw [show k = 0 by have q : (nI k).toInt = (k : Int) := nI_toInt (by omega); omega]) (rfl)
  · refine ev_ldcS (i := 1) (tx := "baker") (by decide) hC d_Text_nameOf_36 ?_
    exact ev_aret hC hR d_Text_nameOf_38 rfl (by rw [(nI_eq (by omega) (by omega)).mp h_1]) (rfl)
  · refine ev_ldcS (i := 2) (tx := "debtor") (by decide) hC d_Text_nameOf_39 ?_
    exact ev_aret hC hR d_Text_nameOf_41 rfl (by rw [(nI_eq (by omega) (by omega)).mp h_1]) (rfl)
  · refine ev_ldcS (i := 3) (tx := "teller") (by decide) hC d_Text_nameOf_42 ?_
    exact ev_aret hC hR d_Text_nameOf_44 rfl (by rw [(nI_eq (by omega) (by omega)).mp h_1]) (rfl)
  · refine ev_ldcS (i := 4) (tx := "fireman") (by decide) hC d_Text_nameOf_45 ?_
    exact ev_aret hC hR d_Text_nameOf_47 rfl (by rw [(nI_eq (by omega) (by omega)).mp h_1]) (rfl)
  · refine ev_ldcS (i := 5) (tx := "lover") (by decide) hC d_Text_nameOf_48 ?_
    exact ev_aret hC hR d_Text_nameOf_50 rfl (by rw [(nI_eq (by omega) (by omega)).mp h_1]) (rfl)

set_option maxHeartbeats 2000000 in
set_option maxRecDepth 10000 in
theorem c_Text_parseToll {G : ex_G} {M : ex_M} (h : TKI M) : Con G Y_Text_parseToll 3 62 0 0 [.ref (ex_b G + 59), .ref (ex_b G + aR 1)] (ce G M) (some (.int (bi (P_toll M).1))) (ce G ((P_toll M).2)) := by
  refine Con.ofF (plainFor_of_name (by decide +kernel)) (Nat.le_of_ble_eq_true rfl) (fun C hC hR => ?_)
  show Ev G C Y_Text_parseToll 0 [some (.ref (ex_b G + 59)), some (.ref (ex_b G + aR 1))] [] 0 0 (ce G M)
  refine ev_aload_n rfl hC d_Text_parseToll_0 ?_
  refine ev_bipush (v := 99) rfl hC d_Text_parseToll_1 ?_
  refine cv_Text1 hC d_Text_parseToll_3 (c_Text_takesNumber h) mi_Text_takesNumber ml_Text_60 im_Text_takesNumber se_Text_takesNumber rfl ⟨Nat.le_of_ble_eq_true rfl, Nat.le_of_ble_eq_true rfl⟩ ⟨Nat.le_of_ble_eq_true rfl, Nat.le_of_ble_eq_true rfl⟩ rfl rfl (Nat.le_of_ble_eq_true rfl)  ?_
  refine eb_ne 11 hC d_Text_parseToll_6 rfl (fun h_6 => ?_) (fun h_6 => ?_)
  · refine ev_aload_n rfl hC d_Text_parseToll_11 ?_
    refine ev_aload_n rfl hC d_Text_parseToll_12 ?_
    refine gv_Text_taken hC d_Text_parseToll_13 fl_Text_64  ?_
    refine pn_River_toll hC d_Text_parseToll_16 fl_Text_67 (by first | assumption | decide) ?_
    refine ev_iconst (v := 1) rfl hC d_Text_parseToll_19 ?_
    exact ev_zret hC hR d_Text_parseToll_20 rfl (by first | exact bi_nar _ | decide) (by rw [P_toll, h_6]; rfl) (by rw [P_toll, h_6]; rfl)
  · refine ev_iconst (v := 0) rfl hC d_Text_parseToll_9 ?_
    exact ev_zret hC hR d_Text_parseToll_10 rfl (by first | exact bi_nar _ | decide) (by rw [P_toll, h_6]; rfl) (by rw [P_toll, h_6]; rfl)
