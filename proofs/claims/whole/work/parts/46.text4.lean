def pk (M : ex_M) : Nat → Nat → Bool × ex_M
  | 0, _ => (false, M)
  | m + 1, k => bif isWC M k then P_one M (nI k) else pk M m (k + 1)
def P_item (M : ex_M) : Bool × ex_M := bif (tkW M 13).1 then P_toll (tkW M 13).2 else bif isWC (tkW M 13).2 10 then P_event (tkW M 13).2 else pk (tkW M 13).2 6 0
def PI (M : ex_M) : Prop := TKI M ∧ (∃ n, M.1 1 3 = nI n ∧ n ≤ 8) ∧ (∃ n, M.1 1 2 = nI n ∧ n ≤ 8)
theorem PI_of {M N : ex_M} (h : PI M) (t : TKI N) (e : N.1 1 = M.1 1) : PI N := ⟨t, by rw [e]; exact h.2.1, by rw [e]; exact h.2.2⟩
theorem PI_stp {M : ex_M} (h : PI M) : PI (stp M) := PI_of h (TKI_stp h.1) (stp_1 M (by decide))
theorem PI_tkW {M : ex_M} {w : Nat} (h : PI M) : PI (tkW M w).2 := PI_of h (TKI_tkW h.1) (tkW_1 M w (by decide))
theorem PI_tkN {M : ex_M} {mx : Int32} (h : PI M) : PI (tkN M mx).2 := PI_of h (TKI_tkN h.1) (tkN_1 M mx (by decide))
theorem PI_J {M : ex_M} {j : Nat} {v : Int32} (h : PI M) (h2 : j ≠ 2) (h3 : j ≠ 3) : PI (mJ M 1 j v) := by
  refine ⟨h.1, ?_, ?_⟩
  · simp only [mJ, wr_s]; rw [ud_n (by omega)]; exact h.2.1
  · simp only [mJ, wr_s]; rw [ud_n (by omega)]; exact h.2.2
theorem PI_toll {M : ex_M} (h : PI M) : PI (P_toll M).2 := by
  unfold P_toll
  cases (tkN M 99).1 with
  | true => exact PI_J (PI_tkN h) (by decide) (by decide)
  | false => exact PI_tkN h
theorem PI_adE {M : ex_M} {x w : Int32} (h : PI M) (h8 : (!decide (M.1 1 2 < 8)) = false) : PI (adE M x w) := by
  obtain ⟨t, ⟨n3, e3, l3⟩, ⟨n, e, l⟩⟩ := h
  have hn := lt8_of e l h8
  refine ⟨t, ⟨n3, ?_, l3⟩, ⟨n + 1, ?_, hn⟩⟩
  · simp only [adE, mI, wr_s]; rw [ud_n (by decide), eBeg_lo (by decide)]; exact e3
  · simp only [adE, mI, wr_s]; rw [ud_s, e, show ix (nI n) = n from nI_clamp (by omega)]
theorem PI_event {M : ex_M} (h : PI M) : PI (P_event M).2 := by
  unfold P_event
  cases h8 : (!decide (M.1 1 2 < 8)) with
  | true => exact h
  | false =>
    simp only [cond_false, pe0]
    have k0 : PI (tkN (stp M) 9999).2 := PI_tkN (PI_stp h)
    have e0 : (tkN (stp M) 9999).2.1 1 = M.1 1 := by rw [tkN_1 _ _ (by decide), stp_1 _ (by decide)]
    generalize (tkN (stp M) 9999) = z at k0 e0
    cases z.1 with
    | false => exact k0
    | true =>
      simp only [cond_true, pe1]
      have k1 : PI (tkW z.2 11).2 := PI_tkW k0
      have e1 : (tkW z.2 11).2.1 1 = M.1 1 := by rw [tkW_1 _ _ (by decide), e0]
      generalize (tkW z.2 11) = y at k1 e1
      cases y.1 with
      | false => exact k1
      | true =>
        simp only [cond_true, pe2, pe3]
        have k2 : PI (tkN (tkW y.2 12).2 99).2 := PI_tkN (PI_tkW k1)
        have e2 : (tkN (tkW y.2 12).2 99).2.1 1 = M.1 1 := by rw [tkN_1 _ _ (by decide), tkW_1 _ _ (by decide), e1]
        generalize (tkN (tkW y.2 12).2 99) = x at k2 e2
        cases x.1 with
        | false => exact k2
        | true => exact PI_adE k2 (by rw [e2]; exact h8)
theorem PI_po {M : ex_M} {w f n : Nat} {mx : Int32} (h : PI M) : PI (po w mx f n M).2 := by
  unfold po
  cases (tkW M w).1 with
  | false => exact PI_tkW h
  | true =>
    simp only [cond_true]
    cases (tkN (tkW M w).2 mx).1 with
    | false => exact PI_tkN (PI_tkW h)
    | true => exact PI_J (PI_tkN (PI_tkW h)) (by omega) (by omega)
theorem PI_adO {M : ex_M} {k b : Int32} (h : PI M) (h8 : (!decide (M.1 1 3 < 8)) = false) : PI (adO M k b) := by
  obtain ⟨t, ⟨n, e, l⟩, ⟨n2, e2, l2⟩⟩ := h
  have hn := lt8_of e l h8
  refine ⟨t, ⟨n + 1, ?_, hn⟩, ⟨n2, ?_, l2⟩⟩
  · simp only [adO, mI, wr_s]; rw [ud_s, e, show ix (nI n) = n from nI_clamp (by omega)]
  · simp only [adO, mI, wr_s]; rw [ud_n (by decide), oBeg_lo (by decide)]; exact e2
theorem PI_one {M : ex_M} {k : Int32} (h : PI M) : PI (P_one M k).2 := by
  unfold P_one
  cases h8 : (!decide (M.1 1 3 < 8)) with
  | true => exact h
  | false =>
    simp only [cond_false, po0]
    have k0 := PI_po (w := 7) (f := 2) (n := ix (M.1 1 3)) (mx := 9999) (PI_adO (k := k) (b := bif (tkW (stp M) 6).1 then 1 else 0) (PI_tkW (w := 6) (PI_stp h)) (by rw [tkW_1 _ _ (by decide), stp_1 _ (by decide)]; exact h8))
    generalize po 7 9999 2 (ix (M.1 1 3)) (adO (tkW (stp M) 6).2 k (bif (tkW (stp M) 6).1 then 1 else 0)) = z at k0
    rw [po1]
    cases hz : z.1 with
    | false => exact k0
    | true =>
      have k1 := PI_po (w := 8) (f := 3) (n := ix (M.1 1 3)) (mx := 23) k0
      simp only [cond_true]
      generalize po 8 23 3 (ix (M.1 1 3)) z.2 = y at k1
      rw [po2]
      cases hy : y.1 with
      | false => exact k1
      | true => exact PI_po k1
theorem PI_pk {M : ex_M} (h : PI M) : ∀ m k, PI (pk M m k).2
  | 0, _ => h
  | m + 1, k => by
    rw [pk]
    cases isWC M k with
    | true => exact PI_one h
    | false => exact PI_pk h m (k + 1)
theorem PI_item {M : ex_M} (h : PI M) : PI (P_item M).2 := by
  unfold P_item
  have k0 : PI (tkW M 13).2 := PI_tkW h
  generalize (tkW M 13) = z at k0
  cases z.1 with
  | true => exact PI_toll k0
  | false =>
    simp only [cond_false]
    cases isWC z.2 10 with
    | true => exact PI_event k0
    | false => exact PI_pk k0 6 0

set_option maxHeartbeats 4000000 in
set_option maxRecDepth 10000 in
theorem lp_Text_parseItem {G : ex_G} {C : ex_C} {rr : Option Value} {ee : List va_E}  (hC : Cx G C Y_Text_parseItem { frames := 7, cells := 0, slots := 0, locals := 152 }) (hR : Cr G C Y_Text_parseItem 0 0 rr ee) :
    ∀ (m i : Nat) (M : ex_M), i + m = 6 → PI M → rr = some (.int (bi (pk M m i).1)) ∧ ee = ce G (pk M m i).2 → Ev G C Y_Text_parseItem 32 [some (.ref (ex_b G + 59)), some (.ref (ex_b G + aR 1)), some (.int (nI i))] [] 0 0 (ce G (M)) := by
  intro m
  induction m with
  | zero =>
    intro i M hm hc he
    refine ev_iload_n rfl hC d_Text_parseItem_32 ?_
    refine ev_iconst (v := 5) rfl hC d_Text_parseItem_33 ?_
    refine ev_icmp_gt 61 hC d_Text_parseItem_34 rfl (fun _ => ?_) (fun h => absurd (by rw [show (5 : Int32) = nI 5 from rfl]; exact nI_lt (by omega) (by omega)) h)
    refine ev_iconst (v := 0) rfl hC d_Text_parseItem_61 ?_
    exact ev_zret hC hR d_Text_parseItem_62 rfl (by first | exact bi_nar _ | decide) (by rw [he.1, pk]; rfl) (by rw [he.2, pk])
  | succ m ih =>
    intro i M hm hc he
    obtain ⟨t, ⟨n, en, ln⟩, -⟩ := id hc
    refine ev_iload_n rfl hC d_Text_parseItem_32 ?_
    refine ev_iconst (v := 5) rfl hC d_Text_parseItem_33 ?_
    refine ev_icmp_gt 61 hC d_Text_parseItem_34 rfl (fun h => absurd h (by rw [show (5 : Int32) = nI 5 from rfl]; exact nI_nlt (by omega) (by omega))) (fun _ => ?_)
    refine ev_aload_n rfl hC d_Text_parseItem_37 ?_
    refine ev_iload_n rfl hC d_Text_parseItem_38 ?_
    refine cs_1 hC d_Text_parseItem_39 (c_Text_nameOf (by omega)) mi_Text_nameOf ml_Text_52 sm_Text_nameOf ⟨Nat.le_of_ble_eq_true rfl, Nat.le_of_ble_eq_true rfl⟩ ⟨Nat.le_of_ble_eq_true rfl, Nat.le_of_ble_eq_true rfl⟩ rfl rfl (Nat.le_of_ble_eq_true rfl) ?_
    refine cv_Text1 hC d_Text_parseItem_42 (c_Text_isWord (w := i) (by omega) t) mi_Text_isWord ml_Text_46 im_Text_isWord se_Text_isWord rfl ⟨Nat.le_of_ble_eq_true rfl, Nat.le_of_ble_eq_true rfl⟩ ⟨Nat.le_of_ble_eq_true rfl, Nat.le_of_ble_eq_true rfl⟩ rfl rfl (Nat.le_of_ble_eq_true rfl)  ?_
    refine eb_eq 55 hC d_Text_parseItem_45 rfl (fun h_45 => ?_) (fun h_45 => ?_)
    · refine ev_iinc rfl (by decide) (nI_1 _) hC d_Text_parseItem_55 ?_
      refine ev_goto 32 hC d_Text_parseItem_58 rfl ?_
      exact ih (i + 1) M (by omega) hc (by rw [he.1, he.2, pk, h_45]; exact ⟨rfl, rfl⟩)
    · refine ev_aload_n rfl hC d_Text_parseItem_48 ?_
      refine ev_aload_n rfl hC d_Text_parseItem_49 ?_
      refine ev_iload_n rfl hC d_Text_parseItem_50 ?_
      refine cv_Text1 hC d_Text_parseItem_51 (c_Text_parseOne ln en t) mi_Text_parseOne ml_Text_56 im_Text_parseOne se_Text_parseOne rfl ⟨Nat.le_of_ble_eq_true rfl, Nat.le_of_ble_eq_true rfl⟩ ⟨Nat.le_of_ble_eq_true rfl, Nat.le_of_ble_eq_true rfl⟩ rfl rfl (Nat.le_of_ble_eq_true rfl)  ?_
      exact ev_zret hC hR d_Text_parseItem_54 rfl (by first | exact bi_nar _ | decide) (by rw [he.1, pk, h_45]; rfl) (by rw [he.2, pk, h_45]; rfl)

set_option maxHeartbeats 2000000 in
set_option maxRecDepth 10000 in
theorem c_Text_parseItem {G : ex_G} {M : ex_M} (h : PI M) : Con G Y_Text_parseItem 7 152 0 0 [.ref (ex_b G + 59), .ref (ex_b G + aR 1)] (ce G M) (some (.int (bi (P_item M).1))) (ce G ((P_item M).2)) := by
  refine Con.ofF (plainFor_of_name (by decide +kernel)) (Nat.le_of_ble_eq_true rfl) (fun C hC hR => ?_)
  show Ev G C Y_Text_parseItem 0 [some (.ref (ex_b G + 59)), some (.ref (ex_b G + aR 1))] [] 0 0 (ce G M)
  have k0 : PI (tkW M 13).2 := PI_tkW h
  obtain ⟨t0, -, ⟨n0, en0, ln0⟩⟩ := id k0
  refine ev_aload_n rfl hC d_Text_parseItem_0 ?_
  refine ev_ldcS (i := 13) (tx := "toll") (by decide) hC d_Text_parseItem_1 ?_
  refine cv_Text1 hC d_Text_parseItem_3 (c_Text_takes (w := 13) (by decide) h.1) mi_Text_takes ml_Text_37 im_Text_takes se_Text_takes rfl ⟨Nat.le_of_ble_eq_true rfl, Nat.le_of_ble_eq_true rfl⟩ ⟨Nat.le_of_ble_eq_true rfl, Nat.le_of_ble_eq_true rfl⟩ rfl rfl (Nat.le_of_ble_eq_true rfl)  ?_
  refine eb_eq 15 hC d_Text_parseItem_6 rfl (fun h_6 => ?_) (fun h_6 => ?_)
  · refine ev_aload_n rfl hC d_Text_parseItem_15 ?_
    refine ev_ldcS (i := 10) (tx := "event") (by decide) hC d_Text_parseItem_16 ?_
    refine cv_Text1 hC d_Text_parseItem_18 (c_Text_isWord (w := 10) (by decide) t0) mi_Text_isWord ml_Text_46 im_Text_isWord se_Text_isWord rfl ⟨Nat.le_of_ble_eq_true rfl, Nat.le_of_ble_eq_true rfl⟩ ⟨Nat.le_of_ble_eq_true rfl, Nat.le_of_ble_eq_true rfl⟩ rfl rfl (Nat.le_of_ble_eq_true rfl)  ?_
    refine eb_eq 30 hC d_Text_parseItem_21 rfl (fun h_21 => ?_) (fun h_21 => ?_)
    · refine ev_iconst (v := nI 0) rfl hC d_Text_parseItem_30 ?_
      refine ev_istore_n (by decide) hC d_Text_parseItem_31 ?_
      exact lp_Text_parseItem hC hR 6 0 _ (by omega) k0 (by simp only [P_item, h_6, h_21, cond_false]; exact ⟨trivial, trivial⟩)
    · refine ev_aload_n rfl hC d_Text_parseItem_24 ?_
      refine ev_aload_n rfl hC d_Text_parseItem_25 ?_
      refine cv_Text1 hC d_Text_parseItem_26 (c_Text_parseEvent ln0 en0 t0) mi_Text_parseEvent ml_Text_49 im_Text_parseEvent se_Text_parseEvent rfl ⟨Nat.le_of_ble_eq_true rfl, Nat.le_of_ble_eq_true rfl⟩ ⟨Nat.le_of_ble_eq_true rfl, Nat.le_of_ble_eq_true rfl⟩ rfl rfl (Nat.le_of_ble_eq_true rfl)  ?_
      exact ev_zret hC hR d_Text_parseItem_29 rfl (by first | exact bi_nar _ | decide) (by simp only [P_item, h_6, h_21, cond_true, cond_false]) (by simp only [P_item, h_6, h_21, cond_true, cond_false])
  · refine ev_aload_n rfl hC d_Text_parseItem_9 ?_
    refine ev_aload_n rfl hC d_Text_parseItem_10 ?_
    refine cv_Text1 hC d_Text_parseItem_11 (c_Text_parseToll t0) mi_Text_parseToll ml_Text_41 im_Text_parseToll se_Text_parseToll rfl ⟨Nat.le_of_ble_eq_true rfl, Nat.le_of_ble_eq_true rfl⟩ ⟨Nat.le_of_ble_eq_true rfl, Nat.le_of_ble_eq_true rfl⟩ rfl rfl (Nat.le_of_ble_eq_true rfl)  ?_
    exact ev_zret hC hR d_Text_parseItem_14 rfl (by first | exact bi_nar _ | decide) (by simp only [P_item, h_6, cond_true, cond_false]) (by simp only [P_item, h_6, cond_true, cond_false])
